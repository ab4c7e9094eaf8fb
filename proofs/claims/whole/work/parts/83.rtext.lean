/-! ===== 83: the reference reads a text ===== -/
theorem XS10b {f : Nat → Int32} {k : Nat} {x : Int32} {F : va_E → Prop} (hk : k < 10) (hx : x = 0 ∨ x = 1) : XS 1 (.inl (1, xis 10 f)) (nI k) x F ↔ F (.inl (1, xis 10 (upd f k x))) := by
  unfold XS
  dsimp only
  rw [nI_clamp (by omega)]
  exact ⟨fun q => q.2, fun q => ⟨⟨rfl, xin_nI hk (by decide), fun _ => hx, fun w => absurd w (by decide)⟩, q⟩⟩
theorem XA10b {f : Nat → Int32} {k : Nat} {F : Int32 → Prop} (hk : k < 10) : XA [1, 8] (.inl (1, xis 10 f)) (nI k) F ↔ F (f k) := XA_n (by decide) hk (by decide)
def TRr (t : Nat → Int32) : List Int32 → Prop
  | [] => True
  | s :: W => (s = -11 → t (opn W) = bI (tsg W)) ∧ TRr t W
theorem TRr_up {t : Nat → Int32} {v : Int32} : ∀ (W : List Int32) k, opn W ≤ k → TRr t W → TRr (upd t k v) W := by
  intro W
  induction W with
  | nil => intro k _ _; trivial
  | cons s W ih =>
    intro k hk h
    by_cases e : s = -11
    · have o : opn (s :: W) = opn W + 1 := if_pos e
      exact ⟨fun q => by rw [upd_ne (by omega)]; exact h.1 q, ih k (by omega) h.2⟩
    · have o : opn (s :: W) = opn W := if_neg e
      exact ⟨fun q => absurd q e, ih k (by omega) h.2⟩
theorem TRr_stl {t : Nat → Int32} {l : Nat} : ∀ (W C : List Int32), TRr t W → TRr t (stl l W C).1 := by
  intro W
  induction W with
  | nil => intro C h; exact h
  | cons s W ih =>
    intro C h
    unfold stl
    by_cases e : s = -11 ∨ rk s < l
    · rw [if_pos e]; exact h
    · rw [if_neg e]; exact ih (s :: C) h.2
section RTX
variable {r d z ky p A : Nat} {h : xH} {Q : Option Value → xH → Prop} {m bb C W T : Nat → Int32} {a b c e f g i j l v x en : Int32} {Wl Cl : List Int32}
theorem tkv_3 : tkv bb z p = 3 ↔ ts bb z p = 3 := by
  unfold tkv
  by_cases q0 : ts bb z p = 0
  · rw [if_pos q0, q0]
  rw [if_neg q0]
  by_cases q3 : ts bb z p = 3
  · rw [if_pos q3]; exact ⟨fun _ => q3, fun _ => rfl⟩
  rw [if_neg q3]
  refine ⟨fun w => ?_, fun w => absurd w q3⟩
  exfalso
  revert w
  by_cases c1 : cls bb (tf bb z p) = true
  · rw [if_pos c1]; decide
  rw [if_neg c1]
  by_cases c2 : ts bb z p = 2
  · rw [if_pos c2]
    by_cases c3 : 4 < tn bb z p - tf bb z p
    · rw [if_pos c3]; decide
    · rw [if_neg c3]; decide
  · rw [if_neg c2]; decide
theorem tkv_z : tkv bb z p = 0 ↔ ts bb z p = 0 := by
  unfold tkv
  by_cases q0 : ts bb z p = 0
  · rw [if_pos q0]; exact ⟨fun _ => q0, fun _ => rfl⟩
  rw [if_neg q0]
  refine ⟨fun w => ?_, fun w => absurd w q0⟩
  exfalso
  revert w
  by_cases q3 : ts bb z p = 3
  · rw [if_pos q3]; decide
  rw [if_neg q3]
  by_cases c1 : cls bb (tf bb z p) = true
  · rw [if_pos c1]; decide
  rw [if_neg c1]
  by_cases c2 : ts bb z p = 2
  · rw [if_pos c2]
    by_cases c3 : 4 < tn bb z p - tf bb z p
    · rw [if_pos c3]; decide
    · rw [if_neg c3]; decide
  · rw [if_neg c2]; decide
/-- no piece -/
theorem r_partN (hk : ky < 3) (hz : z ≤ 96) (hp : p ≤ z) (hN : ts bb z p = 0 ∨ ts bb z p = 3 ∨ trm bb z ky p = none) : XC (d + 4) 201 [.ref r] (MS h r m (nI (tn bb z p)) (nI (tf bb z p)) (nI (tkv bb z p)) (vlv bb z p e) f (nI ky) i j l C W T) Q ↔ Q (some (.int 0)) (MS h r m (nI (tn bb z p)) (nI (tf bb z p)) (nI (tkv bb z p)) (vlv bb z p e) f (nI ky) i j l C W T) := by
  have h5 := tkv_lt (bb := bb) (z := z) (p := p)
  have ln := tn_le (b := bb) hp
  have n2 : ¬ tkv bb z p = 2 := fun q => by
    unfold tkv at q
    by_cases q0 : ts bb z p = 0
    · rw [if_pos q0] at q; cases q
    rw [if_neg q0] at q
    by_cases q3 : ts bb z p = 3
    · rw [if_pos q3] at q; cases q
    rw [if_neg q3] at q
    by_cases c1 : cls bb (tf bb z p) = true
    · rw [if_pos c1] at q; cases q
    rw [if_neg c1] at q
    by_cases c2 : ts bb z p = 2
    · rw [if_pos c2] at q
      by_cases c3 : 4 < tn bb z p - tf bb z p
      · rw [if_pos c3] at q; cases q
      · rcases hN with w | w | w
        · exact q0 w
        · exact q3 w
        · unfold trm at w
          rw [if_neg c1, if_pos c2, if_neg c3] at w; cases w
    · rw [if_neg c2] at q; cases q
  have e2 : (nI (tkv bb z p) = 2) = False := eq_false (fun q => n2 ((nI_eq (b := 2) (by omega) (by decide)).mp q))
  rw [e201]
  by_cases t1 : tkv bb z p = 1
  · have e1 : (nI (tkv bb z p) = 1) = True := eq_true (by rw [t1]; rfl)
    have hs : ts bb z p = 1 ∧ cls bb (tf bb z p) = false := by
      unfold tkv at t1
      by_cases q0 : ts bb z p = 0
      · rw [if_pos q0] at t1; cases t1
      rw [if_neg q0] at t1
      by_cases q3 : ts bb z p = 3
      · rw [if_pos q3] at t1; cases t1
      rw [if_neg q3] at t1
      cases c1 : cls bb (tf bb z p) with
      | true => rw [c1, if_pos rfl] at t1; cases t1
      | false =>
        rw [c1, if_neg (by decide)] at t1
        by_cases c2 : ts bb z p = 2
        · rw [if_pos c2] at t1
          by_cases c3 : 4 < tn bb z p - tf bb z p
          · rw [if_pos c3] at t1; cases t1
          · rw [if_neg c3] at t1; cases t1
        · have := ts_lt (y := bb) (z := z) (p := p)
          exact ⟨by omega, rfl⟩
    have gt := tn_gt (b := bb) (z := z) (p := p) (by rw [hs.1]; decide)
    have sb : nI (tn bb z p) - nI (tf bb z p) = nI (tn bb z p - tf bb z p) := pk_sub (by omega)
    have vv : vlv bb z p e = bb (tf bb z p) := by unfold vlv; rw [hs.1]; rfl
    have nt : ¬ (tn bb z p - tf bb z p = 1 ∧ ¬ nmv ky (bb (tf bb z p)) < 0) := fun q => by
      rcases hN with w | w | w
      · rw [hs.1] at w; cases w
      · rw [hs.1] at w; cases w
      · unfold trm at w
        rw [hs.2, hs.1, if_neg (by decide), if_neg (by decide), if_pos q] at w; cases w
    by_cases q1 : tn bb z p - tf bb z p = 1
    · have e3 : (nI (tn bb z p - tf bb z p) = 1) = True := eq_true (by rw [q1]; rfl)
      have lt : nmv ky (bb (tf bb z p)) < 0 := by
        by_cases q2 : nmv ky (bb (tf bb z p)) < 0
        · exact q2
        · exact absurd ⟨q1, q2⟩ nt
      simp only [s201_0, s201_1, s201_4, s201_5, s201_8, s201_9, s201_12, s201_13, s201_16, s201_17, s201_18, s201_21, s201_22, s201_23, s201_26, s201_29, s201_32, s201_33, s201_36, s201_37, s201_38, s201_39, s201_42, s201_43, s201_46, s201_47, s201_50, s201_51, s201_51t, s201_51b, xset_self, mg_6, mg_7, mg_8, mg_9, e1, e2, e3, sb, r_nameOf hk, vv, lt, XG_1, XO_some, XV_1, xo_n, xo_i8, xo_r8, xo_i7, xo_r7, xo_i6, xo_r6, xo_i5, xo_r5, xo_i4, xo_r4, xo_i3, xo_r3, xo_i2, xo_r2, Option.toList_some, Option.toList_none, List.cons_append, List.nil_append, bI_t, bI_f, bI_0, bI_n0, if_true, if_false, true_and, and_true, ne_eq, not_true_eq_false, not_false_eq_true, one_ne0, reduceCtorEq]
    · have e3 : (nI (tn bb z p - tf bb z p) = 1) = False := eq_false (fun q => q1 ((nI_eq (b := 1) (by omega) (by decide)).mp q))
      simp only [s201_0, s201_1, s201_4, s201_5, s201_8, s201_9, s201_12, s201_13, s201_16, s201_17, s201_18, s201_21, s201_22, s201_23, s201_26, s201_29, s201_32, s201_33, s201_36, s201_37, s201_38, s201_39, s201_42, s201_43, s201_46, s201_47, s201_50, s201_51, s201_51t, s201_51b, xset_self, mg_6, mg_7, mg_8, e1, e2, e3, sb, XG_1, XO_some, XV_1, xo_n, xo_i8, xo_r8, xo_i7, xo_r7, xo_i6, xo_r6, xo_i5, xo_r5, xo_i4, xo_r4, xo_i3, xo_r3, xo_i2, xo_r2, Option.toList_some, Option.toList_none, List.cons_append, List.nil_append, bI_t, bI_f, bI_0, bI_n0, if_true, if_false, true_and, and_true, ne_eq, not_true_eq_false, not_false_eq_true, one_ne0, reduceCtorEq]
  · have e1 : (nI (tkv bb z p) = 1) = False := eq_false (fun q => t1 ((nI_eq (b := 1) (by omega) (by decide)).mp q))
    simp only [s201_0, s201_1, s201_4, s201_5, s201_8, s201_9, s201_12, s201_13, s201_16, s201_17, s201_18, s201_21, s201_22, s201_23, s201_26, s201_29, s201_32, s201_33, s201_36, s201_37, s201_38, s201_39, s201_42, s201_43, s201_46, s201_47, s201_50, s201_51, s201_51t, s201_51b, xset_self, mg_8, e1, e2, XG_1, XO_some, XV_1, xo_n, xo_i8, xo_r8, xo_i7, xo_r7, xo_i6, xo_r6, xo_i5, xo_r5, xo_i4, xo_r4, xo_i3, xo_r3, xo_i2, xo_r2, Option.toList_some, Option.toList_none, List.cons_append, List.nil_append, bI_t, bI_f, bI_0, bI_n0, if_true, if_false, true_and, and_true, ne_eq, not_true_eq_false, not_false_eq_true, one_ne0, reduceCtorEq]
theorem r_part (R : RTa h r z m bb) (hk : ky < 3) (I : PI (nnk ky) z p Wl Cl A true) (En : ENI bb p en) (h0 : ¬ ts bb z p = 0) (h3 : ¬ ts bb z p = 3) (et : trm bb z ky p = some v) (hW : SRe id W Wl) (hC : SRe id C Cl) (K : ∀ C2, SRe id W (stl 6 Wl (v :: Cl)).1 → SRe id C2 (stl 6 Wl (v :: Cl)).2 → ∀ e, Q (some (.int 1)) (MS h r m (nI (tn bb z (tn bb z p))) (nI (tf bb z (tn bb z p))) (nI (tkv bb z (tn bb z p))) (vlv bb z (tn bb z p) e) (env bb z (tn bb z p) (env bb z p en)) (nI ky) (nI (stl 6 Wl (v :: Cl)).2.length) (nI (A + 1)) (nI (stl 6 Wl (v :: Cl)).1.length) C2 W T)) : XC (d + 4) 201 [.ref r] (MS h r m (nI (tn bb z p)) (nI (tf bb z p)) (nI (tkv bb z p)) (vlv bb z p e) (env bb z p en) (nI ky) (nI Cl.length) (nI A) (nI Wl.length) C W T) Q := by
  have hz := R.2.1
  have hp : p ≤ z := I.2.2.2.1
  have hlen := I.2.2.1
  have gt := tn_gt h0
  have ln := tn_le (b := bb) hp
  have sb : nI (tn bb z p) - nI (tf bb z p) = nI (tn bb z p - tf bb z p) := pk_sub (by omega)
  have fin : ∀ {c1 : Slot}, XE (d + 3) 201 88 [.val (.ref r), c1] [] (MS h r m (nI (tn bb z p)) (nI (tf bb z p)) (nI (tkv bb z p)) (vlv bb z p e) (env bb z p en) (nI ky) (nI Cl.length) (nI A) (nI Wl.length) (upd C Cl.length v) W T) Q := fun {c1} => by
    simp only [s201_88, s201_89, s201_89r, s201_90, s201_93, s201_94, s201_95, s201_98, s201_99, s201_99r, s201_100, s201_103, s201_104, s201_105, s201_108, s201_109, s201_111, xset_self, mg_15, mg_16, mp_15, mp_16, xset_twice, nI_1, show (6 : Int32) = nI 6 from rfl, XG_1, XO_some, XV_1, xo_n, xo_i8, xo_r8, xo_i7, xo_r7, xo_i6, xo_r6, xo_i5, xo_r5, xo_i4, xo_r4, xo_i3, xo_r3, xo_i2, xo_r2, Option.toList_some, Option.toList_none, List.cons_append, List.nil_append, bI_t, bI_f, bI_0, bI_n0, if_true, if_false, true_and, and_true, ne_eq, not_true_eq_false, not_false_eq_true, one_ne0, reduceCtorEq]
    refine r_settle (lv := 6) (Cl := v :: Cl) (by decide) hW (SRe_push hC rfl) (by show Wl.length + (Cl.length + 1) ≤ 96; omega) (fun C2 hW2 hC2 => ?_)
    simp only [s201_114, s201_115, xset_self, XG_1, XO_some, XV_1, xo_n, xo_i8, xo_r8, xo_i7, xo_r7, xo_i6, xo_r6, xo_i5, xo_r5, xo_i4, xo_r4, xo_i3, xo_r3, xo_i2, xo_r2, Option.toList_some, Option.toList_none, List.cons_append, List.nil_append, bI_t, bI_f, bI_0, bI_n0, if_true, if_false, true_and, and_true, ne_eq, not_true_eq_false, not_false_eq_true, one_ne0, reduceCtorEq]
    refine (r_go R ln (eni_go hp hz En h0)).mpr ?_
    simp only [s201_118, s201_119, s201_119t, s201_119b, XG_1, XO_some, XV_1, xo_n, xo_i8, xo_r8, xo_i7, xo_r7, xo_i6, xo_r6, xo_i5, xo_r5, xo_i4, xo_r4, xo_i3, xo_r3, xo_i2, xo_r2, Option.toList_some, Option.toList_none, List.cons_append, List.nil_append, bI_t, bI_f, bI_0, bI_n0, if_true, if_false, true_and, and_true, ne_eq, not_true_eq_false, not_false_eq_true, one_ne0, reduceCtorEq]
    exact K C2 hW2 hC2 _
  rw [e201]
  unfold trm at et
  cases c1 : cls bb (tf bb z p) with
  | true => rw [c1, if_pos rfl] at et; cases et
  | false =>
    rw [c1, if_neg (by decide)] at et
    by_cases c2 : ts bb z p = 2
    · rw [if_pos c2] at et
      by_cases c3 : 4 < tn bb z p - tf bb z p
      · rw [if_pos c3] at et; cases et
      · rw [if_neg c3] at et
        have ev := Option.some.inj et
        have tk : tkv bb z p = 2 := by unfold tkv; rw [c2, c1, if_neg (by decide), if_neg (by decide), if_neg (by decide), if_pos rfl, if_neg c3]
        have vv : vlv bb z p e = v := by
          unfold vlv
          rw [c2, if_neg (by decide), if_pos rfl, ← ev]
          unfold vl4
          by_cases q : tn bb z p - tf bb z p < 4
          · rw [if_pos q]
          · rw [if_neg q, show tn bb z p - tf bb z p = 4 by omega]
        have e1 : (nI (tkv bb z p) = 1) = False := eq_false (by rw [tk]; decide)
        have e2 : (nI (tkv bb z p) = 2) = True := eq_true (by rw [tk]; rfl)
        rw [vv] at fin ⊢
        simp only [s201_0, s201_1, s201_4, s201_5, s201_8, s201_9, s201_12, s201_13, s201_16, s201_17, s201_18, s201_21, s201_22, s201_23, s201_26, s201_29, s201_32, s201_33, s201_36, s201_37, s201_38, s201_39, s201_42, s201_43, s201_46, s201_47, s201_50, s201_51, s201_51t, s201_51b, s201_52, s201_53, s201_56, s201_57, s201_60, s201_61, s201_64, s201_65, s201_68, s201_69, s201_72, s201_75, s201_78, s201_79, s201_80, s201_83, s201_86, s201_87, xset_self, mg_8, mg_9, mg_14, mg_15, e1, e2, u_7, XS96 (show Cl.length < 96 by omega), u_w7, XG_1, XO_some, XV_1, xo_n, xo_i8, xo_r8, xo_i7, xo_r7, xo_i6, xo_r6, xo_i5, xo_r5, xo_i4, xo_r4, xo_i3, xo_r3, xo_i2, xo_r2, Option.toList_some, Option.toList_none, List.cons_append, List.nil_append, bI_t, bI_f, bI_0, bI_n0, if_true, if_false, true_and, and_true, ne_eq, not_true_eq_false, not_false_eq_true, one_ne0, reduceCtorEq]
        exact fin
    · rw [if_neg c2] at et
      by_cases c3 : tn bb z p - tf bb z p = 1 ∧ ¬ nmv ky (bb (tf bb z p)) < 0
      · rw [if_pos c3] at et
        have ev := Option.some.inj et
        have t1 : ts bb z p = 1 := by have := ts_lt (y := bb) (z := z) (p := p); omega
        have tk : tkv bb z p = 1 := by unfold tkv; rw [t1, c1, if_neg (by decide), if_neg (by decide), if_neg (by decide), if_neg (by decide)]
        have vv : vlv bb z p e = bb (tf bb z p) := by unfold vlv; rw [t1]; rfl
        have e1 : (nI (tkv bb z p) = 1) = True := eq_true (by rw [tk]; rfl)
        have e2 : (nI (tkv bb z p) = 2) = False := eq_false (by rw [tk]; decide)
        have e3 : (nI (tn bb z p - tf bb z p) = 1) = True := eq_true (by rw [c3.1]; rfl)
        have lt := c3.2
        rw [vv] at fin ⊢
        simp only [s201_0, s201_1, s201_4, s201_5, s201_8, s201_9, s201_12, s201_13, s201_16, s201_17, s201_18, s201_21, s201_22, s201_23, s201_26, s201_29, s201_32, s201_33, s201_36, s201_37, s201_38, s201_39, s201_42, s201_43, s201_46, s201_47, s201_50, s201_51, s201_51t, s201_51b, s201_52, s201_53, s201_56, s201_57, s201_60, s201_61, s201_64, s201_65, s201_68, s201_69, s201_72, s201_75, s201_78, s201_79, s201_80, s201_83, s201_86, s201_87, xset_self, mg_6, mg_7, mg_8, mg_9, mg_14, mg_15, e1, e2, e3, sb, r_nameOf hk, lt, ev, u_7, XS96 (show Cl.length < 96 by omega), u_w7, one_ne0, XG_1, XO_some, XV_1, xo_n, xo_i8, xo_r8, xo_i7, xo_r7, xo_i6, xo_r6, xo_i5, xo_r5, xo_i4, xo_r4, xo_i3, xo_r3, xo_i2, xo_r2, Option.toList_some, Option.toList_none, List.cons_append, List.nil_append, bI_t, bI_f, bI_0, bI_n0, if_true, if_false, true_and, and_true, ne_eq, not_true_eq_false, not_false_eq_true, one_ne0, reduceCtorEq]
        exact fin
      · rw [if_neg c3] at et; cases et
end RTX
