/-! ===== 25: weighing, choosing, nights ===== -/
def bfc (n : Nat → Nat) (T : Nat → Nat → Int32) (kn home j : Nat) : Int32 := if isI (T 7 j) (n 0) = true then 100 - hdv T kn home (T 7 j).toNatClampNeg (cmv n T (T 7 j).toNatClampNeg) else 100
def msd (n : Nat → Nat) (T : Nat → Nat → Int32) (kn home dd : Nat) : Int32 := 1 * bfc n T kn home (2 * dd) * bfc n T kn home (2 * dd + 1)
def gnv (n : Nat → Nat) (T : Nat → Nat → Int32) (dd : Nat) (ms : Int32) : Int32 := match lst (T 10) 1 (n 3) with
  | some x => hld (evT T x (env4 (T 5 dd) ms 0 0)) 0 99999
  | none => hld (T 5 dd * ms / 10000) 0 99999
abbrev Pw (t : Nat) : Nat → Prop := fun a => t + 10 ≤ a ∧ a ≤ t + 12
abbrev knd (T : Nat → Nat → Int32) (i : Nat) : Nat := (T 8 i).toNatClampNeg
abbrev hom (T : Nat → Nat → Int32) (i : Nat) : Nat := (T 9 i).toNatClampNeg
def msT (n : Nat → Nat) (T : Nat → Nat → Int32) (i dd : Nat) : Int32 := msd n T (knd T i) (hom T i) dd
def gnT (n : Nat → Nat) (T : Nat → Nat → Int32) (i dd : Nat) : Int32 := gnv n T dd (msT n T i dd)
/-- the rows that weigh fills -/
def wei (n : Nat → Nat) (T : Nat → Nat → Int32) (s : Nat → Nat → Int32) : Prop := (∀ i, i < n 0 → s 0 i = cmv n T i) ∧ ∀ i dd, i < n 2 → dd < n 1 → s 1 (12 * i + dd) = msT n T i dd ∧ s 2 (12 * i + dd) = gnT n T i dd
def rup {α : Type} (s : Nat → α) (k : Nat) (f : α) : Nat → α := fun j => if j = k then f else s j
theorem l12 {k : Nat} : nI k * 12 = nI (12 * k) := by rw [show (12 : Int32) = nI 12 from rfl, pk_mul, Nat.mul_comm]
section TM4
variable {Dy d : Nat} {h h1 : xH} {t : Nat} {n : Nat → Nat} {T : Nat → Nat → Int32} {p : Nat → Nat → Option Nat} {s s2 : Nat → Nat → Int32} {Q : Option Value → xH → Prop} {x y z : Int32}
theorem RT.sc (R : RT Dy h.2.2.1 t n T p s) (F : FR Dy (Pw t) h h1) (ht : t + 12 < Dy) (h10 : h1.2.2.1 (t + 10) = .inl (0, xis 10 (s2 0))) (h11 : h1.2.2.1 (t + 11) = .inl (0, xis 72 (s2 1))) (h12 : h1.2.2.1 (t + 12) = .inl (0, xis 72 (s2 2))) : RT Dy h1.2.2.1 t n T p s2 := by
  have e : ∀ k, k ≤ 9 → h1.2.2.1 (t + k) = h.2.2.1 (t + k) := fun k hk => F.at (by omega) (fun q => by have := q.1; omega)
  refine ⟨(e 0 (by omega)).trans R.o, (e 1 (by omega)).trans R.aw, (e 2 (by omega)).trans R.ca, (e 3 (by omega)).trans R.ag, (e 4 (by omega)).trans R.ow, (e 5 (by omega)).trans R.wo, (e 6 (by omega)).trans R.no, (e 7 (by omega)).trans R.be, (e 8 (by omega)).trans R.ba, (e 9 (by omega)).trans R.la, h10, h11, h12, R.nn, fun i hi => ?_, fun i hi => ?_, R.tn⟩
  · obtain ⟨a, q1, q2, q3⟩ := R.th i hi
    exact ⟨a, q1, q2, F.2.2.2.2.1 _ _ _ q2 q3⟩
  · obtain ⟨a, q1, q2, q3⟩ := R.tx i hi
    exact ⟨a, q1, q2, F.2.2.2.2.2.1 _ _ _ _ _ q2 q3⟩
theorem FR0.w (F : FR Dy P0 h h1) : FR Dy (Pw t) h h1 := F.wide (fun _ q => q.elim)
theorem RT.s0 (R : RT Dy h.2.2.1 t n T p s) (ht : t + 12 < Dy) (hD : Dy ≤ h.1) {f : Nat → Int32} : RT Dy (xset h (t + 10) (.inl (0, xis 10 f))).2.2.1 t n T p (rup s 0 f) ∧ FR Dy (Pw t) h (xset h (t + 10) (.inl (0, xis 10 f))) := by
  have F : FR Dy (Pw t) h (xset h (t + 10) (.inl (0, xis 10 f))) := FR.set (by omega) ⟨by omega, by omega⟩ (by omega)
  exact ⟨R.sc F ht xset_self (by rw [xset_ne (by omega)]; exact R.mi) (by rw [xset_ne (by omega)]; exact R.ga), F⟩
theorem RT.s1 (R : RT Dy h.2.2.1 t n T p s) (ht : t + 12 < Dy) (hD : Dy ≤ h.1) {f : Nat → Int32} : RT Dy (xset h (t + 11) (.inl (0, xis 72 f))).2.2.1 t n T p (rup s 1 f) ∧ FR Dy (Pw t) h (xset h (t + 11) (.inl (0, xis 72 f))) := by
  have F : FR Dy (Pw t) h (xset h (t + 11) (.inl (0, xis 72 f))) := FR.set (by omega) ⟨by omega, by omega⟩ (by omega)
  exact ⟨R.sc F ht (by rw [xset_ne (by omega)]; exact R.co) xset_self (by rw [xset_ne (by omega)]; exact R.ga), F⟩
theorem RT.sg2 (R : RT Dy h.2.2.1 t n T p s) (ht : t + 12 < Dy) (hD : Dy ≤ h.1) {f : Nat → Int32} : RT Dy (xset h (t + 12) (.inl (0, xis 72 f))).2.2.1 t n T p (rup s 2 f) ∧ FR Dy (Pw t) h (xset h (t + 12) (.inl (0, xis 72 f))) := by
  have F : FR Dy (Pw t) h (xset h (t + 12) (.inl (0, xis 72 f))) := FR.set (by omega) ⟨by omega, by omega⟩ (by omega)
  exact ⟨R.sc F ht (by rw [xset_ne (by omega)]; exact R.co) (by rw [xset_ne (by omega)]; exact R.mi) xset_self, F⟩
theorem l_listen (I : IV n T) (ht : t + 12 < Dy) : ∀ k i h s, i + k = n 0 → Dy ≤ h.1 → RT Dy h.2.2.1 t n T p s → (∀ j, j < i → s 0 j = cmv n T j) → (∀ h' s', FR Dy (Pw t) h h' → RT Dy h'.2.2.1 t n T p s' → (∀ j, j < n 0 → s' 0 j = cmv n T j) → Q none h') → XE (d + 3) 65 2 [.val (.ref t), .val (.int (nI i))] [] h Q := by
  have hn := I.nn
  intro k
  induction k with
  | zero =>
    intro i h s hi hD R hs K
    have hlt : ¬ nI i < nI (n 0) := nI_nlt (by omega) (by omega)
    rw [s65_2]
    simp only [s65_0, s65_1, s65_3, s65_4, s65_7, s65_10, s65_11, s65_14, s65_15, s65_16, s65_17, s65_20, s65_21, s65_24, s65_27, R.o, tf0, XG_1, XO_some, XV_1, xo_n, xo_i8, xo_r8, xo_i7, xo_r7, xo_i6, xo_r6, xo_i5, xo_r5, xo_i4, xo_r4, xo_i3, xo_r3, xo_i2, xo_r2, Option.toList_some, Option.toList_none, List.cons_append, List.nil_append, bI_t, bI_f, bI_0, bI_n0, if_true, if_false, true_and, and_true, ne_eq, not_true_eq_false, not_false_eq_true, one_ne0, reduceCtorEq, hlt]
    exact K h s FR.refl R (fun j hj => hs j (by omega))
  | succ k ih =>
    intro i h s hi hD R hs K
    have hlt : nI i < nI (n 0) := nI_lt (by omega) (by omega)
    have h10 : i < 10 := by omega
    rw [s65_2]
    simp only [s65_0, s65_1, s65_3, s65_4, s65_7, s65_10, s65_11, s65_14, s65_15, s65_16, s65_17, s65_20, s65_21, s65_24, s65_27, R.o, tf0, tf17, XG_1, XO_some, XV_1, xo_n, xo_i8, xo_r8, xo_i7, xo_r7, xo_i6, xo_r6, xo_i5, xo_r5, xo_i4, xo_r4, xo_i3, xo_r3, xo_i2, xo_r2, Option.toList_some, Option.toList_none, List.cons_append, List.nil_append, bI_t, bI_f, bI_0, bI_n0, if_true, if_false, true_and, and_true, ne_eq, not_true_eq_false, not_false_eq_true, one_ne0, reduceCtorEq, hlt]
    refine c_comesNow R I (by omega) fun h1 F1 => ?_
    have R1 := R.fr0 F1 ht
    simp only [s65_0, s65_1, s65_3, s65_4, s65_7, s65_10, s65_11, s65_14, s65_15, s65_16, s65_17, s65_20, s65_21, s65_24, s65_27, R1.co, XG_1, XO_some, XV_1, xo_n, xo_i8, xo_r8, xo_i7, xo_r7, xo_i6, xo_r6, xo_i5, xo_r5, xo_i4, xo_r4, xo_i3, xo_r3, xo_i2, xo_r2, Option.toList_some, Option.toList_none, List.cons_append, List.nil_append, bI_t, bI_f, bI_0, bI_n0, if_true, if_false, true_and, and_true, ne_eq, not_true_eq_false, not_false_eq_true, one_ne0, reduceCtorEq, XS10 h10, nI_1]
    obtain ⟨R2, F2⟩ := R1.s0 ht (by rw [F1.1]; exact hD) (f := upd (s 0) i (cmv n T i))
    refine ih (i + 1) _ _ (by omega) (by rw [F2.1, F1.1]; exact hD) R2 (fun j hj => ?_) fun h' s' F3 R3 hs3 => K h' s' ((FR0.w F1).trans (F2.trans F3)) R3 hs3
    show upd (s 0) i (cmv n T i) j = _
    by_cases e : j = i
    · rw [e, upd_at]
    · rw [upd_ne e]; exact hs j (by omega)
theorem c_listen (I : IV n T) (ht : t + 12 < Dy) (hD : Dy ≤ h.1) (R : RT Dy h.2.2.1 t n T p s) (K : ∀ h' s', FR Dy (Pw t) h h' → RT Dy h'.2.2.1 t n T p s' → (∀ j, j < n 0 → s' 0 j = cmv n T j) → Q none h') : XC (d + 4) 65 [.ref t] h Q := by
  rw [e65]
  simp only [s65_0, s65_1]
  exact l_listen I ht (n 0) 0 h s (by omega) hD R (fun j hj => absurd hj (Nat.not_lt_zero j)) K
/-- missedBy -/
theorem c_missedBy (R : RT Dy h.2.2.1 t n T p s) (hs : ∀ j, j < n 0 → s 0 j = cmv n T j) {a kn home dd : Nat} (hk : kn ≤ 5) (hh : home < n 0) (hd : dd < n 1) (hA : h.2.2.1 a = .inr (kcl kn, [.int (nI kn), .int (nI home)])) : XC (d + 4) 66 [.ref t, .ref a, .int (nI dd)] h Q ↔ Q (some (.int (msd n T kn home dd))) h := by
  have hn := R.nn
  have hI := isI_n hd (show n 1 < 2 ^ 31 by omega)
  have step : ∀ (b : Nat) (acc : Int32) (c5 : Slot), b < 2 → (XE (d + 3) 66 5 [.val (.ref t), .val (.ref a), .val (.int (nI dd)), .val (.int acc), .val (.int (nI b)), c5] [] h Q ↔ XE (d + 3) 66 5 [.val (.ref t), .val (.ref a), .val (.int (nI dd)), .val (.int (acc * bfc n T kn home (2 * dd + b))), .val (.int (nI (b + 1))), .val (.int (T 7 (2 * dd + b)))] [] h Q) := by
    intro b acc c5 hb
    have h24 : 2 * dd + b < 24 := by omega
    have hlt : nI b < 2 := nI_lt (b := 2) hb (by decide)
    rw [s66_5]
    simp only [s66_0, s66_1, s66_2, s66_3, s66_7, s66_8, s66_11, s66_12, s66_13, s66_16, s66_19, s66_20, s66_23, s66_24, s66_25, s66_26, s66_28, s66_29, s66_30, s66_32, R.o, R.be, tf14, XG_1, XO_some, XV_1, xo_n, xo_i8, xo_r8, xo_i7, xo_r7, xo_i6, xo_r6, xo_i5, xo_r5, xo_i4, xo_r4, xo_i3, xo_r3, xo_i2, xo_r2, Option.toList_some, Option.toList_none, List.cons_append, List.nil_append, bI_t, bI_f, bI_0, bI_n0, if_true, if_false, true_and, and_true, ne_eq, not_true_eq_false, not_false_eq_true, one_ne0, reduceCtorEq, hlt, c_isDoor R, hI, l2m, nI_add, XA24 h24, Bool.true_eq_false]
    simp only [s66_33, s66_34, s66_36, s66_39, R.o, XG_1, XO_some, XV_1, xo_n, xo_i8, xo_r8, xo_i7, xo_r7, xo_i6, xo_r6, xo_i5, xo_r5, xo_i4, xo_r4, xo_i3, xo_r3, xo_i2, xo_r2, Option.toList_some, Option.toList_none, List.cons_append, List.nil_append, bI_t, bI_f, bI_0, bI_n0, if_true, if_false, true_and, and_true, ne_eq, not_true_eq_false, not_false_eq_true, one_ne0, reduceCtorEq, c_isHouse R]
    unfold bfc
    cases hx : isI (T 7 (2 * dd + b)) (n 0) with
    | false => simp only [s66_0, s66_1, s66_2, s66_3, s66_7, s66_8, s66_11, s66_12, s66_13, s66_16, s66_19, s66_20, s66_23, s66_24, s66_25, s66_26, s66_28, s66_29, s66_30, s66_32, s66_33, s66_34, s66_36, s66_39, s66_42, s66_44, s66_44n, s66_45, s66_46, s66_48, s66_49, s66_52, s66_54, s66_55, s66_58, s66_59, s66_62, s66_64, s66_65, s66_66, s66_69, s66_72, s66_73, XG_1, XO_some, XV_1, xo_n, xo_i8, xo_r8, xo_i7, xo_r7, xo_i6, xo_r6, xo_i5, xo_r5, xo_i4, xo_r4, xo_i3, xo_r3, xo_i2, xo_r2, Option.toList_some, Option.toList_none, List.cons_append, List.nil_append, bI_t, bI_f, bI_0, bI_n0, if_true, if_false, true_and, and_true, ne_eq, not_true_eq_false, not_false_eq_true, one_ne0, reduceCtorEq, nI_1, Bool.false_eq_true]
    | true =>
      obtain ⟨j, hj, e⟩ := isI_t hx (by omega)
      have h10 : j < 10 := by omega
      rw [e]
      simp only [s66_42, s66_44, s66_44n, s66_45, s66_46, s66_48, s66_49, s66_52, s66_54, s66_55, R.o, R.co, tf17, XG_1, XO_some, XV_1, xo_n, xo_i8, xo_r8, xo_i7, xo_r7, xo_i6, xo_r6, xo_i5, xo_r5, xo_i4, xo_r4, xo_i3, xo_r3, xo_i2, xo_r2, Option.toList_some, Option.toList_none, List.cons_append, List.nil_append, bI_t, bI_f, bI_0, bI_n0, if_true, if_false, true_and, and_true, ne_eq, not_true_eq_false, not_false_eq_true, one_ne0, reduceCtorEq, XA10 h10, hs j hj, Bool.true_eq_false]
      rw [c_heeds R hk hh hj hA]
      simp only [s66_0, s66_1, s66_2, s66_3, s66_7, s66_8, s66_11, s66_12, s66_13, s66_16, s66_19, s66_20, s66_23, s66_24, s66_25, s66_26, s66_28, s66_29, s66_30, s66_32, s66_33, s66_34, s66_36, s66_39, s66_42, s66_44, s66_44n, s66_45, s66_46, s66_48, s66_49, s66_52, s66_54, s66_55, s66_58, s66_59, s66_62, s66_64, s66_65, s66_66, s66_69, s66_72, s66_73, XG_1, XO_some, XV_1, xo_n, xo_i8, xo_r8, xo_i7, xo_r7, xo_i6, xo_r6, xo_i5, xo_r5, xo_i4, xo_r4, xo_i3, xo_r3, xo_i2, xo_r2, Option.toList_some, Option.toList_none, List.cons_append, List.nil_append, bI_t, bI_f, bI_0, bI_n0, if_true, if_false, true_and, and_true, ne_eq, not_true_eq_false, not_false_eq_true, one_ne0, reduceCtorEq, nI_1, nI_clamp (show j < 2 ^ 31 by omega)]
  rw [e66]
  simp only [s66_0, s66_1, s66_2, s66_3]
  refine (step 0 1 _ (by decide)).trans ?_
  refine (step 1 _ _ (by decide)).trans ?_
  have hlt : ¬ nI (1 + 1) < 2 := by decide
  rw [s66_5]
  simp only [s66_0, s66_1, s66_2, s66_3, s66_7, s66_8, s66_11, s66_12, s66_13, s66_16, s66_19, s66_20, s66_23, s66_24, s66_25, s66_26, s66_28, s66_29, s66_30, s66_32, s66_33, s66_34, s66_36, s66_39, s66_42, s66_44, s66_44n, s66_45, s66_46, s66_48, s66_49, s66_52, s66_54, s66_55, s66_58, s66_59, s66_62, s66_64, s66_65, s66_66, s66_69, s66_72, s66_73, XG_1, XO_some, XV_1, xo_n, xo_i8, xo_r8, xo_i7, xo_r7, xo_i6, xo_r6, xo_i5, xo_r5, xo_i4, xo_r4, xo_i3, xo_r3, xo_i2, xo_r2, Option.toList_some, Option.toList_none, List.cons_append, List.nil_append, bI_t, bI_f, bI_0, bI_n0, if_true, if_false, true_and, and_true, ne_eq, not_true_eq_false, not_false_eq_true, one_ne0, reduceCtorEq, hlt]
  rfl
theorem c_gainOf (R : RT Dy h.2.2.1 t n T p s) (I : IV n T) {dd : Nat} (hd : dd < n 1) (K : ∀ h', FR Dy P0 h h' → Q (some (.int (gnv n T dd x))) h') : XC (d + 3) 67 [.ref t, .int (nI dd), .int x] h Q := by
  have hn := R.nn
  have h12 : dd < 12 := by omega
  have hI := isI_n hd (show n 1 < 2 ^ 31 by omega)
  have h99 : ¬ (99999 : Int32) < 0 := by decide
  rw [e67]
  simp only [s67_0, s67_1, s67_2, s67_5, s67_8, s67_9, s67_10, s67_11, s67_12, s67_13, s67_16, R.o, XG_1, XO_some, XV_1, xo_n, xo_i8, xo_r8, xo_i7, xo_r7, xo_i6, xo_r6, xo_i5, xo_r5, xo_i4, xo_r4, xo_i3, xo_r3, xo_i2, xo_r2, Option.toList_some, Option.toList_none, List.cons_append, List.nil_append, bI_t, bI_f, bI_0, bI_n0, if_true, if_false, true_and, and_true, ne_eq, not_true_eq_false, not_false_eq_true, one_ne0, reduceCtorEq, c_isDoor R, hI, c_lastOf R, c_textAt R, Bool.true_eq_false]
  rcases lawAt R I (ky := 1) (by decide) (Q := fun v h' => XE (d + 2) 67 19 [.val (.ref t), .val (.int (nI dd)), .val (.int x), .unset, .unset] (v.toList ++ []) h' Q) with ⟨hl, hq⟩ | ⟨k, a, u, hl, hq, ha, hX, hu, hul, hw⟩
  · refine hq.mpr ?_
    simp only [s67_0, s67_1, s67_2, s67_5, s67_8, s67_9, s67_10, s67_11, s67_12, s67_13, s67_16, s67_19, s67_19n, s67_20, s67_20n, s67_21, s67_21n, s67_24, s67_25, s67_28, s67_29, s67_30, s67_31, s67_32, s67_35, s67_36, s67_39, s67_39n, s67_40, s67_41, s67_44, s67_45, s67_46, s67_47, s67_48, s67_49, s67_52, s67_54, s67_56, s67_57, s67_59, s67_62, R.o, R.wo, tf12, XG_1, XO_some, XV_1, xo_n, xo_i8, xo_r8, xo_i7, xo_r7, xo_i6, xo_r6, xo_i5, xo_r5, xo_i4, xo_r4, xo_i3, xo_r3, xo_i2, xo_r2, Option.toList_some, Option.toList_none, List.cons_append, List.nil_append, bI_t, bI_f, bI_0, bI_n0, if_true, if_false, true_and, and_true, ne_eq, not_true_eq_false, not_false_eq_true, one_ne0, reduceCtorEq, XA12 h12, z10000, c_held h99]
    have := K h FR.refl
    unfold gnv at this
    rw [show (1 : Int32) = nI 1 from rfl, hl] at this
    exact this
  · refine hq.mpr ?_
    simp only [s67_0, s67_1, s67_2, s67_5, s67_8, s67_9, s67_10, s67_11, s67_12, s67_13, s67_16, s67_19, s67_19n, s67_20, s67_20n, s67_21, s67_21n, s67_24, s67_25, s67_28, s67_29, s67_30, s67_31, s67_32, s67_35, s67_36, s67_39, s67_39n, s67_40, s67_41, s67_44, s67_45, s67_46, s67_47, s67_48, s67_49, s67_52, s67_54, s67_56, s67_57, s67_59, s67_62, R.o, R.wo, tf12, XG_1, XO_some, XV_1, xo_n, xo_i8, xo_r8, xo_i7, xo_r7, xo_i6, xo_r6, xo_i5, xo_r5, xo_i4, xo_r4, xo_i3, xo_r3, xo_i2, xo_r2, Option.toList_some, Option.toList_none, List.cons_append, List.nil_append, bI_t, bI_f, bI_0, bI_n0, if_true, if_false, true_and, and_true, ne_eq, not_true_eq_false, not_false_eq_true, one_ne0, reduceCtorEq, XA12 h12, hX.choose_spec.2.2.1]
    refine c_gives hX hu hul hw (by decide) ha (e2 := env4 (T 5 dd) x 0 0) (fun j _ => rfl) fun h1 F1 => ?_
    simp only [s67_0, s67_1, s67_2, s67_5, s67_8, s67_9, s67_10, s67_11, s67_12, s67_13, s67_16, s67_19, s67_19n, s67_20, s67_20n, s67_21, s67_21n, s67_24, s67_25, s67_28, s67_29, s67_30, s67_31, s67_32, s67_35, s67_36, s67_39, s67_39n, s67_40, s67_41, s67_44, s67_45, s67_46, s67_47, s67_48, s67_49, s67_52, s67_54, s67_56, s67_57, s67_59, s67_62, XG_1, XO_some, XV_1, xo_n, xo_i8, xo_r8, xo_i7, xo_r7, xo_i6, xo_r6, xo_i5, xo_r5, xo_i4, xo_r4, xo_i3, xo_r3, xo_i2, xo_r2, Option.toList_some, Option.toList_none, List.cons_append, List.nil_append, bI_t, bI_f, bI_0, bI_n0, if_true, if_false, true_and, and_true, ne_eq, not_true_eq_false, not_false_eq_true, one_ne0, reduceCtorEq, c_held h99]
    have := K h1 F1
    unfold gnv evT at this
    rw [show (1 : Int32) = nI 1 from rfl, hl] at this
    dsimp only at this
    rw [hu, nI_clamp (by omega)] at this
    exact this
theorem thiefN (R : RT Dy h.2.2.1 t n T p s) (I : IV n T) {i : Nat} (hi : i < n 2) : ∃ a kn home, p 0 i = some a ∧ Dy ≤ a ∧ kn ≤ 5 ∧ home < n 0 ∧ T 8 i = nI kn ∧ T 9 i = nI home ∧ knd T i = kn ∧ hom T i = home ∧ h.2.2.1 a = .inr (kcl kn, [.int (nI kn), .int (nI home)]) := by
  have hn := R.nn
  obtain ⟨a, q1, q2, kn, q3, q4, q5⟩ := R.th i hi
  obtain ⟨-, j, r1, r2⟩ := I.th i hi
  refine ⟨a, kn, j, q1, q2, q3, r1, q4, r2, ?_, ?_, ?_⟩
  · show (T 8 i).toNatClampNeg = kn
    rw [q4, nI_clamp (by omega)]
  · show (T 9 i).toNatClampNeg = j
    rw [r2, nI_clamp (by omega)]
  · rw [q5, r2, q4]
/-- one thief's row -/
theorem l_weigh1 (I : IV n T) (ht : t + 12 < Dy) {i a : Nat} (hi : i < n 2) (ha : p 0 i = some a) : ∀ k dd h s c4, dd + k = n 1 → Dy ≤ h.1 → RT Dy h.2.2.1 t n T p s → (∀ j, j < n 0 → s 0 j = cmv n T j) → (∀ i' d', (i' < i ∧ d' < n 1 ∨ i' = i ∧ d' < dd) → s 1 (12 * i' + d') = msT n T i' d' ∧ s 2 (12 * i' + d') = gnT n T i' d') → (∀ h' s' c3 c4, FR Dy (Pw t) h h' → RT Dy h'.2.2.1 t n T p s' → (∀ j, j < n 0 → s' 0 j = cmv n T j) → (∀ i' d', i' < i + 1 → d' < n 1 → s' 1 (12 * i' + d') = msT n T i' d' ∧ s' 2 (12 * i' + d') = gnT n T i' d') → XE (d + 4) 68 6 [.val (.ref t), .val (.int (nI (i + 1))), .val (.ref a), c3, c4] [] h' Q) → XE (d + 4) 68 23 [.val (.ref t), .val (.int (nI i)), .val (.ref a), .val (.int (nI dd)), c4] [] h Q := by
  have hn := I.nn
  intro k
  induction k with
  | zero =>
    intro dd h s c4 hi2 hD R hs hw K
    have hlt : ¬ nI dd < nI (n 1) := nI_nlt (by omega) (by omega)
    rw [s68_23]
    simp only [s68_0, s68_1, s68_4, s68_5, s68_7, s68_8, s68_11, s68_14, s68_15, s68_18, s68_19, s68_20, s68_20n, s68_21, s68_22, s68_24, s68_25, s68_28, s68_31, s68_31n, s68_32, s68_32n, s68_35, s68_36, s68_36n, s68_37, s68_38, s68_41, s68_43, s68_44, s68_47, s68_48, s68_50, s68_51, s68_52, s68_53, s68_55, s68_56, s68_57, s68_60, s68_61, s68_63, s68_64, s68_65, s68_66, s68_67, s68_68, s68_70, s68_73, s68_74, s68_77, s68_80, s68_83, s68_86, R.o, tf1, XG_1, XO_some, XV_1, xo_n, xo_i8, xo_r8, xo_i7, xo_r7, xo_i6, xo_r6, xo_i5, xo_r5, xo_i4, xo_r4, xo_i3, xo_r3, xo_i2, xo_r2, Option.toList_some, Option.toList_none, List.cons_append, List.nil_append, bI_t, bI_f, bI_0, bI_n0, if_true, if_false, true_and, and_true, ne_eq, not_true_eq_false, not_false_eq_true, one_ne0, reduceCtorEq, hlt, nI_1]
    exact K h s _ _ FR.refl R hs (fun i' d' h1 h2 => hw i' d' (by omega))
  | succ k ih =>
    intro dd h s c4 hi2 hD R hs hw K
    have hlt : nI dd < nI (n 1) := nI_lt (by omega) (by omega)
    have h72 : 12 * i + dd < 72 := by omega
    obtain ⟨a', kn, home, q1, q2, q3, q4, q5, q6, q7, q8, q9⟩ := thiefN R I hi
    rw [ha] at q1
    cases q1
    rw [s68_23]
    simp only [s68_0, s68_1, s68_4, s68_5, s68_7, s68_8, s68_11, s68_14, s68_15, s68_18, s68_19, s68_20, s68_20n, s68_21, s68_22, s68_24, s68_25, s68_28, s68_31, s68_31n, s68_32, s68_32n, s68_35, s68_36, s68_36n, s68_37, s68_38, s68_41, s68_43, s68_44, s68_47, s68_48, s68_50, s68_51, s68_52, s68_53, s68_55, s68_56, s68_57, s68_60, s68_61, s68_63, s68_64, s68_65, s68_66, s68_67, s68_68, s68_70, s68_73, s68_74, s68_77, s68_80, s68_83, s68_86, R.o, R.mi, tf1, tf18, tf19, XG_1, XO_some, XV_1, xo_n, xo_i8, xo_r8, xo_i7, xo_r7, xo_i6, xo_r6, xo_i5, xo_r5, xo_i4, xo_r4, xo_i3, xo_r3, xo_i2, xo_r2, Option.toList_some, Option.toList_none, List.cons_append, List.nil_append, bI_t, bI_f, bI_0, bI_n0, if_true, if_false, true_and, and_true, ne_eq, not_true_eq_false, not_false_eq_true, one_ne0, reduceCtorEq, hlt, c_missedBy R hs q3 q4 (show dd < n 1 by omega) q9, l12, nI_add, XS72 h72]
    obtain ⟨R1, F1⟩ := R.s1 ht hD (f := upd (s 1) (12 * i + dd) (msd n T kn home dd))
    simp only [s68_0, s68_1, s68_4, s68_5, s68_7, s68_8, s68_11, s68_14, s68_15, s68_18, s68_19, s68_20, s68_20n, s68_21, s68_22, s68_24, s68_25, s68_28, s68_31, s68_31n, s68_32, s68_32n, s68_35, s68_36, s68_36n, s68_37, s68_38, s68_41, s68_43, s68_44, s68_47, s68_48, s68_50, s68_51, s68_52, s68_53, s68_55, s68_56, s68_57, s68_60, s68_61, s68_63, s68_64, s68_65, s68_66, s68_67, s68_68, s68_70, s68_73, s68_74, s68_77, s68_80, s68_83, s68_86, R1.o, tf19, XG_1, XO_some, XV_1, xo_n, xo_i8, xo_r8, xo_i7, xo_r7, xo_i6, xo_r6, xo_i5, xo_r5, xo_i4, xo_r4, xo_i3, xo_r3, xo_i2, xo_r2, Option.toList_some, Option.toList_none, List.cons_append, List.nil_append, bI_t, bI_f, bI_0, bI_n0, if_true, if_false, true_and, and_true, ne_eq, not_true_eq_false, not_false_eq_true, one_ne0, reduceCtorEq, l12, nI_add]
    refine c_gainOf R1 I (by omega) fun h2 F2 => ?_
    have R2 := R1.fr0 F2 ht
    simp only [s68_0, s68_1, s68_4, s68_5, s68_7, s68_8, s68_11, s68_14, s68_15, s68_18, s68_19, s68_20, s68_20n, s68_21, s68_22, s68_24, s68_25, s68_28, s68_31, s68_31n, s68_32, s68_32n, s68_35, s68_36, s68_36n, s68_37, s68_38, s68_41, s68_43, s68_44, s68_47, s68_48, s68_50, s68_51, s68_52, s68_53, s68_55, s68_56, s68_57, s68_60, s68_61, s68_63, s68_64, s68_65, s68_66, s68_67, s68_68, s68_70, s68_73, s68_74, s68_77, s68_80, s68_83, s68_86, R2.ga, XG_1, XO_some, XV_1, xo_n, xo_i8, xo_r8, xo_i7, xo_r7, xo_i6, xo_r6, xo_i5, xo_r5, xo_i4, xo_r4, xo_i3, xo_r3, xo_i2, xo_r2, Option.toList_some, Option.toList_none, List.cons_append, List.nil_append, bI_t, bI_f, bI_0, bI_n0, if_true, if_false, true_and, and_true, ne_eq, not_true_eq_false, not_false_eq_true, one_ne0, reduceCtorEq, XS72 h72, nI_1]
    obtain ⟨R3, F3⟩ := R2.sg2 ht (by rw [F2.1, F1.1]; exact hD) (f := upd (rup s 1 (upd (s 1) (12 * i + dd) (msd n T kn home dd)) 2) (12 * i + dd) (gnv n T dd (msd n T kn home dd)))
    refine ih (dd + 1) _ _ _ (by omega) (by rw [F3.1, F2.1, F1.1]; exact hD) R3 hs (fun i' d' hc => ?_) fun h' s' c3 c4 F4 R4 hs4 hw4 => K h' s' c3 c4 (F1.trans ((FR0.w F2).trans (F3.trans F4))) R4 hs4 hw4
    show upd (s 1) (12 * i + dd) (msd n T kn home dd) (12 * i' + d') = _ ∧ upd (s 2) (12 * i + dd) (gnv n T dd (msd n T kn home dd)) (12 * i' + d') = _
    by_cases e : i' = i ∧ d' = dd
    · obtain ⟨e1, e2⟩ := e
      subst e1
      subst e2
      rw [upd_at, upd_at]
      unfold gnT msT
      rw [q7, q8]
      exact ⟨rfl, rfl⟩
    · have hne : 12 * i' + d' ≠ 12 * i + dd := by omega
      rw [upd_ne hne, upd_ne hne]
      exact hw i' d' (by omega)
theorem l_weigh (I : IV n T) (ht : t + 12 < Dy) : ∀ k i h s c2 c3 c4, i + k = n 2 → Dy ≤ h.1 → RT Dy h.2.2.1 t n T p s → (∀ j, j < n 0 → s 0 j = cmv n T j) → (∀ i' d', i' < i → d' < n 1 → s 1 (12 * i' + d') = msT n T i' d' ∧ s 2 (12 * i' + d') = gnT n T i' d') → (∀ h' s', FR Dy (Pw t) h h' → RT Dy h'.2.2.1 t n T p s' → wei n T s' → Q none h') → XE (d + 4) 68 6 [.val (.ref t), .val (.int (nI i)), c2, c3, c4] [] h Q := by
  have hn := I.nn
  intro k
  induction k with
  | zero =>
    intro i h s c2 c3 c4 hi hD R hs hw K
    have hlt : ¬ nI i < nI (n 2) := nI_nlt (by omega) (by omega)
    rw [s68_6]
    simp only [s68_0, s68_1, s68_4, s68_5, s68_7, s68_8, s68_11, s68_14, s68_15, s68_18, s68_19, s68_20, s68_20n, s68_21, s68_22, s68_24, s68_25, s68_28, s68_31, s68_31n, s68_32, s68_32n, s68_35, s68_36, s68_36n, s68_37, s68_38, s68_41, s68_43, s68_44, s68_47, s68_48, s68_50, s68_51, s68_52, s68_53, s68_55, s68_56, s68_57, s68_60, s68_61, s68_63, s68_64, s68_65, s68_66, s68_67, s68_68, s68_70, s68_73, s68_74, s68_77, s68_80, s68_83, s68_86, R.o, tf2, XG_1, XO_some, XV_1, xo_n, xo_i8, xo_r8, xo_i7, xo_r7, xo_i6, xo_r6, xo_i5, xo_r5, xo_i4, xo_r4, xo_i3, xo_r3, xo_i2, xo_r2, Option.toList_some, Option.toList_none, List.cons_append, List.nil_append, bI_t, bI_f, bI_0, bI_n0, if_true, if_false, true_and, and_true, ne_eq, not_true_eq_false, not_false_eq_true, one_ne0, reduceCtorEq, hlt]
    exact K h s FR.refl R ⟨hs, fun i' d' h1 h2 => hw i' d' (by omega) h2⟩
  | succ k ih =>
    intro i h s c2 c3 c4 hi hD R hs hw K
    have hlt : nI i < nI (n 2) := nI_lt (by omega) (by omega)
    have h6 : i < 6 := by omega
    obtain ⟨a, kn, home, q1, q2, q3, q4, q5, q6, q7, q8, q9⟩ := thiefN R I (show i < n 2 by omega)
    rw [s68_6]
    simp only [s68_0, s68_1, s68_4, s68_5, s68_7, s68_8, s68_11, s68_14, s68_15, s68_18, s68_19, s68_20, s68_20n, s68_21, s68_22, s68_24, s68_25, s68_28, s68_31, s68_31n, s68_32, s68_32n, s68_35, s68_36, s68_36n, s68_37, s68_38, s68_41, s68_43, s68_44, s68_47, s68_48, s68_50, s68_51, s68_52, s68_53, s68_55, s68_56, s68_57, s68_60, s68_61, s68_63, s68_64, s68_65, s68_66, s68_67, s68_68, s68_70, s68_73, s68_74, s68_77, s68_80, s68_83, s68_86, R.o, R.ba, tf2, tf15, XG_1, XO_some, XV_1, xo_n, xo_i8, xo_r8, xo_i7, xo_r7, xo_i6, xo_r6, xo_i5, xo_r5, xo_i4, xo_r4, xo_i3, xo_r3, xo_i2, xo_r2, Option.toList_some, Option.toList_none, List.cons_append, List.nil_append, bI_t, bI_f, bI_0, bI_n0, if_true, if_false, true_and, and_true, ne_eq, not_true_eq_false, not_false_eq_true, one_ne0, reduceCtorEq, hlt, XQ6 h6, q1, va_rf_s]
    refine l_weigh1 I ht (by omega) q1 (n 1) 0 h s _ (by omega) hD R hs (fun i' d' hc => hw i' d' (by omega) (by omega)) fun h' s' c3 c4 F1 R1 hs1 hw1 => ?_
    exact ih (i + 1) h' s' _ _ _ (by omega) (by rw [F1.1]; exact hD) R1 hs1 hw1 fun h2 s2 F2 R2 w2 => K h2 s2 (F1.trans F2) R2 w2
theorem c_weigh (I : IV n T) (ht : t + 12 < Dy) (hD : Dy ≤ h.1) (R : RT Dy h.2.2.1 t n T p s) (K : ∀ h' s', FR Dy (Pw t) h h' → RT Dy h'.2.2.1 t n T p s' → wei n T s' → Q none h') : XC (d + 5) 68 [.ref t] h Q := by
  rw [e68]
  simp only [s68_0, s68_1, R.o, XG_1, XO_some, XV_1, xo_n, xo_i8, xo_r8, xo_i7, xo_r7, xo_i6, xo_r6, xo_i5, xo_r5, xo_i4, xo_r4, xo_i3, xo_r3, xo_i2, xo_r2, Option.toList_some, Option.toList_none, List.cons_append, List.nil_append, bI_t, bI_f, bI_0, bI_n0, if_true, if_false, true_and, and_true, ne_eq, not_true_eq_false, not_false_eq_true, one_ne0, reduceCtorEq]
  refine c_listen I ht hD R fun h1 s1 F1 R1 hs1 => ?_
  simp only [s68_4, s68_5, XG_1, XO_some, XV_1, xo_n, xo_i8, xo_r8, xo_i7, xo_r7, xo_i6, xo_r6, xo_i5, xo_r5, xo_i4, xo_r4, xo_i3, xo_r3, xo_i2, xo_r2, Option.toList_some, Option.toList_none, List.cons_append, List.nil_append, bI_t, bI_f, bI_0, bI_n0, if_true, if_false, true_and, and_true, ne_eq, not_true_eq_false, not_false_eq_true, one_ne0, reduceCtorEq]
  exact l_weigh I ht (n 2) 0 h1 s1 _ _ _ (by omega) (by rw [F1.1]; exact hD) R1 hs1 (fun i' d' hc => absurd hc (Nat.not_lt_zero i')) fun h2 s2 F2 R2 w2 => K h2 s2 (F1.trans F2) R2 w2
end TM4
