/-! ===== 85: the reference's text as a whole ===== -/
section RT3
variable {r d z : Nat} {h : xH} {Q : Option Value → xH → Prop} {m bb : Nat → Int32} {a b c e f g i j l v x en : Int32} {C W T : Nat → Int32} {P : va_E → Prop}
theorem mp_5 : XP [12] 5 (.int v) (.inr (12, modG r m a b c e f g i j l)) P ↔ P (.inr (12, modG r (upd m 5 v) a b c e f g i j l)) := by
  refine (XP_1 (fs := modG r m a b c e f g i j l) (by show 5 < 32; decide)).trans ?_
  rw [show (modG r m a b c e f g i j l).set 5 (.int v) = modG r (upd m 5 v) a b c e f g i j l by simp [modG, upd]]
theorem r_takesE (R : RTa h r z m bb) {ky p : Nat} (hk : ky < 3) (h3 : 3 ≤ p) (hp : p ≤ z) (En : ENI bb p en) (K1 : ∀ q, prs bb z ky (z + 1) p [] [] 0 true = (none, q) → ∀ a c e f i j l C W T, Q (some (.int 0)) (MS h r m a (nI q) c e f (nI ky) i j l C W T)) (K2 : ∀ W2 C2 A2 q, prs bb z ky (z + 1) p [] [] 0 true = (some (W2, C2, A2), q) → ∀ a b c e f l C W T, SRe id C (stl 0 W2 C2).2 → Q (some (.int 1)) (MS h r m a b c e f (nI ky) (nI (stl 0 W2 C2).2.length) (nI A2) l C W T)) : XC (d + 11) 202 [.ref r] (MS h r m (nI (tn bb z p)) (nI (tf bb z p)) (nI (tkv bb z p)) (vlv bb z p e) (env bb z p en) (nI ky) i j l C W T) Q := by
  have zz : ∀ {F : va_E → Prop}, XS 1 (.inl (1, xis 10 T)) 0 0 F ↔ F (.inl (1, xis 10 (upd T 0 0))) := fun {F} => XS10b (k := 0) (by decide) (Or.inl rfl)
  rw [e202]
  simp only [s202_0, s202_1, s202_2, s202_3, s202_4, s202_5, s202_6, s202_7, s202_8, s202_11, s202_12, s202_13, s202_16, s202_17, s202_18, s202_21, s202_22, s202_25, s202_26, s202_27, xset_self, mg_19, mp_15, mp_16, mp_18, xset_twice, u_9, zz, u_w9, XG_1, XO_some, XV_1, xo_n, xo_i8, xo_r8, xo_i7, xo_r7, xo_i6, xo_r6, xo_i5, xo_r5, xo_i4, xo_r4, xo_i3, xo_r3, xo_i2, xo_r2, Option.toList_some, Option.toList_none, List.cons_append, List.nil_append, bI_t, bI_f, bI_0, bI_n0, if_true, if_false, true_and, and_true, ne_eq, not_true_eq_false, not_false_eq_true, one_ne0, reduceCtorEq]
  exact l_takesE R hk (z + 1) p [] [] 0 true C W (upd T 0 0) e en .unset (by omega) (pi_0 h3 hp) trivial trivial En (by show upd T 0 0 0 = _; rw [upd_at]; rfl) trivial K1 K2
theorem l_text (R : RTa h r z m bb) (Ky : RKy h r) {c1 c2 c3 : Slot} (K1 : ∀ q, (kyv bb (ts bb z 0) (tf bb z 0) (tn bb z 0) = -1000000005 ∧ q = tf bb z 0 ∨ ∃ ky, ky < 3 ∧ kyv bb (ts bb z 0) (tf bb z 0) (tn bb z 0) = nI ky ∧ prs bb z ky (z + 1) (tn bb z 0) [] [] 0 true = (none, q)) → ∀ a c e f g i j l C W T, Q (some (.int (-100 - nI q))) (MS h r (upd m 5 0) a (nI q) c e f g i j l C W T)) (K2 : ∀ ky, ky < 3 → kyv bb (ts bb z 0) (tf bb z 0) (tn bb z 0) = nI ky → ∀ W2 C2 A2 q, prs bb z ky (z + 1) (tn bb z 0) [] [] 0 true = (some (W2, C2, A2), q) → ∀ a b c e f l C W T, SRe id C (stl 0 W2 C2).2 → XE (d + 11) 204 51 [.val (.ref r), .val (.int 1), c2, c3] [] (MS h r (upd m 5 0) a b c e f (nI ky) (nI (stl 0 W2 C2).2.length) (nI A2) l C W T) Q) : XE (d + 11) 204 0 [.val (.ref r), c1, c2, c3] [] (MS h r m a b c e f g i j l C W T) Q := by
  have hl := tn_le (b := bb) (z := z) (p := 0) (by omega)
  have hz := R.2.1
  have E0 : ENI bb 0 (-1) := eni_0
  simp only [s204_0, s204_1, s204_2, s204_5, s204_6, s204_7, s204_10, s204_11, xset_self, mp_6, mp_10, xset_twice, XG_1, XO_some, XV_1, xo_n, xo_i8, xo_r8, xo_i7, xo_r7, xo_i6, xo_r6, xo_i5, xo_r5, xo_i4, xo_r4, xo_i3, xo_r3, xo_i2, xo_r2, Option.toList_some, Option.toList_none, List.cons_append, List.nil_append, bI_t, bI_f, bI_0, bI_n0, if_true, if_false, true_and, and_true, ne_eq, not_true_eq_false, not_false_eq_true, one_ne0, reduceCtorEq]
  refine (r_go (p := 0) R (by omega) E0).mpr ?_
  simp only [s204_14, s204_15, xset_self, XG_1, XO_some, XV_1, xo_n, xo_i8, xo_r8, xo_i7, xo_r7, xo_i6, xo_r6, xo_i5, xo_r5, xo_i4, xo_r4, xo_i3, xo_r3, xo_i2, xo_r2, Option.toList_some, Option.toList_none, List.cons_append, List.nil_append, bI_t, bI_f, bI_0, bI_n0, if_true, if_false, true_and, and_true, ne_eq, not_true_eq_false, not_false_eq_true, one_ne0, reduceCtorEq]
  have E1 : ENI bb (tn bb z 0) (env bb z 0 (-1)) ∨ ts bb z 0 = 0 := by
    by_cases q : ts bb z 0 = 0
    · exact Or.inr q
    · exact Or.inl (eni_go (by omega) hz E0 q)
  have bad : ∀ q, (kyv bb (ts bb z 0) (tf bb z 0) (tn bb z 0) = -1000000005 ∧ q = tf bb z 0 ∨ ∃ ky, ky < 3 ∧ kyv bb (ts bb z 0) (tf bb z 0) (tn bb z 0) = nI ky ∧ prs bb z ky (z + 1) (tn bb z 0) [] [] 0 true = (none, q)) → ∀ c1 a c e f g i j l C W T, XE (d + 11) 204 32 [.val (.ref r), c1, c2, c3] [] (MS h r m a (nI q) c e f g i j l C W T) Q := fun q hq c1 a c e f g i j l C W T => by
    simp only [s204_32, s204_33, s204_34, s204_35, s204_36, s204_39, s204_40, s204_43, s204_45, s204_46, s204_49, s204_50, xset_self, mp_5, mg_7, xset_twice, XG_1, XO_some, XV_1, xo_n, xo_i8, xo_r8, xo_i7, xo_r7, xo_i6, xo_r6, xo_i5, xo_r5, xo_i4, xo_r4, xo_i3, xo_r3, xo_i2, xo_r2, Option.toList_some, Option.toList_none, List.cons_append, List.nil_append, bI_t, bI_f, bI_0, bI_n0, if_true, if_false, true_and, and_true, ne_eq, not_true_eq_false, not_false_eq_true, one_ne0, reduceCtorEq]
    exact K1 q hq _ _ _ _ _ _ _ _ _ _ _
  rcases kyv_c (b := bb) (st := ts bb z 0) (fr := tf bb z 0) (to := tn bb z 0) with e0 | ⟨ky, hk, e1, e2, e3⟩
  · rcases E1 with E1 | E1
    · refine r_takesKey R Ky E1 (fun _ => ?_) (fun ky hk q => ?_)
      · simp only [s204_18, XG_1, XO_some, XV_1, xo_n, xo_i8, xo_r8, xo_i7, xo_r7, xo_i6, xo_r6, xo_i5, xo_r5, xo_i4, xo_r4, xo_i3, xo_r3, xo_i2, xo_r2, Option.toList_some, Option.toList_none, List.cons_append, List.nil_append, bI_t, bI_f, bI_0, bI_n0, if_true, if_false, true_and, and_true, ne_eq, not_true_eq_false, not_false_eq_true, one_ne0, reduceCtorEq]
        exact bad _ (Or.inl ⟨e0, rfl⟩) _ _ _ _ _ _ _ _ _ _ _ _
      · exfalso
        rw [e0] at q
        rcases (show ky = 0 ∨ ky = 1 ∨ ky = 2 by omega) with rfl | rfl | rfl <;> revert q <;> decide
    · have t1 : ¬ nI (tkv bb z 0) = 1 := by rw [tkv_z.mpr E1]; decide
      rw [e196]
      simp only [s196_0, s196_1, s196_4, s196_5, s196_8, s196_9, s196_9t, s196_9b, xset_self, mg_8, t1, s204_18, XG_1, XO_some, XV_1, xo_n, xo_i8, xo_r8, xo_i7, xo_r7, xo_i6, xo_r6, xo_i5, xo_r5, xo_i4, xo_r4, xo_i3, xo_r3, xo_i2, xo_r2, Option.toList_some, Option.toList_none, List.cons_append, List.nil_append, bI_t, bI_f, bI_0, bI_n0, if_true, if_false, true_and, and_true, ne_eq, not_true_eq_false, not_false_eq_true, one_ne0, reduceCtorEq]
      exact bad _ (Or.inl ⟨e0, rfl⟩) _ _ _ _ _ _ _ _ _ _ _ _
  · have hn0 : ¬ ts bb z 0 = 0 := by rw [e2]; decide
    have E1' : ENI bb (tn bb z 0) (env bb z 0 (-1)) := eni_go (by omega) hz E0 hn0
    have h3 : 3 ≤ tn bb z 0 := by
      have : 3 ≤ sle ky := by rcases (show ky = 0 ∨ ky = 1 ∨ ky = 2 by omega) with rfl | rfl | rfl <;> decide
      omega
    refine r_takesKey R Ky E1' (fun q => ?_) (fun ky2 hk2 q => ?_)
    · exfalso
      rw [e1] at q
      rcases (show ky = 0 ∨ ky = 1 ∨ ky = 2 by omega) with rfl | rfl | rfl <;> revert q <;> decide
    · have ek : ky2 = ky := by
        rw [e1] at q
        exact ((nI_eq (by omega) (by omega)).mp q).symm
      subst ek
      simp only [s204_18, s204_21, s204_22, one_ne0, xset_self, XG_1, XO_some, XV_1, xo_n, xo_i8, xo_r8, xo_i7, xo_r7, xo_i6, xo_r6, xo_i5, xo_r5, xo_i4, xo_r4, xo_i3, xo_r3, xo_i2, xo_r2, Option.toList_some, Option.toList_none, List.cons_append, List.nil_append, bI_t, bI_f, bI_0, bI_n0, if_true, if_false, true_and, and_true, ne_eq, not_true_eq_false, not_false_eq_true, one_ne0, reduceCtorEq]
      refine r_takesE R hk h3 hl E1' (fun q2 w a c e f i j l C W T => ?_) (fun W2 C2 A2 q2 w a b c e f l C W T hC => ?_)
      · simp only [s204_25, XG_1, XO_some, XV_1, xo_n, xo_i8, xo_r8, xo_i7, xo_r7, xo_i6, xo_r6, xo_i5, xo_r5, xo_i4, xo_r4, xo_i3, xo_r3, xo_i2, xo_r2, Option.toList_some, Option.toList_none, List.cons_append, List.nil_append, bI_t, bI_f, bI_0, bI_n0, if_true, if_false, true_and, and_true, ne_eq, not_true_eq_false, not_false_eq_true, one_ne0, reduceCtorEq]
        exact bad q2 (Or.inr ⟨ky2, hk, e1, w⟩) _ _ _ _ _ _ _ _ _ _ _ _
      · simp only [s204_25, s204_28, s204_29, s204_32, s204_33, s204_34, s204_35, s204_36, s204_39, s204_40, one_ne0, xset_self, mp_5, xset_twice, XG_1, XO_some, XV_1, xo_n, xo_i8, xo_r8, xo_i7, xo_r7, xo_i6, xo_r6, xo_i5, xo_r5, xo_i4, xo_r4, xo_i3, xo_r3, xo_i2, xo_r2, Option.toList_some, Option.toList_none, List.cons_append, List.nil_append, bI_t, bI_f, bI_0, bI_n0, if_true, if_false, true_and, and_true, ne_eq, not_true_eq_false, not_false_eq_true, one_ne0, reduceCtorEq]
        exact K2 ky2 hk e1 W2 C2 A2 q2 w _ _ _ _ _ _ _ _ _ hC
end RT3
