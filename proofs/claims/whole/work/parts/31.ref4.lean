/-! ===== 31: the reference: nights, wirings ===== -/
theorem fa3 (a b : Int32) : a < b ∨ a = b ∨ b < a := by
  rw [Int32.lt_iff_toInt_lt, Int32.lt_iff_toInt_lt, ← Int32.toInt_inj]
  omega
def hdb (n : Nat → Nat) (T : Nat → Nat → Int32) (sx : Int32) : Nat → Int32
  | 0 => 0
  | k + 1 => if rgs n T k &&& sx = 0 then hdb n T sx k else hdb n T sx k ||| xshl 1 (nI k)
section RR4
variable {Dy d : Nat} {h h1 : xH} {r : Nat} {m f w g : Nat → Int32} {n : Nat → Nat} {T : Nat → Nat → Int32} {Q : Option Value → xH → Prop} {x y z : Int32}
theorem l_rnight (I : IV n T) (hr : r + 20 < Dy) {q0 : Int32 × Int32 × Int32} : ∀ k i h f w g c2 c3, i + k = n 2 → Dy ≤ h.1 → RM h.2.2.1 r m f w g → MR n (setS T (ngt n T q0 i)) f → (∀ h' f' w' g', FR Dy (Pn r) h h' → RM h'.2.2.1 r m f' w' g' → MR n (setS T (ngt n T q0 (n 2))) f' → Q none h') → XE (d + 9) 176 2 [.val (.ref r), .val (.int (nI i)), c2, c3] [] h Q := by
  have hn := I.nn
  intro k
  induction k with
  | zero =>
    intro i h f w g c2 c3 hi hD R M K
    have hlt : ¬ nI i < nI (n 2) := nI_nlt (by omega) (by omega)
    rw [s176_2]
    simp only [s176_0, s176_1, s176_3, s176_4, s176_7, s176_8, s176_9, s176_12, s176_13, s176_14, s176_17, s176_18, s176_19, s176_22, s176_23, s176_26, s176_29, s176_30, s176_31, s176_32, s176_33, s176_36, s176_39, s176_40, s176_43, s176_44, s176_45, s176_46, s176_49, s176_50, s176_51, s176_52, s176_53, s176_56, s176_57, s176_58, s176_59, s176_62, s176_65, s176_66, s176_67, s176_68, s176_69, s176_72, s176_73, s176_74, s176_75, s176_76, s176_79, s176_80, s176_83, s176_84, s176_85, s176_86, s176_89, s176_92, R.1, R.2.1, mf0, A3, M.1.2.2.2.1, XG_1, XO_some, XV_1, xo_n, xo_i8, xo_r8, xo_i7, xo_r7, xo_i6, xo_r6, xo_i5, xo_r5, xo_i4, xo_r4, xo_i3, xo_r3, xo_i2, xo_r2, Option.toList_some, Option.toList_none, List.cons_append, List.nil_append, bI_t, bI_f, bI_0, bI_n0, if_true, if_false, true_and, and_true, ne_eq, not_true_eq_false, not_false_eq_true, one_ne0, reduceCtorEq, hlt]
    rw [show i = n 2 by omega] at M
    exact K h f w g FR.refl R M
  | succ k ih =>
    intro i h f w g c2 c3 hi hD R M K
    have hlt : nI i < nI (n 2) := nI_lt (by omega) (by omega)
    have hi2 : i < n 2 := by omega
    have hq : ngt n T q0 (i + 1) = nst n T i (ngt n T q0 i) := rfl
    have IH := ih (i + 1)
    rw [hq] at IH
    generalize ngt n T q0 i = qi at IH M
    obtain ⟨z0, tk, ct⟩ := qi
    have I' : IV n (setS T (z0, tk, ct)) := I
    rw [s176_2]
    simp only [s176_0, s176_1, s176_3, s176_4, s176_7, s176_8, s176_9, s176_12, s176_13, s176_14, R.1, R.2.1, mf0, A3, M.1.2.2.2.1, XG_1, XO_some, XV_1, xo_n, xo_i8, xo_r8, xo_i7, xo_r7, xo_i6, xo_r6, xo_i5, xo_r5, xo_i4, xo_r4, xo_i3, xo_r3, xo_i2, xo_r2, Option.toList_some, Option.toList_none, List.cons_append, List.nil_append, bI_t, bI_f, bI_0, bI_n0, if_true, if_false, true_and, and_true, ne_eq, not_true_eq_false, not_false_eq_true, one_ne0, reduceCtorEq, hlt]
    refine r_choiceOf R M I' hr hD hi2 fun h1 f1 w1 g1 F1 R1 M1 => ?_
    have hD1 : Dy ≤ h1.1 := by rw [F1.1]; exact hD
    rw [setS7] at M1
    rw [show chz n (setS T (z0, tk, ct)) i ((setS T (z0, tk, ct)) 0 7) = chz n T i z0 from rfl] at M1 ⊢
    have hcl : ∀ b, (chz n T i z0).1 = some b → b < n 1 := fun b e => chz_lt e
    unfold nst at IH
    dsimp only at IH
    generalize chz n T i z0 = cz at M1 hcl IH ⊢
    obtain ⟨o, z1⟩ := cz
    dsimp only at M1 hcl IH ⊢
    cases o with
    | none =>
      simp only [s176_0, s176_1, s176_3, s176_4, s176_7, s176_8, s176_9, s176_12, s176_13, s176_14, s176_17, s176_18, s176_19, s176_22, s176_23, s176_26, s176_29, s176_30, s176_31, s176_32, s176_33, s176_36, s176_39, s176_40, s176_43, s176_44, s176_45, s176_46, s176_49, s176_50, s176_51, s176_52, s176_53, s176_56, s176_57, s176_58, s176_59, s176_62, s176_65, s176_66, s176_67, s176_68, s176_69, s176_72, s176_73, s176_74, s176_75, s176_76, s176_79, s176_80, s176_83, s176_84, s176_85, s176_86, s176_89, s176_92, XG_1, XO_some, XV_1, xo_n, xo_i8, xo_r8, xo_i7, xo_r7, xo_i6, xo_r6, xo_i5, xo_r5, xo_i4, xo_r4, xo_i3, xo_r3, xo_i2, xo_r2, Option.toList_some, Option.toList_none, List.cons_append, List.nil_append, bI_t, bI_f, bI_0, bI_n0, if_true, if_false, true_and, and_true, ne_eq, not_true_eq_false, not_false_eq_true, one_ne0, reduceCtorEq, oI, show (-1 : Int32) < 0 by decide, if_true, nI_1]
      exact IH h1 f1 w1 g1 _ _ (by omega) hD1 R1 M1 (fun h' f' w' g' F' R' M' => K h' f' w' g' (F1.trans F') R' M')
    | some dd =>
      have hdd := hcl dd rfl
      have h12 : dd < 12 := by omega
      obtain ⟨R2, F2⟩ := R1.sf hr hD1 (f2 := upd f1 0 (drw z1))
      have M2 : MR n (setS T (drw z1, tk, ct)) (upd f1 0 (drw z1)) := by
        have := M1.dz (v := drw z1)
        rw [setS7] at this
        exact this
      have I2 : IV n (setS T (drw z1, tk, ct)) := I
      simp only [s176_17, s176_18, s176_19, s176_22, s176_23, R1.1, XG_1, XO_some, XV_1, xo_n, xo_i8, xo_r8, xo_i7, xo_r7, xo_i6, xo_r6, xo_i5, xo_r5, xo_i4, xo_r4, xo_i3, xo_r3, xo_i2, xo_r2, Option.toList_some, Option.toList_none, List.cons_append, List.nil_append, bI_t, bI_f, bI_0, bI_n0, if_true, if_false, true_and, and_true, ne_eq, not_true_eq_false, not_false_eq_true, one_ne0, reduceCtorEq, oI, nI_pos (show dd < 2 ^ 31 by omega), if_false]
      rw [r_draw R1 M1, show (setS T (z1, tk, ct)) 0 7 = z1 from rfl]
      simp only [s176_26, s176_29, s176_30, s176_31, s176_32, s176_33, R2.1, XG_1, XO_some, XV_1, xo_n, xo_i8, xo_r8, xo_i7, xo_r7, xo_i6, xo_r6, xo_i5, xo_r5, xo_i4, xo_r4, xo_i3, xo_r3, xo_i2, xo_r2, Option.toList_some, Option.toList_none, List.cons_append, List.nil_append, bI_t, bI_f, bI_0, bI_n0, if_true, if_false, true_and, and_true, ne_eq, not_true_eq_false, not_false_eq_true, one_ne0, reduceCtorEq, z10000]
      refine r_missedAt R2 M2 I2 hr hD1 hi2 hdd fun h3 w3 g3 F3 R3 => ?_
      have hD3 : Dy ≤ h3.1 := by rw [F3.1, F2.1]; exact hD1
      rw [show msT n (setS T (drw z1, tk, ct)) i dd = msT n T i dd from rfl]
      have fin : ∀ v5 v6 : Int32, RM (xset (xset h3 (r + 1) (.inl (0, xis 1482 (upd (upd f1 0 (drw z1)) 4 v5)))) (r + 1) (.inl (0, xis 1482 (upd (upd (upd f1 0 (drw z1)) 4 v5) 5 v6)))).2.2.1 r m (upd (upd (upd f1 0 (drw z1)) 4 v5) 5 v6) w3 g3 ∧ FR Dy (Pn r) h (xset (xset h3 (r + 1) (.inl (0, xis 1482 (upd (upd f1 0 (drw z1)) 4 v5)))) (r + 1) (.inl (0, xis 1482 (upd (upd (upd f1 0 (drw z1)) 4 v5) 5 v6)))) ∧ MR n (setS T (drw z1, v5, v6)) (upd (upd (upd f1 0 (drw z1)) 4 v5) 5 v6) := by
        intro v5 v6
        obtain ⟨R4, F4⟩ := R3.sf hr hD3 (f2 := upd (upd f1 0 (drw z1)) 4 v5)
        obtain ⟨R5, F5⟩ := R4.sf hr hD3 (f2 := upd (upd (upd f1 0 (drw z1)) 4 v5) 5 v6)
        have M5 := (M2.tk (v := v5)).ct (v := v6)
        rw [setS5, setS6] at M5
        exact ⟨R5, F1.trans (F2.trans ((frpn F3).trans (F4.trans F5))), M5⟩
      have e4 : (upd f1 0 (drw z1)) 4 = tk := M2.1.2.2.2.2.1
      have e5 : ∀ v, (upd (upd f1 0 (drw z1)) 4 v) 5 = ct := fun v => by rw [upd_ne (by decide)]; exact M2.1.2.2.2.2.2.1
      have rd : ∀ {d : Nat} {Q : Option Value → xH → Prop}, XC (d + 1) 140 [.ref r, .int (nI dd), .int 1] h3 Q ↔ Q (some (.int (T 5 dd))) h3 := fun {d Q} => r_door1 R3 M2 h12
      have x1 : ∀ e, (xset h3 (r + 1) e).2.2.1 r = .inr (12, modelF r m) := fun e => by rw [xset_ne (by omega)]; exact R3.1
      by_cases hc : drv z1 % 10000 < msT n T i dd
      · simp only [hc, if_true] at IH
        simp only [s176_0, s176_1, s176_3, s176_4, s176_7, s176_8, s176_9, s176_12, s176_13, s176_14, s176_17, s176_18, s176_19, s176_22, s176_23, s176_26, s176_29, s176_30, s176_31, s176_32, s176_33, s176_36, s176_39, s176_40, s176_43, s176_44, s176_45, s176_46, s176_49, s176_50, s176_51, s176_52, s176_53, s176_56, s176_57, s176_58, s176_59, s176_62, s176_65, s176_66, s176_67, s176_68, s176_69, s176_72, s176_73, s176_74, s176_75, s176_76, s176_79, s176_80, s176_83, s176_84, s176_85, s176_86, s176_89, s176_92, hc, R3.1, R3.2.1, x1, xset_self, mf0, XG_1, XO_some, XV_1, xo_n, xo_i8, xo_r8, xo_i7, xo_r7, xo_i6, xo_r6, xo_i5, xo_r5, xo_i4, xo_r4, xo_i3, xo_r3, xo_i2, xo_r2, Option.toList_some, Option.toList_none, List.cons_append, List.nil_append, bI_t, bI_f, bI_0, bI_n0, if_true, if_false, true_and, and_true, ne_eq, not_true_eq_false, not_false_eq_true, one_ne0, reduceCtorEq, A4, A5, S4, S5, rd, e4, e5, nI_1, one_ne0, Int32.add_zero]
        obtain ⟨R5, F5, M5⟩ := fin (tk + T 5 dd) ct
        refine IH _ _ w3 g3 _ _ (by omega) ?_ R5 M5 (fun h' f' w' g' F' R' M' => K h' f' w' g' (F5.trans F') R' M')
        exact hD3
      · simp only [hc, if_false] at IH
        simp only [s176_0, s176_1, s176_3, s176_4, s176_7, s176_8, s176_9, s176_12, s176_13, s176_14, s176_17, s176_18, s176_19, s176_22, s176_23, s176_26, s176_29, s176_30, s176_31, s176_32, s176_33, s176_36, s176_39, s176_40, s176_43, s176_44, s176_45, s176_46, s176_49, s176_50, s176_51, s176_52, s176_53, s176_56, s176_57, s176_58, s176_59, s176_62, s176_65, s176_66, s176_67, s176_68, s176_69, s176_72, s176_73, s176_74, s176_75, s176_76, s176_79, s176_80, s176_83, s176_84, s176_85, s176_86, s176_89, s176_92, hc, R3.1, R3.2.1, x1, xset_self, mf0, XG_1, XO_some, XV_1, xo_n, xo_i8, xo_r8, xo_i7, xo_r7, xo_i6, xo_r6, xo_i5, xo_r5, xo_i4, xo_r4, xo_i3, xo_r3, xo_i2, xo_r2, Option.toList_some, Option.toList_none, List.cons_append, List.nil_append, bI_t, bI_f, bI_0, bI_n0, if_true, if_false, true_and, and_true, ne_eq, not_true_eq_false, not_false_eq_true, one_ne0, reduceCtorEq, A4, A5, S4, S5, e4, e5, nI_1, Int32.add_zero]
        obtain ⟨R5, F5, M5⟩ := fin tk (ct + 1)
        refine IH _ _ w3 g3 _ _ (by omega) ?_ R5 M5 (fun h' f' w' g' F' R' M' => K h' f' w' g' (F5.trans F') R' M')
        exact hD3
theorem r_night (R : RM h.2.2.1 r m f w g) (I : IV n T) (hr : r + 20 < Dy) (hD : Dy ≤ h.1) {q : Int32 × Int32 × Int32} (M : MR n (setS T q) f) (K : ∀ h' f' w' g', FR Dy (Pn r) h h' → RM h'.2.2.1 r m f' w' g' → MR n (setS T (ngt n T q (n 2))) f' → Q none h') : XC (d + 10) 176 [.ref r] h Q := by
  rw [e176]
  simp only [s176_0, s176_1]
  exact l_rnight I hr (n 2) 0 h f w g _ _ (by omega) hD R M K
theorem lt_swap {x y : Int32} (h : x ≠ y) : (if x < y then x else y) = (if y < x then y else x) := by
  rcases fa3 x y with q | q | q
  · rw [if_pos q, if_neg (fun e => Int32.lt_irrefl (Int32.lt_trans q e))]
  · exact absurd q h
  · rw [if_pos q, if_neg (fun e => Int32.lt_irrefl (Int32.lt_trans q e))]
theorem r_lawW (R : RM h.2.2.1 r m f w g) (M : MR n T f) (I : IV n T) (hr : r + 20 < Dy) (hD : Dy ≤ h.1) {dd : Nat} (hd : dd < n 1) (hx : x = NONE ∨ ∃ j, j < n 0 ∧ x = nI j) (hy : y = NONE ∨ ∃ j, j < n 0 ∧ y = nI j) (K : ∀ h' w' g', FR Dy (Pf r) h h' → RM h'.2.2.1 r m f w' g' → Q (some (.int (bI (lwB n T dd x y)))) h') : XC (d + 3) 156 [.ref r, .int (nI dd), .int (benc x), .int (benc y)] h Q := by
  have hn := I.nn
  have h12 : dd < 12 := by omega
  have K0 := K h w g FR.refl R
  rw [e156]
  simp only [s156_0, s156_1, s156_2, s156_3, s156_6, s156_8, R.1, XG_1, XO_some, XV_1, xo_n, xo_i8, xo_r8, xo_i7, xo_r7, xo_i6, xo_r6, xo_i5, xo_r5, xo_i4, xo_r4, xo_i3, xo_r3, xo_i2, xo_r2, Option.toList_some, Option.toList_none, List.cons_append, List.nil_append, bI_t, bI_f, bI_0, bI_n0, if_true, if_false, true_and, and_true, ne_eq, not_true_eq_false, not_false_eq_true, one_ne0, reduceCtorEq, r_door0 R M h12]
  unfold lwB at K0 K
  rcases benc_neg hx (show n 0 < 2 ^ 31 by omega) with ⟨a1, a2, a3⟩ | ⟨i, hi, a1, a2, a3, a4⟩
  · simp only [a3, if_true, bI_f] at K0
    simp only [s156_9, s156_12, s156_13, s156_16, s156_17, s156_18, s156_21, s156_22, s156_24, s156_27, s156_28, s156_30, s156_33, s156_34, s156_35, s156_36, s156_39, s156_42, s156_43, s156_43t, s156_43b, a1, if_true]
    exact K0
  rcases benc_neg hy (show n 0 < 2 ^ 31 by omega) with ⟨b1, b2, b3⟩ | ⟨j, hj, b1, b2, b3, b4⟩
  · simp only [a4, b3, Bool.true_eq_false, if_true, if_false, bI_f] at K0
    simp only [s156_9, s156_12, s156_13, s156_16, s156_17, s156_18, s156_21, s156_22, s156_24, s156_27, s156_28, s156_30, s156_33, s156_34, s156_35, s156_36, s156_39, s156_42, s156_43, s156_43t, s156_43b, a2, b1, if_true, if_false]
    exact K0
  simp only [a4, b4, Bool.true_eq_false, if_false] at K0 K
  simp only [s156_9, s156_12, s156_13, s156_16, s156_17, s156_18, a2, b2, if_false]
  rw [a3, b3]
  rw [a1, b1] at K0 K
  by_cases hxy : nI i = nI j
  · simp only [hxy, if_true, bI_f] at K0
    simp only [hxy, if_true, s156_42, s156_43, s156_43t, s156_43b]
    exact K0
  simp only [hxy, if_false] at K0 K
  simp only [hxy, if_false, s156_21, s156_22, s156_24]
  by_cases h1 : nI i = T 4 dd
  · simp only [h1, if_true, bI_f] at K0
    simp only [h1, if_true, s156_42, s156_43, s156_43t, s156_43b]
    exact K0
  simp only [h1, if_false] at K0 K
  simp only [h1, if_false, s156_27, s156_28, s156_30]
  by_cases h2 : nI j = T 4 dd
  · simp only [h2, if_true, bI_f] at K0
    simp only [h2, if_true, s156_42, s156_43, s156_43t, s156_43b]
    exact K0
  simp only [h2, if_false] at K0 K
  simp only [h2, if_false, s156_33, s156_34, s156_35, s156_36, R.1, XG_1, XO_some, XV_1, xo_n, xo_i8, xo_r8, xo_i7, xo_r7, xo_i6, xo_r6, xo_i5, xo_r5, xo_i4, xo_r4, xo_i3, xo_r3, xo_i2, xo_r2, Option.toList_some, Option.toList_none, List.cons_append, List.nil_append, bI_t, bI_f, bI_0, bI_n0, if_true, if_false, true_and, and_true, ne_eq, not_true_eq_false, not_false_eq_true, one_ne0, reduceCtorEq, r_doAgree R M (show i < 10 by omega)]
  rw [nI_clamp (show i < 2 ^ 31 by omega), nI_clamp (show j < 2 ^ 31 by omega)] at K0 K
  simp only [s156_39, XG_1, XO_some, XV_1, xo_n, xo_i8, xo_r8, xo_i7, xo_r7, xo_i6, xo_r6, xo_i5, xo_r5, xo_i4, xo_r4, xo_i3, xo_r3, xo_i2, xo_r2, Option.toList_some, Option.toList_none, List.cons_append, List.nil_append, bI_t, bI_f, bI_0, bI_n0, if_true, if_false, true_and, and_true, ne_eq, not_true_eq_false, not_false_eq_true, one_ne0, reduceCtorEq]
  cases hag : agB (T 3) i j with
  | true =>
    simp only [hag, if_true, bI_f] at K0
    simp only [Bool.true_eq_false, if_false, s156_42, s156_43, s156_43t, s156_43b]
    exact K0
  | false =>
  simp only [hag, Bool.false_eq_true, if_false] at K
  have e1 : ∀ e, (xset h (r + 11) e).2.2.1 r = .inr (12, modelF r m) := fun e => by rw [xset_ne (by omega)]; exact R.1
  obtain ⟨R2, F2⟩ := R.sg hr hD (g2 := upd (upd (upd g 0 (if nI i < nI j then nI i else nI j)) 1 (if nI i < nI j then nI j else nI i)) 2 (T 4 dd))
  have go : XE (d + 2) 156 91 [.val (.ref r), .val (.int (nI dd)), .val (.int (nI i)), .val (.int (nI j)), .val (.int (T 4 dd)), .val (.int (oI (-1) (lst (T 10) 2 (n 3))))] [] (xset h (r + 11) (.inl (0, xis 4 (upd (upd (upd g 0 (if nI i < nI j then nI i else nI j)) 1 (if nI i < nI j then nI j else nI i)) 2 (T 4 dd))))) Q := by
    cases hl : lst (T 10) 2 (n 3) with
    | none =>
      have := K _ _ _ F2 R2
      rw [hl] at this
      simp only [s156_91, s156_93, s156_96, s156_97, s156_99, s156_102, s156_105, s156_106, s156_109, s156_110, s156_110t, s156_110b, oI, show (-1 : Int32) < 0 by decide, if_true]
      exact this
    | some k =>
      obtain ⟨hk, u, q1, q2, q3⟩ := lst_key I (ky := 2) (by decide) hl
      simp only [s156_91, s156_93, s156_96, s156_97, s156_99, R2.1, XG_1, XO_some, XV_1, xo_n, xo_i8, xo_r8, xo_i7, xo_r7, xo_i6, xo_r6, xo_i5, xo_r5, xo_i4, xo_r4, xo_i3, xo_r3, xo_i2, xo_r2, Option.toList_some, Option.toList_none, List.cons_append, List.nil_append, bI_t, bI_f, bI_0, bI_n0, if_true, if_false, true_and, and_true, ne_eq, not_true_eq_false, not_false_eq_true, one_ne0, reduceCtorEq, oI, nI_pos (show k < 2 ^ 31 by omega), if_false]
      refine r_works R2 M I hr (by rw [F2.1]; exact hD) hk q1 q2 q3 (by decide) (e := env4 (if nI j < nI i then nI j else nI i) (if nI i < nI j then nI j else nI i) (T 4 dd) 0) (fun j2 hj2 => ?_) fun h3 w3 F3 R3 => ?_
      · have hj4 : j2 < 3 := hj2
        rcases (show j2 = 0 ∨ j2 = 1 ∨ j2 = 2 by omega) with rfl | rfl | rfl
        · exact lt_swap hxy
        · rfl
        · rfl
      · have := K h3 _ _ (F2.trans F3) R3
        rw [hl] at this
        dsimp only at this
        simp only [s156_102, s156_105, s156_106, s156_109, s156_110, s156_110t, s156_110b, XG_1, XO_some, XV_1, xo_n, xo_i8, xo_r8, xo_i7, xo_r7, xo_i6, xo_r6, xo_i5, xo_r5, xo_i4, xo_r4, xo_i3, xo_r3, xo_i2, xo_r2, Option.toList_some, Option.toList_none, List.cons_append, List.nil_append, bI_t, bI_f, bI_0, bI_n0, if_true, if_false, true_and, and_true, ne_eq, not_true_eq_false, not_false_eq_true, one_ne0, reduceCtorEq]
        by_cases hz : evT T k (env4 (if nI j < nI i then nI j else nI i) (if nI i < nI j then nI j else nI i) (T 4 dd) 0) = 0
        · simp only [hz, if_true, decide_true, Bool.not_true, bI_f] at this ⊢; exact this
        · simp only [hz, if_false, decide_false, Bool.not_false, bI_t] at this ⊢; exact this
  simp only [if_true]
  simp only [s156_44, s156_45, s156_46, s156_49, s156_51, s156_52, s156_55, s156_56, s156_57, s156_58, s156_61, s156_62, s156_65, s156_66, s156_67, s156_68, s156_71, s156_72, s156_73, s156_74, s156_77, s156_78, s156_81, s156_82, s156_83, s156_84, s156_87, s156_88, s156_90, R.1, R.2.2.2, e1, xset_self, mf21, XG_1, XO_some, XV_1, xo_n, xo_i8, xo_r8, xo_i7, xo_r7, xo_i6, xo_r6, xo_i5, xo_r5, xo_i4, xo_r4, xo_i3, xo_r3, xo_i2, xo_r2, Option.toList_some, Option.toList_none, List.cons_append, List.nil_append, bI_t, bI_f, bI_0, bI_n0, if_true, if_false, true_and, and_true, ne_eq, not_true_eq_false, not_false_eq_true, one_ne0, reduceCtorEq, r_counts R M I, F0s, F1s, F2s, xset_twice]
  by_cases hc : nI i < nI j
  · simp only [hc, if_true] at go ⊢; exact go
  · simp only [hc, if_false] at go ⊢; exact go
theorem r_isLawful (R : RM h.2.2.1 r m f w g) (M : MR n T f) (I : IV n T) (hr : r + 20 < Dy) (hD : Dy ≤ h.1) {dd : Nat} (hd : dd < n 1) (K : ∀ h' w' g', FR Dy (Pf r) h h' → RM h'.2.2.1 r m f w' g' → Q (some (.int (bI (lwD n T dd)))) h') : XC (d + 4) 157 [.ref r, .int (nI dd)] h Q := by
  have hn := I.nn
  have h12 : dd < 12 := by omega
  have d3 : ∀ {d : Nat} {Q : Option Value → xH → Prop}, XC (d + 1) 140 [.ref r, .int (nI dd), .int 3] h Q ↔ Q (some (.int (benc (T 7 (2 * dd))))) h := fun {d Q} => r_doorb R M h12 (b := 0) (by decide)
  have d4 : ∀ {d : Nat} {Q : Option Value → xH → Prop}, XC (d + 1) 140 [.ref r, .int (nI dd), .int 4] h Q ↔ Q (some (.int (benc (T 7 (2 * dd + 1))))) h := fun {d Q} => r_doorb R M h12 (b := 1) (by decide)
  rw [e157]
  simp only [s157_0, s157_1, s157_2, s157_3, s157_4, s157_5, s157_8, s157_9, s157_10, s157_11, s157_14, R.1, XG_1, XO_some, XV_1, xo_n, xo_i8, xo_r8, xo_i7, xo_r7, xo_i6, xo_r6, xo_i5, xo_r5, xo_i4, xo_r4, xo_i3, xo_r3, xo_i2, xo_r2, Option.toList_some, Option.toList_none, List.cons_append, List.nil_append, bI_t, bI_f, bI_0, bI_n0, if_true, if_false, true_and, and_true, ne_eq, not_true_eq_false, not_false_eq_true, one_ne0, reduceCtorEq, d3, d4]
  refine r_lawW R M I hr hD hd (I.be _ (by omega)) (I.be _ (by omega)) fun h1 w1 g1 F1 R1 => ?_
  simp only [s157_17, s157_17t, s157_17b, XG_1, XO_some, XV_1, xo_n, xo_i8, xo_r8, xo_i7, xo_r7, xo_i6, xo_r6, xo_i5, xo_r5, xo_i4, xo_r4, xo_i3, xo_r3, xo_i2, xo_r2, Option.toList_some, Option.toList_none, List.cons_append, List.nil_append, bI_t, bI_f, bI_0, bI_n0, if_true, if_false, true_and, and_true, ne_eq, not_true_eq_false, not_false_eq_true, one_ne0, reduceCtorEq]
  exact K h1 w1 g1 F1 R1
theorem l_rhmu (M : MR n T f) (I : IV n T) (hr : r + 20 < Dy) : ∀ k i h w g, i + k = n 1 → Dy ≤ h.1 → RM h.2.2.1 r m f w g → (∀ h' w' g', FR Dy (Pf r) h h' → RM h'.2.2.1 r m f w' g' → Q (some (.int (hmu n T (n 1)))) h') → XE (d + 4) 181 4 [.val (.ref r), .val (.int (hmu n T i)), .val (.int (nI i))] [] h Q := by
  have hn := I.nn
  intro k
  induction k with
  | zero =>
    intro i h w g hi hD R K
    have hlt : ¬ nI i < nI (n 1) := nI_nlt (by omega) (by omega)
    rw [s181_4]
    simp only [s181_0, s181_1, s181_2, s181_3, s181_5, s181_6, s181_9, s181_10, s181_11, s181_14, s181_15, s181_16, s181_17, s181_20, s181_23, s181_24, s181_27, s181_28, s181_29, s181_30, s181_33, s181_36, s181_37, R.1, R.2.1, mf0, A2, M.1.2.2.1, XG_1, XO_some, XV_1, xo_n, xo_i8, xo_r8, xo_i7, xo_r7, xo_i6, xo_r6, xo_i5, xo_r5, xo_i4, xo_r4, xo_i3, xo_r3, xo_i2, xo_r2, Option.toList_some, Option.toList_none, List.cons_append, List.nil_append, bI_t, bI_f, bI_0, bI_n0, if_true, if_false, true_and, and_true, ne_eq, not_true_eq_false, not_false_eq_true, one_ne0, reduceCtorEq, hlt]
    rw [show i = n 1 by omega]
    exact K h w g FR.refl R
  | succ k ih =>
    intro i h w g hi hD R K
    have hlt : nI i < nI (n 1) := nI_lt (by omega) (by omega)
    rw [s181_4]
    simp only [s181_0, s181_1, s181_2, s181_3, s181_5, s181_6, s181_9, s181_10, s181_11, s181_14, s181_15, s181_16, s181_17, s181_20, s181_23, s181_24, s181_27, s181_28, s181_29, s181_30, s181_33, s181_36, s181_37, R.1, R.2.1, mf0, A2, M.1.2.2.1, XG_1, XO_some, XV_1, xo_n, xo_i8, xo_r8, xo_i7, xo_r7, xo_i6, xo_r6, xo_i5, xo_r5, xo_i4, xo_r4, xo_i3, xo_r3, xo_i2, xo_r2, Option.toList_some, Option.toList_none, List.cons_append, List.nil_append, bI_t, bI_f, bI_0, bI_n0, if_true, if_false, true_and, and_true, ne_eq, not_true_eq_false, not_false_eq_true, one_ne0, reduceCtorEq, hlt]
    refine r_isLawful R M I hr hD (by omega) fun h1 w1 g1 F1 R1 => ?_
    have ih1 := ih (i + 1) h1 w1 g1 (by omega) (by rw [F1.1]; exact hD) R1 (fun h' w' g' F' R' => K h' w' g' (F1.trans F') R')
    rw [show hmu n T (i + 1) = if lwD n T i = true then hmu n T i else hmu n T i + 1 from rfl] at ih1
    cases hw : lwD n T i with
    | true => rw [hw] at ih1; simp only [s181_0, s181_1, s181_2, s181_3, s181_5, s181_6, s181_9, s181_10, s181_11, s181_14, s181_15, s181_16, s181_17, s181_20, s181_23, s181_24, s181_27, s181_28, s181_29, s181_30, s181_33, s181_36, s181_37, XG_1, XO_some, XV_1, xo_n, xo_i8, xo_r8, xo_i7, xo_r7, xo_i6, xo_r6, xo_i5, xo_r5, xo_i4, xo_r4, xo_i3, xo_r3, xo_i2, xo_r2, Option.toList_some, Option.toList_none, List.cons_append, List.nil_append, bI_t, bI_f, bI_0, bI_n0, if_true, if_false, true_and, and_true, ne_eq, not_true_eq_false, not_false_eq_true, one_ne0, reduceCtorEq, nI_1, Bool.true_eq_false, Int32.add_zero]; exact ih1
    | false => rw [hw] at ih1; simp only [s181_0, s181_1, s181_2, s181_3, s181_5, s181_6, s181_9, s181_10, s181_11, s181_14, s181_15, s181_16, s181_17, s181_20, s181_23, s181_24, s181_27, s181_28, s181_29, s181_30, s181_33, s181_36, s181_37, XG_1, XO_some, XV_1, xo_n, xo_i8, xo_r8, xo_i7, xo_r7, xo_i6, xo_r6, xo_i5, xo_r5, xo_i4, xo_r4, xo_i3, xo_r3, xo_i2, xo_r2, Option.toList_some, Option.toList_none, List.cons_append, List.nil_append, bI_t, bI_f, bI_0, bI_n0, if_true, if_false, true_and, and_true, ne_eq, not_true_eq_false, not_false_eq_true, one_ne0, reduceCtorEq, nI_1]; exact ih1
theorem r_unlawMany (R : RM h.2.2.1 r m f w g) (M : MR n T f) (I : IV n T) (hr : r + 20 < Dy) (hD : Dy ≤ h.1) (K : ∀ h' w' g', FR Dy (Pf r) h h' → RM h'.2.2.1 r m f w' g' → Q (some (.int (hmu n T (n 1)))) h') : XC (d + 5) 181 [.ref r] h Q := by
  rw [e181]
  simp only [s181_0, s181_1, s181_2, s181_3]
  exact l_rhmu M I hr (n 1) 0 h w g (by omega) hD R K
theorem benc_nI {j : Nat} (h : j < 2 ^ 31) : benc (nI j) = nI j := by
  unfold benc
  rw [if_neg (by rw [nI_NONE h]; exact id)]
theorem l_rbpi (M : MR n T f) (I : IV n T) (hr : r + 20 < Dy) {dd pp : Nat} (hd : dd < n 1) (hp : pp < n 0) {a : Option Nat × Int32} (ha : ∀ v, a.1 = some v → v < 1000) : ∀ k j h w g c6, pp + 1 + j + k = n 0 → Dy ≤ h.1 → RM h.2.2.1 r m f w g → (∀ h' w' g' c5 c6, FR Dy (Pf r) h h' → RM h'.2.2.1 r m f w' g' → XE (d + 3) 179 7 [.val (.ref r), .val (.int (nI dd)), .val (.int (oI (-1) (bpi n T dd pp a (n 0 - (pp + 1))).1)), .val (.int (bpi n T dd pp a (n 0 - (pp + 1))).2), .val (.int (nI (pp + 1))), c5, c6] [] h' Q) → XE (d + 3) 179 24 [.val (.ref r), .val (.int (nI dd)), .val (.int (oI (-1) (bpi n T dd pp a j).1)), .val (.int (bpi n T dd pp a j).2), .val (.int (nI pp)), .val (.int (nI (pp + 1 + j))), c6] [] h Q := by
  have hn := I.nn
  intro k
  induction k with
  | zero =>
    intro j h w g c6 hi hD R K
    have hlt : ¬ nI (pp + 1 + j) < nI (n 0) := nI_nlt (by omega) (by omega)
    rw [s179_24]
    simp only [s179_0, s179_1, s179_2, s179_3, s179_4, s179_5, s179_9, s179_10, s179_13, s179_14, s179_15, s179_18, s179_20, s179_21, s179_22, s179_26, s179_27, s179_30, s179_31, s179_32, s179_35, s179_36, s179_38, s179_39, s179_40, s179_43, s179_44, s179_46, s179_47, s179_48, s179_51, s179_52, s179_54, s179_55, s179_58, s179_60, s179_61, s179_64, s179_65, s179_66, s179_68, s179_70, s179_73, s179_76, s179_78, s179_80, s179_81, s179_83, s179_84, s179_85, s179_87, s179_88, s179_91, s179_94, s179_97, s179_100, s179_101, R.1, R.2.1, mf0, A1, M.1.2.1, XG_1, XO_some, XV_1, xo_n, xo_i8, xo_r8, xo_i7, xo_r7, xo_i6, xo_r6, xo_i5, xo_r5, xo_i4, xo_r4, xo_i3, xo_r3, xo_i2, xo_r2, Option.toList_some, Option.toList_none, List.cons_append, List.nil_append, bI_t, bI_f, bI_0, bI_n0, if_true, if_false, true_and, and_true, ne_eq, not_true_eq_false, not_false_eq_true, one_ne0, reduceCtorEq, hlt, nI_1]
    rw [show j = n 0 - (pp + 1) by omega]
    exact K h w g _ _ FR.refl R
  | succ k ih =>
    intro j h w g c6 hi hD R K
    have hlt : nI (pp + 1 + j) < nI (n 0) := nI_lt (by omega) (by omega)
    have hb := bpi_lt (n := n) (T := T) (dd := dd) (show pp < 10 by omega) ha j (by omega)
    rw [s179_24]
    simp only [s179_0, s179_1, s179_2, s179_3, s179_4, s179_5, s179_9, s179_10, s179_13, s179_14, s179_15, s179_18, s179_20, s179_21, s179_22, s179_26, s179_27, s179_30, s179_31, s179_32, s179_35, s179_36, s179_38, s179_39, s179_40, s179_43, s179_44, s179_46, s179_47, s179_48, s179_51, s179_52, s179_54, s179_55, s179_58, s179_60, s179_61, R.1, R.2.1, mf0, A1, M.1.2.1, XG_1, XO_some, XV_1, xo_n, xo_i8, xo_r8, xo_i7, xo_r7, xo_i6, xo_r6, xo_i5, xo_r5, xo_i4, xo_r4, xo_i3, xo_r3, xo_i2, xo_r2, Option.toList_some, Option.toList_none, List.cons_append, List.nil_append, bI_t, bI_f, bI_0, bI_n0, if_true, if_false, true_and, and_true, ne_eq, not_true_eq_false, not_false_eq_true, one_ne0, reduceCtorEq, hlt, r_bells R M I (show pp < 2 ^ 31 by omega), r_bells R M I (show pp + 1 + j < 2 ^ 31 by omega)]
    have hs : bpi n T dd pp a (j + 1) = bps n T dd pp (pp + 1 + j) (bpi n T dd pp a j) := rfl
    have step : ∀ h1 w1 g1, FR Dy (Pf r) h h1 → RM h1.2.2.1 r m f w1 g1 → ∀ c6, XE (d + 3) 179 24 [.val (.ref r), .val (.int (nI dd)), .val (.int (oI (-1) (bps n T dd pp (pp + 1 + j) (bpi n T dd pp a j)).1)), .val (.int (bps n T dd pp (pp + 1 + j) (bpi n T dd pp a j)).2), .val (.int (nI pp)), .val (.int (nI (pp + 1 + j + 1))), c6] [] h1 Q := fun h1 w1 g1 F1 R1 c6 => by
      have := ih (j + 1) h1 w1 g1 c6 (by omega) (by rw [F1.1]; exact hD) R1 (fun h' w' g' c5 c6 F' R' => K h' w' g' c5 c6 (F1.trans F') R')
      rw [hs] at this
      exact this
    generalize bpi n T dd pp a j = b at step hb ⊢
    obtain ⟨o, l⟩ := b
    dsimp only at hb step ⊢
    rw [show ldc (T 7) (nI pp) (nI dd) (2 * n 1) + ldc (T 7) (nI (pp + 1 + j)) (nI dd) (2 * n 1) = lds n T dd pp (pp + 1 + j) from rfl]
    have take : (o = none ∨ lds n T dd pp (pp + 1 + j) < l) → XE (d + 3) 179 64 [.val (.ref r), .val (.int (nI dd)), .val (.int (oI (-1) o)), .val (.int l), .val (.int (nI pp)), .val (.int (nI (pp + 1 + j))), .val (.int (lds n T dd pp (pp + 1 + j)))] [] h Q := by
      intro hc
      have hl := r_lawW (d := d) (x := nI pp) (y := nI (pp + 1 + j)) R M I hr hD hd (Or.inr ⟨pp, hp, rfl⟩) (Or.inr ⟨pp + 1 + j, by omega, rfl⟩) (Q := fun v h' => XE (d + 3) 179 73 [.val (.ref r), .val (.int (nI dd)), .val (.int (oI (-1) o)), .val (.int l), .val (.int (nI pp)), .val (.int (nI (pp + 1 + j))), .val (.int (lds n T dd pp (pp + 1 + j)))] (v.toList ++ []) h' Q)
      rw [benc_nI (by omega), benc_nI (by omega)] at hl
      simp only [s179_64, s179_65, s179_66, s179_68, s179_70, R.1, XG_1, XO_some, XV_1, xo_n, xo_i8, xo_r8, xo_i7, xo_r7, xo_i6, xo_r6, xo_i5, xo_r5, xo_i4, xo_r4, xo_i3, xo_r3, xo_i2, xo_r2, Option.toList_some, Option.toList_none, List.cons_append, List.nil_append, bI_t, bI_f, bI_0, bI_n0, if_true, if_false, true_and, and_true, ne_eq, not_true_eq_false, not_false_eq_true, one_ne0, reduceCtorEq]
      refine hl fun h1 w1 g1 F1 R1 => ?_
      have st := step h1 w1 g1 F1 R1
      unfold bps at st
      cases hw : lwB n T dd (nI pp) (nI (pp + 1 + j)) with
      | true =>
        rw [hw, if_pos ⟨hc, rfl⟩] at st
        simp only [s179_0, s179_1, s179_2, s179_3, s179_4, s179_5, s179_9, s179_10, s179_13, s179_14, s179_15, s179_18, s179_20, s179_21, s179_22, s179_26, s179_27, s179_30, s179_31, s179_32, s179_35, s179_36, s179_38, s179_39, s179_40, s179_43, s179_44, s179_46, s179_47, s179_48, s179_51, s179_52, s179_54, s179_55, s179_58, s179_60, s179_61, s179_64, s179_65, s179_66, s179_68, s179_70, s179_73, s179_76, s179_78, s179_80, s179_81, s179_83, s179_84, s179_85, s179_87, s179_88, s179_91, s179_94, s179_97, s179_100, s179_101, XG_1, XO_some, XV_1, xo_n, xo_i8, xo_r8, xo_i7, xo_r7, xo_i6, xo_r6, xo_i5, xo_r5, xo_i4, xo_r4, xo_i3, xo_r3, xo_i2, xo_r2, Option.toList_some, Option.toList_none, List.cons_append, List.nil_append, bI_t, bI_f, bI_0, bI_n0, if_true, if_false, true_and, and_true, ne_eq, not_true_eq_false, not_false_eq_true, one_ne0, reduceCtorEq, nI_1, l100, nI_add, Bool.true_eq_false]
        exact st _
      | false =>
        rw [hw, if_neg (fun q => by cases q.2)] at st
        simp only [s179_0, s179_1, s179_2, s179_3, s179_4, s179_5, s179_9, s179_10, s179_13, s179_14, s179_15, s179_18, s179_20, s179_21, s179_22, s179_26, s179_27, s179_30, s179_31, s179_32, s179_35, s179_36, s179_38, s179_39, s179_40, s179_43, s179_44, s179_46, s179_47, s179_48, s179_51, s179_52, s179_54, s179_55, s179_58, s179_60, s179_61, s179_64, s179_65, s179_66, s179_68, s179_70, s179_73, s179_76, s179_78, s179_80, s179_81, s179_83, s179_84, s179_85, s179_87, s179_88, s179_91, s179_94, s179_97, s179_100, s179_101, XG_1, XO_some, XV_1, xo_n, xo_i8, xo_r8, xo_i7, xo_r7, xo_i6, xo_r6, xo_i5, xo_r5, xo_i4, xo_r4, xo_i3, xo_r3, xo_i2, xo_r2, Option.toList_some, Option.toList_none, List.cons_append, List.nil_append, bI_t, bI_f, bI_0, bI_n0, if_true, if_false, true_and, and_true, ne_eq, not_true_eq_false, not_false_eq_true, one_ne0, reduceCtorEq, nI_1]
        exact st _
    have skip : ¬ (o = none ∨ lds n T dd pp (pp + 1 + j) < l) → XE (d + 3) 179 88 [.val (.ref r), .val (.int (nI dd)), .val (.int (oI (-1) o)), .val (.int l), .val (.int (nI pp)), .val (.int (nI (pp + 1 + j))), .val (.int (lds n T dd pp (pp + 1 + j)))] [] h Q := by
      intro hc
      have st := step h w g FR.refl R
      unfold bps at st
      rw [if_neg (fun q => hc q.1)] at st
      simp only [s179_0, s179_1, s179_2, s179_3, s179_4, s179_5, s179_9, s179_10, s179_13, s179_14, s179_15, s179_18, s179_20, s179_21, s179_22, s179_26, s179_27, s179_30, s179_31, s179_32, s179_35, s179_36, s179_38, s179_39, s179_40, s179_43, s179_44, s179_46, s179_47, s179_48, s179_51, s179_52, s179_54, s179_55, s179_58, s179_60, s179_61, s179_64, s179_65, s179_66, s179_68, s179_70, s179_73, s179_76, s179_78, s179_80, s179_81, s179_83, s179_84, s179_85, s179_87, s179_88, s179_91, s179_94, s179_97, s179_100, s179_101, XG_1, XO_some, XV_1, xo_n, xo_i8, xo_r8, xo_i7, xo_r7, xo_i6, xo_r6, xo_i5, xo_r5, xo_i4, xo_r4, xo_i3, xo_r3, xo_i2, xo_r2, Option.toList_some, Option.toList_none, List.cons_append, List.nil_append, bI_t, bI_f, bI_0, bI_n0, if_true, if_false, true_and, and_true, ne_eq, not_true_eq_false, not_false_eq_true, one_ne0, reduceCtorEq, nI_1]
      exact st _
    cases o with
    | none =>
      simp only [oI, show (-1 : Int32) < 0 by decide, if_true]
      exact take (Or.inl rfl)
    | some v =>
      simp only [oI, nI_pos (show v < 2 ^ 31 by have := hb v rfl; omega), if_false]
      by_cases hc : lds n T dd pp (pp + 1 + j) < l
      · simp only [hc, if_true]
        exact take (Or.inr hc)
      · simp only [hc, if_false]
        exact skip (fun q => by rcases q with q | q; cases q; exact hc q)
theorem l_rbpo (M : MR n T f) (I : IV n T) (hr : r + 20 < Dy) {dd : Nat} (hd : dd < n 1) : ∀ k pp h w g c5 c6, pp + k = n 0 → Dy ≤ h.1 → RM h.2.2.1 r m f w g → (∀ h' w' g', FR Dy (Pf r) h h' → RM h'.2.2.1 r m f w' g' → Q (some (.int (oI (-1) (bpr n T dd)))) h') → XE (d + 3) 179 7 [.val (.ref r), .val (.int (nI dd)), .val (.int (oI (-1) (bpo n T dd pp).1)), .val (.int (bpo n T dd pp).2), .val (.int (nI pp)), c5, c6] [] h Q := by
  have hn := I.nn
  intro k
  induction k with
  | zero =>
    intro pp h w g c5 c6 hi hD R K
    have hlt : ¬ nI pp < nI (n 0) := nI_nlt (by omega) (by omega)
    rw [s179_7]
    simp only [s179_0, s179_1, s179_2, s179_3, s179_4, s179_5, s179_9, s179_10, s179_13, s179_14, s179_15, s179_18, s179_20, s179_21, s179_22, s179_26, s179_27, s179_30, s179_31, s179_32, s179_35, s179_36, s179_38, s179_39, s179_40, s179_43, s179_44, s179_46, s179_47, s179_48, s179_51, s179_52, s179_54, s179_55, s179_58, s179_60, s179_61, s179_64, s179_65, s179_66, s179_68, s179_70, s179_73, s179_76, s179_78, s179_80, s179_81, s179_83, s179_84, s179_85, s179_87, s179_88, s179_91, s179_94, s179_97, s179_100, s179_101, R.1, R.2.1, mf0, A1, M.1.2.1, XG_1, XO_some, XV_1, xo_n, xo_i8, xo_r8, xo_i7, xo_r7, xo_i6, xo_r6, xo_i5, xo_r5, xo_i4, xo_r4, xo_i3, xo_r3, xo_i2, xo_r2, Option.toList_some, Option.toList_none, List.cons_append, List.nil_append, bI_t, bI_f, bI_0, bI_n0, if_true, if_false, true_and, and_true, ne_eq, not_true_eq_false, not_false_eq_true, one_ne0, reduceCtorEq, hlt]
    rw [show pp = n 0 by omega]
    exact K h w g FR.refl R
  | succ k ih =>
    intro pp h w g c5 c6 hi hD R K
    have hlt : nI pp < nI (n 0) := nI_lt (by omega) (by omega)
    rw [s179_7]
    simp only [s179_0, s179_1, s179_2, s179_3, s179_4, s179_5, s179_9, s179_10, s179_13, s179_14, s179_15, s179_18, s179_20, s179_21, s179_22, s179_26, s179_27, s179_30, s179_31, s179_32, s179_35, s179_36, s179_38, s179_39, s179_40, s179_43, s179_44, s179_46, s179_47, s179_48, s179_51, s179_52, s179_54, s179_55, s179_58, s179_60, s179_61, s179_64, s179_65, s179_66, s179_68, s179_70, s179_73, s179_76, s179_78, s179_80, s179_81, s179_83, s179_84, s179_85, s179_87, s179_88, s179_91, s179_94, s179_97, s179_100, s179_101, R.1, R.2.1, mf0, A1, M.1.2.1, XG_1, XO_some, XV_1, xo_n, xo_i8, xo_r8, xo_i7, xo_r7, xo_i6, xo_r6, xo_i5, xo_r5, xo_i4, xo_r4, xo_i3, xo_r3, xo_i2, xo_r2, Option.toList_some, Option.toList_none, List.cons_append, List.nil_append, bI_t, bI_f, bI_0, bI_n0, if_true, if_false, true_and, and_true, ne_eq, not_true_eq_false, not_false_eq_true, one_ne0, reduceCtorEq, hlt, nI_1]
    refine l_rbpi M I hr hd (by omega) (bpo_lt hn.1 pp (by omega)) (n 0 - (pp + 1)) 0 h w g _ (by omega) hD R fun h1 w1 g1 c5 c6 F1 R1 => ?_
    exact ih (pp + 1) h1 w1 g1 c5 c6 (by omega) (by rw [F1.1]; exact hD) R1 (fun h' w' g' F' R' => K h' w' g' (F1.trans F') R')
theorem r_pairOf (R : RM h.2.2.1 r m f w g) (M : MR n T f) (I : IV n T) (hr : r + 20 < Dy) (hD : Dy ≤ h.1) {dd : Nat} (hd : dd < n 1) (K : ∀ h' w' g', FR Dy (Pf r) h h' → RM h'.2.2.1 r m f w' g' → Q (some (.int (oI (-1) (bpr n T dd)))) h') : XC (d + 4) 179 [.ref r, .int (nI dd)] h Q := by
  rw [e179]
  simp only [s179_0, s179_1, s179_2, s179_3, s179_4, s179_5]
  exact l_rbpo M I hr hd (n 0) 0 h w g _ _ (by omega) hD R K
theorem r_setOf (R : RM h.2.2.1 r m f w g) (M : MR n T f) (I : IV n T) {dd : Nat} (hd : dd < n 1) : XC (d + 2) 185 [.ref r, .int (nI dd)] h Q ↔ Q (some (.int (rgs n T dd))) h := by
  have hn := I.nn
  have h12 : dd < 12 := by omega
  have step : ∀ (b : Nat) (acc : Int32), b < 2 → (XE (d + 1) 185 4 [.val (.ref r), .val (.int (nI dd)), .val (.int acc), .val (.int (nI b))] [] h Q ↔ XE (d + 1) 185 4 [.val (.ref r), .val (.int (nI dd)), .val (.int (orb n T (2 * dd + b) acc)), .val (.int (nI (b + 1)))] [] h Q) := by
    intro b acc hb
    have hlt : nI b < 2 := nI_lt (b := 2) hb (by decide)
    rw [s185_4]
    simp only [s185_0, s185_1, s185_2, s185_3, s185_5, s185_6, s185_9, s185_10, s185_11, s185_12, s185_13, s185_14, s185_15, s185_18, s185_21, s185_22, s185_25, s185_26, s185_27, s185_28, s185_29, s185_30, s185_31, s185_34, s185_35, s185_36, s185_37, s185_40, s185_43, s185_44, R.1, XG_1, XO_some, XV_1, xo_n, xo_i8, xo_r8, xo_i7, xo_r7, xo_i6, xo_r6, xo_i5, xo_r5, xo_i4, xo_r4, xo_i3, xo_r3, xo_i2, xo_r2, Option.toList_some, Option.toList_none, List.cons_append, List.nil_append, bI_t, bI_f, bI_0, bI_n0, if_true, if_false, true_and, and_true, ne_eq, not_true_eq_false, not_false_eq_true, one_ne0, reduceCtorEq, hlt, i3, r_doorb R M h12 hb]
    unfold orb
    rcases benc_neg (I.be (2 * dd + b) (by omega)) (show n 0 < 2 ^ 31 by omega) with ⟨q1, q2, q3⟩ | ⟨j, hj, q1, q2, q3, q4⟩
    · simp only [q1, if_true, nI_1, q3, Bool.false_eq_true, if_false, Int32.or_zero]
    · simp only [q2, if_false, nI_1, q4, if_true]
      rw [q3, q1]
  rw [e185]
  simp only [s185_0, s185_1, s185_2, s185_3]
  refine (step 0 0 (by decide)).trans ?_
  refine (step 1 _ (by decide)).trans ?_
  rw [s185_4]
  simp only [s185_0, s185_1, s185_2, s185_3, s185_5, s185_6, s185_9, s185_10, s185_11, s185_12, s185_13, s185_14, s185_15, s185_18, s185_21, s185_22, s185_25, s185_26, s185_27, s185_28, s185_29, s185_30, s185_31, s185_34, s185_35, s185_36, s185_37, s185_40, s185_43, s185_44, XG_1, XO_some, XV_1, xo_n, xo_i8, xo_r8, xo_i7, xo_r7, xo_i6, xo_r6, xo_i5, xo_r5, xo_i4, xo_r4, xo_i3, xo_r3, xo_i2, xo_r2, Option.toList_some, Option.toList_none, List.cons_append, List.nil_append, bI_t, bI_f, bI_0, bI_n0, if_true, if_false, true_and, and_true, ne_eq, not_true_eq_false, not_false_eq_true, one_ne0, reduceCtorEq, show ¬ nI (1 + 1) < 2 by decide]
  rfl
theorem l_heardBy (R : RM h.2.2.1 r m f w g) (M : MR n T f) (I : IV n T) : ∀ k i, i + k = n 1 → (XE (d + 2) 186 4 [.val (.ref r), .val (.int x), .val (.int (hdb n T x i)), .val (.int (nI i))] [] h Q ↔ Q (some (.int (hdb n T x (n 1)))) h) := by
  have hn := I.nn
  intro k
  induction k with
  | zero =>
    intro i hi
    have hlt : ¬ nI i < nI (n 1) := nI_nlt (by omega) (by omega)
    rw [s186_4]
    simp only [s186_0, s186_1, s186_2, s186_3, s186_5, s186_6, s186_9, s186_10, s186_11, s186_14, s186_15, s186_16, s186_17, s186_20, s186_21, s186_22, s186_25, s186_26, s186_27, s186_28, s186_31, s186_32, s186_33, s186_34, s186_37, s186_40, s186_41, R.1, R.2.1, mf0, A2, M.1.2.2.1, XG_1, XO_some, XV_1, xo_n, xo_i8, xo_r8, xo_i7, xo_r7, xo_i6, xo_r6, xo_i5, xo_r5, xo_i4, xo_r4, xo_i3, xo_r3, xo_i2, xo_r2, Option.toList_some, Option.toList_none, List.cons_append, List.nil_append, bI_t, bI_f, bI_0, bI_n0, if_true, if_false, true_and, and_true, ne_eq, not_true_eq_false, not_false_eq_true, one_ne0, reduceCtorEq, hlt]
    rw [show i = n 1 by omega]
  | succ k ih =>
    intro i hi
    have hlt : nI i < nI (n 1) := nI_lt (by omega) (by omega)
    have ih1 := ih (i + 1) (by omega)
    rw [show hdb n T x (i + 1) = if rgs n T i &&& x = 0 then hdb n T x i else hdb n T x i ||| xshl 1 (nI i) from rfl] at ih1
    rw [s186_4]
    simp only [s186_0, s186_1, s186_2, s186_3, s186_5, s186_6, s186_9, s186_10, s186_11, s186_14, s186_15, s186_16, s186_17, s186_20, s186_21, s186_22, s186_25, s186_26, s186_27, s186_28, s186_31, s186_32, s186_33, s186_34, s186_37, s186_40, s186_41, R.1, R.2.1, mf0, A2, M.1.2.2.1, XG_1, XO_some, XV_1, xo_n, xo_i8, xo_r8, xo_i7, xo_r7, xo_i6, xo_r6, xo_i5, xo_r5, xo_i4, xo_r4, xo_i3, xo_r3, xo_i2, xo_r2, Option.toList_some, Option.toList_none, List.cons_append, List.nil_append, bI_t, bI_f, bI_0, bI_n0, if_true, if_false, true_and, and_true, ne_eq, not_true_eq_false, not_false_eq_true, one_ne0, reduceCtorEq, hlt, r_setOf R M I (show i < n 1 by omega), nI_1]
    by_cases hc : rgs n T i &&& x = 0
    · simp only [hc, if_true, Int32.or_zero] at ih1 ⊢; exact ih1
    · simp only [hc, if_false] at ih1 ⊢; exact ih1
theorem r_heardBy (R : RM h.2.2.1 r m f w g) (M : MR n T f) (I : IV n T) : XC (d + 3) 186 [.ref r, .int x] h Q ↔ Q (some (.int (hdb n T x (n 1)))) h := by
  rw [e186]
  simp only [s186_0, s186_1, s186_2, s186_3]
  exact l_heardBy R M I (n 1) 0 (by omega)
end RR4
