/-! ===== 38: nights, unlawful, heard, alike ===== -/
theorem sh_heard {x : Int32} {q : Nat} (hq : q ≤ 10) (hx : ¬ x < 0) : wiB x 0 (xshl 1 (nI q) - 1) = decide (xshr x (nI q) = 0) := by
  obtain ⟨k, hk, rfl⟩ : ∃ k, k < 2 ^ 31 ∧ x = nI k := by
    refine ⟨x.toInt.toNat, ?_, ?_⟩
    · have := x.toInt_lt; omega
    · have h0 : (0 : Int32).toInt = 0 := rfl
      rw [Int32.lt_iff_toInt_lt, h0] at hx
      have := x.toInt_lt
      rw [← Int32.toInt_inj, nI_toInt (by omega)]
      omega
  have hp : 2 ^ q ≤ 1024 := Nat.pow_le_pow_right (n := 2) (by decide) hq
  have hp0 : 0 < 2 ^ q := Nat.two_pow_pos q
  have e : xshr (nI k) (nI q) = nI (k / 2 ^ q) := by unfold xshr; exact pk_shrN hk _ q (shq q hq)
  rw [e, shl1 q hq, show nI (2 ^ q) - 1 = nI (2 ^ q - 1) from pk_sub (b := 1) (by omega)]
  unfold wiB
  rw [decide_eq_true hx, Bool.true_and]
  refine decide_eq_decide.mpr ?_
  have h1 : k / 2 ^ q ≤ k := Nat.div_le_self _ _
  rw [show (0 : Int32) = nI 0 from rfl, nI_eq (by omega) (by decide)]
  constructor
  · intro h1
    by_cases h2 : k < 2 ^ q
    · exact Nat.div_eq_of_lt h2
    · exact absurd (nI_lt (by omega) hk) h1
  · intro h1
    refine nI_nlt ?_ (by omega)
    have := Nat.lt_of_div_eq_zero hp0 h1
    omega
section PUB6
variable {Dy d b t r : Nat} {h : xH} {n : Nat → Nat} {T : Nat → Nat → Int32} {p : Nat → Nat → Option Nat} {s : Nat → Nat → Int32} {Q : Option Value → xH → Prop} {x y z : Int32} {m f w g : Nat → Int32}
theorem l_nights (I : IV n T) (ht : t + 12 < Dy) (W : wei n T s) (hD : Dy ≤ h.1) (R0 : RT Dy h.2.2.1 t n T p s) (hbt : b < t) {l : List Value} (hO : h.2.2.1 b = .inr (11, .ref t :: l)) {q0 : Int32 × Int32 × Int32} {kk : Nat} (hkk : kk ≤ 60) : ∀ k i, i + k = kk → (XE (d + 11) 95 22 [.val (.ref b), .val (.int (nI kk)), .val (.int (nI i))] [] (xset h t (.inr (10, townF t n (setS T (ngs n T q0 i))))) Q ↔ Q (some (.int (ngs n T q0 kk).2.1)) (xset h t (.inr (10, townF t n (setS T (ngs n T q0 kk)))))) := by
  have eb : ∀ e, (xset h t e).2.2.1 b = .inr (11, .ref t :: l) := fun e => by rw [xset_ne (by omega)]; exact hO
  intro k
  induction k with
  | zero =>
    intro i hi
    have hlt : ¬ nI i < nI kk := nI_nlt (by omega) (by omega)
    rw [s95_22]
    simp only [s95_0, s95_1, s95_2, s95_4, s95_7, s95_10, s95_12, s95_13, s95_14, s95_17, s95_20, s95_21, s95_23, s95_24, s95_27, s95_28, s95_31, s95_34, s95_37, s95_40, s95_41, s95_44, s95_47, eb, o0, xset_self, tf5, hlt, XG_1, XO_some, XV_1, xo_n, xo_i8, xo_r8, xo_i7, xo_r7, xo_i6, xo_r6, xo_i5, xo_r5, xo_i4, xo_r4, xo_i3, xo_r3, xo_i2, xo_r2, Option.toList_some, Option.toList_none, List.cons_append, List.nil_append, bI_t, bI_f, bI_0, bI_n0, if_true, if_false, true_and, and_true, ne_eq, not_true_eq_false, not_false_eq_true, one_ne0, reduceCtorEq]
    rw [show i = kk by omega]
    rfl
  | succ k ih =>
    intro i hi
    have hlt : nI i < nI kk := nI_lt (by omega) (by omega)
    rw [s95_22]
    simp only [s95_0, s95_1, s95_2, s95_4, s95_7, s95_10, s95_12, s95_13, s95_14, s95_17, s95_20, s95_21, s95_23, s95_24, s95_27, s95_28, s95_31, s95_34, s95_37, s95_40, s95_41, s95_44, s95_47, eb, o0, xset_self, hlt, c_night I ht W hD R0, nI_1, XG_1, XO_some, XV_1, xo_n, xo_i8, xo_r8, xo_i7, xo_r7, xo_i6, xo_r6, xo_i5, xo_r5, xo_i4, xo_r4, xo_i3, xo_r3, xo_i2, xo_r2, Option.toList_some, Option.toList_none, List.cons_append, List.nil_append, bI_t, bI_f, bI_0, bI_n0, if_true, if_false, true_and, and_true, ne_eq, not_true_eq_false, not_false_eq_true, one_ne0, reduceCtorEq]
    exact ih (i + 1) (by omega)
theorem l_rnights (I : IV n T) (hr : r + 20 < Dy) {q0 : Int32 × Int32 × Int32} {kk : Nat} (hkk : kk ≤ 60) : ∀ k i h f w g, i + k = kk → Dy ≤ h.1 → RM h.2.2.1 r m f w g → MR n (setS T (ngs n T q0 i)) f → (∀ h' f' w' g', FR Dy (Pn r) h h' → RM h'.2.2.1 r m f' w' g' → MR n (setS T (ngs n T q0 kk)) f' → Q (some (.int (ngs n T q0 kk).2.1)) h') → XE (d + 11) 177 15 [.val (.ref r), .val (.int (nI kk)), .val (.int (nI i))] [] h Q := by
  intro k
  induction k with
  | zero =>
    intro i h f w g hi hD R M K
    have hlt : ¬ nI i < nI kk := nI_nlt (by omega) (by omega)
    rw [show i = kk by omega] at M
    have K0 := K h f w g FR.refl R M
    have e5 : f 4 = (ngs n T q0 kk).2.1 := M.1.2.2.2.2.1
    rw [s177_15]
    simp only [s177_0, s177_1, s177_2, s177_4, s177_7, s177_10, s177_12, s177_13, s177_14, s177_16, s177_17, s177_20, s177_21, s177_24, s177_27, s177_30, s177_31, s177_34, s177_35, s177_36, R.1, R.2.1, mf0, A4, hlt, XG_1, XO_some, XV_1, xo_n, xo_i8, xo_r8, xo_i7, xo_r7, xo_i6, xo_r6, xo_i5, xo_r5, xo_i4, xo_r4, xo_i3, xo_r3, xo_i2, xo_r2, Option.toList_some, Option.toList_none, List.cons_append, List.nil_append, bI_t, bI_f, bI_0, bI_n0, if_true, if_false, true_and, and_true, ne_eq, not_true_eq_false, not_false_eq_true, one_ne0, reduceCtorEq, e5]
    exact K0
  | succ k ih =>
    intro i h f w g hi hD R M K
    have hlt : nI i < nI kk := nI_lt (by omega) (by omega)
    rw [s177_15]
    simp only [s177_0, s177_1, s177_2, s177_4, s177_7, s177_10, s177_12, s177_13, s177_14, s177_16, s177_17, s177_20, s177_21, s177_24, s177_27, s177_30, s177_31, s177_34, s177_35, s177_36, R.1, hlt, XG_1, XO_some, XV_1, xo_n, xo_i8, xo_r8, xo_i7, xo_r7, xo_i6, xo_r6, xo_i5, xo_r5, xo_i4, xo_r4, xo_i3, xo_r3, xo_i2, xo_r2, Option.toList_some, Option.toList_none, List.cons_append, List.nil_append, bI_t, bI_f, bI_0, bI_n0, if_true, if_false, true_and, and_true, ne_eq, not_true_eq_false, not_false_eq_true, one_ne0, reduceCtorEq]
    refine r_night R I hr hD M fun h1 f1 w1 g1 F1 R1 M1 => ?_
    simp only [s177_0, s177_1, s177_2, s177_4, s177_7, s177_10, s177_12, s177_13, s177_14, s177_16, s177_17, s177_20, s177_21, s177_24, s177_27, s177_30, s177_31, s177_34, s177_35, s177_36, nI_1, XG_1, XO_some, XV_1, xo_n, xo_i8, xo_r8, xo_i7, xo_r7, xo_i6, xo_r6, xo_i5, xo_r5, xo_i4, xo_r4, xo_i3, xo_r3, xo_i2, xo_r2, Option.toList_some, Option.toList_none, List.cons_append, List.nil_append, bI_t, bI_f, bI_0, bI_n0, if_true, if_false, true_and, and_true, ne_eq, not_true_eq_false, not_false_eq_true, one_ne0, reduceCtorEq]
    exact ih (i + 1) h1 f1 w1 g1 (by omega) (by rw [F1.1]; exact hD) R1 M1 (fun h' f' w' g' F' R' M' => K h' f' w' g' (F1.trans F') R' M')
theorem iv_setS (I : IV n T) {q : Int32 × Int32 × Int32} : IV n (setS T q) := I
theorem pm_nights (S : ST Dy b t r h n T p s) : PM Dy d b t r h n T p 95 177 [.int x] := by
  obtain ⟨⟨l, hO⟩, ht, hr, hD, R, I, hbt⟩ := S
  have hn := I.nn
  cases hx : wiB x 1 60 with
  | false =>
    refine ⟨BAD, n, T, I, fun Q K => ?_, fun h m f w g hD R M Q K => ?_⟩
    · rw [e95]; simp only [s95_0, s95_1, s95_2, s95_4, s95_7, s95_10, s95_12, s95_13, s95_14, s95_17, s95_20, s95_21, s95_23, s95_24, s95_27, s95_28, s95_31, s95_34, s95_37, s95_40, s95_41, s95_44, s95_47, c_within, hx, XG_1, XO_some, XV_1, xo_n, xo_i8, xo_r8, xo_i7, xo_r7, xo_i6, xo_r6, xo_i5, xo_r5, xo_i4, xo_r4, xo_i3, xo_r3, xo_i2, xo_r2, Option.toList_some, Option.toList_none, List.cons_append, List.nil_append, bI_t, bI_f, bI_0, bI_n0, if_true, if_false, true_and, and_true, ne_eq, not_true_eq_false, not_false_eq_true, one_ne0, reduceCtorEq]; exact K h s FR.refl R
    · rw [e177]; simp only [s177_0, s177_1, s177_2, s177_4, s177_7, s177_10, s177_12, s177_13, s177_14, s177_16, s177_17, s177_20, s177_21, s177_24, s177_27, s177_30, s177_31, s177_34, s177_35, s177_36, c_in, hx, XG_1, XO_some, XV_1, xo_n, xo_i8, xo_r8, xo_i7, xo_r7, xo_i6, xo_r6, xo_i5, xo_r5, xo_i4, xo_r4, xo_i3, xo_r3, xo_i2, xo_r2, Option.toList_some, Option.toList_none, List.cons_append, List.nil_append, bI_t, bI_f, bI_0, bI_n0, if_true, if_false, true_and, and_true, ne_eq, not_true_eq_false, not_false_eq_true, one_ne0, reduceCtorEq]; exact K h f w g FR.refl R M
  | true =>
  obtain ⟨kk, hkk, rfl⟩ := wiB_t1 (k := 60) hx (by decide)
  refine ⟨(ngs n T (T 0 7, T 0 5, T 0 6) kk).2.1, n, setS T (ngs n T (T 0 7, T 0 5, T 0 6) kk), iv_setS I, fun Q K => ?_, fun h m f w g hD R M Q K => ?_⟩
  · rw [e95]; simp only [s95_0, s95_1, s95_2, s95_4, s95_7, s95_10, s95_12, s95_13, s95_14, s95_17, c_within, hx, hO, o0, R.o, XG_1, XO_some, XV_1, xo_n, xo_i8, xo_r8, xo_i7, xo_r7, xo_i6, xo_r6, xo_i5, xo_r5, xo_i4, xo_r4, xo_i3, xo_r3, xo_i2, xo_r2, Option.toList_some, Option.toList_none, List.cons_append, List.nil_append, bI_t, bI_f, bI_0, bI_n0, if_true, if_false, true_and, and_true, ne_eq, not_true_eq_false, not_false_eq_true, one_ne0, reduceCtorEq]
    refine c_weigh I ht hD R fun h1 s1 F1 R1 W1 => ?_
    have hD1 : Dy ≤ h1.1 := by rw [F1.1]; exact hD
    have hO1 : h1.2.2.1 b = .inr (11, .ref t :: l) := by rw [F1.at (by omega) (by omega)]; exact hO
    have hL := l_nights (d := d) (Q := Q) I ht W1 hD1 R1 hbt hO1 (q0 := (T 0 7, T 0 5, T 0 6)) hkk kk 0 (by omega)
    rw [show ngs n T (T 0 7, T 0 5, T 0 6) 0 = (T 0 7, T 0 5, T 0 6) from rfl, setS_id, ← R1.o, xset_id] at hL
    simp only [s95_0, s95_1, s95_2, s95_4, s95_7, s95_10, s95_12, s95_13, s95_14, s95_17, s95_20, s95_21, s95_23, s95_24, s95_27, s95_28, s95_31, s95_34, s95_37, s95_40, s95_41, s95_44, s95_47, XG_1, XO_some, XV_1, xo_n, xo_i8, xo_r8, xo_i7, xo_r7, xo_i6, xo_r6, xo_i5, xo_r5, xo_i4, xo_r4, xo_i3, xo_r3, xo_i2, xo_r2, Option.toList_some, Option.toList_none, List.cons_append, List.nil_append, bI_t, bI_f, bI_0, bI_n0, if_true, if_false, true_and, and_true, ne_eq, not_true_eq_false, not_false_eq_true, one_ne0, reduceCtorEq]
    refine hL.mpr ?_
    obtain ⟨R2, F2⟩ := R1.zz ht hD1 (q := ngs n T (T 0 7, T 0 5, T 0 6) kk)
    exact K _ s1 ((frpw F1).trans (F2.wide (fun x q => ⟨by omega, by omega⟩))) R2
  · rw [e177]; simp only [s177_0, s177_1, s177_2, s177_4, s177_7, s177_10, s177_12, s177_13, s177_14, s177_16, s177_17, s177_20, s177_21, s177_24, s177_27, s177_30, s177_31, s177_34, s177_35, s177_36, c_in, hx, XG_1, XO_some, XV_1, xo_n, xo_i8, xo_r8, xo_i7, xo_r7, xo_i6, xo_r6, xo_i5, xo_r5, xo_i4, xo_r4, xo_i3, xo_r3, xo_i2, xo_r2, Option.toList_some, Option.toList_none, List.cons_append, List.nil_append, bI_t, bI_f, bI_0, bI_n0, if_true, if_false, true_and, and_true, ne_eq, not_true_eq_false, not_false_eq_true, one_ne0, reduceCtorEq]
    refine l_rnights I hr hkk kk 0 h f w g (by omega) hD R ?_ K
    rw [show ngs n T (T 0 7, T 0 5, T 0 6) 0 = (T 0 7, T 0 5, T 0 6) from rfl, setS_id]
    exact M
theorem l_rfru (M : MR n T f) (I : IV n T) (hr : r + 20 < Dy) : ∀ k i h w g, i + k = n 1 → Dy ≤ h.1 → RM h.2.2.1 r m f w g → (∀ h' w' g', FR Dy (Pf r) h h' → RM h'.2.2.1 r m f w' g' → Q (some (.int (oI NONE (fru n T k i)))) h') → XE (d + 11) 183 23 [.val (.ref r), .val (.int 1), .val (.int (nI i))] [] h Q := by
  have hn := I.nn
  intro k
  induction k with
  | zero =>
    intro i h w g hi hD R K
    have hlt : ¬ nI i < nI (n 1) := nI_nlt (by omega) (by omega)
    have K0 := K h w g FR.refl R
    rw [s183_23]
    simp only [s183_0, s183_1, s183_2, s183_3, s183_6, s183_9, s183_11, s183_12, s183_13, s183_16, s183_17, s183_20, s183_21, s183_22, s183_24, s183_25, s183_28, s183_29, s183_30, s183_33, s183_34, s183_35, s183_38, s183_41, s183_44, s183_47, s183_48, s183_49, s183_52, s183_53, s183_54, s183_57, s183_58, s183_61, s183_63, R.1, R.2.1, mf0, A2, M.1.2.2.1, hlt, XG_1, XO_some, XV_1, xo_n, xo_i8, xo_r8, xo_i7, xo_r7, xo_i6, xo_r6, xo_i5, xo_r5, xo_i4, xo_r4, xo_i3, xo_r3, xo_i2, xo_r2, Option.toList_some, Option.toList_none, List.cons_append, List.nil_append, bI_t, bI_f, bI_0, bI_n0, if_true, if_false, true_and, and_true, ne_eq, not_true_eq_false, not_false_eq_true, one_ne0, reduceCtorEq]
    exact K0
  | succ k ih =>
    intro i h w g hi hD R K
    have hlt : nI i < nI (n 1) := nI_lt (by omega) (by omega)
    have hs : fru n T (k + 1) i = if lwD n T i = true then fru n T k (i + 1) else some i := rfl
    rw [hs] at K
    rw [s183_23]
    simp only [s183_0, s183_1, s183_2, s183_3, s183_6, s183_9, s183_11, s183_12, s183_13, s183_16, s183_17, s183_20, s183_21, s183_22, s183_24, s183_25, s183_28, s183_29, s183_30, s183_33, s183_34, s183_35, R.1, R.2.1, mf0, A2, M.1.2.2.1, hlt, XG_1, XO_some, XV_1, xo_n, xo_i8, xo_r8, xo_i7, xo_r7, xo_i6, xo_r6, xo_i5, xo_r5, xo_i4, xo_r4, xo_i3, xo_r3, xo_i2, xo_r2, Option.toList_some, Option.toList_none, List.cons_append, List.nil_append, bI_t, bI_f, bI_0, bI_n0, if_true, if_false, true_and, and_true, ne_eq, not_true_eq_false, not_false_eq_true, one_ne0, reduceCtorEq]
    refine r_isLawful R M I hr hD (by omega) fun h1 w1 g1 F1 R1 => ?_
    cases hw : lwD n T i with
    | true =>
      rw [hw] at K
      simp only [s183_38, s183_41, s183_44, nI_1, XG_1, XO_some, XV_1, xo_n, xo_i8, xo_r8, xo_i7, xo_r7, xo_i6, xo_r6, xo_i5, xo_r5, xo_i4, xo_r4, xo_i3, xo_r3, xo_i2, xo_r2, Option.toList_some, Option.toList_none, List.cons_append, List.nil_append, bI_t, bI_f, bI_0, bI_n0, if_true, if_false, true_and, and_true, ne_eq, not_true_eq_false, not_false_eq_true, one_ne0, reduceCtorEq, Bool.true_eq_false]
      exact ih (i + 1) h1 w1 g1 (by omega) (by rw [F1.1]; exact hD) R1 (fun h' w' g' F' R' => K h' w' g' (F1.trans F') R')
    | false =>
      rw [hw] at K
      have K0 := K h1 w1 g1 F1 R1
      simp only [s183_38, s183_41, s183_44, s183_47, s183_48, s183_49, s183_52, s183_53, s183_54, s183_57, s183_58, s183_61, s183_63, R1.1, R1.2.1, mf0, A2, M.1.2.2.1, hlt, XG_1, XO_some, XV_1, xo_n, xo_i8, xo_r8, xo_i7, xo_r7, xo_i6, xo_r6, xo_i5, xo_r5, xo_i4, xo_r4, xo_i3, xo_r3, xo_i2, xo_r2, Option.toList_some, Option.toList_none, List.cons_append, List.nil_append, bI_t, bI_f, bI_0, bI_n0, if_true, if_false, true_and, and_true, ne_eq, not_true_eq_false, not_false_eq_true, one_ne0, reduceCtorEq]
      exact K0
theorem pm_unlawful (S : ST Dy b t r h n T p s) : PM Dy d b t r h n T p 99 183 [.int x] := by
  obtain ⟨⟨l, hO⟩, ht, hr, hD, R, I, hbt⟩ := S
  have hn := I.nn
  by_cases x0 : x = 0
  · subst x0
    refine ⟨hmu n T (n 1), n, T, I, fun Q K => ?_, fun h m f w g hD R M Q K => ?_⟩
    · rw [e99]; simp only [s99_0, s99_1, s99_28, s99_29, s99_32, s99_35, s99_36, s99_37, s99_40, s99_43, s99_44, s99_46, hO, o0, R.o, xswi, XG_1, XO_some, XV_1, xo_n, xo_i8, xo_r8, xo_i7, xo_r7, xo_i6, xo_r6, xo_i5, xo_r5, xo_i4, xo_r4, xo_i3, xo_r3, xo_i2, xo_r2, Option.toList_some, Option.toList_none, List.cons_append, List.nil_append, bI_t, bI_f, bI_0, bI_n0, if_true, if_false, true_and, and_true, ne_eq, not_true_eq_false, not_false_eq_true, one_ne0, reduceCtorEq]
      refine c_howMany I ht R fun h1 F1 => ?_
      simp only [s99_0, s99_1, s99_28, s99_29, s99_32, s99_35, s99_36, s99_37, s99_40, s99_43, s99_44, s99_46, XG_1, XO_some, XV_1, xo_n, xo_i8, xo_r8, xo_i7, xo_r7, xo_i6, xo_r6, xo_i5, xo_r5, xo_i4, xo_r4, xo_i3, xo_r3, xo_i2, xo_r2, Option.toList_some, Option.toList_none, List.cons_append, List.nil_append, bI_t, bI_f, bI_0, bI_n0, if_true, if_false, true_and, and_true, ne_eq, not_true_eq_false, not_false_eq_true, one_ne0, reduceCtorEq]
      exact K h1 s (frp0 F1) (R.fr0 F1 ht)
    · rw [e183]; simp only [s183_0, s183_1, s183_2, s183_3, s183_6, s183_9, s183_11, s183_12, s183_13, s183_16, s183_17, s183_20, s183_21, s183_22, s183_24, s183_25, s183_28, s183_29, s183_30, s183_33, s183_34, s183_35, s183_38, s183_41, s183_44, s183_47, s183_48, s183_49, s183_52, s183_53, s183_54, s183_57, s183_58, s183_61, s183_63, R.1, c_in, show wiB 0 0 1 = true by decide, XG_1, XO_some, XV_1, xo_n, xo_i8, xo_r8, xo_i7, xo_r7, xo_i6, xo_r6, xo_i5, xo_r5, xo_i4, xo_r4, xo_i3, xo_r3, xo_i2, xo_r2, Option.toList_some, Option.toList_none, List.cons_append, List.nil_append, bI_t, bI_f, bI_0, bI_n0, if_true, if_false, true_and, and_true, ne_eq, not_true_eq_false, not_false_eq_true, one_ne0, reduceCtorEq]
      refine r_unlawMany R M I hr hD fun h1 w1 g1 F1 R1 => ?_
      simp only [s183_0, s183_1, s183_2, s183_3, s183_6, s183_9, s183_11, s183_12, s183_13, s183_16, s183_17, s183_20, s183_21, s183_22, s183_24, s183_25, s183_28, s183_29, s183_30, s183_33, s183_34, s183_35, s183_38, s183_41, s183_44, s183_47, s183_48, s183_49, s183_52, s183_53, s183_54, s183_57, s183_58, s183_61, s183_63, XG_1, XO_some, XV_1, xo_n, xo_i8, xo_r8, xo_i7, xo_r7, xo_i6, xo_r6, xo_i5, xo_r5, xo_i4, xo_r4, xo_i3, xo_r3, xo_i2, xo_r2, Option.toList_some, Option.toList_none, List.cons_append, List.nil_append, bI_t, bI_f, bI_0, bI_n0, if_true, if_false, true_and, and_true, ne_eq, not_true_eq_false, not_false_eq_true, one_ne0, reduceCtorEq]
      exact K h1 f w1 g1 (frpn F1) R1 M
  by_cases x1 : x = 1
  · subst x1
    refine ⟨oI NONE (fru n T (n 1) 0), n, T, I, fun Q K => ?_, fun h m f w g hD R M Q K => ?_⟩
    · rw [e99]; simp only [s99_0, s99_1, s99_28, s99_29, s99_32, s99_35, s99_36, s99_37, s99_40, s99_43, s99_44, s99_46, hO, o0, R.o, xswi, XG_1, XO_some, XV_1, xo_n, xo_i8, xo_r8, xo_i7, xo_r7, xo_i6, xo_r6, xo_i5, xo_r5, xo_i4, xo_r4, xo_i3, xo_r3, xo_i2, xo_r2, Option.toList_some, Option.toList_none, List.cons_append, List.nil_append, bI_t, bI_f, bI_0, bI_n0, if_true, if_false, true_and, and_true, ne_eq, not_true_eq_false, not_false_eq_true, one_ne0, reduceCtorEq]
      refine c_first I ht R fun h1 F1 => ?_
      simp only [s99_0, s99_1, s99_28, s99_29, s99_32, s99_35, s99_36, s99_37, s99_40, s99_43, s99_44, s99_46, XG_1, XO_some, XV_1, xo_n, xo_i8, xo_r8, xo_i7, xo_r7, xo_i6, xo_r6, xo_i5, xo_r5, xo_i4, xo_r4, xo_i3, xo_r3, xo_i2, xo_r2, Option.toList_some, Option.toList_none, List.cons_append, List.nil_append, bI_t, bI_f, bI_0, bI_n0, if_true, if_false, true_and, and_true, ne_eq, not_true_eq_false, not_false_eq_true, one_ne0, reduceCtorEq]
      exact K h1 s (frp0 F1) (R.fr0 F1 ht)
    · rw [e183]; simp only [s183_0, s183_1, s183_2, s183_3, s183_6, s183_9, s183_11, s183_12, s183_13, s183_16, s183_17, s183_20, s183_21, s183_22, s183_24, s183_25, s183_28, s183_29, s183_30, s183_33, s183_34, s183_35, s183_38, s183_41, s183_44, s183_47, s183_48, s183_49, s183_52, s183_53, s183_54, s183_57, s183_58, s183_61, s183_63, R.1, c_in, show wiB 1 0 1 = true by decide, XG_1, XO_some, XV_1, xo_n, xo_i8, xo_r8, xo_i7, xo_r7, xo_i6, xo_r6, xo_i5, xo_r5, xo_i4, xo_r4, xo_i3, xo_r3, xo_i2, xo_r2, Option.toList_some, Option.toList_none, List.cons_append, List.nil_append, bI_t, bI_f, bI_0, bI_n0, if_true, if_false, true_and, and_true, ne_eq, not_true_eq_false, not_false_eq_true, one_ne0, reduceCtorEq]
      exact l_rfru M I hr (n 1) 0 h w g (by omega) hD R (fun h' w' g' F' R' => K h' f w' g' (frpn F') R' M)
  have hw : wiB x 0 1 = false := by
    cases q : wiB x 0 1 with
    | false => rfl
    | true =>
      obtain ⟨j, hj, rfl⟩ := wiB_t (k := 1) q (by decide)
      rcases (show j = 0 ∨ j = 1 by omega) with rfl | rfl
      · exact absurd rfl x0
      · exact absurd rfl x1
  refine ⟨BAD, n, T, I, fun Q K => ?_, fun h m f w g hD R M Q K => ?_⟩
  · rw [e99]; simp only [s99_0, s99_1, s99_28, s99_29, s99_32, s99_35, s99_36, s99_37, s99_40, s99_43, s99_44, s99_46, xswi, x0, x1, XG_1, XO_some, XV_1, xo_n, xo_i8, xo_r8, xo_i7, xo_r7, xo_i6, xo_r6, xo_i5, xo_r5, xo_i4, xo_r4, xo_i3, xo_r3, xo_i2, xo_r2, Option.toList_some, Option.toList_none, List.cons_append, List.nil_append, bI_t, bI_f, bI_0, bI_n0, if_true, if_false, true_and, and_true, ne_eq, not_true_eq_false, not_false_eq_true, one_ne0, reduceCtorEq]; exact K h s FR.refl R
  · rw [e183]; simp only [s183_0, s183_1, s183_2, s183_3, s183_6, s183_9, s183_11, s183_12, s183_13, s183_16, s183_17, s183_20, s183_21, s183_22, s183_24, s183_25, s183_28, s183_29, s183_30, s183_33, s183_34, s183_35, s183_38, s183_41, s183_44, s183_47, s183_48, s183_49, s183_52, s183_53, s183_54, s183_57, s183_58, s183_61, s183_63, c_in, hw, XG_1, XO_some, XV_1, xo_n, xo_i8, xo_r8, xo_i7, xo_r7, xo_i6, xo_r6, xo_i5, xo_r5, xo_i4, xo_r4, xo_i3, xo_r3, xo_i2, xo_r2, Option.toList_some, Option.toList_none, List.cons_append, List.nil_append, bI_t, bI_f, bI_0, bI_n0, if_true, if_false, true_and, and_true, ne_eq, not_true_eq_false, not_false_eq_true, one_ne0, reduceCtorEq]; exact K h f w g FR.refl R M
theorem l_heard (R : RT Dy h.2.2.1 t n T p s) {l : List Value} (hO : h.2.2.1 b = .inr (11, .ref t :: l)) : ∀ k i, i + k = n 1 → (XE (d + 11) 101 26 [.val (.ref b), .val (.int x), .val (.int (hdb n T x i)), .val (.int (nI i))] [] h Q ↔ Q (some (.int (hdb n T x (n 1)))) h) := by
  have hn := R.nn
  intro k
  induction k with
  | zero =>
    intro i hi
    have hlt : ¬ nI i < nI (n 1) := nI_nlt (by omega) (by omega)
    rw [s101_26]
    simp only [s101_0, s101_1, s101_2, s101_3, s101_4, s101_7, s101_10, s101_11, s101_12, s101_13, s101_16, s101_19, s101_21, s101_22, s101_23, s101_24, s101_25, s101_27, s101_28, s101_31, s101_34, s101_37, s101_38, s101_41, s101_42, s101_45, s101_46, s101_47, s101_50, s101_51, s101_52, s101_53, s101_54, s101_55, s101_56, s101_59, s101_62, s101_63, hO, o0, R.o, tf1, hlt, XG_1, XO_some, XV_1, xo_n, xo_i8, xo_r8, xo_i7, xo_r7, xo_i6, xo_r6, xo_i5, xo_r5, xo_i4, xo_r4, xo_i3, xo_r3, xo_i2, xo_r2, Option.toList_some, Option.toList_none, List.cons_append, List.nil_append, bI_t, bI_f, bI_0, bI_n0, if_true, if_false, true_and, and_true, ne_eq, not_true_eq_false, not_false_eq_true, one_ne0, reduceCtorEq]
    rw [show i = n 1 by omega]
  | succ k ih =>
    intro i hi
    have hlt : nI i < nI (n 1) := nI_lt (by omega) (by omega)
    have ih1 := ih (i + 1) (by omega)
    rw [show hdb n T x (i + 1) = if rgs n T i &&& x = 0 then hdb n T x i else hdb n T x i ||| xshl 1 (nI i) from rfl] at ih1
    rw [s101_26]
    simp only [s101_0, s101_1, s101_2, s101_3, s101_4, s101_7, s101_10, s101_11, s101_12, s101_13, s101_16, s101_19, s101_21, s101_22, s101_23, s101_24, s101_25, s101_27, s101_28, s101_31, s101_34, s101_37, s101_38, s101_41, s101_42, s101_45, s101_46, s101_47, s101_50, s101_51, s101_52, s101_53, s101_54, s101_55, s101_56, s101_59, s101_62, s101_63, hO, o0, R.o, tf1, hlt, c_rings R (show i < n 1 by omega), nI_1, XG_1, XO_some, XV_1, xo_n, xo_i8, xo_r8, xo_i7, xo_r7, xo_i6, xo_r6, xo_i5, xo_r5, xo_i4, xo_r4, xo_i3, xo_r3, xo_i2, xo_r2, Option.toList_some, Option.toList_none, List.cons_append, List.nil_append, bI_t, bI_f, bI_0, bI_n0, if_true, if_false, true_and, and_true, ne_eq, not_true_eq_false, not_false_eq_true, one_ne0, reduceCtorEq]
    by_cases q : rgs n T i &&& x = 0
    · simp only [q, if_true] at ih1 ⊢; exact ih1
    · simp only [q, if_false] at ih1 ⊢; exact ih1
theorem pm_heard (S : ST Dy b t r h n T p s) : PM Dy d b t r h n T p 101 187 [.int x] := by
  obtain ⟨⟨l, hO⟩, ht, hr, hD, R, I, hbt⟩ := S
  have hn := I.nn
  by_cases x0 : x < 0
  · have hw : wiB x 0 (xshl 1 (nI (n 0)) - 1) = false := by unfold wiB; rw [decide_eq_false (fun q => q x0)]; rfl
    refine ⟨BAD, n, T, I, fun Q K => ?_, fun h m f w g hD R M Q K => ?_⟩
    · rw [e101]; simp only [s101_0, s101_1, s101_2, s101_3, s101_4, s101_7, s101_10, s101_11, s101_12, s101_13, s101_16, s101_19, s101_21, s101_22, s101_23, s101_24, s101_25, s101_27, s101_28, s101_31, s101_34, s101_37, s101_38, s101_41, s101_42, s101_45, s101_46, s101_47, s101_50, s101_51, s101_52, s101_53, s101_54, s101_55, s101_56, s101_59, s101_62, s101_63, hO, o0, R.o, tf0, c_within, hw, XG_1, XO_some, XV_1, xo_n, xo_i8, xo_r8, xo_i7, xo_r7, xo_i6, xo_r6, xo_i5, xo_r5, xo_i4, xo_r4, xo_i3, xo_r3, xo_i2, xo_r2, Option.toList_some, Option.toList_none, List.cons_append, List.nil_append, bI_t, bI_f, bI_0, bI_n0, if_true, if_false, true_and, and_true, ne_eq, not_true_eq_false, not_false_eq_true, one_ne0, reduceCtorEq]; exact K h s FR.refl R
    · rw [e187]; simp only [s187_0, s187_1, s187_4, s187_5, s187_6, s187_9, s187_10, s187_11, s187_12, s187_15, s187_17, s187_20, s187_21, s187_22, s187_25, x0, XG_1, XO_some, XV_1, xo_n, xo_i8, xo_r8, xo_i7, xo_r7, xo_i6, xo_r6, xo_i5, xo_r5, xo_i4, xo_r4, xo_i3, xo_r3, xo_i2, xo_r2, Option.toList_some, Option.toList_none, List.cons_append, List.nil_append, bI_t, bI_f, bI_0, bI_n0, if_true, if_false, true_and, and_true, ne_eq, not_true_eq_false, not_false_eq_true, one_ne0, reduceCtorEq]; exact K h f w g FR.refl R M
  have hw := sh_heard hn.1 x0
  by_cases hs : xshr x (nI (n 0)) = 0
  · rw [decide_eq_true hs] at hw
    refine ⟨hdb n T x (n 1), n, T, I, fun Q K => ?_, fun h m f w g hD R M Q K => ?_⟩
    · rw [e101]; simp only [s101_0, s101_1, s101_2, s101_3, s101_4, s101_7, s101_10, s101_11, s101_12, s101_13, s101_16, s101_19, s101_21, s101_22, s101_23, s101_24, s101_25, s101_27, s101_28, s101_31, s101_34, s101_37, s101_38, s101_41, s101_42, s101_45, s101_46, s101_47, s101_50, s101_51, s101_52, s101_53, s101_54, s101_55, s101_56, s101_59, s101_62, s101_63, hO, o0, R.o, tf0, c_within, hw, XG_1, XO_some, XV_1, xo_n, xo_i8, xo_r8, xo_i7, xo_r7, xo_i6, xo_r6, xo_i5, xo_r5, xo_i4, xo_r4, xo_i3, xo_r3, xo_i2, xo_r2, Option.toList_some, Option.toList_none, List.cons_append, List.nil_append, bI_t, bI_f, bI_0, bI_n0, if_true, if_false, true_and, and_true, ne_eq, not_true_eq_false, not_false_eq_true, one_ne0, reduceCtorEq]
      exact (l_heard R hO (n 1) 0 (by omega)).mpr (K h s FR.refl R)
    · rw [e187]; simp only [s187_0, s187_1, s187_4, s187_5, s187_6, s187_9, s187_10, s187_11, s187_12, s187_15, s187_17, s187_20, s187_21, s187_22, s187_25, x0, R.1, R.2.1, mf0, A1, M.1.2.1, hs, r_heardBy R M I, XG_1, XO_some, XV_1, xo_n, xo_i8, xo_r8, xo_i7, xo_r7, xo_i6, xo_r6, xo_i5, xo_r5, xo_i4, xo_r4, xo_i3, xo_r3, xo_i2, xo_r2, Option.toList_some, Option.toList_none, List.cons_append, List.nil_append, bI_t, bI_f, bI_0, bI_n0, if_true, if_false, true_and, and_true, ne_eq, not_true_eq_false, not_false_eq_true, one_ne0, reduceCtorEq]; exact K h f w g FR.refl R M
  · rw [decide_eq_false hs] at hw
    refine ⟨BAD, n, T, I, fun Q K => ?_, fun h m f w g hD R M Q K => ?_⟩
    · rw [e101]; simp only [s101_0, s101_1, s101_2, s101_3, s101_4, s101_7, s101_10, s101_11, s101_12, s101_13, s101_16, s101_19, s101_21, s101_22, s101_23, s101_24, s101_25, s101_27, s101_28, s101_31, s101_34, s101_37, s101_38, s101_41, s101_42, s101_45, s101_46, s101_47, s101_50, s101_51, s101_52, s101_53, s101_54, s101_55, s101_56, s101_59, s101_62, s101_63, hO, o0, R.o, tf0, c_within, hw, XG_1, XO_some, XV_1, xo_n, xo_i8, xo_r8, xo_i7, xo_r7, xo_i6, xo_r6, xo_i5, xo_r5, xo_i4, xo_r4, xo_i3, xo_r3, xo_i2, xo_r2, Option.toList_some, Option.toList_none, List.cons_append, List.nil_append, bI_t, bI_f, bI_0, bI_n0, if_true, if_false, true_and, and_true, ne_eq, not_true_eq_false, not_false_eq_true, one_ne0, reduceCtorEq]; exact K h s FR.refl R
    · rw [e187]; simp only [s187_0, s187_1, s187_4, s187_5, s187_6, s187_9, s187_10, s187_11, s187_12, s187_15, s187_17, s187_20, s187_21, s187_22, s187_25, x0, R.1, R.2.1, mf0, A1, M.1.2.1, hs, XG_1, XO_some, XV_1, xo_n, xo_i8, xo_r8, xo_i7, xo_r7, xo_i6, xo_r6, xo_i5, xo_r5, xo_i4, xo_r4, xo_i3, xo_r3, xo_i2, xo_r2, Option.toList_some, Option.toList_none, List.cons_append, List.nil_append, bI_t, bI_f, bI_0, bI_n0, if_true, if_false, true_and, and_true, ne_eq, not_true_eq_false, not_false_eq_true, one_ne0, reduceCtorEq]; exact K h f w g FR.refl R M
/-- doors alike -/
def al1 (n : Nat → Nat) (T : Nat → Nat → Int32) (i : Nat) (v : Int32) : Nat → Int32
  | 0 => v
  | j + 1 => if rgs n T i = rgs n T (i + 1 + j) then al1 n T i v j + 1 else al1 n T i v j
def al2 (n : Nat → Nat) (T : Nat → Nat → Int32) (N : Nat) : Nat → Int32
  | 0 => 0
  | i + 1 => al1 n T i (al2 n T N i) (N - (i + 1))
def bl1 (n : Nat → Nat) (T : Nat → Nat → Int32) (i : Nat) (v : Int32) : Nat → Int32
  | 0 => v
  | j + 1 => if rgs n T i = rgs n T j then bl1 n T i v j + 1 else bl1 n T i v j
def bl2 (n : Nat → Nat) (T : Nat → Nat → Int32) : Nat → Int32
  | 0 => 0
  | i + 1 => bl1 n T i (bl2 n T i) i
theorem al1_add {i : Nat} {v : Int32} : ∀ j, al1 n T i v j = v + al1 n T i 0 j := by
  intro j
  induction j with
  | zero => exact (Int32.add_zero v).symm
  | succ j ih =>
    unfold al1
    split
    · rw [ih, Int32.add_assoc]
    · exact ih
theorem bl1_add {i : Nat} {v : Int32} : ∀ j, bl1 n T i v j = v + bl1 n T i 0 j := by
  intro j
  induction j with
  | zero => exact (Int32.add_zero v).symm
  | succ j ih =>
    unfold bl1
    split
    · rw [ih, Int32.add_assoc]
    · exact ih
theorem al2_s {N : Nat} : ∀ i, i ≤ N → al2 n T (N + 1) i = al2 n T N i + bl1 n T N 0 i := by
  intro i
  induction i with
  | zero => intro _; rfl
  | succ i ih =>
    intro hi
    have ih1 := ih (by omega)
    show al1 n T i (al2 n T (N + 1) i) (N + 1 - (i + 1)) = al1 n T i (al2 n T N i) (N - (i + 1)) + (if rgs n T N = rgs n T i then bl1 n T N 0 i + 1 else bl1 n T N 0 i)
    rw [al1_add, al1_add (v := al2 n T N i), ih1, show N + 1 - (i + 1) = (N - (i + 1)) + 1 by omega]
    rw [show al1 n T i 0 (N - (i + 1) + 1) = if rgs n T i = rgs n T (i + 1 + (N - (i + 1))) then al1 n T i 0 (N - (i + 1)) + 1 else al1 n T i 0 (N - (i + 1)) from rfl, show i + 1 + (N - (i + 1)) = N by omega]
    by_cases q : rgs n T i = rgs n T N
    · rw [if_pos q, if_pos q.symm]
      rw [Int32.add_assoc, Int32.add_assoc, Int32.add_comm (bl1 n T N 0 i), Int32.add_assoc, Int32.add_comm 1]
    · rw [if_neg q, if_neg (fun e => q e.symm)]
      rw [Int32.add_assoc, Int32.add_assoc, Int32.add_comm (bl1 n T N 0 i)]
theorem al_bl : ∀ N, al2 n T N N = bl2 n T N := by
  intro N
  induction N with
  | zero => rfl
  | succ N ih =>
    show al1 n T N (al2 n T (N + 1) N) (N + 1 - (N + 1)) = bl1 n T N (bl2 n T N) N
    rw [Nat.sub_self, bl1_add, ← ih]
    exact al2_s N (Nat.le_refl _)
theorem l_alike1 (R : RT Dy h.2.2.1 t n T p s) {l : List Value} (hO : h.2.2.1 b = .inr (11, .ref t :: l)) {i : Nat} (hi : i < n 1) {v : Int32} : ∀ k j, i + 1 + j + k = n 1 → (XE (d + 11) 103 19 [.val (.ref b), .val (.int (al1 n T i v j)), .val (.int (nI i)), .val (.int (nI (i + 1 + j)))] [] h Q ↔ XE (d + 11) 103 4 [.val (.ref b), .val (.int (al1 n T i v (n 1 - (i + 1)))), .val (.int (nI (i + 1))), .val (.int (nI (n 1)))] [] h Q) := by
  have hn := R.nn
  intro k
  induction k with
  | zero =>
    intro j hj
    have hlt : ¬ nI (i + 1 + j) < nI (n 1) := nI_nlt (by omega) (by omega)
    rw [s103_19]
    simp only [s103_0, s103_1, s103_2, s103_3, s103_5, s103_6, s103_9, s103_12, s103_15, s103_16, s103_17, s103_18, s103_20, s103_21, s103_24, s103_27, s103_30, s103_31, s103_34, s103_35, s103_38, s103_39, s103_42, s103_43, s103_46, s103_49, s103_52, s103_55, s103_58, s103_61, s103_64, s103_65, hO, o0, R.o, tf1, hlt, nI_1, XG_1, XO_some, XV_1, xo_n, xo_i8, xo_r8, xo_i7, xo_r7, xo_i6, xo_r6, xo_i5, xo_r5, xo_i4, xo_r4, xo_i3, xo_r3, xo_i2, xo_r2, Option.toList_some, Option.toList_none, List.cons_append, List.nil_append, bI_t, bI_f, bI_0, bI_n0, if_true, if_false, true_and, and_true, ne_eq, not_true_eq_false, not_false_eq_true, one_ne0, reduceCtorEq]
    rw [show i + 1 + j = n 1 by omega, show j = n 1 - (i + 1) by omega]
  | succ k ih =>
    intro j hj
    have hlt : nI (i + 1 + j) < nI (n 1) := nI_lt (by omega) (by omega)
    have ih1 := ih (j + 1) (by omega)
    rw [show al1 n T i v (j + 1) = if rgs n T i = rgs n T (i + 1 + j) then al1 n T i v j + 1 else al1 n T i v j from rfl] at ih1
    rw [s103_19]
    simp only [s103_0, s103_1, s103_2, s103_3, s103_5, s103_6, s103_9, s103_12, s103_15, s103_16, s103_17, s103_18, s103_20, s103_21, s103_24, s103_27, s103_30, s103_31, s103_34, s103_35, s103_38, s103_39, s103_42, s103_43, s103_46, s103_49, s103_52, s103_55, s103_58, s103_61, s103_64, s103_65, hO, o0, R.o, tf1, hlt, c_rings R hi, c_rings R (show i + 1 + j < n 1 by omega), nI_1, XG_1, XO_some, XV_1, xo_n, xo_i8, xo_r8, xo_i7, xo_r7, xo_i6, xo_r6, xo_i5, xo_r5, xo_i4, xo_r4, xo_i3, xo_r3, xo_i2, xo_r2, Option.toList_some, Option.toList_none, List.cons_append, List.nil_append, bI_t, bI_f, bI_0, bI_n0, if_true, if_false, true_and, and_true, ne_eq, not_true_eq_false, not_false_eq_true, one_ne0, reduceCtorEq]
    by_cases q : rgs n T i = rgs n T (i + 1 + j)
    · simp only [q, if_true] at ih1 ⊢; exact ih1
    · simp only [q, if_false] at ih1 ⊢; exact ih1
theorem l_alike2 (R : RT Dy h.2.2.1 t n T p s) {l : List Value} (hO : h.2.2.1 b = .inr (11, .ref t :: l)) : ∀ k i c3, i + k = n 1 → (XE (d + 11) 103 4 [.val (.ref b), .val (.int (al2 n T (n 1) i)), .val (.int (nI i)), c3] [] h Q ↔ Q (some (.int (al2 n T (n 1) (n 1)))) h) := by
  have hn := R.nn
  intro k
  induction k with
  | zero =>
    intro i c3 hi
    have hlt : ¬ nI i < nI (n 1) := nI_nlt (by omega) (by omega)
    rw [s103_4]
    simp only [s103_0, s103_1, s103_2, s103_3, s103_5, s103_6, s103_9, s103_12, s103_15, s103_16, s103_17, s103_18, s103_20, s103_21, s103_24, s103_27, s103_30, s103_31, s103_34, s103_35, s103_38, s103_39, s103_42, s103_43, s103_46, s103_49, s103_52, s103_55, s103_58, s103_61, s103_64, s103_65, hO, o0, R.o, tf1, hlt, XG_1, XO_some, XV_1, xo_n, xo_i8, xo_r8, xo_i7, xo_r7, xo_i6, xo_r6, xo_i5, xo_r5, xo_i4, xo_r4, xo_i3, xo_r3, xo_i2, xo_r2, Option.toList_some, Option.toList_none, List.cons_append, List.nil_append, bI_t, bI_f, bI_0, bI_n0, if_true, if_false, true_and, and_true, ne_eq, not_true_eq_false, not_false_eq_true, one_ne0, reduceCtorEq]
    rw [show i = n 1 by omega]
  | succ k ih =>
    intro i c3 hi
    have hlt : nI i < nI (n 1) := nI_lt (by omega) (by omega)
    rw [s103_4]
    simp only [s103_0, s103_1, s103_2, s103_3, s103_5, s103_6, s103_9, s103_12, s103_15, s103_16, s103_17, s103_18, s103_20, s103_21, s103_24, s103_27, s103_30, s103_31, s103_34, s103_35, s103_38, s103_39, s103_42, s103_43, s103_46, s103_49, s103_52, s103_55, s103_58, s103_61, s103_64, s103_65, hO, o0, R.o, tf1, hlt, nI_1, XG_1, XO_some, XV_1, xo_n, xo_i8, xo_r8, xo_i7, xo_r7, xo_i6, xo_r6, xo_i5, xo_r5, xo_i4, xo_r4, xo_i3, xo_r3, xo_i2, xo_r2, Option.toList_some, Option.toList_none, List.cons_append, List.nil_append, bI_t, bI_f, bI_0, bI_n0, if_true, if_false, true_and, and_true, ne_eq, not_true_eq_false, not_false_eq_true, one_ne0, reduceCtorEq]
    refine (l_alike1 R hO (show i < n 1 by omega) (n 1 - (i + 1)) 0 (by omega)).trans ?_
    exact ih (i + 1) _ (by omega)
theorem l_ralike1 (R : RM h.2.2.1 r m f w g) (M : MR n T f) (I : IV n T) {i : Nat} (hi : i < n 1) {v : Int32} : ∀ k j, j + k = i → (XE (d + 11) 190 16 [.val (.ref r), .val (.int (bl1 n T i v j)), .val (.int (nI i)), .val (.int (nI j))] [] h Q ↔ XE (d + 11) 190 4 [.val (.ref r), .val (.int (bl1 n T i v i)), .val (.int (nI (i + 1))), .val (.int (nI i))] [] h Q) := by
  have hn := I.nn
  intro k
  induction k with
  | zero =>
    intro j hj
    have hlt : ¬ nI j < nI i := nI_nlt (by omega) (by omega)
    rw [s190_16]
    simp only [s190_0, s190_1, s190_2, s190_3, s190_5, s190_6, s190_9, s190_10, s190_11, s190_14, s190_15, s190_17, s190_18, s190_21, s190_22, s190_23, s190_24, s190_27, s190_28, s190_29, s190_32, s190_35, s190_36, s190_39, s190_40, s190_41, s190_42, s190_45, s190_48, s190_51, s190_54, s190_55, hlt, nI_1, XG_1, XO_some, XV_1, xo_n, xo_i8, xo_r8, xo_i7, xo_r7, xo_i6, xo_r6, xo_i5, xo_r5, xo_i4, xo_r4, xo_i3, xo_r3, xo_i2, xo_r2, Option.toList_some, Option.toList_none, List.cons_append, List.nil_append, bI_t, bI_f, bI_0, bI_n0, if_true, if_false, true_and, and_true, ne_eq, not_true_eq_false, not_false_eq_true, one_ne0, reduceCtorEq]
    rw [show j = i by omega]
  | succ k ih =>
    intro j hj
    have hlt : nI j < nI i := nI_lt (by omega) (by omega)
    have ih1 := ih (j + 1) (by omega)
    rw [show bl1 n T i v (j + 1) = if rgs n T i = rgs n T j then bl1 n T i v j + 1 else bl1 n T i v j from rfl] at ih1
    rw [s190_16]
    simp only [s190_0, s190_1, s190_2, s190_3, s190_5, s190_6, s190_9, s190_10, s190_11, s190_14, s190_15, s190_17, s190_18, s190_21, s190_22, s190_23, s190_24, s190_27, s190_28, s190_29, s190_32, s190_35, s190_36, s190_39, s190_40, s190_41, s190_42, s190_45, s190_48, s190_51, s190_54, s190_55, R.1, hlt, r_setOf R M I hi, r_setOf R M I (show j < n 1 by omega), nI_1, XG_1, XO_some, XV_1, xo_n, xo_i8, xo_r8, xo_i7, xo_r7, xo_i6, xo_r6, xo_i5, xo_r5, xo_i4, xo_r4, xo_i3, xo_r3, xo_i2, xo_r2, Option.toList_some, Option.toList_none, List.cons_append, List.nil_append, bI_t, bI_f, bI_0, bI_n0, if_true, if_false, true_and, and_true, ne_eq, not_true_eq_false, not_false_eq_true, one_ne0, reduceCtorEq]
    by_cases q : rgs n T i = rgs n T j
    · simp only [q, if_true] at ih1 ⊢; exact ih1
    · simp only [q, if_false, Int32.add_zero] at ih1 ⊢; exact ih1
theorem l_ralike2 (R : RM h.2.2.1 r m f w g) (M : MR n T f) (I : IV n T) : ∀ k i c3, i + k = n 1 → (XE (d + 11) 190 4 [.val (.ref r), .val (.int (bl2 n T i)), .val (.int (nI i)), c3] [] h Q ↔ Q (some (.int (bl2 n T (n 1)))) h) := by
  have hn := I.nn
  intro k
  induction k with
  | zero =>
    intro i c3 hi
    have hlt : ¬ nI i < nI (n 1) := nI_nlt (by omega) (by omega)
    rw [s190_4]
    simp only [s190_0, s190_1, s190_2, s190_3, s190_5, s190_6, s190_9, s190_10, s190_11, s190_14, s190_15, s190_17, s190_18, s190_21, s190_22, s190_23, s190_24, s190_27, s190_28, s190_29, s190_32, s190_35, s190_36, s190_39, s190_40, s190_41, s190_42, s190_45, s190_48, s190_51, s190_54, s190_55, R.1, R.2.1, mf0, A2, M.1.2.2.1, hlt, XG_1, XO_some, XV_1, xo_n, xo_i8, xo_r8, xo_i7, xo_r7, xo_i6, xo_r6, xo_i5, xo_r5, xo_i4, xo_r4, xo_i3, xo_r3, xo_i2, xo_r2, Option.toList_some, Option.toList_none, List.cons_append, List.nil_append, bI_t, bI_f, bI_0, bI_n0, if_true, if_false, true_and, and_true, ne_eq, not_true_eq_false, not_false_eq_true, one_ne0, reduceCtorEq]
    rw [show i = n 1 by omega]
  | succ k ih =>
    intro i c3 hi
    have hlt : nI i < nI (n 1) := nI_lt (by omega) (by omega)
    rw [s190_4]
    simp only [s190_0, s190_1, s190_2, s190_3, s190_5, s190_6, s190_9, s190_10, s190_11, s190_14, s190_15, s190_17, s190_18, s190_21, s190_22, s190_23, s190_24, s190_27, s190_28, s190_29, s190_32, s190_35, s190_36, s190_39, s190_40, s190_41, s190_42, s190_45, s190_48, s190_51, s190_54, s190_55, R.1, R.2.1, mf0, A2, M.1.2.2.1, hlt, XG_1, XO_some, XV_1, xo_n, xo_i8, xo_r8, xo_i7, xo_r7, xo_i6, xo_r6, xo_i5, xo_r5, xo_i4, xo_r4, xo_i3, xo_r3, xo_i2, xo_r2, Option.toList_some, Option.toList_none, List.cons_append, List.nil_append, bI_t, bI_f, bI_0, bI_n0, if_true, if_false, true_and, and_true, ne_eq, not_true_eq_false, not_false_eq_true, one_ne0, reduceCtorEq]
    refine (l_ralike1 R M I (show i < n 1 by omega) i 0 (by omega)).trans ?_
    exact ih (i + 1) _ (by omega)
theorem pm_alike (S : ST Dy b t r h n T p s) : PM Dy d b t r h n T p 103 190 [] := by
  obtain ⟨⟨l, hO⟩, ht, hr, hD, R, I, hbt⟩ := S
  refine ⟨bl2 n T (n 1), n, T, I, fun Q K => ?_, fun h m f w g hD R M Q K => ?_⟩
  · rw [e103]; simp only [s103_0, s103_1, s103_2, s103_3]
    refine (l_alike2 R hO (n 1) 0 _ (by omega)).mpr ?_
    rw [al_bl]
    exact K h s FR.refl R
  · rw [e190]; simp only [s190_0, s190_1, s190_2, s190_3]
    exact (l_ralike2 R M I (n 1) 0 _ (by omega)).mpr (K h f w g FR.refl R M)
end PUB6
