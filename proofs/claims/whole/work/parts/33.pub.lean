/-! ===== 33: the public methods that touch only the town ===== -/
def ST (Dy b t r : Nat) (h : xH) (n : Nat → Nat) (T : Nat → Nat → Int32) (p : Nat → Nat → Option Nat) (s : Nat → Nat → Int32) : Prop := (∃ l, h.2.2.1 b = .inr (11, .ref t :: l)) ∧ t + 12 < Dy ∧ r + 20 < Dy ∧ Dy ≤ h.1 ∧ RT Dy h.2.2.1 t n T p s ∧ IV n T ∧ b < t
def CC (Dy d b t : Nat) (h : xH) (p : Nat → Nat → Option Nat) (mc : Nat) (as : List Value) (v : Int32) (n2 : Nat → Nat) (T2 : Nat → Nat → Int32) : Prop := ∀ Q : Option Value → xH → Prop, (∀ h1 s2, FR Dy (Pt t) h h1 → RT Dy h1.2.2.1 t n2 T2 p s2 → Q (some (.int v)) h1) → XC (d + 12) mc (.ref b :: as) h Q
def CR (Dy d r : Nat) (n : Nat → Nat) (T : Nat → Nat → Int32) (mr : Nat) (as : List Value) (v : Int32) (n2 : Nat → Nat) (T2 : Nat → Nat → Int32) : Prop := ∀ h m f w g, Dy ≤ h.1 → RM h.2.2.1 r m f w g → MR n T f → ∀ Q : Option Value → xH → Prop, (∀ h2 f2 w2 g2, FR Dy (Pn r) h h2 → RM h2.2.2.1 r m f2 w2 g2 → MR n2 T2 f2 → Q (some (.int v)) h2) → XC (d + 12) mr (.ref r :: as) h Q
def PM (Dy d b t r : Nat) (h : xH) (n : Nat → Nat) (T : Nat → Nat → Int32) (p : Nat → Nat → Option Nat) (mc mr : Nat) (as : List Value) : Prop := ∃ v n2 T2, IV n2 T2 ∧ CC Dy d b t h p mc as v n2 T2 ∧ CR Dy d r n T mr as v n2 T2
theorem o0 {t : Nat} {l : List Value} : (Value.ref t :: l)[0]? = some (.ref t) := rfl
theorem wiB_t {x : Int32} {k : Nat} (h : wiB x 0 (nI k) = true) (hk : k < 2 ^ 31) : ∃ j, j ≤ k ∧ x = nI j := by
  unfold wiB at h
  rw [Bool.and_eq_true, decide_eq_true_eq, decide_eq_true_eq, Int32.lt_iff_toInt_lt, Int32.lt_iff_toInt_lt, nI_toInt hk] at h
  obtain ⟨h1, h2⟩ := h
  have h0 : (0 : Int32).toInt = 0 := rfl
  rw [h0] at h1
  refine ⟨x.toInt.toNat, by omega, ?_⟩
  rw [← Int32.toInt_inj, nI_toInt (by omega)]
  omega
section PUB
variable {Dy d b t r : Nat} {h : xH} {n : Nat → Nat} {T : Nat → Nat → Int32} {p : Nat → Nat → Option Nat} {s : Nat → Nat → Int32} {Q : Option Value → xH → Prop} {x y z : Int32} {m f w g : Nat → Int32}
theorem frp0 {h1 : xH} (F : FR Dy P0 h h1) : FR Dy (Pt t) h h1 := F.wide (fun _ q => q.elim)
theorem frpw {h1 : xH} (F : FR Dy (Pw t) h h1) : FR Dy (Pt t) h h1 := F.wide (fun _ q => ⟨by omega, by omega⟩)
theorem r_becomes (R : RM h.2.2.1 r m f w g) {j : Nat} (hj : j < 1482) : XC (d + 1) 143 [.ref r, .int (nI j), .int x] h Q ↔ Q (some (.int (f j))) (xset h (r + 1) (.inl (0, xis 1482 (upd f j x)))) := by
  rw [e143]
  simp only [s143_0, s143_1, s143_4, s143_5, s143_6, s143_7, s143_8, s143_11, s143_12, s143_13, s143_14, s143_15, R.1, R.2.1, mf0, XG_1, XO_some, XV_1, xo_n, xo_i8, xo_r8, xo_i7, xo_r7, xo_i6, xo_r6, xo_i5, xo_r5, xo_i4, xo_r4, xo_i3, xo_r3, xo_i2, xo_r2, Option.toList_some, Option.toList_none, List.cons_append, List.nil_append, bI_t, bI_f, bI_0, bI_n0, if_true, if_false, true_and, and_true, ne_eq, not_true_eq_false, not_false_eq_true, one_ne0, reduceCtorEq, XAm hj, XSm hj]
theorem r_comes (R : RM h.2.2.1 r m f w g) (M : MR n T f) (h0 : n 0 < 10) (hr : r + 20 < Dy) (hD : Dy ≤ h.1) (K : ∀ h' f', FR Dy (Pn r) h h' → RM h'.2.2.1 r m f' w g → MR (va_up n 0 (n 0 + 1)) (addH n T x y) f' → Q (some (.int (nI (n 0)))) h') : XC (d + 1) 145 [.ref r, .int x, .int y] h Q := by
  have e1 : ∀ e, (xset h (r + 1) e).2.2.1 r = .inr (12, modelF r m) := fun e => by rw [xset_ne (by omega)]; exact R.1
  have h1 : 8 + 3 * n 0 < 1482 := by omega
  have h2 : 8 + 3 * n 0 + 1 < 1482 := by omega
  have h3 : 8 + 3 * n 0 + 2 < 1482 := by omega
  have i2 : nI (8 + 3 * n 0) + 2 = nI (8 + 3 * n 0 + 2) := nI_add _ 2
  have g1 : (upd (upd (upd f (8 + 3 * n 0) x) (8 + 3 * n 0 + 1) y) (8 + 3 * n 0 + 2) 0) 1 = nI (n 0) := by
    rw [upd_ne (by omega), upd_ne (by omega), upd_ne (by omega)]; exact M.1.2.1
  obtain ⟨R2, F2⟩ := R.sf hr hD (f2 := upd (upd (upd (upd f (8 + 3 * n 0) x) (8 + 3 * n 0 + 1) y) (8 + 3 * n 0 + 2) 0) 1 (nI (n 0 + 1)))
  have M2 := mr_nh (mr_h3 (mr_h2 (mr_h1 M h0 (v := x)) h0 (v := y)) h0 (v := 0)) (v := n 0 + 1)
  rw [e145]
  simp only [s145_0, s145_2, s145_3, s145_4, s145_7, s145_8, s145_9, s145_10, s145_11, s145_12, s145_13, s145_16, s145_17, s145_18, s145_19, s145_20, s145_23, s145_24, s145_25, s145_26, s145_27, s145_28, s145_29, s145_32, s145_33, s145_34, s145_35, s145_36, s145_37, s145_38, s145_41, s145_42, s145_43, s145_44, s145_45, s145_46, s145_47, s145_48, s145_51, s145_52, s145_53, s145_54, s145_55, R.1, R.2.1, e1, xset_self, mf0, XG_1, XO_some, XV_1, xo_n, xo_i8, xo_r8, xo_i7, xo_r7, xo_i6, xo_r6, xo_i5, xo_r5, xo_i4, xo_r4, xo_i3, xo_r3, xo_i2, xo_r2, Option.toList_some, Option.toList_none, List.cons_append, List.nil_append, bI_t, bI_f, bI_0, bI_n0, if_true, if_false, true_and, and_true, ne_eq, not_true_eq_false, not_false_eq_true, one_ne0, reduceCtorEq, A1, S1, M.1.2.1, g1, m3, i8, i2, nI_1, XSm h1, XSm h2, XSm h3, xset_twice, upd_at, nI_pred]
  exact K _ _ F2 R2 M2
theorem iv_house (I : IV n T) (h0 : n 0 < 10) : IV (va_up n 0 (n 0 + 1)) (addH n T x y) := by
  have hn := I.nn
  have ag : ∀ i j, agB (addH n T x y 3) i j = if i = n 0 then false else agB (T 3) i j := by
    intro i j
    unfold addH agB
    rw [sup_row]
    by_cases q : i = n 0
    · subst q
      rw [upd_at, if_pos rfl]
      rw [show xshr 0 (nI j) = 0 by unfold xshr; exact Int32.zero_shiftRight]
      rfl
    · rw [upd_ne q, if_neg q, sup_ne (by decide), sup_ne (by decide)]
  refine ⟨⟨by show n 0 + 1 ≤ 10; omega, hn.2.1, hn.2.2.1, hn.2.2.2⟩, I.pt, fun i hi => ?_, I.wo, fun i hi => ?_, fun i hi => ?_, fun i j hi hj => ?_, fun i j hi hj hj2 => ?_, I.tx⟩
  · obtain ⟨j, q1, q2⟩ := I.ow i hi
    exact ⟨j, by show j < n 0 + 1; omega, q2⟩
  · rcases I.be i hi with q | ⟨j, q1, q2⟩
    · exact Or.inl q
    · exact Or.inr ⟨j, by show j < n 0 + 1; omega, q2⟩
  · obtain ⟨k, j, q1, q2⟩ := I.th i hi
    exact ⟨k, j, by show j < n 0 + 1; omega, q2⟩
  · have hi' : i < n 0 + 1 := hi
    have hj' : j < n 0 + 1 := hj
    rw [ag, ag]
    by_cases q1 : i = n 0
    · by_cases q2 : j = n 0
      · rw [if_pos q1, if_pos q2]
      · rw [if_pos q1, if_neg q2, q1, I.hi j (n 0) (by omega) (by omega) (by omega)]
    · by_cases q2 : j = n 0
      · rw [if_neg q1, if_pos q2, q2, I.hi i (n 0) (by omega) (by omega) (by omega)]
      · rw [if_neg q1, if_neg q2, I.sy i j (by omega) (by omega)]
  · have hi' : i < n 0 + 1 := hi
    have hj' : n 0 + 1 ≤ j := hj
    rw [ag]
    by_cases q1 : i = n 0
    · rw [if_pos q1]
    · rw [if_neg q1, I.hi i j (by omega) (by omega) hj2]
theorem pm_house (S : ST Dy b t r h n T p s) : PM Dy d b t r h n T p 78 146 [.int x, .int y] := by
  obtain ⟨⟨l, hO⟩, ht, hr, hD, R, I, hbt⟩ := S
  have hn := I.nn
  cases hx : wiB x 0 100 with
  | false =>
    refine ⟨BAD, n, T, I, fun Q K => ?_, fun h m f w g hD R M Q K => ?_⟩
    · rw [e78]; simp only [s78_0, s78_1, s78_2, s78_4, s78_7, s78_10, s78_11, s78_12, s78_14, s78_17, s78_20, s78_22, s78_23, s78_24, s78_27, s78_28, s78_29, s78_32, c_within, hx, XG_1, XO_some, XV_1, xo_n, xo_i8, xo_r8, xo_i7, xo_r7, xo_i6, xo_r6, xo_i5, xo_r5, xo_i4, xo_r4, xo_i3, xo_r3, xo_i2, xo_r2, Option.toList_some, Option.toList_none, List.cons_append, List.nil_append, bI_t, bI_f, bI_0, bI_n0, if_true, if_false, true_and, and_true, ne_eq, not_true_eq_false, not_false_eq_true, one_ne0, reduceCtorEq]; exact K h s FR.refl R
    · rw [e146]; simp only [s146_0, s146_1, s146_2, s146_4, s146_7, s146_10, s146_11, s146_12, s146_14, s146_17, s146_20, s146_22, s146_23, s146_24, s146_27, s146_28, s146_29, s146_31, s146_34, s146_36, s146_39, s146_40, s146_41, s146_42, s146_45, c_in, hx, XG_1, XO_some, XV_1, xo_n, xo_i8, xo_r8, xo_i7, xo_r7, xo_i6, xo_r6, xo_i5, xo_r5, xo_i4, xo_r4, xo_i3, xo_r3, xo_i2, xo_r2, Option.toList_some, Option.toList_none, List.cons_append, List.nil_append, bI_t, bI_f, bI_0, bI_n0, if_true, if_false, true_and, and_true, ne_eq, not_true_eq_false, not_false_eq_true, one_ne0, reduceCtorEq]; exact K h f w g FR.refl R M
  | true =>
  cases hy : wiB y 0 100 with
  | false =>
    refine ⟨BAD, n, T, I, fun Q K => ?_, fun h m f w g hD R M Q K => ?_⟩
    · rw [e78]; simp only [s78_0, s78_1, s78_2, s78_4, s78_7, s78_10, s78_11, s78_12, s78_14, s78_17, s78_20, s78_22, s78_23, s78_24, s78_27, s78_28, s78_29, s78_32, c_within, hx, hy, XG_1, XO_some, XV_1, xo_n, xo_i8, xo_r8, xo_i7, xo_r7, xo_i6, xo_r6, xo_i5, xo_r5, xo_i4, xo_r4, xo_i3, xo_r3, xo_i2, xo_r2, Option.toList_some, Option.toList_none, List.cons_append, List.nil_append, bI_t, bI_f, bI_0, bI_n0, if_true, if_false, true_and, and_true, ne_eq, not_true_eq_false, not_false_eq_true, one_ne0, reduceCtorEq]; exact K h s FR.refl R
    · rw [e146]; simp only [s146_0, s146_1, s146_2, s146_4, s146_7, s146_10, s146_11, s146_12, s146_14, s146_17, s146_20, s146_22, s146_23, s146_24, s146_27, s146_28, s146_29, s146_31, s146_34, s146_36, s146_39, s146_40, s146_41, s146_42, s146_45, c_in, hx, hy, XG_1, XO_some, XV_1, xo_n, xo_i8, xo_r8, xo_i7, xo_r7, xo_i6, xo_r6, xo_i5, xo_r5, xo_i4, xo_r4, xo_i3, xo_r3, xo_i2, xo_r2, Option.toList_some, Option.toList_none, List.cons_append, List.nil_append, bI_t, bI_f, bI_0, bI_n0, if_true, if_false, true_and, and_true, ne_eq, not_true_eq_false, not_false_eq_true, one_ne0, reduceCtorEq]; exact K h f w g FR.refl R M
  | true =>
  by_cases h0 : n 0 = 10
  · refine ⟨-1000000003, n, T, I, fun Q K => ?_, fun h m f w g hD R M Q K => ?_⟩
    · rw [e78]; simp only [s78_0, s78_1, s78_2, s78_4, s78_7, s78_10, s78_11, s78_12, s78_14, s78_17, s78_20, s78_22, s78_23, s78_24, s78_27, s78_28, s78_29, s78_32, c_within, hx, hy, hO, o0, R.o, c_addHouseF R h0, XG_1, XO_some, XV_1, xo_n, xo_i8, xo_r8, xo_i7, xo_r7, xo_i6, xo_r6, xo_i5, xo_r5, xo_i4, xo_r4, xo_i3, xo_r3, xo_i2, xo_r2, Option.toList_some, Option.toList_none, List.cons_append, List.nil_append, bI_t, bI_f, bI_0, bI_n0, if_true, if_false, true_and, and_true, ne_eq, not_true_eq_false, not_false_eq_true, one_ne0, reduceCtorEq]; exact K h s FR.refl R
    · rw [e146]; simp only [s146_0, s146_1, s146_2, s146_4, s146_7, s146_10, s146_11, s146_12, s146_14, s146_17, s146_20, s146_22, s146_23, s146_24, s146_27, s146_28, s146_29, s146_31, s146_34, s146_36, s146_39, s146_40, s146_41, s146_42, s146_45, c_in, hx, hy, R.1, R.2.1, mf0, A1, M.1.2.1, h0, show nI 10 = 10 from rfl, XG_1, XO_some, XV_1, xo_n, xo_i8, xo_r8, xo_i7, xo_r7, xo_i6, xo_r6, xo_i5, xo_r5, xo_i4, xo_r4, xo_i3, xo_r3, xo_i2, xo_r2, Option.toList_some, Option.toList_none, List.cons_append, List.nil_append, bI_t, bI_f, bI_0, bI_n0, if_true, if_false, true_and, and_true, ne_eq, not_true_eq_false, not_false_eq_true, one_ne0, reduceCtorEq]; exact K h f w g FR.refl R M
  · have h1 : n 0 < 10 := by omega
    refine ⟨nI (n 0), _, _, iv_house I h1 (x := x) (y := y), fun Q K => ?_, fun h m f w g hD R M Q K => ?_⟩
    · rw [e78]; simp only [s78_0, s78_1, s78_2, s78_4, s78_7, s78_10, s78_11, s78_12, s78_14, s78_17, s78_20, s78_22, s78_23, s78_24, s78_27, s78_28, s78_29, s78_32, c_within, hx, hy, hO, o0, R.o, XG_1, XO_some, XV_1, xo_n, xo_i8, xo_r8, xo_i7, xo_r7, xo_i6, xo_r6, xo_i5, xo_r5, xo_i4, xo_r4, xo_i3, xo_r3, xo_i2, xo_r2, Option.toList_some, Option.toList_none, List.cons_append, List.nil_append, bI_t, bI_f, bI_0, bI_n0, if_true, if_false, true_and, and_true, ne_eq, not_true_eq_false, not_false_eq_true, one_ne0, reduceCtorEq]
      refine c_addHouse R ht hD h1 fun h1 F1 R1 => ?_
      simp only [s78_0, s78_1, s78_2, s78_4, s78_7, s78_10, s78_11, s78_12, s78_14, s78_17, s78_20, s78_22, s78_23, s78_24, s78_27, s78_28, s78_29, s78_32, XG_1, XO_some, XV_1, xo_n, xo_i8, xo_r8, xo_i7, xo_r7, xo_i6, xo_r6, xo_i5, xo_r5, xo_i4, xo_r4, xo_i3, xo_r3, xo_i2, xo_r2, Option.toList_some, Option.toList_none, List.cons_append, List.nil_append, bI_t, bI_f, bI_0, bI_n0, if_true, if_false, true_and, and_true, ne_eq, not_true_eq_false, not_false_eq_true, one_ne0, reduceCtorEq]
      exact K h1 s F1 R1
    · have e10 : ¬ nI (n 0) = 10 := by rw [show (10 : Int32) = nI 10 from rfl, nI_eq (by omega) (by omega)]; exact h0
      rw [e146]; simp only [s146_0, s146_1, s146_2, s146_4, s146_7, s146_10, s146_11, s146_12, s146_14, s146_17, s146_20, s146_22, s146_23, s146_24, s146_27, s146_28, s146_29, s146_31, s146_34, s146_36, s146_39, s146_40, s146_41, s146_42, s146_45, c_in, hx, hy, R.1, R.2.1, mf0, A1, M.1.2.1, e10, XG_1, XO_some, XV_1, xo_n, xo_i8, xo_r8, xo_i7, xo_r7, xo_i6, xo_r6, xo_i5, xo_r5, xo_i4, xo_r4, xo_i3, xo_r3, xo_i2, xo_r2, Option.toList_some, Option.toList_none, List.cons_append, List.nil_append, bI_t, bI_f, bI_0, bI_n0, if_true, if_false, true_and, and_true, ne_eq, not_true_eq_false, not_false_eq_true, one_ne0, reduceCtorEq]
      refine r_comes R M h1 hr hD fun h1 f1 F1 R1 M1 => ?_
      simp only [s146_0, s146_1, s146_2, s146_4, s146_7, s146_10, s146_11, s146_12, s146_14, s146_17, s146_20, s146_22, s146_23, s146_24, s146_27, s146_28, s146_29, s146_31, s146_34, s146_36, s146_39, s146_40, s146_41, s146_42, s146_45, XG_1, XO_some, XV_1, xo_n, xo_i8, xo_r8, xo_i7, xo_r7, xo_i6, xo_r6, xo_i5, xo_r5, xo_i4, xo_r4, xo_i3, xo_r3, xo_i2, xo_r2, Option.toList_some, Option.toList_none, List.cons_append, List.nil_append, bI_t, bI_f, bI_0, bI_n0, if_true, if_false, true_and, and_true, ne_eq, not_true_eq_false, not_false_eq_true, one_ne0, reduceCtorEq]
      exact K h1 f1 w g F1 R1 M1
end PUB
