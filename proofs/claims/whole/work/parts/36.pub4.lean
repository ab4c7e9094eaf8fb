/-! ===== 36: public methods of thieves ===== -/
def wth (kn : Nat) (hm : Int32) : Int32 := if kn = 1 then hm + 10 else if kn = 2 then hm - 1 else if kn = 3 then 2 * (hm + 10) else if kn = 4 then hm + 19 else if kn = 5 then 30 else hm
def udr (kn x : Nat) : Bool := x == 0 || kn == x || (x == 1 && kn == 3) || (x == 2 && kn == 4)
section PUB4
variable {Dy d b t r : Nat} {h : xH} {n : Nat → Nat} {T : Nat → Nat → Int32} {p : Nat → Nat → Option Nat} {s : Nat → Nat → Int32} {Q : Option Value → xH → Prop} {x y z : Int32} {m f w g : Nat → Int32}
theorem kcl_in {kn : Nat} (hk : kn ≤ 5) : kcl kn ∈ [0, 1, 2, 3, 4, 9] := by
  rcases (show kn = 0 ∨ kn = 1 ∨ kn = 2 ∨ kn = 3 ∨ kn = 4 ∨ kn = 5 by omega) with rfl | rfl | rfl | rfl | rfl | rfl <;> decide
/-- a thief of the class -/
theorem th_at (R : RT Dy h.2.2.1 t n T p s) (I : IV n T) {i : Nat} (hi : i < n 2) : ∃ a kn home, p 0 i = some a ∧ Dy ≤ a ∧ kn ≤ 5 ∧ home < n 0 ∧ T 8 i = nI kn ∧ T 9 i = nI home ∧ knd T i = kn ∧ hom T i = home ∧ thf h.2.2.1 a (T 8 i) (T 9 i) ∧ h.2.2.1 a = .inr (kcl kn, [.int (nI kn), .int (nI home)]) := by
  have hn := I.nn
  obtain ⟨a, q1, q2, kn, q3, q4, q5⟩ := R.th i hi
  obtain ⟨-, home, q6, q7⟩ := I.th i hi
  refine ⟨a, kn, home, q1, q2, q3, q6, q4, q7, ?_, ?_, ⟨kn, q3, q4, q5⟩, ?_⟩
  · show (T 8 i).toNatClampNeg = kn; rw [q4, nI_clamp (by omega)]
  · show (T 9 i).toNatClampNeg = home; rw [q7, nI_clamp (by omega)]
  · rw [q5, q4, q7]
theorem c_val9 {a c : Nat} {l k : Value} (hc : c ∈ [0, 1, 2, 3, 4, 9]) (hA : h.2.2.1 a = .inr (c, [k, l])) : XC (d + 1) 49 [.ref a] h Q ↔ XE d 49 4 [.val (.ref a)] [l] h Q := by
  have hX : ∀ {F : Value → Prop}, XG [0, 1, 2, 3, 4, 9] 1 (.inr (c, [k, l])) F ↔ F l := fun {F} => XG_c hc
  rw [e49]
  simp only [s49_0, s49_1, hA, hX]
theorem s1_20 (x : Int32) : x - 1 + 20 = x + 19 := by
  rw [Int32.sub_eq_add_neg, Int32.add_assoc]; rfl
theorem c_value {a kn : Nat} {k hm : Int32} (hk : kn ≤ 5) (hA : h.2.2.1 a = .inr (kcl kn, [.int k, .int hm])) : XV [(0, 2), (1, 5), (2, 8), (3, 11), (4, 14), (9, 49)] (h.2.2.1 a) (fun m' => XC (d + 4) m' [.ref a] h Q) ↔ Q (some (.int (wth kn hm))) h := by
  rw [hA]
  rcases (show kn = 0 ∨ kn = 1 ∨ kn = 2 ∨ kn = 3 ∨ kn = 4 ∨ kn = 5 by omega) with rfl | rfl | rfl | rfl | rfl | rfl
  · show XC (d + 4) 49 _ h Q ↔ _
    rw [c_val9 (by decide) hA]; simp only [s49_0, s49_1, s49_4]; rfl
  · show XC (d + 4) 8 _ h Q ↔ _
    rw [e8]; simp only [s8_0, s8_1, s8_4, s8_6, s8_7, hA, XG_1, XO_some, XV_1, xo_n, xo_i8, xo_r8, xo_i7, xo_r7, xo_i6, xo_r6, xo_i5, xo_r5, xo_i4, xo_r4, xo_i3, xo_r3, xo_i2, xo_r2, Option.toList_some, Option.toList_none, List.cons_append, List.nil_append, bI_t, bI_f, bI_0, bI_n0, if_true, if_false, true_and, and_true, ne_eq, not_true_eq_false, not_false_eq_true, one_ne0, reduceCtorEq]
    show (XC (d + 3) 49 _ h _ ↔ _)
    rw [c_val9 (by decide) hA]; simp only [s49_0, s49_1, s49_4, s8_0, s8_1, s8_4, s8_6, s8_7, XG_1, XO_some, XV_1, xo_n, xo_i8, xo_r8, xo_i7, xo_r7, xo_i6, xo_r6, xo_i5, xo_r5, xo_i4, xo_r4, xo_i3, xo_r3, xo_i2, xo_r2, Option.toList_some, Option.toList_none, List.cons_append, List.nil_append, bI_t, bI_f, bI_0, bI_n0, if_true, if_false, true_and, and_true, ne_eq, not_true_eq_false, not_false_eq_true, one_ne0, reduceCtorEq]; rfl
  · show XC (d + 4) 2 _ h Q ↔ _
    rw [e2]; simp only [s2_0, s2_1, s2_4, s2_5, s2_6, hA, XG_1, XO_some, XV_1, xo_n, xo_i8, xo_r8, xo_i7, xo_r7, xo_i6, xo_r6, xo_i5, xo_r5, xo_i4, xo_r4, xo_i3, xo_r3, xo_i2, xo_r2, Option.toList_some, Option.toList_none, List.cons_append, List.nil_append, bI_t, bI_f, bI_0, bI_n0, if_true, if_false, true_and, and_true, ne_eq, not_true_eq_false, not_false_eq_true, one_ne0, reduceCtorEq]
    show (XC (d + 3) 49 _ h _ ↔ _)
    rw [c_val9 (by decide) hA]; simp only [s49_0, s49_1, s49_4, s2_0, s2_1, s2_4, s2_5, s2_6, XG_1, XO_some, XV_1, xo_n, xo_i8, xo_r8, xo_i7, xo_r7, xo_i6, xo_r6, xo_i5, xo_r5, xo_i4, xo_r4, xo_i3, xo_r3, xo_i2, xo_r2, Option.toList_some, Option.toList_none, List.cons_append, List.nil_append, bI_t, bI_f, bI_0, bI_n0, if_true, if_false, true_and, and_true, ne_eq, not_true_eq_false, not_false_eq_true, one_ne0, reduceCtorEq]; rfl
  · show XC (d + 4) 11 _ h Q ↔ _
    rw [e11]; simp only [s11_0, s11_1, s11_2, s11_5, s11_6, hA, XG_1, XO_some, XV_1, xo_n, xo_i8, xo_r8, xo_i7, xo_r7, xo_i6, xo_r6, xo_i5, xo_r5, xo_i4, xo_r4, xo_i3, xo_r3, xo_i2, xo_r2, Option.toList_some, Option.toList_none, List.cons_append, List.nil_append, bI_t, bI_f, bI_0, bI_n0, if_true, if_false, true_and, and_true, ne_eq, not_true_eq_false, not_false_eq_true, one_ne0, reduceCtorEq]
    show (XC (d + 3) 8 _ h _ ↔ _)
    rw [e8]; simp only [s8_0, s8_1, s8_4, s8_6, s8_7, hA, XG_1, XO_some, XV_1, xo_n, xo_i8, xo_r8, xo_i7, xo_r7, xo_i6, xo_r6, xo_i5, xo_r5, xo_i4, xo_r4, xo_i3, xo_r3, xo_i2, xo_r2, Option.toList_some, Option.toList_none, List.cons_append, List.nil_append, bI_t, bI_f, bI_0, bI_n0, if_true, if_false, true_and, and_true, ne_eq, not_true_eq_false, not_false_eq_true, one_ne0, reduceCtorEq]
    show (XC (d + 2) 49 _ h _ ↔ _)
    rw [c_val9 (by decide) hA]; simp only [s49_0, s49_1, s49_4, s8_0, s8_1, s8_4, s8_6, s8_7, s11_0, s11_1, s11_2, s11_5, s11_6, XG_1, XO_some, XV_1, xo_n, xo_i8, xo_r8, xo_i7, xo_r7, xo_i6, xo_r6, xo_i5, xo_r5, xo_i4, xo_r4, xo_i3, xo_r3, xo_i2, xo_r2, Option.toList_some, Option.toList_none, List.cons_append, List.nil_append, bI_t, bI_f, bI_0, bI_n0, if_true, if_false, true_and, and_true, ne_eq, not_true_eq_false, not_false_eq_true, one_ne0, reduceCtorEq]; rfl
  · show XC (d + 4) 14 _ h Q ↔ _
    rw [e14]; simp only [s14_0, s14_1, s14_4, s14_6, s14_7, hA, XG_1, XO_some, XV_1, xo_n, xo_i8, xo_r8, xo_i7, xo_r7, xo_i6, xo_r6, xo_i5, xo_r5, xo_i4, xo_r4, xo_i3, xo_r3, xo_i2, xo_r2, Option.toList_some, Option.toList_none, List.cons_append, List.nil_append, bI_t, bI_f, bI_0, bI_n0, if_true, if_false, true_and, and_true, ne_eq, not_true_eq_false, not_false_eq_true, one_ne0, reduceCtorEq]
    show (XC (d + 3) 2 _ h _ ↔ _)
    rw [e2]; simp only [s2_0, s2_1, s2_4, s2_5, s2_6, hA, XG_1, XO_some, XV_1, xo_n, xo_i8, xo_r8, xo_i7, xo_r7, xo_i6, xo_r6, xo_i5, xo_r5, xo_i4, xo_r4, xo_i3, xo_r3, xo_i2, xo_r2, Option.toList_some, Option.toList_none, List.cons_append, List.nil_append, bI_t, bI_f, bI_0, bI_n0, if_true, if_false, true_and, and_true, ne_eq, not_true_eq_false, not_false_eq_true, one_ne0, reduceCtorEq]
    show (XC (d + 2) 49 _ h _ ↔ _)
    rw [c_val9 (by decide) hA]; simp only [s49_0, s49_1, s49_4, s2_0, s2_1, s2_4, s2_5, s2_6, s14_0, s14_1, s14_4, s14_6, s14_7, XG_1, XO_some, XV_1, xo_n, xo_i8, xo_r8, xo_i7, xo_r7, xo_i6, xo_r6, xo_i5, xo_r5, xo_i4, xo_r4, xo_i3, xo_r3, xo_i2, xo_r2, Option.toList_some, Option.toList_none, List.cons_append, List.nil_append, bI_t, bI_f, bI_0, bI_n0, if_true, if_false, true_and, and_true, ne_eq, not_true_eq_false, not_false_eq_true, one_ne0, reduceCtorEq, s1_20]; rfl
  · show XC (d + 4) 5 _ h Q ↔ _
    rw [e5]; simp only [s5_0, s5_2]; rfl
theorem r_worth (R : RM h.2.2.1 r m f w g) (M : MR n T f) (I : IV n T) {i kn : Nat} (hi : i < n 2) (hk : kn ≤ 5) (h8 : T 8 i = nI kn) : XC (d + 2) 162 [.ref r, .int (nI i)] h Q ↔ Q (some (.int (wth kn (T 9 i)))) h := by
  rw [e162]
  simp only [s162_0, s162_1, s162_2, s162_5, s162_6, s162_7, s162_8, R.1, r_homeOf R M I hi, r_kindOf R M I hi, h8, XG_1, XO_some, XV_1, xo_n, xo_i8, xo_r8, xo_i7, xo_r7, xo_i6, xo_r6, xo_i5, xo_r5, xo_i4, xo_r4, xo_i3, xo_r3, xo_i2, xo_r2, Option.toList_some, Option.toList_none, List.cons_append, List.nil_append, bI_t, bI_f, bI_0, bI_n0, if_true, if_false, true_and, and_true, ne_eq, not_true_eq_false, not_false_eq_true, one_ne0, reduceCtorEq]
  rcases (show kn = 0 ∨ kn = 1 ∨ kn = 2 ∨ kn = 3 ∨ kn = 4 ∨ kn = 5 by omega) with rfl | rfl | rfl | rfl | rfl | rfl
  · simp only [s162_0, s162_1, s162_2, s162_5, s162_6, s162_7, s162_8, s162_11, s162_44, s162_45, s162_47, s162_48, s162_49, s162_50, s162_51, s162_52, s162_53, s162_54, s162_55, s162_57, s162_58, s162_59, s162_60, s162_61, s162_63, s162_64, s162_65, s162_67, s162_68, s162_69, xswi, show ((nI 0 = 1) = False) from eq_false (by decide), show ((nI 0 = 2) = False) from eq_false (by decide), show ((nI 0 = 3) = False) from eq_false (by decide), show ((nI 0 = 4) = False) from eq_false (by decide), show ((nI 0 = 5) = False) from eq_false (by decide), if_false]; rfl
  · simp only [s162_0, s162_1, s162_2, s162_5, s162_6, s162_7, s162_8, s162_11, s162_44, s162_45, s162_47, s162_48, s162_49, s162_50, s162_51, s162_52, s162_53, s162_54, s162_55, s162_57, s162_58, s162_59, s162_60, s162_61, s162_63, s162_64, s162_65, s162_67, s162_68, s162_69, xswi, show ((nI 1 = 1) = True) from eq_true rfl, if_true]; rfl
  · simp only [s162_0, s162_1, s162_2, s162_5, s162_6, s162_7, s162_8, s162_11, s162_44, s162_45, s162_47, s162_48, s162_49, s162_50, s162_51, s162_52, s162_53, s162_54, s162_55, s162_57, s162_58, s162_59, s162_60, s162_61, s162_63, s162_64, s162_65, s162_67, s162_68, s162_69, xswi, show ((nI 2 = 1) = False) from eq_false (by decide), show ((nI 2 = 2) = True) from eq_true rfl, if_true, if_false]; rfl
  · simp only [s162_0, s162_1, s162_2, s162_5, s162_6, s162_7, s162_8, s162_11, s162_44, s162_45, s162_47, s162_48, s162_49, s162_50, s162_51, s162_52, s162_53, s162_54, s162_55, s162_57, s162_58, s162_59, s162_60, s162_61, s162_63, s162_64, s162_65, s162_67, s162_68, s162_69, xswi, show ((nI 3 = 1) = False) from eq_false (by decide), show ((nI 3 = 2) = False) from eq_false (by decide), show ((nI 3 = 3) = True) from eq_true rfl, if_true, if_false]; rfl
  · simp only [s162_0, s162_1, s162_2, s162_5, s162_6, s162_7, s162_8, s162_11, s162_44, s162_45, s162_47, s162_48, s162_49, s162_50, s162_51, s162_52, s162_53, s162_54, s162_55, s162_57, s162_58, s162_59, s162_60, s162_61, s162_63, s162_64, s162_65, s162_67, s162_68, s162_69, xswi, show ((nI 4 = 1) = False) from eq_false (by decide), show ((nI 4 = 2) = False) from eq_false (by decide), show ((nI 4 = 3) = False) from eq_false (by decide), show ((nI 4 = 4) = True) from eq_true rfl, if_true, if_false]; rfl
  · simp only [s162_0, s162_1, s162_2, s162_5, s162_6, s162_7, s162_8, s162_11, s162_44, s162_45, s162_47, s162_48, s162_49, s162_50, s162_51, s162_52, s162_53, s162_54, s162_55, s162_57, s162_58, s162_59, s162_60, s162_61, s162_63, s162_64, s162_65, s162_67, s162_68, s162_69, xswi, show ((nI 5 = 1) = False) from eq_false (by decide), show ((nI 5 = 2) = False) from eq_false (by decide), show ((nI 5 = 3) = False) from eq_false (by decide), show ((nI 5 = 4) = False) from eq_false (by decide), show ((nI 5 = 5) = True) from eq_true rfl, if_true, if_false]; rfl
theorem wiB_no2 (y0 : ¬ y = 0) (y1 : ¬ y = 1) (y2 : ¬ y = 2) : wiB y 0 2 = false := by
  cases q : wiB y 0 2 with
  | false => rfl
  | true =>
    obtain ⟨j, hj, rfl⟩ := wiB_t (k := 2) q (by decide)
    rcases (show j = 0 ∨ j = 1 ∨ j = 2 by omega) with rfl | rfl | rfl
    · exact absurd rfl y0
    · exact absurd rfl y1
    · exact absurd rfl y2
theorem pm_told (S : ST Dy b t r h n T p s) : PM Dy d b t r h n T p 89 163 [.int x, .int y] := by
  obtain ⟨⟨l, hO⟩, ht, hr, hD, R, I, hbt⟩ := S
  have hn := I.nn
  cases hx : isI x (n 2) with
  | false =>
    refine ⟨BAD, n, T, I, fun Q K => ?_, fun h m f w g hD R M Q K => ?_⟩
    · rw [e89]; simp only [s89_0, s89_1, s89_4, s89_5, s89_8, s89_8n, s89_9, s89_9n, s89_10, s89_10n, s89_13, s89_15, s89_16, s89_17, s89_44, s89_44n, s89_45, s89_48, s89_49, s89_49n, s89_50, s89_53, s89_54, s89_54n, s89_55, s89_58, s89_59, s89_61, hO, o0, R.o, c_thiefAt R, hx, Bool.false_eq_true, XG_1, XO_some, XV_1, xo_n, xo_i8, xo_r8, xo_i7, xo_r7, xo_i6, xo_r6, xo_i5, xo_r5, xo_i4, xo_r4, xo_i3, xo_r3, xo_i2, xo_r2, Option.toList_some, Option.toList_none, List.cons_append, List.nil_append, bI_t, bI_f, bI_0, bI_n0, if_true, if_false, true_and, and_true, ne_eq, not_true_eq_false, not_false_eq_true, one_ne0, reduceCtorEq]; exact K h s FR.refl R
    · rw [e163]; simp only [s163_0, s163_1, s163_2, s163_5, s163_8, s163_9, s163_10, s163_11, s163_14, s163_17, s163_19, s163_20, s163_21, s163_24, s163_25, s163_26, s163_29, s163_32, s163_33, s163_34, s163_37, s163_38, s163_39, s163_42, s163_45, s163_46, s163_47, s163_50, R.1, r_isThief R M I, hx, XG_1, XO_some, XV_1, xo_n, xo_i8, xo_r8, xo_i7, xo_r7, xo_i6, xo_r6, xo_i5, xo_r5, xo_i4, xo_r4, xo_i3, xo_r3, xo_i2, xo_r2, Option.toList_some, Option.toList_none, List.cons_append, List.nil_append, bI_t, bI_f, bI_0, bI_n0, if_true, if_false, true_and, and_true, ne_eq, not_true_eq_false, not_false_eq_true, one_ne0, reduceCtorEq]; exact K h f w g FR.refl R M
  | true =>
  obtain ⟨i, hi, rfl⟩ := isI_t hx (by omega)
  have hcl : (nI i).toNatClampNeg = i := nI_clamp (by omega)
  obtain ⟨a, kn, home, pa, ha, hk, hh, h8, h9, -, -, -, hA⟩ := th_at R I hi
  have hX0 : ∀ {F : Value → Prop}, XG [0, 1, 2, 3, 4, 9] 0 (.inr (kcl kn, [.int (nI kn), .int (nI home)])) F ↔ F (.int (nI kn)) := fun {F} => XG_c (kcl_in hk)
  have hX1 : ∀ {F : Value → Prop}, XG [0, 1, 2, 3, 4, 9] 1 (.inr (kcl kn, [.int (nI kn), .int (nI home)])) F ↔ F (.int (nI home)) := fun {F} => XG_c (kcl_in hk)
  by_cases y0 : y = 0
  · subst y0
    refine ⟨nI kn, n, T, I, fun Q K => ?_, fun h m f w g hD R M Q K => ?_⟩
    · rw [e89]; simp only [s89_0, s89_1, s89_4, s89_5, s89_8, s89_8n, s89_9, s89_9n, s89_10, s89_10n, s89_13, s89_15, s89_16, s89_17, s89_44, s89_44n, s89_45, s89_48, s89_49, s89_49n, s89_50, s89_53, s89_54, s89_54n, s89_55, s89_58, s89_59, s89_61, hO, o0, R.o, c_thiefAt R, hx, hcl, pa, va_rf, hA, hX0, xswi, XG_1, XO_some, XV_1, xo_n, xo_i8, xo_r8, xo_i7, xo_r7, xo_i6, xo_r6, xo_i5, xo_r5, xo_i4, xo_r4, xo_i3, xo_r3, xo_i2, xo_r2, Option.toList_some, Option.toList_none, List.cons_append, List.nil_append, bI_t, bI_f, bI_0, bI_n0, if_true, if_false, true_and, and_true, ne_eq, not_true_eq_false, not_false_eq_true, one_ne0, reduceCtorEq]; exact K h s FR.refl R
    · rw [e163]; simp only [s163_0, s163_1, s163_2, s163_5, s163_8, s163_9, s163_10, s163_11, s163_14, s163_17, s163_19, s163_20, s163_21, s163_24, s163_25, s163_26, s163_29, s163_32, s163_33, s163_34, s163_37, s163_38, s163_39, s163_42, s163_45, s163_46, s163_47, s163_50, R.1, r_isThief R M I, hx, c_in, show wiB 0 0 2 = true by decide, r_kindOf R M I hi, h8, XG_1, XO_some, XV_1, xo_n, xo_i8, xo_r8, xo_i7, xo_r7, xo_i6, xo_r6, xo_i5, xo_r5, xo_i4, xo_r4, xo_i3, xo_r3, xo_i2, xo_r2, Option.toList_some, Option.toList_none, List.cons_append, List.nil_append, bI_t, bI_f, bI_0, bI_n0, if_true, if_false, true_and, and_true, ne_eq, not_true_eq_false, not_false_eq_true, one_ne0, reduceCtorEq, Bool.true_eq_false]; exact K h f w g FR.refl R M
  by_cases y1 : y = 1
  · subst y1
    refine ⟨nI home, n, T, I, fun Q K => ?_, fun h m f w g hD R M Q K => ?_⟩
    · rw [e89]; simp only [s89_0, s89_1, s89_4, s89_5, s89_8, s89_8n, s89_9, s89_9n, s89_10, s89_10n, s89_13, s89_15, s89_16, s89_17, s89_44, s89_44n, s89_45, s89_48, s89_49, s89_49n, s89_50, s89_53, s89_54, s89_54n, s89_55, s89_58, s89_59, s89_61, hO, o0, R.o, c_thiefAt R, hx, hcl, pa, va_rf, hA, hX1, xswi, XG_1, XO_some, XV_1, xo_n, xo_i8, xo_r8, xo_i7, xo_r7, xo_i6, xo_r6, xo_i5, xo_r5, xo_i4, xo_r4, xo_i3, xo_r3, xo_i2, xo_r2, Option.toList_some, Option.toList_none, List.cons_append, List.nil_append, bI_t, bI_f, bI_0, bI_n0, if_true, if_false, true_and, and_true, ne_eq, not_true_eq_false, not_false_eq_true, one_ne0, reduceCtorEq]; exact K h s FR.refl R
    · rw [e163]; simp only [s163_0, s163_1, s163_2, s163_5, s163_8, s163_9, s163_10, s163_11, s163_14, s163_17, s163_19, s163_20, s163_21, s163_24, s163_25, s163_26, s163_29, s163_32, s163_33, s163_34, s163_37, s163_38, s163_39, s163_42, s163_45, s163_46, s163_47, s163_50, R.1, r_isThief R M I, hx, c_in, show wiB 1 0 2 = true by decide, r_homeOf R M I hi, h9, XG_1, XO_some, XV_1, xo_n, xo_i8, xo_r8, xo_i7, xo_r7, xo_i6, xo_r6, xo_i5, xo_r5, xo_i4, xo_r4, xo_i3, xo_r3, xo_i2, xo_r2, Option.toList_some, Option.toList_none, List.cons_append, List.nil_append, bI_t, bI_f, bI_0, bI_n0, if_true, if_false, true_and, and_true, ne_eq, not_true_eq_false, not_false_eq_true, one_ne0, reduceCtorEq, Bool.true_eq_false]; exact K h f w g FR.refl R M
  by_cases y2 : y = 2
  · subst y2
    refine ⟨wth kn (nI home), n, T, I, fun Q K => ?_, fun h m f w g hD R M Q K => ?_⟩
    · rw [e89]; simp only [s89_0, s89_1, s89_4, s89_5, s89_8, s89_8n, s89_9, s89_9n, s89_10, s89_10n, s89_13, s89_15, s89_16, s89_17, s89_44, s89_44n, s89_45, s89_48, s89_49, s89_49n, s89_50, s89_53, s89_54, s89_54n, s89_55, s89_58, s89_59, s89_61, hO, o0, R.o, c_thiefAt R, hx, hcl, pa, va_rf, xswi, q20, q21, XG_1, XO_some, XV_1, xo_n, xo_i8, xo_r8, xo_i7, xo_r7, xo_i6, xo_r6, xo_i5, xo_r5, xo_i4, xo_r4, xo_i3, xo_r3, xo_i2, xo_r2, Option.toList_some, Option.toList_none, List.cons_append, List.nil_append, bI_t, bI_f, bI_0, bI_n0, if_true, if_false, true_and, and_true, ne_eq, not_true_eq_false, not_false_eq_true, one_ne0, reduceCtorEq]
      refine (c_value hk hA).mpr ?_
      simp only [s89_0, s89_1, s89_4, s89_5, s89_8, s89_8n, s89_9, s89_9n, s89_10, s89_10n, s89_13, s89_15, s89_16, s89_17, s89_44, s89_44n, s89_45, s89_48, s89_49, s89_49n, s89_50, s89_53, s89_54, s89_54n, s89_55, s89_58, s89_59, s89_61, XG_1, XO_some, XV_1, xo_n, xo_i8, xo_r8, xo_i7, xo_r7, xo_i6, xo_r6, xo_i5, xo_r5, xo_i4, xo_r4, xo_i3, xo_r3, xo_i2, xo_r2, Option.toList_some, Option.toList_none, List.cons_append, List.nil_append, bI_t, bI_f, bI_0, bI_n0, if_true, if_false, true_and, and_true, ne_eq, not_true_eq_false, not_false_eq_true, one_ne0, reduceCtorEq]; exact K h s FR.refl R
    · rw [e163]; simp only [s163_0, s163_1, s163_2, s163_5, s163_8, s163_9, s163_10, s163_11, s163_14, s163_17, s163_19, s163_20, s163_21, s163_24, s163_25, s163_26, s163_29, s163_32, s163_33, s163_34, s163_37, s163_38, s163_39, s163_42, s163_45, s163_46, s163_47, s163_50, R.1, r_isThief R M I, hx, c_in, show wiB 2 0 2 = true by decide, q20, q21, r_worth R M I hi hk h8, h9, XG_1, XO_some, XV_1, xo_n, xo_i8, xo_r8, xo_i7, xo_r7, xo_i6, xo_r6, xo_i5, xo_r5, xo_i4, xo_r4, xo_i3, xo_r3, xo_i2, xo_r2, Option.toList_some, Option.toList_none, List.cons_append, List.nil_append, bI_t, bI_f, bI_0, bI_n0, if_true, if_false, true_and, and_true, ne_eq, not_true_eq_false, not_false_eq_true, one_ne0, reduceCtorEq, Bool.true_eq_false]; exact K h f w g FR.refl R M
  refine ⟨BAD, n, T, I, fun Q K => ?_, fun h m f w g hD R M Q K => ?_⟩
  · rw [e89]; simp only [s89_0, s89_1, s89_4, s89_5, s89_8, s89_8n, s89_9, s89_9n, s89_10, s89_10n, s89_13, s89_15, s89_16, s89_17, s89_44, s89_44n, s89_45, s89_48, s89_49, s89_49n, s89_50, s89_53, s89_54, s89_54n, s89_55, s89_58, s89_59, s89_61, hO, o0, R.o, c_thiefAt R, hx, hcl, pa, va_rf, xswi, y0, y1, y2, XG_1, XO_some, XV_1, xo_n, xo_i8, xo_r8, xo_i7, xo_r7, xo_i6, xo_r6, xo_i5, xo_r5, xo_i4, xo_r4, xo_i3, xo_r3, xo_i2, xo_r2, Option.toList_some, Option.toList_none, List.cons_append, List.nil_append, bI_t, bI_f, bI_0, bI_n0, if_true, if_false, true_and, and_true, ne_eq, not_true_eq_false, not_false_eq_true, one_ne0, reduceCtorEq]; exact K h s FR.refl R
  · rw [e163]; simp only [s163_0, s163_1, s163_2, s163_5, s163_8, s163_9, s163_10, s163_11, s163_14, s163_17, s163_19, s163_20, s163_21, s163_24, s163_25, s163_26, s163_29, s163_32, s163_33, s163_34, s163_37, s163_38, s163_39, s163_42, s163_45, s163_46, s163_47, s163_50, R.1, r_isThief R M I, hx, c_in, wiB_no2 y0 y1 y2, XG_1, XO_some, XV_1, xo_n, xo_i8, xo_r8, xo_i7, xo_r7, xo_i6, xo_r6, xo_i5, xo_r5, xo_i4, xo_r4, xo_i3, xo_r3, xo_i2, xo_r2, Option.toList_some, Option.toList_none, List.cons_append, List.nil_append, bI_t, bI_f, bI_0, bI_n0, if_true, if_false, true_and, and_true, ne_eq, not_true_eq_false, not_false_eq_true, one_ne0, reduceCtorEq, Bool.true_eq_false]; exact K h f w g FR.refl R M
theorem c_isOf {a kn k : Nat} {v1 v2 : Value} (hk : kn ≤ 5) (hk2 : k ≤ 5) (hA : h.2.2.1 a = .inr (kcl kn, [v1, v2])) : XC (d + 1) 46 [.ref a, .int (nI k)] h Q ↔ Q (some (.int (bI (udr kn k)))) h := by
  rw [e46]
  simp only [s46_0]
  rcases (show k = 0 ∨ k = 1 ∨ k = 2 ∨ k = 3 ∨ k = 4 ∨ k = 5 by omega) with rfl | rfl | rfl | rfl | rfl | rfl
  all_goals simp only [s46_1, s46_40, s46_41, s46_41t, s46_41b, s46_42, s46_43, s46_46, s46_46t, s46_46b, s46_47, s46_48, s46_51, s46_51t, s46_51b, s46_52, s46_53, s46_56, s46_56t, s46_56b, s46_57, s46_58, s46_61, s46_61t, s46_61b, s46_62, s46_63, s46_66, s46_66t, s46_66b, s46_67, xswi, show ((nI 0 = 0) = True) from eq_true rfl, show ((nI 1 = 0) = False) from eq_false (by decide), show ((nI 1 = 1) = True) from eq_true rfl, show ((nI 2 = 0) = False) from eq_false (by decide), show ((nI 2 = 1) = False) from eq_false (by decide), show ((nI 2 = 2) = True) from eq_true rfl, show ((nI 3 = 0) = False) from eq_false (by decide), show ((nI 3 = 1) = False) from eq_false (by decide), show ((nI 3 = 2) = False) from eq_false (by decide), show ((nI 3 = 3) = True) from eq_true rfl, show ((nI 4 = 0) = False) from eq_false (by decide), show ((nI 4 = 1) = False) from eq_false (by decide), show ((nI 4 = 2) = False) from eq_false (by decide), show ((nI 4 = 3) = False) from eq_false (by decide), show ((nI 4 = 4) = True) from eq_true rfl, show ((nI 5 = 0) = False) from eq_false (by decide), show ((nI 5 = 1) = False) from eq_false (by decide), show ((nI 5 = 2) = False) from eq_false (by decide), show ((nI 5 = 3) = False) from eq_false (by decide), show ((nI 5 = 4) = False) from eq_false (by decide), show ((nI 5 = 5) = True) from eq_true rfl, if_true, if_false, hA]
  all_goals rcases (show kn = 0 ∨ kn = 1 ∨ kn = 2 ∨ kn = 3 ∨ kn = 4 ∨ kn = 5 by omega) with rfl | rfl | rfl | rfl | rfl | rfl
  all_goals first | rfl | (simp [XI, kcl, udr, bI, s46_0, s46_1, s46_40, s46_41, s46_41t, s46_41b, s46_42, s46_43, s46_46, s46_46t, s46_46b, s46_47, s46_48, s46_51, s46_51t, s46_51b, s46_52, s46_53, s46_56, s46_56t, s46_56b, s46_57, s46_58, s46_61, s46_61t, s46_61b, s46_62, s46_63, s46_66, s46_66t, s46_66b, s46_67, s46_68, s46_68t, s46_68b])
theorem c_under {kn k : Nat} (hk : kn ≤ 5) (hk2 : k ≤ 5) : XC (d + 1) 164 [.int (nI kn), .int (nI k)] h Q ↔ Q (some (.int (bI (udr kn k)))) h := by
  rw [e164]
  simp only [s164_0, s164_1, s164_4, s164_5, s164_6, s164_9, s164_10, s164_11, s164_14, s164_15, s164_16, s164_19, s164_20, s164_21, s164_24, s164_25, s164_26, s164_29, s164_30, s164_33, s164_34, s164_34t, s164_34b, show ((nI k = 0) = (k = 0)) from propext (nI_eq (b := 0) (by omega) (by decide)), show ((nI k = 1) = (k = 1)) from propext (nI_eq (b := 1) (by omega) (by decide)), show ((nI k = 2) = (k = 2)) from propext (nI_eq (b := 2) (by omega) (by decide)), show ((nI kn = 3) = (kn = 3)) from propext (nI_eq (b := 3) (by omega) (by decide)), show ((nI kn = 4) = (kn = 4)) from propext (nI_eq (b := 4) (by omega) (by decide)), show ((nI kn = nI k) = (kn = k)) from propext (nI_eq (by omega) (by omega))]
  rcases (show k = 0 ∨ k = 1 ∨ k = 2 ∨ k = 3 ∨ k = 4 ∨ k = 5 by omega) with rfl | rfl | rfl | rfl | rfl | rfl
  all_goals rcases (show kn = 0 ∨ kn = 1 ∨ kn = 2 ∨ kn = 3 ∨ kn = 4 ∨ kn = 5 by omega) with rfl | rfl | rfl | rfl | rfl | rfl
  all_goals simp [udr, bI]
theorem pm_as (S : ST Dy b t r h n T p s) : PM Dy d b t r h n T p 90 165 [.int x, .int y] := by
  obtain ⟨⟨l, hO⟩, ht, hr, hD, R, I, hbt⟩ := S
  have hn := I.nn
  cases hx : isI x (n 2) with
  | false =>
    refine ⟨BAD, n, T, I, fun Q K => ?_, fun h m f w g hD R M Q K => ?_⟩
    · rw [e90]; simp only [s90_0, s90_1, s90_4, s90_5, s90_8, s90_8n, s90_9, s90_9n, s90_10, s90_10n, s90_13, s90_14, s90_17, s90_20, s90_22, s90_23, s90_23n, s90_24, s90_25, s90_28, s90_31, s90_31n, s90_32, s90_35, s90_38, s90_40, hO, o0, R.o, c_thiefAt R, hx, Bool.false_eq_true, XG_1, XO_some, XV_1, xo_n, xo_i8, xo_r8, xo_i7, xo_r7, xo_i6, xo_r6, xo_i5, xo_r5, xo_i4, xo_r4, xo_i3, xo_r3, xo_i2, xo_r2, Option.toList_some, Option.toList_none, List.cons_append, List.nil_append, bI_t, bI_f, bI_0, bI_n0, if_true, if_false, true_and, and_true, ne_eq, not_true_eq_false, not_false_eq_true, one_ne0, reduceCtorEq]; exact K h s FR.refl R
    · rw [e165]; simp only [s165_0, s165_1, s165_2, s165_5, s165_8, s165_9, s165_10, s165_11, s165_14, s165_17, s165_19, s165_20, s165_21, s165_22, s165_25, s165_26, s165_29, s165_32, s165_33, s165_34, s165_37, s165_40, s165_42, R.1, r_isThief R M I, hx, XG_1, XO_some, XV_1, xo_n, xo_i8, xo_r8, xo_i7, xo_r7, xo_i6, xo_r6, xo_i5, xo_r5, xo_i4, xo_r4, xo_i3, xo_r3, xo_i2, xo_r2, Option.toList_some, Option.toList_none, List.cons_append, List.nil_append, bI_t, bI_f, bI_0, bI_n0, if_true, if_false, true_and, and_true, ne_eq, not_true_eq_false, not_false_eq_true, one_ne0, reduceCtorEq]; exact K h f w g FR.refl R M
  | true =>
  obtain ⟨i, hi, rfl⟩ := isI_t hx (by omega)
  have hcl : (nI i).toNatClampNeg = i := nI_clamp (by omega)
  obtain ⟨a, kn, home, pa, ha, hk, hh, h8, h9, -, -, -, hA⟩ := th_at R I hi
  have hX1 : ∀ {F : Value → Prop}, XG [0, 1, 2, 3, 4, 9] 1 (.inr (kcl kn, [.int (nI kn), .int (nI home)])) F ↔ F (.int (nI home)) := fun {F} => XG_c (kcl_in hk)
  cases hy : wiB y 0 5 with
  | false =>
    refine ⟨BAD, n, T, I, fun Q K => ?_, fun h m f w g hD R M Q K => ?_⟩
    · rw [e90]; simp only [s90_0, s90_1, s90_4, s90_5, s90_8, s90_8n, s90_9, s90_9n, s90_10, s90_10n, s90_13, s90_14, s90_17, s90_20, s90_22, s90_23, s90_23n, s90_24, s90_25, s90_28, s90_31, s90_31n, s90_32, s90_35, s90_38, s90_40, hO, o0, R.o, c_thiefAt R, hx, hcl, pa, va_rf, c_isKind, hy, XG_1, XO_some, XV_1, xo_n, xo_i8, xo_r8, xo_i7, xo_r7, xo_i6, xo_r6, xo_i5, xo_r5, xo_i4, xo_r4, xo_i3, xo_r3, xo_i2, xo_r2, Option.toList_some, Option.toList_none, List.cons_append, List.nil_append, bI_t, bI_f, bI_0, bI_n0, if_true, if_false, true_and, and_true, ne_eq, not_true_eq_false, not_false_eq_true, one_ne0, reduceCtorEq]; exact K h s FR.refl R
    · rw [e165]; simp only [s165_0, s165_1, s165_2, s165_5, s165_8, s165_9, s165_10, s165_11, s165_14, s165_17, s165_19, s165_20, s165_21, s165_22, s165_25, s165_26, s165_29, s165_32, s165_33, s165_34, s165_37, s165_40, s165_42, R.1, r_isThief R M I, hx, c_in, hy, XG_1, XO_some, XV_1, xo_n, xo_i8, xo_r8, xo_i7, xo_r7, xo_i6, xo_r6, xo_i5, xo_r5, xo_i4, xo_r4, xo_i3, xo_r3, xo_i2, xo_r2, Option.toList_some, Option.toList_none, List.cons_append, List.nil_append, bI_t, bI_f, bI_0, bI_n0, if_true, if_false, true_and, and_true, ne_eq, not_true_eq_false, not_false_eq_true, one_ne0, reduceCtorEq, Bool.true_eq_false]; exact K h f w g FR.refl R M
  | true =>
  obtain ⟨k, hk2, rfl⟩ := wiB_t (k := 5) hy (by decide)
  have hof : ∀ {d : Nat} {Q : Option Value → xH → Prop}, XV [(0, 46), (1, 46), (2, 46), (3, 46), (4, 46), (9, 46)] (.inr (kcl kn, [.int (nI kn), .int (nI home)])) (fun m' => XC (d + 1) m' [.ref a, .int (nI k)] h Q) ↔ Q (some (.int (bI (udr kn k)))) h := fun {d Q} => by
    refine Iff.trans ?_ (c_isOf (d := d) (Q := Q) hk hk2 hA)
    rcases (show kn = 0 ∨ kn = 1 ∨ kn = 2 ∨ kn = 3 ∨ kn = 4 ∨ kn = 5 by omega) with rfl | rfl | rfl | rfl | rfl | rfl <;> exact Iff.rfl
  cases hu : udr kn k with
  | false =>
    refine ⟨-1000000012, n, T, I, fun Q K => ?_, fun h m f w g hD R M Q K => ?_⟩
    · rw [e90]; simp only [s90_0, s90_1, s90_4, s90_5, s90_8, s90_8n, s90_9, s90_9n, s90_10, s90_10n, s90_13, s90_14, s90_17, s90_20, s90_22, s90_23, s90_23n, s90_24, s90_25, s90_28, s90_31, s90_31n, s90_32, s90_35, s90_38, s90_40, hO, o0, R.o, c_thiefAt R, hx, hcl, pa, va_rf, c_isKind, hy, hA, hof, hu, XG_1, XO_some, XV_1, xo_n, xo_i8, xo_r8, xo_i7, xo_r7, xo_i6, xo_r6, xo_i5, xo_r5, xo_i4, xo_r4, xo_i3, xo_r3, xo_i2, xo_r2, Option.toList_some, Option.toList_none, List.cons_append, List.nil_append, bI_t, bI_f, bI_0, bI_n0, if_true, if_false, true_and, and_true, ne_eq, not_true_eq_false, not_false_eq_true, one_ne0, reduceCtorEq]; exact K h s FR.refl R
    · rw [e165]; simp only [s165_0, s165_1, s165_2, s165_5, s165_8, s165_9, s165_10, s165_11, s165_14, s165_17, s165_19, s165_20, s165_21, s165_22, s165_25, s165_26, s165_29, s165_32, s165_33, s165_34, s165_37, s165_40, s165_42, R.1, r_isThief R M I, hx, c_in, hy, r_kindOf R M I hi, h8, c_under hk hk2, hu, XG_1, XO_some, XV_1, xo_n, xo_i8, xo_r8, xo_i7, xo_r7, xo_i6, xo_r6, xo_i5, xo_r5, xo_i4, xo_r4, xo_i3, xo_r3, xo_i2, xo_r2, Option.toList_some, Option.toList_none, List.cons_append, List.nil_append, bI_t, bI_f, bI_0, bI_n0, if_true, if_false, true_and, and_true, ne_eq, not_true_eq_false, not_false_eq_true, one_ne0, reduceCtorEq, Bool.true_eq_false]; exact K h f w g FR.refl R M
  | true =>
    refine ⟨nI home, n, T, I, fun Q K => ?_, fun h m f w g hD R M Q K => ?_⟩
    · rw [e90]; simp only [s90_0, s90_1, s90_4, s90_5, s90_8, s90_8n, s90_9, s90_9n, s90_10, s90_10n, s90_13, s90_14, s90_17, s90_20, s90_22, s90_23, s90_23n, s90_24, s90_25, s90_28, s90_31, s90_31n, s90_32, s90_35, s90_38, s90_40, hO, o0, R.o, c_thiefAt R, hx, hcl, pa, va_rf, c_isKind, hy, hA, hof, hu, hX1, XG_1, XO_some, XV_1, xo_n, xo_i8, xo_r8, xo_i7, xo_r7, xo_i6, xo_r6, xo_i5, xo_r5, xo_i4, xo_r4, xo_i3, xo_r3, xo_i2, xo_r2, Option.toList_some, Option.toList_none, List.cons_append, List.nil_append, bI_t, bI_f, bI_0, bI_n0, if_true, if_false, true_and, and_true, ne_eq, not_true_eq_false, not_false_eq_true, one_ne0, reduceCtorEq, Bool.true_eq_false]; exact K h s FR.refl R
    · rw [e165]; simp only [s165_0, s165_1, s165_2, s165_5, s165_8, s165_9, s165_10, s165_11, s165_14, s165_17, s165_19, s165_20, s165_21, s165_22, s165_25, s165_26, s165_29, s165_32, s165_33, s165_34, s165_37, s165_40, s165_42, R.1, r_isThief R M I, hx, c_in, hy, r_kindOf R M I hi, r_homeOf R M I hi, h8, h9, c_under hk hk2, hu, XG_1, XO_some, XV_1, xo_n, xo_i8, xo_r8, xo_i7, xo_r7, xo_i6, xo_r6, xo_i5, xo_r5, xo_i4, xo_r4, xo_i3, xo_r3, xo_i2, xo_r2, Option.toList_some, Option.toList_none, List.cons_append, List.nil_append, bI_t, bI_f, bI_0, bI_n0, if_true, if_false, true_and, and_true, ne_eq, not_true_eq_false, not_false_eq_true, one_ne0, reduceCtorEq, Bool.true_eq_false]; exact K h f w g FR.refl R M
theorem pm_heed (S : ST Dy b t r h n T p s) : PM Dy d b t r h n T p 93 172 [.int x, .int y] := by
  obtain ⟨⟨l, hO⟩, ht, hr, hD, R, I, hbt⟩ := S
  have hn := I.nn
  cases hx : isI x (n 2) with
  | false =>
    refine ⟨BAD, n, T, I, fun Q K => ?_, fun h m f w g hD R M Q K => ?_⟩
    · rw [e93]; simp only [s93_0, s93_1, s93_4, s93_5, s93_8, s93_8n, s93_9, s93_9n, s93_10, s93_10n, s93_13, s93_14, s93_17, s93_18, s93_21, s93_24, s93_26, s93_27, s93_27n, s93_28, s93_29, s93_32, s93_33, s93_34, s93_37, s93_38, s93_41, s93_44, hO, o0, R.o, c_thiefAt R, hx, Bool.false_eq_true, XG_1, XO_some, XV_1, xo_n, xo_i8, xo_r8, xo_i7, xo_r7, xo_i6, xo_r6, xo_i5, xo_r5, xo_i4, xo_r4, xo_i3, xo_r3, xo_i2, xo_r2, Option.toList_some, Option.toList_none, List.cons_append, List.nil_append, bI_t, bI_f, bI_0, bI_n0, if_true, if_false, true_and, and_true, ne_eq, not_true_eq_false, not_false_eq_true, one_ne0, reduceCtorEq]; exact K h s FR.refl R
    · rw [e172]; simp only [s172_0, s172_1, s172_2, s172_5, s172_8, s172_9, s172_10, s172_13, s172_16, s172_17, s172_18, s172_19, s172_22, s172_25, s172_27, R.1, r_isThief R M I, hx, XG_1, XO_some, XV_1, xo_n, xo_i8, xo_r8, xo_i7, xo_r7, xo_i6, xo_r6, xo_i5, xo_r5, xo_i4, xo_r4, xo_i3, xo_r3, xo_i2, xo_r2, Option.toList_some, Option.toList_none, List.cons_append, List.nil_append, bI_t, bI_f, bI_0, bI_n0, if_true, if_false, true_and, and_true, ne_eq, not_true_eq_false, not_false_eq_true, one_ne0, reduceCtorEq]; exact K h f w g FR.refl R M
  | true =>
  obtain ⟨i, hi, rfl⟩ := isI_t hx (by omega)
  have hcl : (nI i).toNatClampNeg = i := nI_clamp (by omega)
  obtain ⟨a, kn, home, pa, ha, hk, hh, h8, h9, k8, k9, hT, hA⟩ := th_at R I hi
  cases hy : isI y (n 0) with
  | false =>
    refine ⟨BAD, n, T, I, fun Q K => ?_, fun h m f w g hD R M Q K => ?_⟩
    · rw [e93]; simp only [s93_0, s93_1, s93_4, s93_5, s93_8, s93_8n, s93_9, s93_9n, s93_10, s93_10n, s93_13, s93_14, s93_17, s93_18, s93_21, s93_24, s93_26, s93_27, s93_27n, s93_28, s93_29, s93_32, s93_33, s93_34, s93_37, s93_38, s93_41, s93_44, hO, o0, R.o, c_thiefAt R, hx, hcl, pa, va_rf, c_isHouse R, hy, XG_1, XO_some, XV_1, xo_n, xo_i8, xo_r8, xo_i7, xo_r7, xo_i6, xo_r6, xo_i5, xo_r5, xo_i4, xo_r4, xo_i3, xo_r3, xo_i2, xo_r2, Option.toList_some, Option.toList_none, List.cons_append, List.nil_append, bI_t, bI_f, bI_0, bI_n0, if_true, if_false, true_and, and_true, ne_eq, not_true_eq_false, not_false_eq_true, one_ne0, reduceCtorEq]; exact K h s FR.refl R
    · rw [e172]; simp only [s172_0, s172_1, s172_2, s172_5, s172_8, s172_9, s172_10, s172_13, s172_16, s172_17, s172_18, s172_19, s172_22, s172_25, s172_27, R.1, r_isThief R M I, r_isHouse R M I, hx, hy, XG_1, XO_some, XV_1, xo_n, xo_i8, xo_r8, xo_i7, xo_r7, xo_i6, xo_r6, xo_i5, xo_r5, xo_i4, xo_r4, xo_i3, xo_r3, xo_i2, xo_r2, Option.toList_some, Option.toList_none, List.cons_append, List.nil_append, bI_t, bI_f, bI_0, bI_n0, if_true, if_false, true_and, and_true, ne_eq, not_true_eq_false, not_false_eq_true, one_ne0, reduceCtorEq, Bool.true_eq_false]; exact K h f w g FR.refl R M
  | true =>
  obtain ⟨j, hj, rfl⟩ := isI_t hy (by omega)
  refine ⟨hdv T kn home j (cmv n T j), n, T, I, fun Q K => ?_, fun h m f w g hD R M Q K => ?_⟩
  · rw [e93]; simp only [s93_0, s93_1, s93_4, s93_5, s93_8, s93_8n, s93_9, s93_9n, s93_10, s93_10n, s93_13, s93_14, s93_17, s93_18, s93_21, s93_24, s93_26, s93_27, s93_27n, s93_28, s93_29, s93_32, s93_33, s93_34, s93_37, s93_38, hO, o0, R.o, c_thiefAt R, hx, hcl, pa, va_rf, c_isHouse R, hy, XG_1, XO_some, XV_1, xo_n, xo_i8, xo_r8, xo_i7, xo_r7, xo_i6, xo_r6, xo_i5, xo_r5, xo_i4, xo_r4, xo_i3, xo_r3, xo_i2, xo_r2, Option.toList_some, Option.toList_none, List.cons_append, List.nil_append, bI_t, bI_f, bI_0, bI_n0, if_true, if_false, true_and, and_true, ne_eq, not_true_eq_false, not_false_eq_true, one_ne0, reduceCtorEq, Bool.true_eq_false]
    refine c_comesNow R I hj fun h1 F1 => ?_
    have R1 := R.fr0 F1 ht
    obtain ⟨kn2, r1, r2, r3⟩ := F1.2.2.2.2.1 _ _ _ ha hT
    have e : kn2 = kn := by rw [h8] at r2; exact ((nI_eq (by omega) (by omega)).mp r2).symm
    subst e
    rw [h8, h9] at r3
    simp only [s93_41, XG_1, XO_some, XV_1, xo_n, xo_i8, xo_r8, xo_i7, xo_r7, xo_i6, xo_r6, xo_i5, xo_r5, xo_i4, xo_r4, xo_i3, xo_r3, xo_i2, xo_r2, Option.toList_some, Option.toList_none, List.cons_append, List.nil_append, bI_t, bI_f, bI_0, bI_n0, if_true, if_false, true_and, and_true, ne_eq, not_true_eq_false, not_false_eq_true, one_ne0, reduceCtorEq]
    refine (c_heeds R1 hk hh hj r3).mpr ?_
    simp only [s93_0, s93_1, s93_4, s93_5, s93_8, s93_8n, s93_9, s93_9n, s93_10, s93_10n, s93_13, s93_14, s93_17, s93_18, s93_21, s93_24, s93_26, s93_27, s93_27n, s93_28, s93_29, s93_32, s93_33, s93_34, s93_37, s93_38, s93_41, s93_44, XG_1, XO_some, XV_1, xo_n, xo_i8, xo_r8, xo_i7, xo_r7, xo_i6, xo_r6, xo_i5, xo_r5, xo_i4, xo_r4, xo_i3, xo_r3, xo_i2, xo_r2, Option.toList_some, Option.toList_none, List.cons_append, List.nil_append, bI_t, bI_f, bI_0, bI_n0, if_true, if_false, true_and, and_true, ne_eq, not_true_eq_false, not_false_eq_true, one_ne0, reduceCtorEq]
    exact K h1 s (frp0 F1) R1
  · rw [e172]; simp only [s172_0, s172_1, s172_2, s172_5, s172_8, s172_9, s172_10, s172_13, s172_16, s172_17, s172_18, s172_19, s172_22, s172_25, s172_27, R.1, r_isThief R M I, r_isHouse R M I, hx, hy, XG_1, XO_some, XV_1, xo_n, xo_i8, xo_r8, xo_i7, xo_r7, xo_i6, xo_r6, xo_i5, xo_r5, xo_i4, xo_r4, xo_i3, xo_r3, xo_i2, xo_r2, Option.toList_some, Option.toList_none, List.cons_append, List.nil_append, bI_t, bI_f, bI_0, bI_n0, if_true, if_false, true_and, and_true, ne_eq, not_true_eq_false, not_false_eq_true, one_ne0, reduceCtorEq, Bool.true_eq_false]
    refine r_heedOf R M I hr hD hi hj fun h1 w1 g1 F1 R1 => ?_
    rw [k8, k9]
    simp only [s172_0, s172_1, s172_2, s172_5, s172_8, s172_9, s172_10, s172_13, s172_16, s172_17, s172_18, s172_19, s172_22, s172_25, s172_27, XG_1, XO_some, XV_1, xo_n, xo_i8, xo_r8, xo_i7, xo_r7, xo_i6, xo_r6, xo_i5, xo_r5, xo_i4, xo_r4, xo_i3, xo_r3, xo_i2, xo_r2, Option.toList_some, Option.toList_none, List.cons_append, List.nil_append, bI_t, bI_f, bI_0, bI_n0, if_true, if_false, true_and, and_true, ne_eq, not_true_eq_false, not_false_eq_true, one_ne0, reduceCtorEq]
    exact K h1 f w1 g1 (frpn F1) R1 M
theorem setS_z {v : Int32} : setS T (v, T 0 5, T 0 6) = sup T 0 7 v := by rw [← setS7 (z := T 0 7), setS_id]
theorem pm_choice (S : ST Dy b t r h n T p s) : PM Dy d b t r h n T p 94 175 [.int x] := by
  obtain ⟨⟨l, hO⟩, ht, hr, hD, R, I, hbt⟩ := S
  have hn := I.nn
  cases hx : isI x (n 2) with
  | false =>
    refine ⟨BAD, n, T, I, fun Q K => ?_, fun h m f w g hD R M Q K => ?_⟩
    · rw [e94]; simp only [s94_0, s94_1, s94_4, s94_5, s94_8, s94_8n, s94_9, s94_9n, s94_10, s94_10n, s94_13, s94_15, s94_16, s94_17, s94_20, s94_23, s94_23n, s94_24, s94_25, s94_28, s94_29, s94_32, hO, o0, R.o, c_thiefAt R, hx, Bool.false_eq_true, XG_1, XO_some, XV_1, xo_n, xo_i8, xo_r8, xo_i7, xo_r7, xo_i6, xo_r6, xo_i5, xo_r5, xo_i4, xo_r4, xo_i3, xo_r3, xo_i2, xo_r2, Option.toList_some, Option.toList_none, List.cons_append, List.nil_append, bI_t, bI_f, bI_0, bI_n0, if_true, if_false, true_and, and_true, ne_eq, not_true_eq_false, not_false_eq_true, one_ne0, reduceCtorEq]; exact K h s FR.refl R
    · rw [e175]; simp only [s175_0, s175_1, s175_2, s175_5, s175_8, s175_9, s175_10, s175_13, s175_16, s175_19, s175_21, R.1, r_isThief R M I, hx, XG_1, XO_some, XV_1, xo_n, xo_i8, xo_r8, xo_i7, xo_r7, xo_i6, xo_r6, xo_i5, xo_r5, xo_i4, xo_r4, xo_i3, xo_r3, xo_i2, xo_r2, Option.toList_some, Option.toList_none, List.cons_append, List.nil_append, bI_t, bI_f, bI_0, bI_n0, if_true, if_false, true_and, and_true, ne_eq, not_true_eq_false, not_false_eq_true, one_ne0, reduceCtorEq]; exact K h f w g FR.refl R M
  | true =>
  obtain ⟨i, hi, rfl⟩ := isI_t hx (by omega)
  have hcl : (nI i).toNatClampNeg = i := nI_clamp (by omega)
  obtain ⟨a, kn, home, pa, ha, hk, hh, h8, h9, k8, k9, hT, hA⟩ := th_at R I hi
  refine ⟨oI NONE (chz n T i (T 0 7)).1, n, sup T 0 7 (chz n T i (T 0 7)).2, I, fun Q K => ?_, fun h m f w g hD R M Q K => ?_⟩
  · rw [e94]; simp only [s94_0, s94_1, s94_4, s94_5, s94_8, s94_8n, s94_9, s94_9n, s94_10, s94_10n, s94_13, s94_15, s94_16, s94_17, s94_20, hO, o0, R.o, c_thiefAt R, hx, hcl, pa, va_rf, XG_1, XO_some, XV_1, xo_n, xo_i8, xo_r8, xo_i7, xo_r7, xo_i6, xo_r6, xo_i5, xo_r5, xo_i4, xo_r4, xo_i3, xo_r3, xo_i2, xo_r2, Option.toList_some, Option.toList_none, List.cons_append, List.nil_append, bI_t, bI_f, bI_0, bI_n0, if_true, if_false, true_and, and_true, ne_eq, not_true_eq_false, not_false_eq_true, one_ne0, reduceCtorEq]
    refine c_weigh I ht hD R fun h1 s1 F1 R1 W1 => ?_
    have hD1 : Dy ≤ h1.1 := by rw [F1.1]; exact hD
    obtain ⟨kn2, r1, r2, r3⟩ := F1.2.2.2.2.1 _ _ _ ha hT
    have e : kn2 = kn := by rw [h8] at r2; exact ((nI_eq (by omega) (by omega)).mp r2).symm
    subst e
    rw [h8, h9] at r3
    have hO1 : h1.2.2.1 b = .inr (11, .ref t :: l) := by rw [F1.at (by omega) (by omega)]; exact hO
    simp only [s94_23, s94_23n, s94_24, s94_25, s94_28, s94_29, hO1, o0, XG_1, XO_some, XV_1, xo_n, xo_i8, xo_r8, xo_i7, xo_r7, xo_i6, xo_r6, xo_i5, xo_r5, xo_i4, xo_r4, xo_i3, xo_r3, xo_i2, xo_r2, Option.toList_some, Option.toList_none, List.cons_append, List.nil_append, bI_t, bI_f, bI_0, bI_n0, if_true, if_false, true_and, and_true, ne_eq, not_true_eq_false, not_false_eq_true, one_ne0, reduceCtorEq]
    have R1' : RT Dy h1.2.2.1 t n (setS T (T 0 7, T 0 5, T 0 6)) p s1 := by rw [setS_id]; exact R1
    refine (c_picks R1' I ht hD1 W1 hi hk hh h8 h9 r3).mpr ?_
    obtain ⟨R2, F2⟩ := R1.zz ht hD1 (q := ((chz n T i (T 0 7)).2, T 0 5, T 0 6))
    simp only [s94_0, s94_1, s94_4, s94_5, s94_8, s94_8n, s94_9, s94_9n, s94_10, s94_10n, s94_13, s94_15, s94_16, s94_17, s94_20, s94_23, s94_23n, s94_24, s94_25, s94_28, s94_29, s94_32, XG_1, XO_some, XV_1, xo_n, xo_i8, xo_r8, xo_i7, xo_r7, xo_i6, xo_r6, xo_i5, xo_r5, xo_i4, xo_r4, xo_i3, xo_r3, xo_i2, xo_r2, Option.toList_some, Option.toList_none, List.cons_append, List.nil_append, bI_t, bI_f, bI_0, bI_n0, if_true, if_false, true_and, and_true, ne_eq, not_true_eq_false, not_false_eq_true, one_ne0, reduceCtorEq]
    rw [setS_z] at R2 F2 ⊢
    exact K _ s1 ((frpw F1).trans (F2.wide (fun x q => ⟨by omega, by omega⟩))) R2
  · rw [e175]; simp only [s175_0, s175_1, s175_2, s175_5, s175_8, s175_9, s175_10, s175_13, s175_16, s175_19, s175_21, R.1, r_isThief R M I, hx, XG_1, XO_some, XV_1, xo_n, xo_i8, xo_r8, xo_i7, xo_r7, xo_i6, xo_r6, xo_i5, xo_r5, xo_i4, xo_r4, xo_i3, xo_r3, xo_i2, xo_r2, Option.toList_some, Option.toList_none, List.cons_append, List.nil_append, bI_t, bI_f, bI_0, bI_n0, if_true, if_false, true_and, and_true, ne_eq, not_true_eq_false, not_false_eq_true, one_ne0, reduceCtorEq, Bool.true_eq_false]
    refine r_choiceOf R M I hr hD hi fun h1 f1 w1 g1 F1 R1 M1 => ?_
    simp only [s175_0, s175_1, s175_2, s175_5, s175_8, s175_9, s175_10, s175_13, s175_16, s175_19, s175_21, XG_1, XO_some, XV_1, xo_n, xo_i8, xo_r8, xo_i7, xo_r7, xo_i6, xo_r6, xo_i5, xo_r5, xo_i4, xo_r4, xo_i3, xo_r3, xo_i2, xo_r2, Option.toList_some, Option.toList_none, List.cons_append, List.nil_append, bI_t, bI_f, bI_0, bI_n0, if_true, if_false, true_and, and_true, ne_eq, not_true_eq_false, not_false_eq_true, one_ne0, reduceCtorEq, c_told0]
    rw [told0_o (fun v hv => by have := chz_lt hv; omega)]
    exact K h1 f1 w1 g1 F1 R1 M1
end PUB4
