/-! ===== 34: public methods of houses and doors ===== -/
theorem q10 : ((1 : Int32) = 0) = False := eq_false (by decide)
theorem q20 : ((2 : Int32) = 0) = False := eq_false (by decide)
theorem q21 : ((2 : Int32) = 1) = False := eq_false (by decide)
theorem q30 : ((3 : Int32) = 0) = False := eq_false (by decide)
theorem q31 : ((3 : Int32) = 1) = False := eq_false (by decide)
theorem q32 : ((3 : Int32) = 2) = False := eq_false (by decide)
theorem q40 : ((4 : Int32) = 0) = False := eq_false (by decide)
theorem q41 : ((4 : Int32) = 1) = False := eq_false (by decide)
theorem q42 : ((4 : Int32) = 2) = False := eq_false (by decide)
theorem q43 : ((4 : Int32) = 3) = False := eq_false (by decide)
theorem q50 : ((5 : Int32) = 0) = False := eq_false (by decide)
theorem q51 : ((5 : Int32) = 1) = False := eq_false (by decide)
theorem q52 : ((5 : Int32) = 2) = False := eq_false (by decide)
theorem q53 : ((5 : Int32) = 3) = False := eq_false (by decide)
theorem q54 : ((5 : Int32) = 4) = False := eq_false (by decide)
theorem q05 : ((0 : Int32) = 5) = False := eq_false (by decide)
theorem q15 : ((1 : Int32) = 5) = False := eq_false (by decide)
theorem q25 : ((2 : Int32) = 5) = False := eq_false (by decide)
theorem q35 : ((3 : Int32) = 5) = False := eq_false (by decide)
theorem q45 : ((4 : Int32) = 5) = False := eq_false (by decide)
theorem told0_b {q : Int32} {k : Nat} (hq : q = NONE ∨ ∃ j, j < k ∧ q = nI j) (hk : k < 2 ^ 31) : (if benc q < 0 then NONE else benc q) = q := by
  rcases benc_neg hq hk with ⟨a1, a2, -⟩ | ⟨j, -, a1, a2, a3, -⟩
  · rw [if_pos a1]; exact a2.symm
  · rw [if_neg a2, a3]; exact a1.symm
theorem told0_o {o : Option Nat} (ho : ∀ v, o = some v → v < 2 ^ 31) : (if oI (-1) o < 0 then NONE else oI (-1) o) = oI NONE o := by
  cases o with
  | none => exact if_pos (by decide)
  | some v => exact if_neg (nI_pos (ho v rfl))
section PUB2
variable {Dy d b t r : Nat} {h : xH} {n : Nat → Nat} {T : Nat → Nat → Int32} {p : Nat → Nat → Option Nat} {s : Nat → Nat → Int32} {Q : Option Value → xH → Prop} {x y z : Int32} {m f w g : Nat → Int32}
theorem pm_houseTold (S : ST Dy b t r h n T p s) : PM Dy d b t r h n T p 79 149 [.int x, .int y] := by
  obtain ⟨⟨l, hO⟩, ht, hr, hD, R, I, hbt⟩ := S
  have hn := I.nn
  cases hx : isI x (n 0) with
  | false =>
    refine ⟨BAD, n, T, I, fun Q K => ?_, fun h m f w g hD R M Q K => ?_⟩
    · rw [e79]; simp only [s79_0, s79_1, s79_4, s79_5, s79_8, s79_11, s79_13, s79_14, s79_15, s79_52, s79_53, s79_56, s79_59, s79_60, s79_61, s79_62, s79_63, s79_66, s79_69, s79_70, s79_71, s79_72, s79_73, s79_76, s79_77, s79_79, s79_82, s79_83, s79_84, s79_87, s79_88, s79_91, s79_92, s79_93, s79_96, s79_97, s79_100, s79_101, s79_102, s79_105, s79_108, s79_109, s79_110, s79_111, s79_113, hO, o0, R.o, c_isHouse R, hx, XG_1, XO_some, XV_1, xo_n, xo_i8, xo_r8, xo_i7, xo_r7, xo_i6, xo_r6, xo_i5, xo_r5, xo_i4, xo_r4, xo_i3, xo_r3, xo_i2, xo_r2, Option.toList_some, Option.toList_none, List.cons_append, List.nil_append, bI_t, bI_f, bI_0, bI_n0, if_true, if_false, true_and, and_true, ne_eq, not_true_eq_false, not_false_eq_true, one_ne0, reduceCtorEq]; exact K h s FR.refl R
    · rw [e149]; simp only [s149_0, s149_1, s149_2, s149_5, s149_8, s149_10, s149_11, s149_12, s149_52, s149_53, s149_54, s149_55, s149_58, s149_59, s149_60, s149_61, s149_62, s149_63, s149_66, s149_67, s149_68, s149_69, s149_70, s149_71, s149_74, s149_75, s149_76, s149_77, s149_80, s149_81, s149_82, s149_83, s149_84, s149_87, s149_88, s149_90, R.1, r_isHouse R M I, hx, XG_1, XO_some, XV_1, xo_n, xo_i8, xo_r8, xo_i7, xo_r7, xo_i6, xo_r6, xo_i5, xo_r5, xo_i4, xo_r4, xo_i3, xo_r3, xo_i2, xo_r2, Option.toList_some, Option.toList_none, List.cons_append, List.nil_append, bI_t, bI_f, bI_0, bI_n0, if_true, if_false, true_and, and_true, ne_eq, not_true_eq_false, not_false_eq_true, one_ne0, reduceCtorEq]; exact K h f w g FR.refl R M
  | true =>
  obtain ⟨i, hi, rfl⟩ := isI_t hx (by omega)
  have h10 : i < 10 := by omega
  by_cases y0 : y = 0
  · subst y0
    refine ⟨T 1 i, n, T, I, fun Q K => ?_, fun h m f w g hD R M Q K => ?_⟩
    · rw [e79]; simp only [s79_0, s79_1, s79_4, s79_5, s79_8, s79_11, s79_13, s79_14, s79_15, s79_52, s79_53, s79_56, s79_59, s79_60, s79_61, s79_62, s79_63, s79_66, s79_69, s79_70, s79_71, s79_72, s79_73, s79_76, s79_77, s79_79, s79_82, s79_83, s79_84, s79_87, s79_88, s79_91, s79_92, s79_93, s79_96, s79_97, s79_100, s79_101, s79_102, s79_105, s79_108, s79_109, s79_110, s79_111, s79_113, hO, o0, R.o, R.aw, tf8, c_isHouse R, hx, xswi, XA10 h10, XG_1, XO_some, XV_1, xo_n, xo_i8, xo_r8, xo_i7, xo_r7, xo_i6, xo_r6, xo_i5, xo_r5, xo_i4, xo_r4, xo_i3, xo_r3, xo_i2, xo_r2, Option.toList_some, Option.toList_none, List.cons_append, List.nil_append, bI_t, bI_f, bI_0, bI_n0, if_true, if_false, true_and, and_true, ne_eq, not_true_eq_false, not_false_eq_true, one_ne0, reduceCtorEq, Bool.true_eq_false]; exact K h s FR.refl R
    · rw [e149]; simp only [s149_0, s149_1, s149_2, s149_5, s149_8, s149_10, s149_11, s149_12, s149_52, s149_53, s149_54, s149_55, s149_58, s149_59, s149_60, s149_61, s149_62, s149_63, s149_66, s149_67, s149_68, s149_69, s149_70, s149_71, s149_74, s149_75, s149_76, s149_77, s149_80, s149_81, s149_82, s149_83, s149_84, s149_87, s149_88, s149_90, R.1, r_isHouse R M I, hx, xswi, r_house0 R M h10, XG_1, XO_some, XV_1, xo_n, xo_i8, xo_r8, xo_i7, xo_r7, xo_i6, xo_r6, xo_i5, xo_r5, xo_i4, xo_r4, xo_i3, xo_r3, xo_i2, xo_r2, Option.toList_some, Option.toList_none, List.cons_append, List.nil_append, bI_t, bI_f, bI_0, bI_n0, if_true, if_false, true_and, and_true, ne_eq, not_true_eq_false, not_false_eq_true, one_ne0, reduceCtorEq, Bool.true_eq_false]; exact K h f w g FR.refl R M
  by_cases y1 : y = 1
  · subst y1
    refine ⟨T 2 i, n, T, I, fun Q K => ?_, fun h m f w g hD R M Q K => ?_⟩
    · rw [e79]; simp only [s79_0, s79_1, s79_4, s79_5, s79_8, s79_11, s79_13, s79_14, s79_15, s79_52, s79_53, s79_56, s79_59, s79_60, s79_61, s79_62, s79_63, s79_66, s79_69, s79_70, s79_71, s79_72, s79_73, s79_76, s79_77, s79_79, s79_82, s79_83, s79_84, s79_87, s79_88, s79_91, s79_92, s79_93, s79_96, s79_97, s79_100, s79_101, s79_102, s79_105, s79_108, s79_109, s79_110, s79_111, s79_113, hO, o0, R.o, R.ca, tf9, c_isHouse R, hx, xswi, XA10 h10, XG_1, XO_some, XV_1, xo_n, xo_i8, xo_r8, xo_i7, xo_r7, xo_i6, xo_r6, xo_i5, xo_r5, xo_i4, xo_r4, xo_i3, xo_r3, xo_i2, xo_r2, Option.toList_some, Option.toList_none, List.cons_append, List.nil_append, bI_t, bI_f, bI_0, bI_n0, if_true, if_false, true_and, and_true, ne_eq, not_true_eq_false, not_false_eq_true, one_ne0, reduceCtorEq, Bool.true_eq_false]; exact K h s FR.refl R
    · rw [e149]; simp only [s149_0, s149_1, s149_2, s149_5, s149_8, s149_10, s149_11, s149_12, s149_52, s149_53, s149_54, s149_55, s149_58, s149_59, s149_60, s149_61, s149_62, s149_63, s149_66, s149_67, s149_68, s149_69, s149_70, s149_71, s149_74, s149_75, s149_76, s149_77, s149_80, s149_81, s149_82, s149_83, s149_84, s149_87, s149_88, s149_90, R.1, r_isHouse R M I, hx, xswi, r_house1 R M h10, XG_1, XO_some, XV_1, xo_n, xo_i8, xo_r8, xo_i7, xo_r7, xo_i6, xo_r6, xo_i5, xo_r5, xo_i4, xo_r4, xo_i3, xo_r3, xo_i2, xo_r2, Option.toList_some, Option.toList_none, List.cons_append, List.nil_append, bI_t, bI_f, bI_0, bI_n0, if_true, if_false, true_and, and_true, ne_eq, not_true_eq_false, not_false_eq_true, one_ne0, reduceCtorEq, Bool.true_eq_false]; exact K h f w g FR.refl R M
  by_cases y2 : y = 2
  · subst y2
    refine ⟨ldv n T i, n, T, I, fun Q K => ?_, fun h m f w g hD R M Q K => ?_⟩
    · rw [e79]; simp only [s79_0, s79_1, s79_4, s79_5, s79_8, s79_11, s79_13, s79_14, s79_15, s79_52, s79_53, s79_56, s79_59, s79_60, s79_61, s79_62, s79_63, s79_66, s79_69, s79_70, s79_71, s79_72, s79_73, s79_76, s79_77, s79_79, s79_82, s79_83, s79_84, s79_87, s79_88, s79_91, s79_92, s79_93, s79_96, s79_97, s79_100, s79_101, s79_102, s79_105, s79_108, s79_109, s79_110, s79_111, s79_113, hO, o0, R.o, c_load R, c_isHouse R, hx, xswi, q20, q21, XG_1, XO_some, XV_1, xo_n, xo_i8, xo_r8, xo_i7, xo_r7, xo_i6, xo_r6, xo_i5, xo_r5, xo_i4, xo_r4, xo_i3, xo_r3, xo_i2, xo_r2, Option.toList_some, Option.toList_none, List.cons_append, List.nil_append, bI_t, bI_f, bI_0, bI_n0, if_true, if_false, true_and, and_true, ne_eq, not_true_eq_false, not_false_eq_true, one_ne0, reduceCtorEq, Bool.true_eq_false]; exact K h s FR.refl R
    · rw [e149]; simp only [s149_0, s149_1, s149_2, s149_5, s149_8, s149_10, s149_11, s149_12, s149_52, s149_53, s149_54, s149_55, s149_58, s149_59, s149_60, s149_61, s149_62, s149_63, s149_66, s149_67, s149_68, s149_69, s149_70, s149_71, s149_74, s149_75, s149_76, s149_77, s149_80, s149_81, s149_82, s149_83, s149_84, s149_87, s149_88, s149_90, R.1, r_isHouse R M I, hx, xswi, q20, q21, r_load R M I (show i < 2 ^ 31 by omega), XG_1, XO_some, XV_1, xo_n, xo_i8, xo_r8, xo_i7, xo_r7, xo_i6, xo_r6, xo_i5, xo_r5, xo_i4, xo_r4, xo_i3, xo_r3, xo_i2, xo_r2, Option.toList_some, Option.toList_none, List.cons_append, List.nil_append, bI_t, bI_f, bI_0, bI_n0, if_true, if_false, true_and, and_true, ne_eq, not_true_eq_false, not_false_eq_true, one_ne0, reduceCtorEq, Bool.true_eq_false]; exact K h f w g FR.refl R M
  by_cases y3 : y = 3
  · subst y3
    refine ⟨hrs (T 7) (T 6) (nI i) (2 * n 1), n, T, I, fun Q K => ?_, fun h m f w g hD R M Q K => ?_⟩
    · rw [e79]; simp only [s79_0, s79_1, s79_4, s79_5, s79_8, s79_11, s79_13, s79_14, s79_15, s79_52, s79_53, s79_56, s79_59, s79_60, s79_61, s79_62, s79_63, s79_66, s79_69, s79_70, s79_71, s79_72, s79_73, s79_76, s79_77, s79_79, s79_82, s79_83, s79_84, s79_87, s79_88, s79_91, s79_92, s79_93, s79_96, s79_97, s79_100, s79_101, s79_102, s79_105, s79_108, s79_109, s79_110, s79_111, s79_113, hO, o0, R.o, c_hears R, c_isHouse R, hx, xswi, q30, q31, q32, XG_1, XO_some, XV_1, xo_n, xo_i8, xo_r8, xo_i7, xo_r7, xo_i6, xo_r6, xo_i5, xo_r5, xo_i4, xo_r4, xo_i3, xo_r3, xo_i2, xo_r2, Option.toList_some, Option.toList_none, List.cons_append, List.nil_append, bI_t, bI_f, bI_0, bI_n0, if_true, if_false, true_and, and_true, ne_eq, not_true_eq_false, not_false_eq_true, one_ne0, reduceCtorEq, Bool.true_eq_false]; exact K h s FR.refl R
    · rw [e149]; simp only [s149_0, s149_1, s149_2, s149_5, s149_8, s149_10, s149_11, s149_12, s149_52, s149_53, s149_54, s149_55, s149_58, s149_59, s149_60, s149_61, s149_62, s149_63, s149_66, s149_67, s149_68, s149_69, s149_70, s149_71, s149_74, s149_75, s149_76, s149_77, s149_80, s149_81, s149_82, s149_83, s149_84, s149_87, s149_88, s149_90, R.1, r_isHouse R M I, hx, xswi, q30, q31, q32, r_noise R M I (show i < 2 ^ 31 by omega), XG_1, XO_some, XV_1, xo_n, xo_i8, xo_r8, xo_i7, xo_r7, xo_i6, xo_r6, xo_i5, xo_r5, xo_i4, xo_r4, xo_i3, xo_r3, xo_i2, xo_r2, Option.toList_some, Option.toList_none, List.cons_append, List.nil_append, bI_t, bI_f, bI_0, bI_n0, if_true, if_false, true_and, and_true, ne_eq, not_true_eq_false, not_false_eq_true, one_ne0, reduceCtorEq, Bool.true_eq_false]; exact K h f w g FR.refl R M
  by_cases y4 : y = 4
  · subst y4
    refine ⟨cmv n T i, n, T, I, fun Q K => ?_, fun h m f w g hD R M Q K => ?_⟩
    · rw [e79]; simp only [s79_0, s79_1, s79_4, s79_5, s79_8, s79_11, s79_13, s79_14, s79_15, s79_52, s79_53, s79_56, s79_59, s79_60, s79_61, s79_62, s79_63, s79_66, s79_69, s79_70, s79_71, s79_72, s79_73, s79_76, s79_77, s79_79, s79_82, s79_83, s79_84, s79_87, s79_88, s79_91, s79_92, s79_93, s79_96, s79_97, s79_100, s79_101, s79_102, s79_105, s79_108, s79_109, s79_110, s79_111, s79_113, hO, o0, R.o, c_isHouse R, hx, xswi, q40, q41, q42, q43, XG_1, XO_some, XV_1, xo_n, xo_i8, xo_r8, xo_i7, xo_r7, xo_i6, xo_r6, xo_i5, xo_r5, xo_i4, xo_r4, xo_i3, xo_r3, xo_i2, xo_r2, Option.toList_some, Option.toList_none, List.cons_append, List.nil_append, bI_t, bI_f, bI_0, bI_n0, if_true, if_false, true_and, and_true, ne_eq, not_true_eq_false, not_false_eq_true, one_ne0, reduceCtorEq, Bool.true_eq_false]
      refine c_comesNow R I hi fun h1 F1 => ?_
      simp only [s79_0, s79_1, s79_4, s79_5, s79_8, s79_11, s79_13, s79_14, s79_15, s79_52, s79_53, s79_56, s79_59, s79_60, s79_61, s79_62, s79_63, s79_66, s79_69, s79_70, s79_71, s79_72, s79_73, s79_76, s79_77, s79_79, s79_82, s79_83, s79_84, s79_87, s79_88, s79_91, s79_92, s79_93, s79_96, s79_97, s79_100, s79_101, s79_102, s79_105, s79_108, s79_109, s79_110, s79_111, s79_113, XG_1, XO_some, XV_1, xo_n, xo_i8, xo_r8, xo_i7, xo_r7, xo_i6, xo_r6, xo_i5, xo_r5, xo_i4, xo_r4, xo_i3, xo_r3, xo_i2, xo_r2, Option.toList_some, Option.toList_none, List.cons_append, List.nil_append, bI_t, bI_f, bI_0, bI_n0, if_true, if_false, true_and, and_true, ne_eq, not_true_eq_false, not_false_eq_true, one_ne0, reduceCtorEq]
      exact K h1 s (frp0 F1) (R.fr0 F1 ht)
    · rw [e149]; simp only [s149_0, s149_1, s149_2, s149_5, s149_8, s149_10, s149_11, s149_12, s149_52, s149_53, s149_54, s149_55, s149_58, s149_59, s149_60, s149_61, s149_62, s149_63, s149_66, s149_67, s149_68, s149_69, s149_70, s149_71, s149_74, s149_75, s149_76, s149_77, s149_80, s149_81, s149_82, s149_83, s149_84, s149_87, s149_88, s149_90, R.1, r_isHouse R M I, hx, xswi, q40, q41, q42, q43, XG_1, XO_some, XV_1, xo_n, xo_i8, xo_r8, xo_i7, xo_r7, xo_i6, xo_r6, xo_i5, xo_r5, xo_i4, xo_r4, xo_i3, xo_r3, xo_i2, xo_r2, Option.toList_some, Option.toList_none, List.cons_append, List.nil_append, bI_t, bI_f, bI_0, bI_n0, if_true, if_false, true_and, and_true, ne_eq, not_true_eq_false, not_false_eq_true, one_ne0, reduceCtorEq, Bool.true_eq_false]
      refine r_comesOf R M I hr hD hi fun h1 w1 g1 F1 R1 => ?_
      simp only [s149_0, s149_1, s149_2, s149_5, s149_8, s149_10, s149_11, s149_12, s149_52, s149_53, s149_54, s149_55, s149_58, s149_59, s149_60, s149_61, s149_62, s149_63, s149_66, s149_67, s149_68, s149_69, s149_70, s149_71, s149_74, s149_75, s149_76, s149_77, s149_80, s149_81, s149_82, s149_83, s149_84, s149_87, s149_88, s149_90, XG_1, XO_some, XV_1, xo_n, xo_i8, xo_r8, xo_i7, xo_r7, xo_i6, xo_r6, xo_i5, xo_r5, xo_i4, xo_r4, xo_i3, xo_r3, xo_i2, xo_r2, Option.toList_some, Option.toList_none, List.cons_append, List.nil_append, bI_t, bI_f, bI_0, bI_n0, if_true, if_false, true_and, and_true, ne_eq, not_true_eq_false, not_false_eq_true, one_ne0, reduceCtorEq]
      exact K h1 f w1 g1 (frpn F1) R1 M
  by_cases y5 : y = 5
  · subst y5
    refine ⟨T 3 i, n, T, I, fun Q K => ?_, fun h m f w g hD R M Q K => ?_⟩
    · rw [e79]; simp only [s79_0, s79_1, s79_4, s79_5, s79_8, s79_11, s79_13, s79_14, s79_15, s79_52, s79_53, s79_56, s79_59, s79_60, s79_61, s79_62, s79_63, s79_66, s79_69, s79_70, s79_71, s79_72, s79_73, s79_76, s79_77, s79_79, s79_82, s79_83, s79_84, s79_87, s79_88, s79_91, s79_92, s79_93, s79_96, s79_97, s79_100, s79_101, s79_102, s79_105, s79_108, s79_109, s79_110, s79_111, s79_113, hO, o0, R.o, R.ag, tf10, c_isHouse R, hx, xswi, q50, q51, q52, q53, q54, XA10 h10, XG_1, XO_some, XV_1, xo_n, xo_i8, xo_r8, xo_i7, xo_r7, xo_i6, xo_r6, xo_i5, xo_r5, xo_i4, xo_r4, xo_i3, xo_r3, xo_i2, xo_r2, Option.toList_some, Option.toList_none, List.cons_append, List.nil_append, bI_t, bI_f, bI_0, bI_n0, if_true, if_false, true_and, and_true, ne_eq, not_true_eq_false, not_false_eq_true, one_ne0, reduceCtorEq, Bool.true_eq_false]; exact K h s FR.refl R
    · rw [e149]; simp only [s149_0, s149_1, s149_2, s149_5, s149_8, s149_10, s149_11, s149_12, s149_52, s149_53, s149_54, s149_55, s149_58, s149_59, s149_60, s149_61, s149_62, s149_63, s149_66, s149_67, s149_68, s149_69, s149_70, s149_71, s149_74, s149_75, s149_76, s149_77, s149_80, s149_81, s149_82, s149_83, s149_84, s149_87, s149_88, s149_90, R.1, r_isHouse R M I, hx, xswi, q50, q51, q52, q53, q54, r_house2 R M h10, XG_1, XO_some, XV_1, xo_n, xo_i8, xo_r8, xo_i7, xo_r7, xo_i6, xo_r6, xo_i5, xo_r5, xo_i4, xo_r4, xo_i3, xo_r3, xo_i2, xo_r2, Option.toList_some, Option.toList_none, List.cons_append, List.nil_append, bI_t, bI_f, bI_0, bI_n0, if_true, if_false, true_and, and_true, ne_eq, not_true_eq_false, not_false_eq_true, one_ne0, reduceCtorEq, Bool.true_eq_false]; exact K h f w g FR.refl R M
  refine ⟨BAD, n, T, I, fun Q K => ?_, fun h m f w g hD R M Q K => ?_⟩
  · rw [e79]; simp only [s79_0, s79_1, s79_4, s79_5, s79_8, s79_11, s79_13, s79_14, s79_15, s79_52, s79_53, s79_56, s79_59, s79_60, s79_61, s79_62, s79_63, s79_66, s79_69, s79_70, s79_71, s79_72, s79_73, s79_76, s79_77, s79_79, s79_82, s79_83, s79_84, s79_87, s79_88, s79_91, s79_92, s79_93, s79_96, s79_97, s79_100, s79_101, s79_102, s79_105, s79_108, s79_109, s79_110, s79_111, s79_113, hO, o0, R.o, c_isHouse R, hx, xswi, y0, y1, y2, y3, y4, y5, XG_1, XO_some, XV_1, xo_n, xo_i8, xo_r8, xo_i7, xo_r7, xo_i6, xo_r6, xo_i5, xo_r5, xo_i4, xo_r4, xo_i3, xo_r3, xo_i2, xo_r2, Option.toList_some, Option.toList_none, List.cons_append, List.nil_append, bI_t, bI_f, bI_0, bI_n0, if_true, if_false, true_and, and_true, ne_eq, not_true_eq_false, not_false_eq_true, one_ne0, reduceCtorEq, Bool.true_eq_false]; exact K h s FR.refl R
  · rw [e149]; simp only [s149_0, s149_1, s149_2, s149_5, s149_8, s149_10, s149_11, s149_12, s149_52, s149_53, s149_54, s149_55, s149_58, s149_59, s149_60, s149_61, s149_62, s149_63, s149_66, s149_67, s149_68, s149_69, s149_70, s149_71, s149_74, s149_75, s149_76, s149_77, s149_80, s149_81, s149_82, s149_83, s149_84, s149_87, s149_88, s149_90, R.1, r_isHouse R M I, hx, xswi, y0, y1, y2, y3, y4, y5, XG_1, XO_some, XV_1, xo_n, xo_i8, xo_r8, xo_i7, xo_r7, xo_i6, xo_r6, xo_i5, xo_r5, xo_i4, xo_r4, xo_i3, xo_r3, xo_i2, xo_r2, Option.toList_some, Option.toList_none, List.cons_append, List.nil_append, bI_t, bI_f, bI_0, bI_n0, if_true, if_false, true_and, and_true, ne_eq, not_true_eq_false, not_false_eq_true, one_ne0, reduceCtorEq, Bool.true_eq_false]; exact K h f w g FR.refl R M
/-- one number of a town's row is written -/
theorem RT.w10 (R : RT Dy h.2.2.1 t n T p s) (ht : t + 12 < Dy) (hD : Dy ≤ h.1) {k i : Nat} {v : Int32} (hk : k = 1 ∨ k = 2 ∨ k = 3) : RT Dy (xset h (t + k) (.inl (0, xis 10 (upd (T k) i v)))).2.2.1 t n (sup T k i v) p s ∧ FR Dy (Pt t) h (xset h (t + k) (.inl (0, xis 10 (upd (T k) i v)))) := by
  have F : FR Dy (Pt t) h (xset h (t + k) (.inl (0, xis 10 (upd (T k) i v)))) := FR.pt ht hD ⟨by omega, by omega⟩
  have a : ∀ j, j ≤ 12 → j ≠ k → (xset h (t + k) (.inl (0, xis 10 (upd (T k) i v)))).2.2.1 (t + j) = h.2.2.1 (t + j) := fun j _ q => xset_ne (by omega)
  refine ⟨R.gen F ?_ ?_ ?_ ?_ ?_ ?_ ?_ ?_ (a 8 (by omega) (by omega)) (a 9 (by omega) (by omega)) (a 10 (by omega) (by omega)) (a 11 (by omega) (by omega)) (a 12 (by omega) (by omega)) ⟨R.nn.1, R.nn.2.1⟩ rfl rfl (sup_ne (by omega)) (sup_ne (by omega)) (sup_ne (by omega)) (sup_ne (by omega)) (sup_ne (by omega)) (sup_ne (by omega)), F⟩
  · rw [show townF t n (sup T k i v) = townF t n T by unfold townF; rw [sup_ne (show 0 ≠ k by omega)]]; exact (a 0 (by omega) (by omega)).trans R.o
  · by_cases q : k = 1
    · subst q; rw [xset_self, sup_row]
    · rw [a 1 (by omega) (by omega), sup_ne (by omega)]; exact R.aw
  · by_cases q : k = 2
    · subst q; rw [xset_self, sup_row]
    · rw [a 2 (by omega) (by omega), sup_ne (by omega)]; exact R.ca
  · by_cases q : k = 3
    · subst q; rw [xset_self, sup_row]
    · rw [a 3 (by omega) (by omega), sup_ne (by omega)]; exact R.ag
  · rw [a 4 (by omega) (by omega), sup_ne (by omega)]; exact R.ow
  · rw [a 5 (by omega) (by omega), sup_ne (by omega)]; exact R.wo
  · rw [a 6 (by omega) (by omega), sup_ne (by omega)]; exact R.no
  · rw [a 7 (by omega) (by omega), sup_ne (by omega)]; exact R.be
theorem RT.w12 (R : RT Dy h.2.2.1 t n T p s) (ht : t + 12 < Dy) (hD : Dy ≤ h.1) {k i : Nat} {v : Int32} (hk : k = 5 ∨ k = 6) : RT Dy (xset h (t + k) (.inl (0, xis 12 (upd (T k) i v)))).2.2.1 t n (sup T k i v) p s ∧ FR Dy (Pt t) h (xset h (t + k) (.inl (0, xis 12 (upd (T k) i v)))) := by
  have F : FR Dy (Pt t) h (xset h (t + k) (.inl (0, xis 12 (upd (T k) i v)))) := FR.pt ht hD ⟨by omega, by omega⟩
  have a : ∀ j, j ≤ 12 → j ≠ k → (xset h (t + k) (.inl (0, xis 12 (upd (T k) i v)))).2.2.1 (t + j) = h.2.2.1 (t + j) := fun j _ q => xset_ne (by omega)
  refine ⟨R.gen F ?_ ?_ ?_ ?_ ?_ ?_ ?_ ?_ (a 8 (by omega) (by omega)) (a 9 (by omega) (by omega)) (a 10 (by omega) (by omega)) (a 11 (by omega) (by omega)) (a 12 (by omega) (by omega)) ⟨R.nn.1, R.nn.2.1⟩ rfl rfl (sup_ne (by omega)) (sup_ne (by omega)) (sup_ne (by omega)) (sup_ne (by omega)) (sup_ne (by omega)) (sup_ne (by omega)), F⟩
  · rw [show townF t n (sup T k i v) = townF t n T by unfold townF; rw [sup_ne (show 0 ≠ k by omega)]]; exact (a 0 (by omega) (by omega)).trans R.o
  · rw [a 1 (by omega) (by omega), sup_ne (by omega)]; exact R.aw
  · rw [a 2 (by omega) (by omega), sup_ne (by omega)]; exact R.ca
  · rw [a 3 (by omega) (by omega), sup_ne (by omega)]; exact R.ag
  · rw [a 4 (by omega) (by omega), sup_ne (by omega)]; exact R.ow
  · by_cases q : k = 5
    · subst q; rw [xset_self, sup_row]
    · rw [a 5 (by omega) (by omega), sup_ne (by omega)]; exact R.wo
  · by_cases q : k = 6
    · subst q; rw [xset_self, sup_row]
    · rw [a 6 (by omega) (by omega), sup_ne (by omega)]; exact R.no
  · rw [a 7 (by omega) (by omega), sup_ne (by omega)]; exact R.be
theorem RT.w24 (R : RT Dy h.2.2.1 t n T p s) (ht : t + 12 < Dy) (hD : Dy ≤ h.1) {i : Nat} {v : Int32} : RT Dy (xset h (t + 7) (.inl (0, xis 24 (upd (T 7) i v)))).2.2.1 t n (sup T 7 i v) p s ∧ FR Dy (Pt t) h (xset h (t + 7) (.inl (0, xis 24 (upd (T 7) i v)))) := by
  have F : FR Dy (Pt t) h (xset h (t + 7) (.inl (0, xis 24 (upd (T 7) i v)))) := FR.pt ht hD ⟨by omega, by omega⟩
  have a : ∀ j, j ≤ 12 → j ≠ 7 → (xset h (t + 7) (.inl (0, xis 24 (upd (T 7) i v)))).2.2.1 (t + j) = h.2.2.1 (t + j) := fun j _ q => xset_ne (by omega)
  refine ⟨R.gen F ?_ ?_ ?_ ?_ ?_ ?_ ?_ ?_ (a 8 (by omega) (by omega)) (a 9 (by omega) (by omega)) (a 10 (by omega) (by omega)) (a 11 (by omega) (by omega)) (a 12 (by omega) (by omega)) ⟨R.nn.1, R.nn.2.1⟩ rfl rfl (sup_ne (by omega)) (sup_ne (by omega)) (sup_ne (by omega)) (sup_ne (by omega)) (sup_ne (by omega)) (sup_ne (by omega)), F⟩
  · rw [show townF t n (sup T 7 i v) = townF t n T from rfl]; exact (a 0 (by omega) (by omega)).trans R.o
  · exact (a 1 (by omega) (by omega)).trans R.aw
  · exact (a 2 (by omega) (by omega)).trans R.ca
  · exact (a 3 (by omega) (by omega)).trans R.ag
  · exact (a 4 (by omega) (by omega)).trans R.ow
  · exact (a 5 (by omega) (by omega)).trans R.wo
  · exact (a 6 (by omega) (by omega)).trans R.no
  · rw [xset_self, sup_row]
theorem RT.w0 (R : RT Dy h.2.2.1 t n T p s) (ht : t + 12 < Dy) (hD : Dy ≤ h.1) {i : Nat} {v : Int32} : RT Dy (xset h t (.inr (10, townF t n (sup T 0 i v)))).2.2.1 t n (sup T 0 i v) p s ∧ FR Dy (Pt t) h (xset h t (.inr (10, townF t n (sup T 0 i v)))) := by
  have F : FR Dy (Pt t) h (xset h t (.inr (10, townF t n (sup T 0 i v)))) := FR.pt ht hD ⟨by omega, by omega⟩
  have a : ∀ j, j ≤ 12 → j ≠ 0 → (xset h t (.inr (10, townF t n (sup T 0 i v)))).2.2.1 (t + j) = h.2.2.1 (t + j) := fun j _ q => xset_ne (by omega)
  refine ⟨R.gen F xset_self ?_ ?_ ?_ ?_ ?_ ?_ ?_ (a 8 (by omega) (by omega)) (a 9 (by omega) (by omega)) (a 10 (by omega) (by omega)) (a 11 (by omega) (by omega)) (a 12 (by omega) (by omega)) ⟨R.nn.1, R.nn.2.1⟩ rfl rfl (sup_ne (by omega)) (sup_ne (by omega)) (sup_ne (by omega)) (sup_ne (by omega)) (sup_ne (by omega)) (sup_ne (by omega)), F⟩
  · exact (a 1 (by omega) (by omega)).trans R.aw
  · exact (a 2 (by omega) (by omega)).trans R.ca
  · exact (a 3 (by omega) (by omega)).trans R.ag
  · exact (a 4 (by omega) (by omega)).trans R.ow
  · exact (a 5 (by omega) (by omega)).trans R.wo
  · exact (a 6 (by omega) (by omega)).trans R.no
  · exact (a 7 (by omega) (by omega)).trans R.be
theorem iv_12 (I : IV n T) {i : Nat} {v : Int32} : IV n (sup T 1 i v) ∧ IV n (sup T 2 i v) ∧ IV n (sup T 6 i v) ∧ IV n (sup T 0 7 v) := ⟨I, I, I, I⟩
theorem pm_change (S : ST Dy b t r h n T p s) : PM Dy d b t r h n T p 80 150 [.int x, .int y, .int z] := by
  obtain ⟨⟨l, hO⟩, ht, hr, hD, R, I, hbt⟩ := S
  have hn := I.nn
  cases hx : isI x (n 0) with
  | false =>
    refine ⟨BAD, n, T, I, fun Q K => ?_, fun h m f w g hD R M Q K => ?_⟩
    · rw [e80]; simp only [s80_0, s80_1, s80_4, s80_5, s80_8, s80_11, s80_12, s80_13, s80_14, s80_17, s80_20, s80_21, s80_22, s80_24, s80_27, s80_30, s80_32, s80_33, s80_34, s80_37, s80_38, s80_41, s80_44, s80_47, s80_48, s80_51, s80_54, s80_54n, s80_56, s80_56n, s80_58, s80_59, s80_60, s80_62, s80_62n, s80_64, s80_65, s80_66, s80_67, s80_69, hO, o0, R.o, c_isHouse R, hx, XG_1, XO_some, XV_1, xo_n, xo_i8, xo_r8, xo_i7, xo_r7, xo_i6, xo_r6, xo_i5, xo_r5, xo_i4, xo_r4, xo_i3, xo_r3, xo_i2, xo_r2, Option.toList_some, Option.toList_none, List.cons_append, List.nil_append, bI_t, bI_f, bI_0, bI_n0, if_true, if_false, true_and, and_true, ne_eq, not_true_eq_false, not_false_eq_true, one_ne0, reduceCtorEq]; exact K h s FR.refl R
    · rw [e150]; simp only [s150_0, s150_1, s150_2, s150_5, s150_8, s150_9, s150_10, s150_11, s150_14, s150_17, s150_18, s150_19, s150_21, s150_24, s150_27, s150_28, s150_30, s150_31, s150_32, s150_33, s150_34, s150_35, s150_36, s150_37, s150_40, s150_43, s150_45, R.1, r_isHouse R M I, hx, XG_1, XO_some, XV_1, xo_n, xo_i8, xo_r8, xo_i7, xo_r7, xo_i6, xo_r6, xo_i5, xo_r5, xo_i4, xo_r4, xo_i3, xo_r3, xo_i2, xo_r2, Option.toList_some, Option.toList_none, List.cons_append, List.nil_append, bI_t, bI_f, bI_0, bI_n0, if_true, if_false, true_and, and_true, ne_eq, not_true_eq_false, not_false_eq_true, one_ne0, reduceCtorEq]; exact K h f w g FR.refl R M
  | true =>
  cases hy : wiB y 0 1 with
  | false =>
    refine ⟨BAD, n, T, I, fun Q K => ?_, fun h m f w g hD R M Q K => ?_⟩
    · rw [e80]; simp only [s80_0, s80_1, s80_4, s80_5, s80_8, s80_11, s80_12, s80_13, s80_14, s80_17, s80_20, s80_21, s80_22, s80_24, s80_27, s80_30, s80_32, s80_33, s80_34, s80_37, s80_38, s80_41, s80_44, s80_47, s80_48, s80_51, s80_54, s80_54n, s80_56, s80_56n, s80_58, s80_59, s80_60, s80_62, s80_62n, s80_64, s80_65, s80_66, s80_67, s80_69, hO, o0, R.o, c_isHouse R, hx, c_within, hy, XG_1, XO_some, XV_1, xo_n, xo_i8, xo_r8, xo_i7, xo_r7, xo_i6, xo_r6, xo_i5, xo_r5, xo_i4, xo_r4, xo_i3, xo_r3, xo_i2, xo_r2, Option.toList_some, Option.toList_none, List.cons_append, List.nil_append, bI_t, bI_f, bI_0, bI_n0, if_true, if_false, true_and, and_true, ne_eq, not_true_eq_false, not_false_eq_true, one_ne0, reduceCtorEq, Bool.true_eq_false]; exact K h s FR.refl R
    · rw [e150]; simp only [s150_0, s150_1, s150_2, s150_5, s150_8, s150_9, s150_10, s150_11, s150_14, s150_17, s150_18, s150_19, s150_21, s150_24, s150_27, s150_28, s150_30, s150_31, s150_32, s150_33, s150_34, s150_35, s150_36, s150_37, s150_40, s150_43, s150_45, R.1, r_isHouse R M I, hx, c_in, hy, XG_1, XO_some, XV_1, xo_n, xo_i8, xo_r8, xo_i7, xo_r7, xo_i6, xo_r6, xo_i5, xo_r5, xo_i4, xo_r4, xo_i3, xo_r3, xo_i2, xo_r2, Option.toList_some, Option.toList_none, List.cons_append, List.nil_append, bI_t, bI_f, bI_0, bI_n0, if_true, if_false, true_and, and_true, ne_eq, not_true_eq_false, not_false_eq_true, one_ne0, reduceCtorEq, Bool.true_eq_false]; exact K h f w g FR.refl R M
  | true =>
  cases hz : wiB z 0 100 with
  | false =>
    refine ⟨BAD, n, T, I, fun Q K => ?_, fun h m f w g hD R M Q K => ?_⟩
    · rw [e80]; simp only [s80_0, s80_1, s80_4, s80_5, s80_8, s80_11, s80_12, s80_13, s80_14, s80_17, s80_20, s80_21, s80_22, s80_24, s80_27, s80_30, s80_32, s80_33, s80_34, s80_37, s80_38, s80_41, s80_44, s80_47, s80_48, s80_51, s80_54, s80_54n, s80_56, s80_56n, s80_58, s80_59, s80_60, s80_62, s80_62n, s80_64, s80_65, s80_66, s80_67, s80_69, hO, o0, R.o, c_isHouse R, hx, c_within, hy, hz, XG_1, XO_some, XV_1, xo_n, xo_i8, xo_r8, xo_i7, xo_r7, xo_i6, xo_r6, xo_i5, xo_r5, xo_i4, xo_r4, xo_i3, xo_r3, xo_i2, xo_r2, Option.toList_some, Option.toList_none, List.cons_append, List.nil_append, bI_t, bI_f, bI_0, bI_n0, if_true, if_false, true_and, and_true, ne_eq, not_true_eq_false, not_false_eq_true, one_ne0, reduceCtorEq, Bool.true_eq_false]; exact K h s FR.refl R
    · rw [e150]; simp only [s150_0, s150_1, s150_2, s150_5, s150_8, s150_9, s150_10, s150_11, s150_14, s150_17, s150_18, s150_19, s150_21, s150_24, s150_27, s150_28, s150_30, s150_31, s150_32, s150_33, s150_34, s150_35, s150_36, s150_37, s150_40, s150_43, s150_45, R.1, r_isHouse R M I, hx, c_in, hy, hz, XG_1, XO_some, XV_1, xo_n, xo_i8, xo_r8, xo_i7, xo_r7, xo_i6, xo_r6, xo_i5, xo_r5, xo_i4, xo_r4, xo_i3, xo_r3, xo_i2, xo_r2, Option.toList_some, Option.toList_none, List.cons_append, List.nil_append, bI_t, bI_f, bI_0, bI_n0, if_true, if_false, true_and, and_true, ne_eq, not_true_eq_false, not_false_eq_true, one_ne0, reduceCtorEq, Bool.true_eq_false]; exact K h f w g FR.refl R M
  | true =>
  obtain ⟨i, hi, rfl⟩ := isI_t hx (by omega)
  have h10 : i < 10 := by omega
  obtain ⟨j, hj, rfl⟩ := wiB_t (k := 1) hy (by decide)
  rcases (show j = 0 ∨ j = 1 by omega) with rfl | rfl
  · refine ⟨T 1 i, n, sup T 1 i z, I, fun Q K => ?_, fun h m f w g hD R M Q K => ?_⟩
    · obtain ⟨R2, F2⟩ := R.w10 ht hD (k := 1) (i := i) (v := z) (by decide)
      rw [e80]; simp only [s80_0, s80_1, s80_4, s80_5, s80_8, s80_11, s80_12, s80_13, s80_14, s80_17, s80_20, s80_21, s80_22, s80_24, s80_27, s80_30, s80_32, s80_33, s80_34, s80_37, s80_38, s80_41, s80_44, s80_47, s80_48, s80_51, s80_54, s80_54n, s80_56, s80_56n, s80_58, s80_59, s80_60, s80_62, s80_62n, s80_64, s80_65, s80_66, s80_67, s80_69, hO, o0, R.o, R.aw, tf8, c_isHouse R, hx, c_within, hy, hz, show (nI 0 = 0) = True from eq_true rfl, XA10 h10, XS10 h10, XG_1, XO_some, XV_1, xo_n, xo_i8, xo_r8, xo_i7, xo_r7, xo_i6, xo_r6, xo_i5, xo_r5, xo_i4, xo_r4, xo_i3, xo_r3, xo_i2, xo_r2, Option.toList_some, Option.toList_none, List.cons_append, List.nil_append, bI_t, bI_f, bI_0, bI_n0, if_true, if_false, true_and, and_true, ne_eq, not_true_eq_false, not_false_eq_true, one_ne0, reduceCtorEq, Bool.true_eq_false]
      exact K _ s F2 R2
    · have hj : 8 + 3 * i + 0 < 1482 := by omega
      obtain ⟨R2, F2⟩ := R.sf hr hD (f2 := upd f (8 + 3 * i) z)
      rw [e150]; simp only [s150_0, s150_1, s150_2, s150_5, s150_8, s150_9, s150_10, s150_11, s150_14, s150_17, s150_18, s150_19, s150_21, s150_24, s150_27, s150_28, s150_30, s150_31, s150_32, s150_33, s150_34, s150_35, s150_36, s150_37, s150_40, s150_43, s150_45, R.1, r_isHouse R M I, hx, c_in, hy, hz, m3, i8, lA, r_becomes R hj, (show f (8 + 3 * i + 0) = T 1 i from (M.2.1 i h10).1), XG_1, XO_some, XV_1, xo_n, xo_i8, xo_r8, xo_i7, xo_r7, xo_i6, xo_r6, xo_i5, xo_r5, xo_i4, xo_r4, xo_i3, xo_r3, xo_i2, xo_r2, Option.toList_some, Option.toList_none, List.cons_append, List.nil_append, bI_t, bI_f, bI_0, bI_n0, if_true, if_false, true_and, and_true, ne_eq, not_true_eq_false, not_false_eq_true, one_ne0, reduceCtorEq, Bool.true_eq_false]
      exact K _ _ w g F2 R2 (mr_h1 M h10)
  · refine ⟨T 2 i, n, sup T 2 i z, I, fun Q K => ?_, fun h m f w g hD R M Q K => ?_⟩
    · obtain ⟨R2, F2⟩ := R.w10 ht hD (k := 2) (i := i) (v := z) (by decide)
      rw [e80]; simp only [s80_0, s80_1, s80_4, s80_5, s80_8, s80_11, s80_12, s80_13, s80_14, s80_17, s80_20, s80_21, s80_22, s80_24, s80_27, s80_30, s80_32, s80_33, s80_34, s80_37, s80_38, s80_41, s80_44, s80_47, s80_48, s80_51, s80_54, s80_54n, s80_56, s80_56n, s80_58, s80_59, s80_60, s80_62, s80_62n, s80_64, s80_65, s80_66, s80_67, s80_69, hO, o0, R.o, R.ca, tf9, c_isHouse R, hx, c_within, hy, hz, show (nI 1 = 0) = False from eq_false (by decide), XA10 h10, XS10 h10, XG_1, XO_some, XV_1, xo_n, xo_i8, xo_r8, xo_i7, xo_r7, xo_i6, xo_r6, xo_i5, xo_r5, xo_i4, xo_r4, xo_i3, xo_r3, xo_i2, xo_r2, Option.toList_some, Option.toList_none, List.cons_append, List.nil_append, bI_t, bI_f, bI_0, bI_n0, if_true, if_false, true_and, and_true, ne_eq, not_true_eq_false, not_false_eq_true, one_ne0, reduceCtorEq, Bool.true_eq_false]
      exact K _ s F2 R2
    · have hj : 8 + 3 * i + 1 < 1482 := by omega
      obtain ⟨R2, F2⟩ := R.sf hr hD (f2 := upd f (8 + 3 * i + 1) z)
      rw [e150]; simp only [s150_0, s150_1, s150_2, s150_5, s150_8, s150_9, s150_10, s150_11, s150_14, s150_17, s150_18, s150_19, s150_21, s150_24, s150_27, s150_28, s150_30, s150_31, s150_32, s150_33, s150_34, s150_35, s150_36, s150_37, s150_40, s150_43, s150_45, R.1, r_isHouse R M I, hx, c_in, hy, hz, m3, i8, lA, r_becomes R hj, (M.2.1 i h10).2.1, XG_1, XO_some, XV_1, xo_n, xo_i8, xo_r8, xo_i7, xo_r7, xo_i6, xo_r6, xo_i5, xo_r5, xo_i4, xo_r4, xo_i3, xo_r3, xo_i2, xo_r2, Option.toList_some, Option.toList_none, List.cons_append, List.nil_append, bI_t, bI_f, bI_0, bI_n0, if_true, if_false, true_and, and_true, ne_eq, not_true_eq_false, not_false_eq_true, one_ne0, reduceCtorEq, Bool.true_eq_false]
      exact K _ _ w g F2 R2 (mr_h2 M h10)
theorem pm_patience (S : ST Dy b t r h n T p s) : PM Dy d b t r h n T p 82 153 [.int x] := by
  obtain ⟨⟨l, hO⟩, ht, hr, hD, R, I, hbt⟩ := S
  have hn := I.nn
  cases hx : wiB x 0 24 with
  | false =>
    refine ⟨BAD, n, T, I, fun Q K => ?_, fun h m f w g hD R M Q K => ?_⟩
    · rw [e82]; simp only [s82_0, s82_1, s82_2, s82_4, s82_7, s82_10, s82_12, s82_13, s82_14, s82_17, s82_20, s82_21, s82_22, s82_25, s82_26, s82_29, s82_30, c_within, hx, XG_1, XO_some, XV_1, xo_n, xo_i8, xo_r8, xo_i7, xo_r7, xo_i6, xo_r6, xo_i5, xo_r5, xo_i4, xo_r4, xo_i3, xo_r3, xo_i2, xo_r2, Option.toList_some, Option.toList_none, List.cons_append, List.nil_append, bI_t, bI_f, bI_0, bI_n0, if_true, if_false, true_and, and_true, ne_eq, not_true_eq_false, not_false_eq_true, one_ne0, reduceCtorEq]; exact K h s FR.refl R
    · rw [e153]; simp only [s153_0, s153_1, s153_2, s153_4, s153_7, s153_10, s153_11, s153_13, s153_14, s153_17, s153_20, s153_22, c_in, hx, XG_1, XO_some, XV_1, xo_n, xo_i8, xo_r8, xo_i7, xo_r7, xo_i6, xo_r6, xo_i5, xo_r5, xo_i4, xo_r4, xo_i3, xo_r3, xo_i2, xo_r2, Option.toList_some, Option.toList_none, List.cons_append, List.nil_append, bI_t, bI_f, bI_0, bI_n0, if_true, if_false, true_and, and_true, ne_eq, not_true_eq_false, not_false_eq_true, one_ne0, reduceCtorEq]; exact K h f w g FR.refl R M
  | true =>
  obtain ⟨j, hj, q⟩ := wiB_t (k := 24) hx (by decide)
  have I2 : IV n (sup T 0 4 x) := ⟨I.1, ⟨j, hj, by rw [sup_at]; exact q⟩, I.2.2⟩
  refine ⟨T 0 4, n, sup T 0 4 x, I2, fun Q K => ?_, fun h m f w g hD R M Q K => ?_⟩
  · obtain ⟨R2, F2⟩ := R.w0 ht hD (i := 4) (v := x)
    rw [e82]; simp only [s82_0, s82_1, s82_2, s82_4, s82_7, s82_10, s82_12, s82_13, s82_14, s82_17, s82_20, s82_21, s82_22, s82_25, s82_26, s82_29, s82_30, c_within, hx, hO, o0, R.o, tf4, XP_1 (show 4 < (townF t n T).length by rw [tfL]; decide), ts4, XG_1, XO_some, XV_1, xo_n, xo_i8, xo_r8, xo_i7, xo_r7, xo_i6, xo_r6, xo_i5, xo_r5, xo_i4, xo_r4, xo_i3, xo_r3, xo_i2, xo_r2, Option.toList_some, Option.toList_none, List.cons_append, List.nil_append, bI_t, bI_f, bI_0, bI_n0, if_true, if_false, true_and, and_true, ne_eq, not_true_eq_false, not_false_eq_true, one_ne0, reduceCtorEq]
    exact K _ s F2 R2
  · have h6 : XC (d + 11) 143 [.ref r, .int 6, .int x] h = XC (d + 11) 143 [.ref r, .int (nI 6), .int x] h := rfl
    obtain ⟨R2, F2⟩ := R.sf hr hD (f2 := upd f 6 x)
    rw [e153]; simp only [s153_0, s153_1, s153_2, s153_4, s153_7, s153_10, s153_11, s153_13, s153_14, s153_17, s153_20, s153_22, c_in, hx, R.1, XG_1, XO_some, XV_1, xo_n, xo_i8, xo_r8, xo_i7, xo_r7, xo_i6, xo_r6, xo_i5, xo_r5, xo_i4, xo_r4, xo_i3, xo_r3, xo_i2, xo_r2, Option.toList_some, Option.toList_none, List.cons_append, List.nil_append, bI_t, bI_f, bI_0, bI_n0, if_true, if_false, true_and, and_true, ne_eq, not_true_eq_false, not_false_eq_true, one_ne0, reduceCtorEq]
    rw [h6, r_becomes R (by decide), M.1.2.2.2.2.2.2.1]
    simp only [s153_0, s153_1, s153_2, s153_4, s153_7, s153_10, s153_11, s153_13, s153_14, s153_17, s153_20, s153_22, XG_1, XO_some, XV_1, xo_n, xo_i8, xo_r8, xo_i7, xo_r7, xo_i6, xo_r6, xo_i5, xo_r5, xo_i4, xo_r4, xo_i3, xo_r3, xo_i2, xo_r2, Option.toList_some, Option.toList_none, List.cons_append, List.nil_append, bI_t, bI_f, bI_0, bI_n0, if_true, if_false, true_and, and_true, ne_eq, not_true_eq_false, not_false_eq_true, one_ne0, reduceCtorEq]
    exact K _ _ w g F2 R2 (mr_pt M)
theorem pm_seed (S : ST Dy b t r h n T p s) : PM Dy d b t r h n T p 96 178 [.int x] := by
  obtain ⟨⟨l, hO⟩, ht, hr, hD, R, I, hbt⟩ := S
  refine ⟨T 0 7, n, sup T 0 7 x, I, fun Q K => ?_, fun h m f w g hD R M Q K => ?_⟩
  · obtain ⟨R2, F2⟩ := R.w0 ht hD (i := 7) (v := x)
    rw [e96]; simp only [s96_0, s96_1, s96_4, s96_7, s96_8, s96_9, s96_12, s96_13, s96_16, s96_17, hO, o0, R.o, tf7, XP_1 (show 7 < (townF t n T).length by rw [tfL]; decide), ts7, XG_1, XO_some, XV_1, xo_n, xo_i8, xo_r8, xo_i7, xo_r7, xo_i6, xo_r6, xo_i5, xo_r5, xo_i4, xo_r4, xo_i3, xo_r3, xo_i2, xo_r2, Option.toList_some, Option.toList_none, List.cons_append, List.nil_append, bI_t, bI_f, bI_0, bI_n0, if_true, if_false, true_and, and_true, ne_eq, not_true_eq_false, not_false_eq_true, one_ne0, reduceCtorEq]
    exact K _ s F2 R2
  · obtain ⟨R2, F2⟩ := R.sf hr hD (f2 := upd f 0 x)
    rw [e178]; simp only [s178_0, s178_1, s178_4, s178_5, s178_6, s178_7, s178_8, s178_11, s178_12, s178_13, s178_14, s178_15, R.1, R.2.1, mf0, A0, S0, M.1.1, XG_1, XO_some, XV_1, xo_n, xo_i8, xo_r8, xo_i7, xo_r7, xo_i6, xo_r6, xo_i5, xo_r5, xo_i4, xo_r4, xo_i3, xo_r3, xo_i2, xo_r2, Option.toList_some, Option.toList_none, List.cons_append, List.nil_append, bI_t, bI_f, bI_0, bI_n0, if_true, if_false, true_and, and_true, ne_eq, not_true_eq_false, not_false_eq_true, one_ne0, reduceCtorEq]
    exact K _ _ w g F2 R2 M.dz
end PUB2
