/-! ===== 35: public methods of doors ===== -/
theorem wiB_12 {y : Int32} (h : wiB y 1 2 = true) : y = 1 ∨ y = 2 := by
  have h0 : wiB y 0 (nI 2) = true := by
    unfold wiB at h ⊢
    rw [Bool.and_eq_true, decide_eq_true_eq, decide_eq_true_eq] at h ⊢
    refine ⟨?_, h.2⟩
    have h1 := h.1
    rw [Int32.lt_iff_toInt_lt] at h1 ⊢
    have a0 : (0 : Int32).toInt = 0 := rfl
    have a1 : (1 : Int32).toInt = 1 := rfl
    omega
  obtain ⟨j, hj, rfl⟩ := wiB_t h0 (by decide)
  rcases (show j = 0 ∨ j = 1 ∨ j = 2 by omega) with rfl | rfl | rfl
  · exact absurd h (by decide)
  · exact Or.inl rfl
  · exact Or.inr rfl
section PUB3
variable {Dy d b t r : Nat} {h : xH} {n : Nat → Nat} {T : Nat → Nat → Int32} {p : Nat → Nat → Option Nat} {s : Nat → Nat → Int32} {Q : Option Value → xH → Prop} {x y z : Int32} {m f w g : Nat → Int32}
theorem iv_door (I : IV n T) (h0 : n 1 < 12) {i j : Nat} (hi : i < n 0) (hj : j ≤ 999) : IV (va_up n 1 (n 1 + 1)) (addD n T (nI i) (nI j)) := by
  have hn := I.nn
  have e4 : addD n T (nI i) (nI j) 4 = upd (T 4) (n 1) (nI i) := by unfold addD; rw [sup_ne (by decide), sup_ne (by decide), sup_ne (by decide), sup_ne (by decide), sup_row]
  have e5 : addD n T (nI i) (nI j) 5 = upd (T 5) (n 1) (nI j) := by unfold addD; rw [sup_ne (by decide), sup_ne (by decide), sup_ne (by decide), sup_row, sup_ne (by decide)]
  have e7 : addD n T (nI i) (nI j) 7 = upd (upd (T 7) (2 * n 1) NONE) (2 * n 1 + 1) NONE := by unfold addD; rw [sup_row, sup_row, sup_ne (by decide), sup_ne (by decide), sup_ne (by decide)]
  refine ⟨⟨hn.1, by show n 1 + 1 ≤ 12; omega, hn.2.2.1, hn.2.2.2⟩, I.pt, fun k hk => ?_, fun k hk => ?_, fun k hk => ?_, I.th, I.sy, I.hi, I.tx⟩
  · have hk' : k < n 1 + 1 := hk
    rw [e4]
    by_cases q : k = n 1
    · subst q; exact ⟨i, hi, upd_at⟩
    · rw [upd_ne q]; exact I.ow k (by omega)
  · have hk' : k < n 1 + 1 := hk
    rw [e5]
    by_cases q : k = n 1
    · subst q; exact ⟨j, hj, upd_at⟩
    · rw [upd_ne q]; exact I.wo k (by omega)
  · have hk' : k < 2 * (n 1 + 1) := hk
    rw [e7]
    by_cases q : k = 2 * n 1 + 1
    · subst q; exact Or.inl upd_at
    · rw [upd_ne q]
      by_cases q2 : k = 2 * n 1
      · subst q2; exact Or.inl upd_at
      · rw [upd_ne q2]; exact I.be k (by omega)
theorem pm_door (S : ST Dy b t r h n T p s) : PM Dy d b t r h n T p 84 155 [.int x, .int y] := by
  obtain ⟨⟨l, hO⟩, ht, hr, hD, R, I, hbt⟩ := S
  have hn := I.nn
  cases hx : isI x (n 0) with
  | false =>
    refine ⟨BAD, n, T, I, fun Q K => ?_, fun h m f w g hD R M Q K => ?_⟩
    · rw [e84]; simp only [s84_0, s84_1, s84_4, s84_5, s84_8, s84_11, s84_12, s84_13, s84_16, s84_19, s84_22, s84_24, s84_25, s84_26, s84_29, s84_30, s84_31, s84_34, hO, o0, R.o, c_isHouse R, hx, XG_1, XO_some, XV_1, xo_n, xo_i8, xo_r8, xo_i7, xo_r7, xo_i6, xo_r6, xo_i5, xo_r5, xo_i4, xo_r4, xo_i3, xo_r3, xo_i2, xo_r2, Option.toList_some, Option.toList_none, List.cons_append, List.nil_append, bI_t, bI_f, bI_0, bI_n0, if_true, if_false, true_and, and_true, ne_eq, not_true_eq_false, not_false_eq_true, one_ne0, reduceCtorEq]; exact K h s FR.refl R
    · rw [e155]; simp only [s155_0, s155_1, s155_2, s155_5, s155_8, s155_9, s155_10, s155_13, s155_16, s155_19, s155_21, s155_22, s155_23, s155_26, s155_27, s155_28, s155_30, s155_33, s155_35, s155_36, s155_38, s155_39, s155_40, s155_43, s155_44, s155_45, s155_46, s155_47, s155_48, s155_49, s155_52, s155_53, s155_54, s155_55, s155_56, s155_59, s155_60, s155_61, s155_62, s155_63, s155_64, s155_65, s155_68, s155_69, s155_70, s155_71, s155_72, s155_73, s155_74, s155_77, s155_78, s155_79, s155_80, s155_81, s155_82, s155_83, s155_86, s155_87, s155_88, s155_89, s155_90, s155_91, s155_92, s155_93, s155_94, s155_97, s155_98, s155_99, s155_100, s155_101, s155_102, s155_103, s155_104, s155_107, s155_108, s155_109, s155_110, s155_111, R.1, r_isHouse R M I, hx, XG_1, XO_some, XV_1, xo_n, xo_i8, xo_r8, xo_i7, xo_r7, xo_i6, xo_r6, xo_i5, xo_r5, xo_i4, xo_r4, xo_i3, xo_r3, xo_i2, xo_r2, Option.toList_some, Option.toList_none, List.cons_append, List.nil_append, bI_t, bI_f, bI_0, bI_n0, if_true, if_false, true_and, and_true, ne_eq, not_true_eq_false, not_false_eq_true, one_ne0, reduceCtorEq]; exact K h f w g FR.refl R M
  | true =>
  cases hy : wiB y 0 999 with
  | false =>
    refine ⟨BAD, n, T, I, fun Q K => ?_, fun h m f w g hD R M Q K => ?_⟩
    · rw [e84]; simp only [s84_0, s84_1, s84_4, s84_5, s84_8, s84_11, s84_12, s84_13, s84_16, s84_19, s84_22, s84_24, s84_25, s84_26, s84_29, s84_30, s84_31, s84_34, hO, o0, R.o, c_isHouse R, hx, c_within, hy, XG_1, XO_some, XV_1, xo_n, xo_i8, xo_r8, xo_i7, xo_r7, xo_i6, xo_r6, xo_i5, xo_r5, xo_i4, xo_r4, xo_i3, xo_r3, xo_i2, xo_r2, Option.toList_some, Option.toList_none, List.cons_append, List.nil_append, bI_t, bI_f, bI_0, bI_n0, if_true, if_false, true_and, and_true, ne_eq, not_true_eq_false, not_false_eq_true, one_ne0, reduceCtorEq, Bool.true_eq_false]; exact K h s FR.refl R
    · rw [e155]; simp only [s155_0, s155_1, s155_2, s155_5, s155_8, s155_9, s155_10, s155_13, s155_16, s155_19, s155_21, s155_22, s155_23, s155_26, s155_27, s155_28, s155_30, s155_33, s155_35, s155_36, s155_38, s155_39, s155_40, s155_43, s155_44, s155_45, s155_46, s155_47, s155_48, s155_49, s155_52, s155_53, s155_54, s155_55, s155_56, s155_59, s155_60, s155_61, s155_62, s155_63, s155_64, s155_65, s155_68, s155_69, s155_70, s155_71, s155_72, s155_73, s155_74, s155_77, s155_78, s155_79, s155_80, s155_81, s155_82, s155_83, s155_86, s155_87, s155_88, s155_89, s155_90, s155_91, s155_92, s155_93, s155_94, s155_97, s155_98, s155_99, s155_100, s155_101, s155_102, s155_103, s155_104, s155_107, s155_108, s155_109, s155_110, s155_111, R.1, r_isHouse R M I, hx, c_in, hy, XG_1, XO_some, XV_1, xo_n, xo_i8, xo_r8, xo_i7, xo_r7, xo_i6, xo_r6, xo_i5, xo_r5, xo_i4, xo_r4, xo_i3, xo_r3, xo_i2, xo_r2, Option.toList_some, Option.toList_none, List.cons_append, List.nil_append, bI_t, bI_f, bI_0, bI_n0, if_true, if_false, true_and, and_true, ne_eq, not_true_eq_false, not_false_eq_true, one_ne0, reduceCtorEq, Bool.true_eq_false]; exact K h f w g FR.refl R M
  | true =>
  by_cases h0 : n 1 = 12
  · refine ⟨-1000000003, n, T, I, fun Q K => ?_, fun h m f w g hD R M Q K => ?_⟩
    · rw [e84]; simp only [s84_0, s84_1, s84_4, s84_5, s84_8, s84_11, s84_12, s84_13, s84_16, s84_19, s84_22, s84_24, s84_25, s84_26, s84_29, s84_30, s84_31, s84_34, hO, o0, R.o, c_isHouse R, hx, c_within, hy, c_addDoorF R h0, XG_1, XO_some, XV_1, xo_n, xo_i8, xo_r8, xo_i7, xo_r7, xo_i6, xo_r6, xo_i5, xo_r5, xo_i4, xo_r4, xo_i3, xo_r3, xo_i2, xo_r2, Option.toList_some, Option.toList_none, List.cons_append, List.nil_append, bI_t, bI_f, bI_0, bI_n0, if_true, if_false, true_and, and_true, ne_eq, not_true_eq_false, not_false_eq_true, one_ne0, reduceCtorEq, Bool.true_eq_false]; exact K h s FR.refl R
    · rw [e155]; simp only [s155_0, s155_1, s155_2, s155_5, s155_8, s155_9, s155_10, s155_13, s155_16, s155_19, s155_21, s155_22, s155_23, s155_26, s155_27, s155_28, s155_30, s155_33, s155_35, s155_36, s155_38, s155_39, s155_40, s155_43, s155_44, s155_45, s155_46, s155_47, s155_48, s155_49, s155_52, s155_53, s155_54, s155_55, s155_56, s155_59, s155_60, s155_61, s155_62, s155_63, s155_64, s155_65, s155_68, s155_69, s155_70, s155_71, s155_72, s155_73, s155_74, s155_77, s155_78, s155_79, s155_80, s155_81, s155_82, s155_83, s155_86, s155_87, s155_88, s155_89, s155_90, s155_91, s155_92, s155_93, s155_94, s155_97, s155_98, s155_99, s155_100, s155_101, s155_102, s155_103, s155_104, s155_107, s155_108, s155_109, s155_110, s155_111, R.1, R.2.1, mf0, A2, M.1.2.2.1, h0, show nI 12 = 12 from rfl, r_isHouse R M I, hx, c_in, hy, XG_1, XO_some, XV_1, xo_n, xo_i8, xo_r8, xo_i7, xo_r7, xo_i6, xo_r6, xo_i5, xo_r5, xo_i4, xo_r4, xo_i3, xo_r3, xo_i2, xo_r2, Option.toList_some, Option.toList_none, List.cons_append, List.nil_append, bI_t, bI_f, bI_0, bI_n0, if_true, if_false, true_and, and_true, ne_eq, not_true_eq_false, not_false_eq_true, one_ne0, reduceCtorEq, Bool.true_eq_false]; exact K h f w g FR.refl R M
  have h1 : n 1 < 12 := by omega
  obtain ⟨i, hi, rfl⟩ := isI_t hx (by omega)
  obtain ⟨j, hj, rfl⟩ := wiB_t (k := 999) hy (by decide)
  refine ⟨nI (n 1), _, _, iv_door I h1 hi hj, fun Q K => ?_, fun h m f w g hD R M Q K => ?_⟩
  · rw [e84]; simp only [s84_0, s84_1, s84_4, s84_5, s84_8, s84_11, s84_12, s84_13, s84_16, s84_19, s84_22, s84_24, s84_25, s84_26, s84_29, s84_30, s84_31, s84_34, hO, o0, R.o, c_isHouse R, hx, c_within, hy, XG_1, XO_some, XV_1, xo_n, xo_i8, xo_r8, xo_i7, xo_r7, xo_i6, xo_r6, xo_i5, xo_r5, xo_i4, xo_r4, xo_i3, xo_r3, xo_i2, xo_r2, Option.toList_some, Option.toList_none, List.cons_append, List.nil_append, bI_t, bI_f, bI_0, bI_n0, if_true, if_false, true_and, and_true, ne_eq, not_true_eq_false, not_false_eq_true, one_ne0, reduceCtorEq, Bool.true_eq_false]
    refine c_addDoor R ht hD h1 fun h1 F1 R1 => ?_
    simp only [s84_0, s84_1, s84_4, s84_5, s84_8, s84_11, s84_12, s84_13, s84_16, s84_19, s84_22, s84_24, s84_25, s84_26, s84_29, s84_30, s84_31, s84_34, XG_1, XO_some, XV_1, xo_n, xo_i8, xo_r8, xo_i7, xo_r7, xo_i6, xo_r6, xo_i5, xo_r5, xo_i4, xo_r4, xo_i3, xo_r3, xo_i2, xo_r2, Option.toList_some, Option.toList_none, List.cons_append, List.nil_append, bI_t, bI_f, bI_0, bI_n0, if_true, if_false, true_and, and_true, ne_eq, not_true_eq_false, not_false_eq_true, one_ne0, reduceCtorEq]
    exact K h1 s F1 R1
  · have e12 : ¬ nI (n 1) = 12 := by rw [show (12 : Int32) = nI 12 from rfl, nI_eq (by omega) (by omega)]; exact h0
    have e1 : ∀ e, (xset h (r + 1) e).2.2.1 r = .inr (12, modelF r m) := fun e => by rw [xset_ne (by omega)]; exact R.1
    have j0 : 38 + 5 * n 1 < 1482 := by omega
    have j1 : 38 + 5 * n 1 + 1 < 1482 := by omega
    have j2 : 38 + 5 * n 1 + 2 < 1482 := by omega
    have j3 : 38 + 5 * n 1 + 3 < 1482 := by omega
    have j4 : 38 + 5 * n 1 + 3 + 1 < 1482 := by omega
    have i2 : nI (38 + 5 * n 1) + 2 = nI (38 + 5 * n 1 + 2) := nI_add _ 2
    have i3' : nI (38 + 5 * n 1) + 3 = nI (38 + 5 * n 1 + 3) := nI_add _ 3
    have g2 : (upd (upd (upd (upd (upd f (38 + 5 * n 1) (nI i)) (38 + 5 * n 1 + 1) (nI j)) (38 + 5 * n 1 + 2) 1) (38 + 5 * n 1 + 3) (-1)) (38 + 5 * n 1 + 3 + 1) (-1)) 2 = nI (n 1) := by
      rw [upd_ne (by omega), upd_ne (by omega), upd_ne (by omega), upd_ne (by omega), upd_ne (by omega)]; exact M.1.2.2.1
    obtain ⟨R2, F2⟩ := R.sf hr hD (f2 := upd (upd (upd (upd (upd (upd f (38 + 5 * n 1) (nI i)) (38 + 5 * n 1 + 1) (nI j)) (38 + 5 * n 1 + 2) 1) (38 + 5 * n 1 + 3) (-1)) (38 + 5 * n 1 + 3 + 1) (-1)) 2 (nI (n 1 + 1)))
    have M2 := mr_nd (mr_d4 (mr_d3 (mr_d2 (mr_d1 (mr_d0 M h1 (v := nI i)) h1 (v := nI j)) h1 (v := 1)) h1 (v := NONE)) h1 (v := NONE)) (v := n 1 + 1)
    rw [e155]; simp only [s155_0, s155_1, s155_2, s155_5, s155_8, s155_9, s155_10, s155_13, s155_16, s155_19, s155_21, s155_22, s155_23, s155_26, s155_27, s155_28, s155_30, s155_33, s155_35, s155_36, s155_38, s155_39, s155_40, s155_43, s155_44, s155_45, s155_46, s155_47, s155_48, s155_49, s155_52, s155_53, s155_54, s155_55, s155_56, s155_59, s155_60, s155_61, s155_62, s155_63, s155_64, s155_65, s155_68, s155_69, s155_70, s155_71, s155_72, s155_73, s155_74, s155_77, s155_78, s155_79, s155_80, s155_81, s155_82, s155_83, s155_86, s155_87, s155_88, s155_89, s155_90, s155_91, s155_92, s155_93, s155_94, s155_97, s155_98, s155_99, s155_100, s155_101, s155_102, s155_103, s155_104, s155_107, s155_108, s155_109, s155_110, s155_111, R.1, R.2.1, e1, xset_self, mf0, A2, S2, M.1.2.2.1, g2, e12, r_isHouse R M I, hx, c_in, hy, m5, i38, i2, i3', nI_1, XSm j0, XSm j1, XSm j2, XSm j3, XSm j4, xset_twice, upd_at, nI_pred, XG_1, XO_some, XV_1, xo_n, xo_i8, xo_r8, xo_i7, xo_r7, xo_i6, xo_r6, xo_i5, xo_r5, xo_i4, xo_r4, xo_i3, xo_r3, xo_i2, xo_r2, Option.toList_some, Option.toList_none, List.cons_append, List.nil_append, bI_t, bI_f, bI_0, bI_n0, if_true, if_false, true_and, and_true, ne_eq, not_true_eq_false, not_false_eq_true, one_ne0, reduceCtorEq, Bool.true_eq_false]
    exact K _ _ w g F2 R2 M2
theorem pm_doorTold (S : ST Dy b t r h n T p s) : PM Dy d b t r h n T p 85 158 [.int x, .int y] := by
  obtain ⟨⟨l, hO⟩, ht, hr, hD, R, I, hbt⟩ := S
  have hn := I.nn
  cases hx : isI x (n 1) with
  | false =>
    refine ⟨BAD, n, T, I, fun Q K => ?_, fun h m f w g hD R M Q K => ?_⟩
    · rw [e85]; simp only [s85_0, s85_1, s85_4, s85_5, s85_8, s85_11, s85_13, s85_14, s85_15, s85_52, s85_53, s85_56, s85_59, s85_60, s85_61, s85_62, s85_63, s85_66, s85_69, s85_70, s85_71, s85_72, s85_73, s85_76, s85_79, s85_80, s85_81, s85_82, s85_83, s85_86, s85_89, s85_90, s85_91, s85_92, s85_93, s85_94, s85_95, s85_98, s85_101, s85_102, s85_103, s85_104, s85_105, s85_106, s85_107, s85_108, s85_109, s85_112, s85_113, s85_116, s85_119, s85_120, s85_123, s85_124, s85_125, s85_127, hO, o0, R.o, c_isDoor R, hx, XG_1, XO_some, XV_1, xo_n, xo_i8, xo_r8, xo_i7, xo_r7, xo_i6, xo_r6, xo_i5, xo_r5, xo_i4, xo_r4, xo_i3, xo_r3, xo_i2, xo_r2, Option.toList_some, Option.toList_none, List.cons_append, List.nil_append, bI_t, bI_f, bI_0, bI_n0, if_true, if_false, true_and, and_true, ne_eq, not_true_eq_false, not_false_eq_true, one_ne0, reduceCtorEq]; exact K h s FR.refl R
    · rw [e158]; simp only [s158_0, s158_1, s158_2, s158_5, s158_8, s158_9, s158_10, s158_11, s158_14, s158_17, s158_19, s158_20, s158_21, s158_22, s158_25, s158_26, s158_27, s158_30, s158_33, s158_34, s158_37, s158_38, s158_39, s158_40, s158_41, s158_44, s158_45, s158_46, s158_47, s158_50, s158_53, s158_54, s158_55, s158_56, s158_59, s158_62, R.1, r_isDoor R M I, hx, XG_1, XO_some, XV_1, xo_n, xo_i8, xo_r8, xo_i7, xo_r7, xo_i6, xo_r6, xo_i5, xo_r5, xo_i4, xo_r4, xo_i3, xo_r3, xo_i2, xo_r2, Option.toList_some, Option.toList_none, List.cons_append, List.nil_append, bI_t, bI_f, bI_0, bI_n0, if_true, if_false, true_and, and_true, ne_eq, not_true_eq_false, not_false_eq_true, one_ne0, reduceCtorEq]; exact K h f w g FR.refl R M
  | true =>
  obtain ⟨i, hi, rfl⟩ := isI_t hx (by omega)
  have h12 : i < 12 := by omega
  have ha : 2 * i < 24 := by omega
  have hb : 2 * i + 1 < 24 := by omega
  have c03 : ((0 : Int32) < 3) = True := eq_true (by decide)
  have c13 : ((1 : Int32) < 3) = True := eq_true (by decide)
  have c23 : ((2 : Int32) < 3) = True := eq_true (by decide)
  have c33 : ((3 : Int32) < 3) = False := eq_false (by decide)
  have c43 : ((4 : Int32) < 3) = False := eq_false (by decide)
  have w0 : wiB 0 0 5 = true := by decide
  have w1 : wiB 1 0 5 = true := by decide
  have w2 : wiB 2 0 5 = true := by decide
  have w3 : wiB 3 0 5 = true := by decide
  have w4 : wiB 4 0 5 = true := by decide
  have w5 : wiB 5 0 5 = true := by decide
  by_cases y0 : y = 0
  · subst y0
    refine ⟨T 4 i, n, T, I, fun Q K => ?_, fun h m f w g hD R M Q K => ?_⟩
    · rw [e85]; simp only [s85_0, s85_1, s85_4, s85_5, s85_8, s85_11, s85_13, s85_14, s85_15, s85_52, s85_53, s85_56, s85_59, s85_60, s85_61, s85_62, s85_63, s85_66, s85_69, s85_70, s85_71, s85_72, s85_73, s85_76, s85_79, s85_80, s85_81, s85_82, s85_83, s85_86, s85_89, s85_90, s85_91, s85_92, s85_93, s85_94, s85_95, s85_98, s85_101, s85_102, s85_103, s85_104, s85_105, s85_106, s85_107, s85_108, s85_109, s85_112, s85_113, s85_116, s85_119, s85_120, s85_123, s85_124, s85_125, s85_127, hO, o0, R.o, R.ow, tf11, c_isDoor R, hx, xswi, XA12 h12, XG_1, XO_some, XV_1, xo_n, xo_i8, xo_r8, xo_i7, xo_r7, xo_i6, xo_r6, xo_i5, xo_r5, xo_i4, xo_r4, xo_i3, xo_r3, xo_i2, xo_r2, Option.toList_some, Option.toList_none, List.cons_append, List.nil_append, bI_t, bI_f, bI_0, bI_n0, if_true, if_false, true_and, and_true, ne_eq, not_true_eq_false, not_false_eq_true, one_ne0, reduceCtorEq, Bool.true_eq_false]; exact K h s FR.refl R
    · rw [e158]; simp only [s158_0, s158_1, s158_2, s158_5, s158_8, s158_9, s158_10, s158_11, s158_14, s158_17, s158_19, s158_20, s158_21, s158_22, s158_25, s158_26, s158_27, s158_30, s158_33, s158_34, s158_37, s158_38, s158_39, s158_40, s158_41, s158_44, s158_45, s158_46, s158_47, s158_50, s158_53, s158_54, s158_55, s158_56, s158_59, s158_62, R.1, r_isDoor R M I, hx, c_in, w0, q05, c03, r_door0 R M h12, XG_1, XO_some, XV_1, xo_n, xo_i8, xo_r8, xo_i7, xo_r7, xo_i6, xo_r6, xo_i5, xo_r5, xo_i4, xo_r4, xo_i3, xo_r3, xo_i2, xo_r2, Option.toList_some, Option.toList_none, List.cons_append, List.nil_append, bI_t, bI_f, bI_0, bI_n0, if_true, if_false, true_and, and_true, ne_eq, not_true_eq_false, not_false_eq_true, one_ne0, reduceCtorEq, Bool.true_eq_false]; exact K h f w g FR.refl R M
  by_cases y1 : y = 1
  · subst y1
    refine ⟨T 5 i, n, T, I, fun Q K => ?_, fun h m f w g hD R M Q K => ?_⟩
    · rw [e85]; simp only [s85_0, s85_1, s85_4, s85_5, s85_8, s85_11, s85_13, s85_14, s85_15, s85_52, s85_53, s85_56, s85_59, s85_60, s85_61, s85_62, s85_63, s85_66, s85_69, s85_70, s85_71, s85_72, s85_73, s85_76, s85_79, s85_80, s85_81, s85_82, s85_83, s85_86, s85_89, s85_90, s85_91, s85_92, s85_93, s85_94, s85_95, s85_98, s85_101, s85_102, s85_103, s85_104, s85_105, s85_106, s85_107, s85_108, s85_109, s85_112, s85_113, s85_116, s85_119, s85_120, s85_123, s85_124, s85_125, s85_127, hO, o0, R.o, R.wo, tf12, c_isDoor R, hx, xswi, XA12 h12, XG_1, XO_some, XV_1, xo_n, xo_i8, xo_r8, xo_i7, xo_r7, xo_i6, xo_r6, xo_i5, xo_r5, xo_i4, xo_r4, xo_i3, xo_r3, xo_i2, xo_r2, Option.toList_some, Option.toList_none, List.cons_append, List.nil_append, bI_t, bI_f, bI_0, bI_n0, if_true, if_false, true_and, and_true, ne_eq, not_true_eq_false, not_false_eq_true, one_ne0, reduceCtorEq, Bool.true_eq_false]; exact K h s FR.refl R
    · rw [e158]; simp only [s158_0, s158_1, s158_2, s158_5, s158_8, s158_9, s158_10, s158_11, s158_14, s158_17, s158_19, s158_20, s158_21, s158_22, s158_25, s158_26, s158_27, s158_30, s158_33, s158_34, s158_37, s158_38, s158_39, s158_40, s158_41, s158_44, s158_45, s158_46, s158_47, s158_50, s158_53, s158_54, s158_55, s158_56, s158_59, s158_62, R.1, r_isDoor R M I, hx, c_in, w1, q15, c13, r_door1 R M h12, XG_1, XO_some, XV_1, xo_n, xo_i8, xo_r8, xo_i7, xo_r7, xo_i6, xo_r6, xo_i5, xo_r5, xo_i4, xo_r4, xo_i3, xo_r3, xo_i2, xo_r2, Option.toList_some, Option.toList_none, List.cons_append, List.nil_append, bI_t, bI_f, bI_0, bI_n0, if_true, if_false, true_and, and_true, ne_eq, not_true_eq_false, not_false_eq_true, one_ne0, reduceCtorEq, Bool.true_eq_false]; exact K h f w g FR.refl R M
  by_cases y2 : y = 2
  · subst y2
    refine ⟨T 6 i, n, T, I, fun Q K => ?_, fun h m f w g hD R M Q K => ?_⟩
    · rw [e85]; simp only [s85_0, s85_1, s85_4, s85_5, s85_8, s85_11, s85_13, s85_14, s85_15, s85_52, s85_53, s85_56, s85_59, s85_60, s85_61, s85_62, s85_63, s85_66, s85_69, s85_70, s85_71, s85_72, s85_73, s85_76, s85_79, s85_80, s85_81, s85_82, s85_83, s85_86, s85_89, s85_90, s85_91, s85_92, s85_93, s85_94, s85_95, s85_98, s85_101, s85_102, s85_103, s85_104, s85_105, s85_106, s85_107, s85_108, s85_109, s85_112, s85_113, s85_116, s85_119, s85_120, s85_123, s85_124, s85_125, s85_127, hO, o0, R.o, R.no, tf13, c_isDoor R, hx, xswi, q20, q21, XA12 h12, XG_1, XO_some, XV_1, xo_n, xo_i8, xo_r8, xo_i7, xo_r7, xo_i6, xo_r6, xo_i5, xo_r5, xo_i4, xo_r4, xo_i3, xo_r3, xo_i2, xo_r2, Option.toList_some, Option.toList_none, List.cons_append, List.nil_append, bI_t, bI_f, bI_0, bI_n0, if_true, if_false, true_and, and_true, ne_eq, not_true_eq_false, not_false_eq_true, one_ne0, reduceCtorEq, Bool.true_eq_false]; exact K h s FR.refl R
    · rw [e158]; simp only [s158_0, s158_1, s158_2, s158_5, s158_8, s158_9, s158_10, s158_11, s158_14, s158_17, s158_19, s158_20, s158_21, s158_22, s158_25, s158_26, s158_27, s158_30, s158_33, s158_34, s158_37, s158_38, s158_39, s158_40, s158_41, s158_44, s158_45, s158_46, s158_47, s158_50, s158_53, s158_54, s158_55, s158_56, s158_59, s158_62, R.1, r_isDoor R M I, hx, c_in, w2, q25, c23, r_door2 R M h12, XG_1, XO_some, XV_1, xo_n, xo_i8, xo_r8, xo_i7, xo_r7, xo_i6, xo_r6, xo_i5, xo_r5, xo_i4, xo_r4, xo_i3, xo_r3, xo_i2, xo_r2, Option.toList_some, Option.toList_none, List.cons_append, List.nil_append, bI_t, bI_f, bI_0, bI_n0, if_true, if_false, true_and, and_true, ne_eq, not_true_eq_false, not_false_eq_true, one_ne0, reduceCtorEq, Bool.true_eq_false]; exact K h f w g FR.refl R M
  by_cases y3 : y = 3
  · subst y3
    refine ⟨T 7 (2 * i), n, T, I, fun Q K => ?_, fun h m f w g hD R M Q K => ?_⟩
    · rw [e85]; simp only [s85_0, s85_1, s85_4, s85_5, s85_8, s85_11, s85_13, s85_14, s85_15, s85_52, s85_53, s85_56, s85_59, s85_60, s85_61, s85_62, s85_63, s85_66, s85_69, s85_70, s85_71, s85_72, s85_73, s85_76, s85_79, s85_80, s85_81, s85_82, s85_83, s85_86, s85_89, s85_90, s85_91, s85_92, s85_93, s85_94, s85_95, s85_98, s85_101, s85_102, s85_103, s85_104, s85_105, s85_106, s85_107, s85_108, s85_109, s85_112, s85_113, s85_116, s85_119, s85_120, s85_123, s85_124, s85_125, s85_127, hO, o0, R.o, R.be, tf14, c_isDoor R, hx, xswi, q30, q31, q32, l2m, XA24 ha, XG_1, XO_some, XV_1, xo_n, xo_i8, xo_r8, xo_i7, xo_r7, xo_i6, xo_r6, xo_i5, xo_r5, xo_i4, xo_r4, xo_i3, xo_r3, xo_i2, xo_r2, Option.toList_some, Option.toList_none, List.cons_append, List.nil_append, bI_t, bI_f, bI_0, bI_n0, if_true, if_false, true_and, and_true, ne_eq, not_true_eq_false, not_false_eq_true, one_ne0, reduceCtorEq, Bool.true_eq_false]; exact K h s FR.refl R
    · have d3 : ∀ {d : Nat} {Q : Option Value → xH → Prop}, XC (d + 1) 140 [.ref r, .int (nI i), .int 3] h Q ↔ Q (some (.int (benc (T 7 (2 * i))))) h := fun {d Q} => r_doorb R M h12 (b := 0) (by decide)
      rw [e158]; simp only [s158_0, s158_1, s158_2, s158_5, s158_8, s158_9, s158_10, s158_11, s158_14, s158_17, s158_19, s158_20, s158_21, s158_22, s158_25, s158_26, s158_27, s158_30, s158_33, s158_34, s158_37, s158_38, s158_39, s158_40, s158_41, s158_44, s158_45, s158_46, s158_47, s158_50, s158_53, s158_54, s158_55, s158_56, s158_59, s158_62, R.1, r_isDoor R M I, hx, c_in, w3, q35, c33, d3, c_told0, told0_b (I.be (2 * i) (by omega)) (show n 0 < 2 ^ 31 by omega), XG_1, XO_some, XV_1, xo_n, xo_i8, xo_r8, xo_i7, xo_r7, xo_i6, xo_r6, xo_i5, xo_r5, xo_i4, xo_r4, xo_i3, xo_r3, xo_i2, xo_r2, Option.toList_some, Option.toList_none, List.cons_append, List.nil_append, bI_t, bI_f, bI_0, bI_n0, if_true, if_false, true_and, and_true, ne_eq, not_true_eq_false, not_false_eq_true, one_ne0, reduceCtorEq, Bool.true_eq_false]; exact K h f w g FR.refl R M
  by_cases y4 : y = 4
  · subst y4
    refine ⟨T 7 (2 * i + 1), n, T, I, fun Q K => ?_, fun h m f w g hD R M Q K => ?_⟩
    · rw [e85]; simp only [s85_0, s85_1, s85_4, s85_5, s85_8, s85_11, s85_13, s85_14, s85_15, s85_52, s85_53, s85_56, s85_59, s85_60, s85_61, s85_62, s85_63, s85_66, s85_69, s85_70, s85_71, s85_72, s85_73, s85_76, s85_79, s85_80, s85_81, s85_82, s85_83, s85_86, s85_89, s85_90, s85_91, s85_92, s85_93, s85_94, s85_95, s85_98, s85_101, s85_102, s85_103, s85_104, s85_105, s85_106, s85_107, s85_108, s85_109, s85_112, s85_113, s85_116, s85_119, s85_120, s85_123, s85_124, s85_125, s85_127, hO, o0, R.o, R.be, tf14, c_isDoor R, hx, xswi, q40, q41, q42, q43, l2m, nI_1, XA24 hb, XG_1, XO_some, XV_1, xo_n, xo_i8, xo_r8, xo_i7, xo_r7, xo_i6, xo_r6, xo_i5, xo_r5, xo_i4, xo_r4, xo_i3, xo_r3, xo_i2, xo_r2, Option.toList_some, Option.toList_none, List.cons_append, List.nil_append, bI_t, bI_f, bI_0, bI_n0, if_true, if_false, true_and, and_true, ne_eq, not_true_eq_false, not_false_eq_true, one_ne0, reduceCtorEq, Bool.true_eq_false]; exact K h s FR.refl R
    · have d4 : ∀ {d : Nat} {Q : Option Value → xH → Prop}, XC (d + 1) 140 [.ref r, .int (nI i), .int 4] h Q ↔ Q (some (.int (benc (T 7 (2 * i + 1))))) h := fun {d Q} => r_doorb R M h12 (b := 1) (by decide)
      rw [e158]; simp only [s158_0, s158_1, s158_2, s158_5, s158_8, s158_9, s158_10, s158_11, s158_14, s158_17, s158_19, s158_20, s158_21, s158_22, s158_25, s158_26, s158_27, s158_30, s158_33, s158_34, s158_37, s158_38, s158_39, s158_40, s158_41, s158_44, s158_45, s158_46, s158_47, s158_50, s158_53, s158_54, s158_55, s158_56, s158_59, s158_62, R.1, r_isDoor R M I, hx, c_in, w4, q45, c43, d4, c_told0, told0_b (I.be (2 * i + 1) (by omega)) (show n 0 < 2 ^ 31 by omega), XG_1, XO_some, XV_1, xo_n, xo_i8, xo_r8, xo_i7, xo_r7, xo_i6, xo_r6, xo_i5, xo_r5, xo_i4, xo_r4, xo_i3, xo_r3, xo_i2, xo_r2, Option.toList_some, Option.toList_none, List.cons_append, List.nil_append, bI_t, bI_f, bI_0, bI_n0, if_true, if_false, true_and, and_true, ne_eq, not_true_eq_false, not_false_eq_true, one_ne0, reduceCtorEq, Bool.true_eq_false]; exact K h f w g FR.refl R M
  by_cases y5 : y = 5
  · subst y5
    refine ⟨bI (lwD n T i), n, T, I, fun Q K => ?_, fun h m f w g hD R M Q K => ?_⟩
    · rw [e85]; simp only [s85_0, s85_1, s85_4, s85_5, s85_8, s85_11, s85_13, s85_14, s85_15, s85_52, s85_53, s85_56, s85_59, s85_60, s85_61, s85_62, s85_63, s85_66, s85_69, s85_70, s85_71, s85_72, s85_73, s85_76, s85_79, s85_80, s85_81, s85_82, s85_83, s85_86, s85_89, s85_90, s85_91, s85_92, s85_93, s85_94, s85_95, s85_98, s85_101, s85_102, s85_103, s85_104, s85_105, s85_106, s85_107, s85_108, s85_109, s85_112, s85_113, s85_116, s85_119, s85_120, s85_123, s85_124, s85_125, s85_127, hO, o0, R.o, c_isDoor R, hx, xswi, q50, q51, q52, q53, q54, XG_1, XO_some, XV_1, xo_n, xo_i8, xo_r8, xo_i7, xo_r7, xo_i6, xo_r6, xo_i5, xo_r5, xo_i4, xo_r4, xo_i3, xo_r3, xo_i2, xo_r2, Option.toList_some, Option.toList_none, List.cons_append, List.nil_append, bI_t, bI_f, bI_0, bI_n0, if_true, if_false, true_and, and_true, ne_eq, not_true_eq_false, not_false_eq_true, one_ne0, reduceCtorEq, Bool.true_eq_false]
      refine c_isLawful R I hi fun h1 F1 => ?_
      have := K h1 s (frp0 F1) (R.fr0 F1 ht)
      cases hw : lwD n T i with
      | true => rw [hw] at this; simp only [s85_0, s85_1, s85_4, s85_5, s85_8, s85_11, s85_13, s85_14, s85_15, s85_52, s85_53, s85_56, s85_59, s85_60, s85_61, s85_62, s85_63, s85_66, s85_69, s85_70, s85_71, s85_72, s85_73, s85_76, s85_79, s85_80, s85_81, s85_82, s85_83, s85_86, s85_89, s85_90, s85_91, s85_92, s85_93, s85_94, s85_95, s85_98, s85_101, s85_102, s85_103, s85_104, s85_105, s85_106, s85_107, s85_108, s85_109, s85_112, s85_113, s85_116, s85_119, s85_120, s85_123, s85_124, s85_125, s85_127, XG_1, XO_some, XV_1, xo_n, xo_i8, xo_r8, xo_i7, xo_r7, xo_i6, xo_r6, xo_i5, xo_r5, xo_i4, xo_r4, xo_i3, xo_r3, xo_i2, xo_r2, Option.toList_some, Option.toList_none, List.cons_append, List.nil_append, bI_t, bI_f, bI_0, bI_n0, if_true, if_false, true_and, and_true, ne_eq, not_true_eq_false, not_false_eq_true, one_ne0, reduceCtorEq, Bool.true_eq_false]; exact this
      | false => rw [hw] at this; simp only [s85_0, s85_1, s85_4, s85_5, s85_8, s85_11, s85_13, s85_14, s85_15, s85_52, s85_53, s85_56, s85_59, s85_60, s85_61, s85_62, s85_63, s85_66, s85_69, s85_70, s85_71, s85_72, s85_73, s85_76, s85_79, s85_80, s85_81, s85_82, s85_83, s85_86, s85_89, s85_90, s85_91, s85_92, s85_93, s85_94, s85_95, s85_98, s85_101, s85_102, s85_103, s85_104, s85_105, s85_106, s85_107, s85_108, s85_109, s85_112, s85_113, s85_116, s85_119, s85_120, s85_123, s85_124, s85_125, s85_127, XG_1, XO_some, XV_1, xo_n, xo_i8, xo_r8, xo_i7, xo_r7, xo_i6, xo_r6, xo_i5, xo_r5, xo_i4, xo_r4, xo_i3, xo_r3, xo_i2, xo_r2, Option.toList_some, Option.toList_none, List.cons_append, List.nil_append, bI_t, bI_f, bI_0, bI_n0, if_true, if_false, true_and, and_true, ne_eq, not_true_eq_false, not_false_eq_true, one_ne0, reduceCtorEq]; exact this
    · rw [e158]; simp only [s158_0, s158_1, s158_2, s158_5, s158_8, s158_9, s158_10, s158_11, s158_14, s158_17, s158_19, s158_20, s158_21, s158_22, s158_25, s158_26, s158_27, s158_30, s158_33, s158_34, s158_37, s158_38, s158_39, s158_40, s158_41, s158_44, s158_45, s158_46, s158_47, s158_50, s158_53, s158_54, s158_55, s158_56, s158_59, s158_62, R.1, r_isDoor R M I, hx, c_in, w5, XG_1, XO_some, XV_1, xo_n, xo_i8, xo_r8, xo_i7, xo_r7, xo_i6, xo_r6, xo_i5, xo_r5, xo_i4, xo_r4, xo_i3, xo_r3, xo_i2, xo_r2, Option.toList_some, Option.toList_none, List.cons_append, List.nil_append, bI_t, bI_f, bI_0, bI_n0, if_true, if_false, true_and, and_true, ne_eq, not_true_eq_false, not_false_eq_true, one_ne0, reduceCtorEq, Bool.true_eq_false]
      refine r_isLawful R M I hr hD hi fun h1 w1 g1 F1 R1 => ?_
      have := K h1 f w1 g1 (frpn F1) R1 M
      cases hw : lwD n T i with
      | true => rw [hw] at this; simp only [s158_0, s158_1, s158_2, s158_5, s158_8, s158_9, s158_10, s158_11, s158_14, s158_17, s158_19, s158_20, s158_21, s158_22, s158_25, s158_26, s158_27, s158_30, s158_33, s158_34, s158_37, s158_38, s158_39, s158_40, s158_41, s158_44, s158_45, s158_46, s158_47, s158_50, s158_53, s158_54, s158_55, s158_56, s158_59, s158_62, XG_1, XO_some, XV_1, xo_n, xo_i8, xo_r8, xo_i7, xo_r7, xo_i6, xo_r6, xo_i5, xo_r5, xo_i4, xo_r4, xo_i3, xo_r3, xo_i2, xo_r2, Option.toList_some, Option.toList_none, List.cons_append, List.nil_append, bI_t, bI_f, bI_0, bI_n0, if_true, if_false, true_and, and_true, ne_eq, not_true_eq_false, not_false_eq_true, one_ne0, reduceCtorEq, Bool.true_eq_false]; exact this
      | false => rw [hw] at this; simp only [s158_0, s158_1, s158_2, s158_5, s158_8, s158_9, s158_10, s158_11, s158_14, s158_17, s158_19, s158_20, s158_21, s158_22, s158_25, s158_26, s158_27, s158_30, s158_33, s158_34, s158_37, s158_38, s158_39, s158_40, s158_41, s158_44, s158_45, s158_46, s158_47, s158_50, s158_53, s158_54, s158_55, s158_56, s158_59, s158_62, XG_1, XO_some, XV_1, xo_n, xo_i8, xo_r8, xo_i7, xo_r7, xo_i6, xo_r6, xo_i5, xo_r5, xo_i4, xo_r4, xo_i3, xo_r3, xo_i2, xo_r2, Option.toList_some, Option.toList_none, List.cons_append, List.nil_append, bI_t, bI_f, bI_0, bI_n0, if_true, if_false, true_and, and_true, ne_eq, not_true_eq_false, not_false_eq_true, one_ne0, reduceCtorEq]; exact this
  have hy : wiB y 0 5 = false := by
    cases q : wiB y 0 5 with
    | false => rfl
    | true =>
      obtain ⟨j, hj, rfl⟩ := wiB_t (k := 5) q (by decide)
      rcases (show j = 0 ∨ j = 1 ∨ j = 2 ∨ j = 3 ∨ j = 4 ∨ j = 5 by omega) with rfl | rfl | rfl | rfl | rfl | rfl
      · exact absurd rfl y0
      · exact absurd rfl y1
      · exact absurd rfl y2
      · exact absurd rfl y3
      · exact absurd rfl y4
      · exact absurd rfl y5
  refine ⟨BAD, n, T, I, fun Q K => ?_, fun h m f w g hD R M Q K => ?_⟩
  · rw [e85]; simp only [s85_0, s85_1, s85_4, s85_5, s85_8, s85_11, s85_13, s85_14, s85_15, s85_52, s85_53, s85_56, s85_59, s85_60, s85_61, s85_62, s85_63, s85_66, s85_69, s85_70, s85_71, s85_72, s85_73, s85_76, s85_79, s85_80, s85_81, s85_82, s85_83, s85_86, s85_89, s85_90, s85_91, s85_92, s85_93, s85_94, s85_95, s85_98, s85_101, s85_102, s85_103, s85_104, s85_105, s85_106, s85_107, s85_108, s85_109, s85_112, s85_113, s85_116, s85_119, s85_120, s85_123, s85_124, s85_125, s85_127, hO, o0, R.o, c_isDoor R, hx, xswi, y0, y1, y2, y3, y4, y5, XG_1, XO_some, XV_1, xo_n, xo_i8, xo_r8, xo_i7, xo_r7, xo_i6, xo_r6, xo_i5, xo_r5, xo_i4, xo_r4, xo_i3, xo_r3, xo_i2, xo_r2, Option.toList_some, Option.toList_none, List.cons_append, List.nil_append, bI_t, bI_f, bI_0, bI_n0, if_true, if_false, true_and, and_true, ne_eq, not_true_eq_false, not_false_eq_true, one_ne0, reduceCtorEq, Bool.true_eq_false]; exact K h s FR.refl R
  · rw [e158]; simp only [s158_0, s158_1, s158_2, s158_5, s158_8, s158_9, s158_10, s158_11, s158_14, s158_17, s158_19, s158_20, s158_21, s158_22, s158_25, s158_26, s158_27, s158_30, s158_33, s158_34, s158_37, s158_38, s158_39, s158_40, s158_41, s158_44, s158_45, s158_46, s158_47, s158_50, s158_53, s158_54, s158_55, s158_56, s158_59, s158_62, R.1, r_isDoor R M I, hx, c_in, hy, XG_1, XO_some, XV_1, xo_n, xo_i8, xo_r8, xo_i7, xo_r7, xo_i6, xo_r6, xo_i5, xo_r5, xo_i4, xo_r4, xo_i3, xo_r3, xo_i2, xo_r2, Option.toList_some, Option.toList_none, List.cons_append, List.nil_append, bI_t, bI_f, bI_0, bI_n0, if_true, if_false, true_and, and_true, ne_eq, not_true_eq_false, not_false_eq_true, one_ne0, reduceCtorEq, Bool.true_eq_false]; exact K h f w g FR.refl R M
theorem pm_set (S : ST Dy b t r h n T p s) : PM Dy d b t r h n T p 86 159 [.int x, .int y, .int z] := by
  obtain ⟨⟨l, hO⟩, ht, hr, hD, R, I, hbt⟩ := S
  have hn := I.nn
  cases hx : isI x (n 1) with
  | false =>
    refine ⟨BAD, n, T, I, fun Q K => ?_, fun h m f w g hD R M Q K => ?_⟩
    · rw [e86]; simp only [s86_0, s86_1, s86_4, s86_5, s86_8, s86_11, s86_12, s86_13, s86_14, s86_17, s86_20, s86_21, s86_22, s86_23, s86_24, s86_27, s86_30, s86_33, s86_35, s86_38, s86_41, s86_43, s86_44, s86_45, s86_46, s86_49, s86_50, s86_53, s86_56, s86_59, s86_60, s86_63, s86_66, s86_66n, s86_68, s86_68n, s86_70, s86_71, s86_72, s86_74, s86_74n, s86_76, s86_77, s86_78, s86_79, s86_81, hO, o0, R.o, c_isDoor R, hx, XG_1, XO_some, XV_1, xo_n, xo_i8, xo_r8, xo_i7, xo_r7, xo_i6, xo_r6, xo_i5, xo_r5, xo_i4, xo_r4, xo_i3, xo_r3, xo_i2, xo_r2, Option.toList_some, Option.toList_none, List.cons_append, List.nil_append, bI_t, bI_f, bI_0, bI_n0, if_true, if_false, true_and, and_true, ne_eq, not_true_eq_false, not_false_eq_true, one_ne0, reduceCtorEq]; exact K h s FR.refl R
    · rw [e159]; simp only [s159_0, s159_1, s159_2, s159_5, s159_8, s159_9, s159_10, s159_11, s159_14, s159_17, s159_18, s159_19, s159_20, s159_21, s159_24, s159_27, s159_30, s159_32, s159_35, s159_38, s159_39, s159_41, s159_42, s159_43, s159_44, s159_45, s159_46, s159_47, s159_48, s159_51, s159_54, s159_56, R.1, r_isDoor R M I, hx, XG_1, XO_some, XV_1, xo_n, xo_i8, xo_r8, xo_i7, xo_r7, xo_i6, xo_r6, xo_i5, xo_r5, xo_i4, xo_r4, xo_i3, xo_r3, xo_i2, xo_r2, Option.toList_some, Option.toList_none, List.cons_append, List.nil_append, bI_t, bI_f, bI_0, bI_n0, if_true, if_false, true_and, and_true, ne_eq, not_true_eq_false, not_false_eq_true, one_ne0, reduceCtorEq]; exact K h f w g FR.refl R M
  | true =>
  cases hy : wiB y 1 2 with
  | false =>
    refine ⟨BAD, n, T, I, fun Q K => ?_, fun h m f w g hD R M Q K => ?_⟩
    · rw [e86]; simp only [s86_0, s86_1, s86_4, s86_5, s86_8, s86_11, s86_12, s86_13, s86_14, s86_17, s86_20, s86_21, s86_22, s86_23, s86_24, s86_27, s86_30, s86_33, s86_35, s86_38, s86_41, s86_43, s86_44, s86_45, s86_46, s86_49, s86_50, s86_53, s86_56, s86_59, s86_60, s86_63, s86_66, s86_66n, s86_68, s86_68n, s86_70, s86_71, s86_72, s86_74, s86_74n, s86_76, s86_77, s86_78, s86_79, s86_81, hO, o0, R.o, c_isDoor R, hx, c_within, hy, XG_1, XO_some, XV_1, xo_n, xo_i8, xo_r8, xo_i7, xo_r7, xo_i6, xo_r6, xo_i5, xo_r5, xo_i4, xo_r4, xo_i3, xo_r3, xo_i2, xo_r2, Option.toList_some, Option.toList_none, List.cons_append, List.nil_append, bI_t, bI_f, bI_0, bI_n0, if_true, if_false, true_and, and_true, ne_eq, not_true_eq_false, not_false_eq_true, one_ne0, reduceCtorEq, Bool.true_eq_false]; exact K h s FR.refl R
    · rw [e159]; simp only [s159_0, s159_1, s159_2, s159_5, s159_8, s159_9, s159_10, s159_11, s159_14, s159_17, s159_18, s159_19, s159_20, s159_21, s159_24, s159_27, s159_30, s159_32, s159_35, s159_38, s159_39, s159_41, s159_42, s159_43, s159_44, s159_45, s159_46, s159_47, s159_48, s159_51, s159_54, s159_56, R.1, r_isDoor R M I, hx, c_in, hy, XG_1, XO_some, XV_1, xo_n, xo_i8, xo_r8, xo_i7, xo_r7, xo_i6, xo_r6, xo_i5, xo_r5, xo_i4, xo_r4, xo_i3, xo_r3, xo_i2, xo_r2, Option.toList_some, Option.toList_none, List.cons_append, List.nil_append, bI_t, bI_f, bI_0, bI_n0, if_true, if_false, true_and, and_true, ne_eq, not_true_eq_false, not_false_eq_true, one_ne0, reduceCtorEq, Bool.true_eq_false]; exact K h f w g FR.refl R M
  | true =>
  obtain ⟨i, hi, rfl⟩ := isI_t hx (by omega)
  have h12 : i < 12 := by omega
  rcases wiB_12 hy with rfl | rfl
  · cases hz : wiB z 0 999 with
    | false =>
      refine ⟨BAD, n, T, I, fun Q K => ?_, fun h m f w g hD R M Q K => ?_⟩
      · rw [e86]; simp only [s86_0, s86_1, s86_4, s86_5, s86_8, s86_11, s86_12, s86_13, s86_14, s86_17, s86_20, s86_21, s86_22, s86_23, s86_24, s86_27, s86_30, s86_33, s86_35, s86_38, s86_41, s86_43, s86_44, s86_45, s86_46, s86_49, s86_50, s86_53, s86_56, s86_59, s86_60, s86_63, s86_66, s86_66n, s86_68, s86_68n, s86_70, s86_71, s86_72, s86_74, s86_74n, s86_76, s86_77, s86_78, s86_79, s86_81, hO, o0, R.o, c_isDoor R, hx, c_within, hy, hz, XG_1, XO_some, XV_1, xo_n, xo_i8, xo_r8, xo_i7, xo_r7, xo_i6, xo_r6, xo_i5, xo_r5, xo_i4, xo_r4, xo_i3, xo_r3, xo_i2, xo_r2, Option.toList_some, Option.toList_none, List.cons_append, List.nil_append, bI_t, bI_f, bI_0, bI_n0, if_true, if_false, true_and, and_true, ne_eq, not_true_eq_false, not_false_eq_true, one_ne0, reduceCtorEq, Bool.true_eq_false]; exact K h s FR.refl R
      · rw [e159]; simp only [s159_0, s159_1, s159_2, s159_5, s159_8, s159_9, s159_10, s159_11, s159_14, s159_17, s159_18, s159_19, s159_20, s159_21, s159_24, s159_27, s159_30, s159_32, s159_35, s159_38, s159_39, s159_41, s159_42, s159_43, s159_44, s159_45, s159_46, s159_47, s159_48, s159_51, s159_54, s159_56, R.1, r_isDoor R M I, hx, c_in, hy, hz, XG_1, XO_some, XV_1, xo_n, xo_i8, xo_r8, xo_i7, xo_r7, xo_i6, xo_r6, xo_i5, xo_r5, xo_i4, xo_r4, xo_i3, xo_r3, xo_i2, xo_r2, Option.toList_some, Option.toList_none, List.cons_append, List.nil_append, bI_t, bI_f, bI_0, bI_n0, if_true, if_false, true_and, and_true, ne_eq, not_true_eq_false, not_false_eq_true, one_ne0, reduceCtorEq, Bool.true_eq_false]; exact K h f w g FR.refl R M
    | true =>
    obtain ⟨j, hj, hz2⟩ := wiB_t (k := 999) hz (by decide)
    have I2 : IV n (sup T 5 i z) := ⟨I.1, I.2.1, I.2.2.1, fun k hk => by
      rw [sup_row]
      by_cases q : k = i
      · subst q; exact ⟨j, hj, by rw [upd_at]; exact hz2⟩
      · rw [upd_ne q]; exact I.wo k hk, I.2.2.2.2⟩
    refine ⟨T 5 i, n, sup T 5 i z, I2, fun Q K => ?_, fun h m f w g hD R M Q K => ?_⟩
    · obtain ⟨R2, F2⟩ := R.w12 ht hD (k := 5) (i := i) (v := z) (by decide)
      rw [e86]; simp only [s86_0, s86_1, s86_4, s86_5, s86_8, s86_11, s86_12, s86_13, s86_14, s86_17, s86_20, s86_21, s86_22, s86_23, s86_24, s86_27, s86_30, s86_33, s86_35, s86_38, s86_41, s86_43, s86_44, s86_45, s86_46, s86_49, s86_50, s86_53, s86_56, s86_59, s86_60, s86_63, s86_66, s86_66n, s86_68, s86_68n, s86_70, s86_71, s86_72, s86_74, s86_74n, s86_76, s86_77, s86_78, s86_79, s86_81, hO, o0, R.o, R.wo, tf12, c_isDoor R, hx, c_within, hy, hz, XA12 h12, XS12 h12, XG_1, XO_some, XV_1, xo_n, xo_i8, xo_r8, xo_i7, xo_r7, xo_i6, xo_r6, xo_i5, xo_r5, xo_i4, xo_r4, xo_i3, xo_r3, xo_i2, xo_r2, Option.toList_some, Option.toList_none, List.cons_append, List.nil_append, bI_t, bI_f, bI_0, bI_n0, if_true, if_false, true_and, and_true, ne_eq, not_true_eq_false, not_false_eq_true, one_ne0, reduceCtorEq, Bool.true_eq_false]
      exact K _ s F2 R2
    · have hj : 38 + 5 * i + 1 < 1482 := by omega
      obtain ⟨R2, F2⟩ := R.sf hr hD (f2 := upd f (38 + 5 * i + 1) z)
      rw [e159]; simp only [s159_0, s159_1, s159_2, s159_5, s159_8, s159_9, s159_10, s159_11, s159_14, s159_17, s159_18, s159_19, s159_20, s159_21, s159_24, s159_27, s159_30, s159_32, s159_35, s159_38, s159_39, s159_41, s159_42, s159_43, s159_44, s159_45, s159_46, s159_47, s159_48, s159_51, s159_54, s159_56, R.1, r_isDoor R M I, hx, c_in, hy, hz, m5, i38, nI_1, r_becomes R hj, (M.2.2.1 i h12).2.1, XG_1, XO_some, XV_1, xo_n, xo_i8, xo_r8, xo_i7, xo_r7, xo_i6, xo_r6, xo_i5, xo_r5, xo_i4, xo_r4, xo_i3, xo_r3, xo_i2, xo_r2, Option.toList_some, Option.toList_none, List.cons_append, List.nil_append, bI_t, bI_f, bI_0, bI_n0, if_true, if_false, true_and, and_true, ne_eq, not_true_eq_false, not_false_eq_true, one_ne0, reduceCtorEq, Bool.true_eq_false]
      exact K _ _ w g F2 R2 (mr_d1 M h12)
  · cases hz : wiB z 0 9 with
    | false =>
      refine ⟨BAD, n, T, I, fun Q K => ?_, fun h m f w g hD R M Q K => ?_⟩
      · rw [e86]; simp only [s86_0, s86_1, s86_4, s86_5, s86_8, s86_11, s86_12, s86_13, s86_14, s86_17, s86_20, s86_21, s86_22, s86_23, s86_24, s86_27, s86_30, s86_33, s86_35, s86_38, s86_41, s86_43, s86_44, s86_45, s86_46, s86_49, s86_50, s86_53, s86_56, s86_59, s86_60, s86_63, s86_66, s86_66n, s86_68, s86_68n, s86_70, s86_71, s86_72, s86_74, s86_74n, s86_76, s86_77, s86_78, s86_79, s86_81, hO, o0, R.o, c_isDoor R, hx, c_within, hy, hz, q21, XG_1, XO_some, XV_1, xo_n, xo_i8, xo_r8, xo_i7, xo_r7, xo_i6, xo_r6, xo_i5, xo_r5, xo_i4, xo_r4, xo_i3, xo_r3, xo_i2, xo_r2, Option.toList_some, Option.toList_none, List.cons_append, List.nil_append, bI_t, bI_f, bI_0, bI_n0, if_true, if_false, true_and, and_true, ne_eq, not_true_eq_false, not_false_eq_true, one_ne0, reduceCtorEq, Bool.true_eq_false]; exact K h s FR.refl R
      · rw [e159]; simp only [s159_0, s159_1, s159_2, s159_5, s159_8, s159_9, s159_10, s159_11, s159_14, s159_17, s159_18, s159_19, s159_20, s159_21, s159_24, s159_27, s159_30, s159_32, s159_35, s159_38, s159_39, s159_41, s159_42, s159_43, s159_44, s159_45, s159_46, s159_47, s159_48, s159_51, s159_54, s159_56, R.1, r_isDoor R M I, hx, c_in, hy, hz, q21, XG_1, XO_some, XV_1, xo_n, xo_i8, xo_r8, xo_i7, xo_r7, xo_i6, xo_r6, xo_i5, xo_r5, xo_i4, xo_r4, xo_i3, xo_r3, xo_i2, xo_r2, Option.toList_some, Option.toList_none, List.cons_append, List.nil_append, bI_t, bI_f, bI_0, bI_n0, if_true, if_false, true_and, and_true, ne_eq, not_true_eq_false, not_false_eq_true, one_ne0, reduceCtorEq, Bool.true_eq_false]; exact K h f w g FR.refl R M
    | true =>
    refine ⟨T 6 i, n, sup T 6 i z, I, fun Q K => ?_, fun h m f w g hD R M Q K => ?_⟩
    · obtain ⟨R2, F2⟩ := R.w12 ht hD (k := 6) (i := i) (v := z) (by decide)
      rw [e86]; simp only [s86_0, s86_1, s86_4, s86_5, s86_8, s86_11, s86_12, s86_13, s86_14, s86_17, s86_20, s86_21, s86_22, s86_23, s86_24, s86_27, s86_30, s86_33, s86_35, s86_38, s86_41, s86_43, s86_44, s86_45, s86_46, s86_49, s86_50, s86_53, s86_56, s86_59, s86_60, s86_63, s86_66, s86_66n, s86_68, s86_68n, s86_70, s86_71, s86_72, s86_74, s86_74n, s86_76, s86_77, s86_78, s86_79, s86_81, hO, o0, R.o, R.no, tf13, c_isDoor R, hx, c_within, hy, hz, q21, XA12 h12, XS12 h12, XG_1, XO_some, XV_1, xo_n, xo_i8, xo_r8, xo_i7, xo_r7, xo_i6, xo_r6, xo_i5, xo_r5, xo_i4, xo_r4, xo_i3, xo_r3, xo_i2, xo_r2, Option.toList_some, Option.toList_none, List.cons_append, List.nil_append, bI_t, bI_f, bI_0, bI_n0, if_true, if_false, true_and, and_true, ne_eq, not_true_eq_false, not_false_eq_true, one_ne0, reduceCtorEq, Bool.true_eq_false]
      exact K _ s F2 R2
    · have hj : 38 + 5 * i + 2 < 1482 := by omega
      have i2 : nI (38 + 5 * i) + 2 = nI (38 + 5 * i + 2) := nI_add _ 2
      obtain ⟨R2, F2⟩ := R.sf hr hD (f2 := upd f (38 + 5 * i + 2) z)
      rw [e159]; simp only [s159_0, s159_1, s159_2, s159_5, s159_8, s159_9, s159_10, s159_11, s159_14, s159_17, s159_18, s159_19, s159_20, s159_21, s159_24, s159_27, s159_30, s159_32, s159_35, s159_38, s159_39, s159_41, s159_42, s159_43, s159_44, s159_45, s159_46, s159_47, s159_48, s159_51, s159_54, s159_56, R.1, r_isDoor R M I, hx, c_in, hy, hz, q21, m5, i38, i2, r_becomes R hj, (M.2.2.1 i h12).2.2.1, XG_1, XO_some, XV_1, xo_n, xo_i8, xo_r8, xo_i7, xo_r7, xo_i6, xo_r6, xo_i5, xo_r5, xo_i4, xo_r4, xo_i3, xo_r3, xo_i2, xo_r2, Option.toList_some, Option.toList_none, List.cons_append, List.nil_append, bI_t, bI_f, bI_0, bI_n0, if_true, if_false, true_and, and_true, ne_eq, not_true_eq_false, not_false_eq_true, one_ne0, reduceCtorEq, Bool.true_eq_false]
      exact K _ _ w g F2 R2 (mr_d2 M h12)
theorem mr_db {n : Nat → Nat} {T : Nat → Nat → Int32} {f : Nat → Int32} (M : MR n T f) {i j : Nat} (hi : i < 12) (hj : j ≤ 1) {v : Int32} : MR n (sup T 7 (2 * i + j) v) (upd f (38 + 5 * i + 3 + j) (benc v)) := by
  rcases (show j = 0 ∨ j = 1 by omega) with rfl | rfl
  · exact mr_d3 M hi
  · exact mr_d4 M hi
theorem iv_wire (I : IV n T) {k : Nat} (hz : z = NONE ∨ ∃ j, j < n 0 ∧ z = nI j) : IV n (sup T 7 k z) := by
  refine ⟨I.1, I.2.1, I.2.2.1, I.wo, fun a ha => ?_, I.2.2.2.2.2⟩
  rw [sup_row]
  by_cases q : a = k
  · subst q; rw [upd_at]; exact hz
  · rw [upd_ne q]; exact I.be a ha
theorem pm_wire (S : ST Dy b t r h n T p s) : PM Dy d b t r h n T p 87 160 [.int x, .int y, .int z] := by
  obtain ⟨⟨l, hO⟩, ht, hr, hD, R, I, hbt⟩ := S
  have hn := I.nn
  cases hx : isI x (n 1) with
  | false =>
    refine ⟨BAD, n, T, I, fun Q K => ?_, fun h m f w g hD R M Q K => ?_⟩
    · rw [e87]; simp only [s87_0, s87_1, s87_4, s87_5, s87_8, s87_11, s87_12, s87_13, s87_14, s87_17, s87_20, s87_21, s87_23, s87_26, s87_27, s87_30, s87_31, s87_34, s87_37, s87_39, s87_40, s87_41, s87_44, s87_47, s87_48, s87_49, s87_50, s87_51, s87_52, s87_53, s87_55, s87_56, s87_59, s87_62, s87_63, s87_64, s87_65, s87_66, s87_67, s87_68, s87_69, s87_71, hO, o0, R.o, c_isDoor R, hx, XG_1, XO_some, XV_1, xo_n, xo_i8, xo_r8, xo_i7, xo_r7, xo_i6, xo_r6, xo_i5, xo_r5, xo_i4, xo_r4, xo_i3, xo_r3, xo_i2, xo_r2, Option.toList_some, Option.toList_none, List.cons_append, List.nil_append, bI_t, bI_f, bI_0, bI_n0, if_true, if_false, true_and, and_true, ne_eq, not_true_eq_false, not_false_eq_true, one_ne0, reduceCtorEq]; exact K h s FR.refl R
    · rw [e160]; simp only [s160_0, s160_1, s160_2, s160_5, s160_8, s160_9, s160_10, s160_11, s160_14, s160_17, s160_18, s160_20, s160_23, s160_24, s160_25, s160_28, s160_31, s160_33, s160_34, s160_35, s160_37, s160_38, s160_39, s160_40, s160_41, s160_42, s160_43, s160_44, s160_45, s160_46, s160_48, s160_51, s160_52, s160_55, s160_56, s160_59, s160_62, R.1, r_isDoor R M I, hx, XG_1, XO_some, XV_1, xo_n, xo_i8, xo_r8, xo_i7, xo_r7, xo_i6, xo_r6, xo_i5, xo_r5, xo_i4, xo_r4, xo_i3, xo_r3, xo_i2, xo_r2, Option.toList_some, Option.toList_none, List.cons_append, List.nil_append, bI_t, bI_f, bI_0, bI_n0, if_true, if_false, true_and, and_true, ne_eq, not_true_eq_false, not_false_eq_true, one_ne0, reduceCtorEq]; exact K h f w g FR.refl R M
  | true =>
  cases hy : wiB y 0 1 with
  | false =>
    refine ⟨BAD, n, T, I, fun Q K => ?_, fun h m f w g hD R M Q K => ?_⟩
    · rw [e87]; simp only [s87_0, s87_1, s87_4, s87_5, s87_8, s87_11, s87_12, s87_13, s87_14, s87_17, s87_20, s87_21, s87_23, s87_26, s87_27, s87_30, s87_31, s87_34, s87_37, s87_39, s87_40, s87_41, s87_44, s87_47, s87_48, s87_49, s87_50, s87_51, s87_52, s87_53, s87_55, s87_56, s87_59, s87_62, s87_63, s87_64, s87_65, s87_66, s87_67, s87_68, s87_69, s87_71, hO, o0, R.o, c_isDoor R, hx, c_within, hy, XG_1, XO_some, XV_1, xo_n, xo_i8, xo_r8, xo_i7, xo_r7, xo_i6, xo_r6, xo_i5, xo_r5, xo_i4, xo_r4, xo_i3, xo_r3, xo_i2, xo_r2, Option.toList_some, Option.toList_none, List.cons_append, List.nil_append, bI_t, bI_f, bI_0, bI_n0, if_true, if_false, true_and, and_true, ne_eq, not_true_eq_false, not_false_eq_true, one_ne0, reduceCtorEq, Bool.true_eq_false]; exact K h s FR.refl R
    · rw [e160]; simp only [s160_0, s160_1, s160_2, s160_5, s160_8, s160_9, s160_10, s160_11, s160_14, s160_17, s160_18, s160_20, s160_23, s160_24, s160_25, s160_28, s160_31, s160_33, s160_34, s160_35, s160_37, s160_38, s160_39, s160_40, s160_41, s160_42, s160_43, s160_44, s160_45, s160_46, s160_48, s160_51, s160_52, s160_55, s160_56, s160_59, s160_62, R.1, r_isDoor R M I, hx, c_in, hy, XG_1, XO_some, XV_1, xo_n, xo_i8, xo_r8, xo_i7, xo_r7, xo_i6, xo_r6, xo_i5, xo_r5, xo_i4, xo_r4, xo_i3, xo_r3, xo_i2, xo_r2, Option.toList_some, Option.toList_none, List.cons_append, List.nil_append, bI_t, bI_f, bI_0, bI_n0, if_true, if_false, true_and, and_true, ne_eq, not_true_eq_false, not_false_eq_true, one_ne0, reduceCtorEq, Bool.true_eq_false]; exact K h f w g FR.refl R M
  | true =>
  obtain ⟨i, hi, rfl⟩ := isI_t hx (by omega)
  obtain ⟨j, hj, rfl⟩ := wiB_t (k := 1) hy (by decide)
  have h12 : i < 12 := by omega
  have h24 : 2 * i + j < 24 := by omega
  have hq : 38 + 5 * i + 3 + j < 1482 := by omega
  have i3' : nI (38 + 5 * i) + 3 = nI (38 + 5 * i + 3) := nI_add _ 3
  have hf : ∀ f, MR n T f → f (38 + 5 * i + 3 + j) = benc (T 7 (2 * i + j)) := fun f M => by
    rcases (show j = 0 ∨ j = 1 by omega) with rfl | rfl
    · exact (M.2.2.1 i h12).2.2.2.1
    · exact (M.2.2.1 i h12).2.2.2.2
  have hb := told0_b (I.be (2 * i + j) (by omega)) (show n 0 < 2 ^ 31 by omega)
  by_cases hzN : z = NONE
  · subst hzN
    refine ⟨T 7 (2 * i + j), n, sup T 7 (2 * i + j) NONE, iv_wire I (Or.inl rfl), fun Q K => ?_, fun h m f w g hD R M Q K => ?_⟩
    · obtain ⟨R2, F2⟩ := R.w24 ht hD (i := 2 * i + j) (v := NONE)
      rw [e87]; simp only [s87_0, s87_1, s87_4, s87_5, s87_8, s87_11, s87_12, s87_13, s87_14, s87_17, s87_20, s87_21, s87_23, s87_26, s87_27, s87_30, s87_31, s87_34, s87_37, s87_39, s87_40, s87_41, s87_44, s87_47, s87_48, s87_49, s87_50, s87_51, s87_52, s87_53, s87_55, s87_56, s87_59, s87_62, s87_63, s87_64, s87_65, s87_66, s87_67, s87_68, s87_69, s87_71, hO, o0, R.o, R.be, tf14, c_isDoor R, hx, c_within, hy, l2m, lA, XA24 h24, XS24 h24, XG_1, XO_some, XV_1, xo_n, xo_i8, xo_r8, xo_i7, xo_r7, xo_i6, xo_r6, xo_i5, xo_r5, xo_i4, xo_r4, xo_i3, xo_r3, xo_i2, xo_r2, Option.toList_some, Option.toList_none, List.cons_append, List.nil_append, bI_t, bI_f, bI_0, bI_n0, if_true, if_false, true_and, and_true, ne_eq, not_true_eq_false, not_false_eq_true, one_ne0, reduceCtorEq, Bool.true_eq_false]
      exact K _ s F2 R2
    · obtain ⟨R2, F2⟩ := R.sf hr hD (f2 := upd f (38 + 5 * i + 3 + j) (-1))
      rw [e160]; simp only [s160_0, s160_1, s160_2, s160_5, s160_8, s160_9, s160_10, s160_11, s160_14, s160_17, s160_18, s160_20, s160_23, s160_24, s160_25, s160_28, s160_31, s160_33, s160_34, s160_35, s160_37, s160_38, s160_39, s160_40, s160_41, s160_42, s160_43, s160_44, s160_45, s160_46, s160_48, s160_51, s160_52, s160_55, s160_56, s160_59, s160_62, R.1, r_isDoor R M I, hx, c_in, hy, m5, i38, i3', lA, r_becomes R hq, hf f M, c_told0, hb, XG_1, XO_some, XV_1, xo_n, xo_i8, xo_r8, xo_i7, xo_r7, xo_i6, xo_r6, xo_i5, xo_r5, xo_i4, xo_r4, xo_i3, xo_r3, xo_i2, xo_r2, Option.toList_some, Option.toList_none, List.cons_append, List.nil_append, bI_t, bI_f, bI_0, bI_n0, if_true, if_false, true_and, and_true, ne_eq, not_true_eq_false, not_false_eq_true, one_ne0, reduceCtorEq, Bool.true_eq_false]
      exact K _ _ w g F2 R2 (mr_db M h12 hj (v := NONE))
  cases hz : isI z (n 0) with
  | false =>
    refine ⟨BAD, n, T, I, fun Q K => ?_, fun h m f w g hD R M Q K => ?_⟩
    · rw [e87]; simp only [s87_0, s87_1, s87_4, s87_5, s87_8, s87_11, s87_12, s87_13, s87_14, s87_17, s87_20, s87_21, s87_23, s87_26, s87_27, s87_30, s87_31, s87_34, s87_37, s87_39, s87_40, s87_41, s87_44, s87_47, s87_48, s87_49, s87_50, s87_51, s87_52, s87_53, s87_55, s87_56, s87_59, s87_62, s87_63, s87_64, s87_65, s87_66, s87_67, s87_68, s87_69, s87_71, hO, o0, R.o, c_isDoor R, c_isHouse R, hx, c_within, hy, hz, hzN, XG_1, XO_some, XV_1, xo_n, xo_i8, xo_r8, xo_i7, xo_r7, xo_i6, xo_r6, xo_i5, xo_r5, xo_i4, xo_r4, xo_i3, xo_r3, xo_i2, xo_r2, Option.toList_some, Option.toList_none, List.cons_append, List.nil_append, bI_t, bI_f, bI_0, bI_n0, if_true, if_false, true_and, and_true, ne_eq, not_true_eq_false, not_false_eq_true, one_ne0, reduceCtorEq, Bool.true_eq_false]; exact K h s FR.refl R
    · rw [e160]; simp only [s160_0, s160_1, s160_2, s160_5, s160_8, s160_9, s160_10, s160_11, s160_14, s160_17, s160_18, s160_20, s160_23, s160_24, s160_25, s160_28, s160_31, s160_33, s160_34, s160_35, s160_37, s160_38, s160_39, s160_40, s160_41, s160_42, s160_43, s160_44, s160_45, s160_46, s160_48, s160_51, s160_52, s160_55, s160_56, s160_59, s160_62, R.1, r_isDoor R M I, r_isHouse R M I, hx, c_in, hy, hz, hzN, XG_1, XO_some, XV_1, xo_n, xo_i8, xo_r8, xo_i7, xo_r7, xo_i6, xo_r6, xo_i5, xo_r5, xo_i4, xo_r4, xo_i3, xo_r3, xo_i2, xo_r2, Option.toList_some, Option.toList_none, List.cons_append, List.nil_append, bI_t, bI_f, bI_0, bI_n0, if_true, if_false, true_and, and_true, ne_eq, not_true_eq_false, not_false_eq_true, one_ne0, reduceCtorEq, Bool.true_eq_false]; exact K h f w g FR.refl R M
  | true =>
  have hzz : z = NONE ∨ ∃ j, j < n 0 ∧ z = nI j := Or.inr (isI_t hz (by omega))
  have hbz : benc z = z := by unfold benc; rw [if_neg hzN]
  refine ⟨T 7 (2 * i + j), n, sup T 7 (2 * i + j) z, iv_wire I hzz, fun Q K => ?_, fun h m f w g hD R M Q K => ?_⟩
  · obtain ⟨R2, F2⟩ := R.w24 ht hD (i := 2 * i + j) (v := z)
    rw [e87]; simp only [s87_0, s87_1, s87_4, s87_5, s87_8, s87_11, s87_12, s87_13, s87_14, s87_17, s87_20, s87_21, s87_23, s87_26, s87_27, s87_30, s87_31, s87_34, s87_37, s87_39, s87_40, s87_41, s87_44, s87_47, s87_48, s87_49, s87_50, s87_51, s87_52, s87_53, s87_55, s87_56, s87_59, s87_62, s87_63, s87_64, s87_65, s87_66, s87_67, s87_68, s87_69, s87_71, hO, o0, R.o, R.be, tf14, c_isDoor R, c_isHouse R, hx, c_within, hy, hz, hzN, l2m, lA, XA24 h24, XS24 h24, XG_1, XO_some, XV_1, xo_n, xo_i8, xo_r8, xo_i7, xo_r7, xo_i6, xo_r6, xo_i5, xo_r5, xo_i4, xo_r4, xo_i3, xo_r3, xo_i2, xo_r2, Option.toList_some, Option.toList_none, List.cons_append, List.nil_append, bI_t, bI_f, bI_0, bI_n0, if_true, if_false, true_and, and_true, ne_eq, not_true_eq_false, not_false_eq_true, one_ne0, reduceCtorEq, Bool.true_eq_false]
    exact K _ s F2 R2
  · obtain ⟨R2, F2⟩ := R.sf hr hD (f2 := upd f (38 + 5 * i + 3 + j) z)
    have M2 := mr_db M h12 hj (v := z)
    rw [hbz] at M2
    rw [e160]; simp only [s160_0, s160_1, s160_2, s160_5, s160_8, s160_9, s160_10, s160_11, s160_14, s160_17, s160_18, s160_20, s160_23, s160_24, s160_25, s160_28, s160_31, s160_33, s160_34, s160_35, s160_37, s160_38, s160_39, s160_40, s160_41, s160_42, s160_43, s160_44, s160_45, s160_46, s160_48, s160_51, s160_52, s160_55, s160_56, s160_59, s160_62, R.1, r_isDoor R M I, r_isHouse R M I, hx, c_in, hy, hz, hzN, m5, i38, i3', lA, r_becomes R hq, hf f M, c_told0, hb, XG_1, XO_some, XV_1, xo_n, xo_i8, xo_r8, xo_i7, xo_r7, xo_i6, xo_r6, xo_i5, xo_r5, xo_i4, xo_r4, xo_i3, xo_r3, xo_i2, xo_r2, Option.toList_some, Option.toList_none, List.cons_append, List.nil_append, bI_t, bI_f, bI_0, bI_n0, if_true, if_false, true_and, and_true, ne_eq, not_true_eq_false, not_false_eq_true, one_ne0, reduceCtorEq, Bool.true_eq_false]
    exact K _ _ w g F2 R2 M2
theorem pm_pair (S : ST Dy b t r h n T p s) : PM Dy d b t r h n T p 97 180 [.int x] := by
  obtain ⟨⟨l, hO⟩, ht, hr, hD, R, I, hbt⟩ := S
  have hn := I.nn
  cases hx : isI x (n 1) with
  | false =>
    refine ⟨BAD, n, T, I, fun Q K => ?_, fun h m f w g hD R M Q K => ?_⟩
    · rw [e97]; simp only [s97_0, s97_1, s97_4, s97_5, s97_8, s97_11, s97_12, s97_15, s97_16, s97_19, s97_22, s97_24, hO, o0, R.o, c_isDoor R, hx, XG_1, XO_some, XV_1, xo_n, xo_i8, xo_r8, xo_i7, xo_r7, xo_i6, xo_r6, xo_i5, xo_r5, xo_i4, xo_r4, xo_i3, xo_r3, xo_i2, xo_r2, Option.toList_some, Option.toList_none, List.cons_append, List.nil_append, bI_t, bI_f, bI_0, bI_n0, if_true, if_false, true_and, and_true, ne_eq, not_true_eq_false, not_false_eq_true, one_ne0, reduceCtorEq]; exact K h s FR.refl R
    · rw [e180]; simp only [s180_0, s180_1, s180_2, s180_5, s180_8, s180_9, s180_10, s180_13, s180_16, s180_19, s180_21, R.1, r_isDoor R M I, hx, XG_1, XO_some, XV_1, xo_n, xo_i8, xo_r8, xo_i7, xo_r7, xo_i6, xo_r6, xo_i5, xo_r5, xo_i4, xo_r4, xo_i3, xo_r3, xo_i2, xo_r2, Option.toList_some, Option.toList_none, List.cons_append, List.nil_append, bI_t, bI_f, bI_0, bI_n0, if_true, if_false, true_and, and_true, ne_eq, not_true_eq_false, not_false_eq_true, one_ne0, reduceCtorEq]; exact K h f w g FR.refl R M
  | true =>
  obtain ⟨i, hi, rfl⟩ := isI_t hx (by omega)
  refine ⟨oI NONE (bpr n T i), n, T, I, fun Q K => ?_, fun h m f w g hD R M Q K => ?_⟩
  · rw [e97]; simp only [s97_0, s97_1, s97_4, s97_5, s97_8, s97_11, s97_12, s97_15, s97_16, s97_19, s97_22, s97_24, hO, o0, R.o, c_isDoor R, hx, XG_1, XO_some, XV_1, xo_n, xo_i8, xo_r8, xo_i7, xo_r7, xo_i6, xo_r6, xo_i5, xo_r5, xo_i4, xo_r4, xo_i3, xo_r3, xo_i2, xo_r2, Option.toList_some, Option.toList_none, List.cons_append, List.nil_append, bI_t, bI_f, bI_0, bI_n0, if_true, if_false, true_and, and_true, ne_eq, not_true_eq_false, not_false_eq_true, one_ne0, reduceCtorEq, Bool.true_eq_false]
    refine c_bestPair I ht R hi fun h1 F1 => ?_
    simp only [s97_0, s97_1, s97_4, s97_5, s97_8, s97_11, s97_12, s97_15, s97_16, s97_19, s97_22, s97_24, XG_1, XO_some, XV_1, xo_n, xo_i8, xo_r8, xo_i7, xo_r7, xo_i6, xo_r6, xo_i5, xo_r5, xo_i4, xo_r4, xo_i3, xo_r3, xo_i2, xo_r2, Option.toList_some, Option.toList_none, List.cons_append, List.nil_append, bI_t, bI_f, bI_0, bI_n0, if_true, if_false, true_and, and_true, ne_eq, not_true_eq_false, not_false_eq_true, one_ne0, reduceCtorEq]
    exact K h1 s (frp0 F1) (R.fr0 F1 ht)
  · rw [e180]; simp only [s180_0, s180_1, s180_2, s180_5, s180_8, s180_9, s180_10, s180_13, s180_16, s180_19, s180_21, R.1, r_isDoor R M I, hx, XG_1, XO_some, XV_1, xo_n, xo_i8, xo_r8, xo_i7, xo_r7, xo_i6, xo_r6, xo_i5, xo_r5, xo_i4, xo_r4, xo_i3, xo_r3, xo_i2, xo_r2, Option.toList_some, Option.toList_none, List.cons_append, List.nil_append, bI_t, bI_f, bI_0, bI_n0, if_true, if_false, true_and, and_true, ne_eq, not_true_eq_false, not_false_eq_true, one_ne0, reduceCtorEq, Bool.true_eq_false]
    refine r_pairOf R M I hr hD hi fun h1 w1 g1 F1 R1 => ?_
    simp only [s180_0, s180_1, s180_2, s180_5, s180_8, s180_9, s180_10, s180_13, s180_16, s180_19, s180_21, XG_1, XO_some, XV_1, xo_n, xo_i8, xo_r8, xo_i7, xo_r7, xo_i6, xo_r6, xo_i5, xo_r5, xo_i4, xo_r4, xo_i3, xo_r3, xo_i2, xo_r2, Option.toList_some, Option.toList_none, List.cons_append, List.nil_append, bI_t, bI_f, bI_0, bI_n0, if_true, if_false, true_and, and_true, ne_eq, not_true_eq_false, not_false_eq_true, one_ne0, reduceCtorEq, c_told0]
    rw [told0_o (fun v hv => by have := bpo_lt (T := T) (dd := i) hn.1 (n 0) (Nat.le_refl _) v hv; omega)]
    exact K h1 f w1 g1 (frpn F1) R1 M
theorem pm_why (S : ST Dy b t r h n T p s) : PM Dy d b t r h n T p 108 207 [.int x] := by
  obtain ⟨⟨l, hO⟩, ht, hr, hD, R, I, hbt⟩ := S
  have hn := I.nn
  cases hx : wiB x 0 2 with
  | false =>
    refine ⟨BAD, n, T, I, fun Q K => ?_, fun h m f w g hD R M Q K => ?_⟩
    · rw [e108]; simp only [s108_0, s108_1, s108_2, s108_3, s108_6, s108_9, s108_10, s108_13, s108_14, s108_17, s108_20, s108_22, c_within, hx, XG_1, XO_some, XV_1, xo_n, xo_i8, xo_r8, xo_i7, xo_r7, xo_i6, xo_r6, xo_i5, xo_r5, xo_i4, xo_r4, xo_i3, xo_r3, xo_i2, xo_r2, Option.toList_some, Option.toList_none, List.cons_append, List.nil_append, bI_t, bI_f, bI_0, bI_n0, if_true, if_false, true_and, and_true, ne_eq, not_true_eq_false, not_false_eq_true, one_ne0, reduceCtorEq]; exact K h s FR.refl R
    · rw [e207]; simp only [s207_0, s207_1, s207_2, s207_3, s207_6, s207_9, s207_11, s207_12, s207_13, s207_14, s207_17, s207_18, s207_19, s207_22, s207_24, s207_27, s207_28, c_in, hx, XG_1, XO_some, XV_1, xo_n, xo_i8, xo_r8, xo_i7, xo_r7, xo_i6, xo_r6, xo_i5, xo_r5, xo_i4, xo_r4, xo_i3, xo_r3, xo_i2, xo_r2, Option.toList_some, Option.toList_none, List.cons_append, List.nil_append, bI_t, bI_f, bI_0, bI_n0, if_true, if_false, true_and, and_true, ne_eq, not_true_eq_false, not_false_eq_true, one_ne0, reduceCtorEq]; exact K h f w g FR.refl R M
  | true =>
  refine ⟨oI NONE (lst (T 10) x (n 3)), n, T, I, fun Q K => ?_, fun h m f w g hD R M Q K => ?_⟩
  · rw [e108]; simp only [s108_0, s108_1, s108_2, s108_3, s108_6, s108_9, s108_10, s108_13, s108_14, s108_17, s108_20, s108_22, hO, o0, R.o, c_within, hx, c_lastOf R, XG_1, XO_some, XV_1, xo_n, xo_i8, xo_r8, xo_i7, xo_r7, xo_i6, xo_r6, xo_i5, xo_r5, xo_i4, xo_r4, xo_i3, xo_r3, xo_i2, xo_r2, Option.toList_some, Option.toList_none, List.cons_append, List.nil_append, bI_t, bI_f, bI_0, bI_n0, if_true, if_false, true_and, and_true, ne_eq, not_true_eq_false, not_false_eq_true, one_ne0, reduceCtorEq, Bool.true_eq_false]
    exact K h s FR.refl R
  · rw [e207]; simp only [s207_0, s207_1, s207_2, s207_3, s207_6, s207_9, s207_11, s207_12, s207_13, s207_14, s207_17, s207_18, s207_19, s207_22, s207_24, s207_27, s207_28, R.1, c_in, hx, r_counts R M I, XG_1, XO_some, XV_1, xo_n, xo_i8, xo_r8, xo_i7, xo_r7, xo_i6, xo_r6, xo_i5, xo_r5, xo_i4, xo_r4, xo_i3, xo_r3, xo_i2, xo_r2, Option.toList_some, Option.toList_none, List.cons_append, List.nil_append, bI_t, bI_f, bI_0, bI_n0, if_true, if_false, true_and, and_true, ne_eq, not_true_eq_false, not_false_eq_true, one_ne0, reduceCtorEq, Bool.true_eq_false]
    have := K h f w g FR.refl R M
    cases hl : lst (T 10) x (n 3) with
    | none => rw [hl] at this; simp only [oI, show ((-1 : Int32) < 0) = True from eq_true (by decide), XG_1, XO_some, XV_1, xo_n, xo_i8, xo_r8, xo_i7, xo_r7, xo_i6, xo_r6, xo_i5, xo_r5, xo_i4, xo_r4, xo_i3, xo_r3, xo_i2, xo_r2, Option.toList_some, Option.toList_none, List.cons_append, List.nil_append, bI_t, bI_f, bI_0, bI_n0, if_true, if_false, true_and, and_true, ne_eq, not_true_eq_false, not_false_eq_true, one_ne0, reduceCtorEq]; exact this
    | some k => rw [hl] at this; have := (lst_some hl).1; simp only [oI, nI_pos (show k < 2 ^ 31 by omega), XG_1, XO_some, XV_1, xo_n, xo_i8, xo_r8, xo_i7, xo_r7, xo_i6, xo_r6, xo_i5, xo_r5, xo_i4, xo_r4, xo_i3, xo_r3, xo_i2, xo_r2, Option.toList_some, Option.toList_none, List.cons_append, List.nil_append, bI_t, bI_f, bI_0, bI_n0, if_true, if_false, true_and, and_true, ne_eq, not_true_eq_false, not_false_eq_true, one_ne0, reduceCtorEq]; assumption
theorem pm_textTold (S : ST Dy b t r h n T p s) : PM Dy d b t r h n T p 107 205 [.int x, .int y] := by
  obtain ⟨⟨l, hO⟩, ht, hr, hD, R, I, hbt⟩ := S
  have hn := I.nn
  have rx : ∀ f, MR n T f → wiB x 0 (f 7 - 1) = isI x (n 3) := fun f M => by rw [M.1.2.2.2.2.2.2.2]; exact wiB_isI (by omega)
  cases hx : isI x (n 3) with
  | false =>
    refine ⟨BAD, n, T, I, fun Q K => ?_, fun h m f w g hD R M Q K => ?_⟩
    · rw [e107]; simp only [s107_0, s107_1, s107_4, s107_5, s107_8, s107_8n, s107_9, s107_9n, s107_10, s107_10n, s107_13, s107_15, s107_16, s107_17, s107_44, s107_44n, s107_45, s107_48, s107_49, s107_49n, s107_50, s107_53, s107_54, s107_56, hO, o0, R.o, c_textAt R, hx, Bool.false_eq_true, XG_1, XO_some, XV_1, xo_n, xo_i8, xo_r8, xo_i7, xo_r7, xo_i6, xo_r6, xo_i5, xo_r5, xo_i4, xo_r4, xo_i3, xo_r3, xo_i2, xo_r2, Option.toList_some, Option.toList_none, List.cons_append, List.nil_append, bI_t, bI_f, bI_0, bI_n0, if_true, if_false, true_and, and_true, ne_eq, not_true_eq_false, not_false_eq_true, one_ne0, reduceCtorEq]; exact K h s FR.refl R
    · rw [e205]; simp only [s205_0, s205_1, s205_2, s205_3, s205_6, s205_8, s205_9, s205_10, s205_11, s205_14, s205_17, s205_18, s205_19, s205_20, s205_23, s205_26, s205_28, s205_29, s205_30, s205_33, s205_34, s205_37, s205_39, s205_40, s205_41, s205_42, s205_43, s205_44, s205_47, s205_48, s205_51, s205_52, s205_55, s205_57, s205_58, s205_59, s205_60, s205_61, s205_62, s205_63, s205_64, R.1, R.2.1, mf0, A7, c_in, rx f M, hx, XG_1, XO_some, XV_1, xo_n, xo_i8, xo_r8, xo_i7, xo_r7, xo_i6, xo_r6, xo_i5, xo_r5, xo_i4, xo_r4, xo_i3, xo_r3, xo_i2, xo_r2, Option.toList_some, Option.toList_none, List.cons_append, List.nil_append, bI_t, bI_f, bI_0, bI_n0, if_true, if_false, true_and, and_true, ne_eq, not_true_eq_false, not_false_eq_true, one_ne0, reduceCtorEq]; exact K h f w g FR.refl R M
  | true =>
  obtain ⟨i, hi, rfl⟩ := isI_t hx (by omega)
  obtain ⟨a, pa, ha, u, hu, hul, hA, -⟩ := R.tx i hi
  have hcl : (nI i).toNatClampNeg = i := nI_clamp (by omega)
  have hk := key_of I hi
  have h0 : 110 + 2 * i < 1482 := by omega
  have h1 : 110 + 2 * i + 1 < 1482 := by omega
  by_cases y0 : y = 0
  · subst y0
    refine ⟨T 10 i, n, T, I, fun Q K => ?_, fun h m f w g hD R M Q K => ?_⟩
    · rw [e107]; simp only [s107_0, s107_1, s107_4, s107_5, s107_8, s107_8n, s107_9, s107_9n, s107_10, s107_10n, s107_13, s107_15, s107_16, s107_17, s107_44, s107_44n, s107_45, s107_48, s107_49, s107_49n, s107_50, s107_53, s107_54, s107_56, hO, o0, R.o, c_textAt R, hx, hcl, pa, va_rf, hA, xswi, List.getElem?_cons_zero, XG_1, XO_some, XV_1, xo_n, xo_i8, xo_r8, xo_i7, xo_r7, xo_i6, xo_r6, xo_i5, xo_r5, xo_i4, xo_r4, xo_i3, xo_r3, xo_i2, xo_r2, Option.toList_some, Option.toList_none, List.cons_append, List.nil_append, bI_t, bI_f, bI_0, bI_n0, if_true, if_false, true_and, and_true, ne_eq, not_true_eq_false, not_false_eq_true, one_ne0, reduceCtorEq]; exact K h s FR.refl R
    · rw [e205]; simp only [s205_0, s205_1, s205_2, s205_3, s205_6, s205_8, s205_9, s205_10, s205_11, s205_14, s205_17, s205_18, s205_19, s205_20, s205_23, s205_26, s205_28, s205_29, s205_30, s205_33, s205_34, s205_37, s205_39, s205_40, s205_41, s205_42, s205_43, s205_44, s205_47, s205_48, s205_51, s205_52, s205_55, s205_57, s205_58, s205_59, s205_60, s205_61, s205_62, s205_63, s205_64, R.1, R.2.1, mf0, A7, c_in, rx f M, hx, show wiB 0 0 1 = true by decide, l2m, i110, XAm h0, (M.2.2.2.2.1 i hi).1, z1000, hk.1, XG_1, XO_some, XV_1, xo_n, xo_i8, xo_r8, xo_i7, xo_r7, xo_i6, xo_r6, xo_i5, xo_r5, xo_i4, xo_r4, xo_i3, xo_r3, xo_i2, xo_r2, Option.toList_some, Option.toList_none, List.cons_append, List.nil_append, bI_t, bI_f, bI_0, bI_n0, if_true, if_false, true_and, and_true, ne_eq, not_true_eq_false, not_false_eq_true, one_ne0, reduceCtorEq, Bool.true_eq_false]; exact K h f w g FR.refl R M
  by_cases y1 : y = 1
  · subst y1
    refine ⟨T 11 i, n, T, I, fun Q K => ?_, fun h m f w g hD R M Q K => ?_⟩
    · rw [e107]; simp only [s107_0, s107_1, s107_4, s107_5, s107_8, s107_8n, s107_9, s107_9n, s107_10, s107_10n, s107_13, s107_15, s107_16, s107_17, s107_44, s107_44n, s107_45, s107_48, s107_49, s107_49n, s107_50, s107_53, s107_54, s107_56, hO, o0, R.o, c_textAt R, hx, hcl, pa, va_rf, hA, xswi, List.getElem?_cons_zero, List.getElem?_cons_succ, XG_1, XO_some, XV_1, xo_n, xo_i8, xo_r8, xo_i7, xo_r7, xo_i6, xo_r6, xo_i5, xo_r5, xo_i4, xo_r4, xo_i3, xo_r3, xo_i2, xo_r2, Option.toList_some, Option.toList_none, List.cons_append, List.nil_append, bI_t, bI_f, bI_0, bI_n0, if_true, if_false, true_and, and_true, ne_eq, not_true_eq_false, not_false_eq_true, one_ne0, reduceCtorEq]; exact K h s FR.refl R
    · rw [e205]; simp only [s205_0, s205_1, s205_2, s205_3, s205_6, s205_8, s205_9, s205_10, s205_11, s205_14, s205_17, s205_18, s205_19, s205_20, s205_23, s205_26, s205_28, s205_29, s205_30, s205_33, s205_34, s205_37, s205_39, s205_40, s205_41, s205_42, s205_43, s205_44, s205_47, s205_48, s205_51, s205_52, s205_55, s205_57, s205_58, s205_59, s205_60, s205_61, s205_62, s205_63, s205_64, R.1, R.2.1, mf0, A7, c_in, rx f M, hx, show wiB 1 0 1 = true by decide, l2m, i110, nI_1, XAm h1, (M.2.2.2.2.1 i hi).2, XG_1, XO_some, XV_1, xo_n, xo_i8, xo_r8, xo_i7, xo_r7, xo_i6, xo_r6, xo_i5, xo_r5, xo_i4, xo_r4, xo_i3, xo_r3, xo_i2, xo_r2, Option.toList_some, Option.toList_none, List.cons_append, List.nil_append, bI_t, bI_f, bI_0, bI_n0, if_true, if_false, true_and, and_true, ne_eq, not_true_eq_false, not_false_eq_true, one_ne0, reduceCtorEq, Bool.true_eq_false]; exact K h f w g FR.refl R M
  have hy : wiB y 0 1 = false := by
    cases q : wiB y 0 1 with
    | false => rfl
    | true =>
      obtain ⟨j, hj, rfl⟩ := wiB_t (k := 1) q (by decide)
      rcases (show j = 0 ∨ j = 1 by omega) with rfl | rfl
      · exact absurd rfl y0
      · exact absurd rfl y1
  refine ⟨BAD, n, T, I, fun Q K => ?_, fun h m f w g hD R M Q K => ?_⟩
  · rw [e107]; simp only [s107_0, s107_1, s107_4, s107_5, s107_8, s107_8n, s107_9, s107_9n, s107_10, s107_10n, s107_13, s107_15, s107_16, s107_17, s107_44, s107_44n, s107_45, s107_48, s107_49, s107_49n, s107_50, s107_53, s107_54, s107_56, hO, o0, R.o, c_textAt R, hx, hcl, pa, va_rf, xswi, y0, y1, XG_1, XO_some, XV_1, xo_n, xo_i8, xo_r8, xo_i7, xo_r7, xo_i6, xo_r6, xo_i5, xo_r5, xo_i4, xo_r4, xo_i3, xo_r3, xo_i2, xo_r2, Option.toList_some, Option.toList_none, List.cons_append, List.nil_append, bI_t, bI_f, bI_0, bI_n0, if_true, if_false, true_and, and_true, ne_eq, not_true_eq_false, not_false_eq_true, one_ne0, reduceCtorEq]; exact K h s FR.refl R
  · rw [e205]; simp only [s205_0, s205_1, s205_2, s205_3, s205_6, s205_8, s205_9, s205_10, s205_11, s205_14, s205_17, s205_18, s205_19, s205_20, s205_23, s205_26, s205_28, s205_29, s205_30, s205_33, s205_34, s205_37, s205_39, s205_40, s205_41, s205_42, s205_43, s205_44, s205_47, s205_48, s205_51, s205_52, s205_55, s205_57, s205_58, s205_59, s205_60, s205_61, s205_62, s205_63, s205_64, R.1, R.2.1, mf0, A7, c_in, rx f M, hx, hy, XG_1, XO_some, XV_1, xo_n, xo_i8, xo_r8, xo_i7, xo_r7, xo_i6, xo_r6, xo_i5, xo_r5, xo_i4, xo_r4, xo_i3, xo_r3, xo_i2, xo_r2, Option.toList_some, Option.toList_none, List.cons_append, List.nil_append, bI_t, bI_f, bI_0, bI_n0, if_true, if_false, true_and, and_true, ne_eq, not_true_eq_false, not_false_eq_true, one_ne0, reduceCtorEq, Bool.true_eq_false]; exact K h f w g FR.refl R M
end PUB3
