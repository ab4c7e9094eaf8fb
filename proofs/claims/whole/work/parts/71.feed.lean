/-! ===== 71: feed ===== -/
theorem m255 : ∀ i, i < 32 → 8 ≤ i → (255 : Int32).toBitVec.getLsbD i = false := by decide
theorem by24 (x : Int32) : xushr x 24 &&& 255 = xshr x 24 &&& 255 := by
  apply Int32.toBitVec_inj.1
  unfold xushr xshr
  rw [Int32.toBitVec_and, Int32.toBitVec_and]
  apply BitVec.eq_of_getLsbD_eq
  intro i hi
  rw [BitVec.getLsbD_and, BitVec.getLsbD_and]
  by_cases h8 : i < 8
  · congr 1
    show (x.toBitVec >>> 24).getLsbD i = (x.toBitVec.sshiftRight 24).getLsbD i
    rw [BitVec.getLsbD_ushiftRight, BitVec.getLsbD_sshiftRight, if_pos (show 24 + i < 32 by omega), decide_eq_false (show ¬ 32 ≤ i by omega)]
    rfl
  · rw [m255 i hi (by omega), Bool.and_false, Bool.and_false]
theorem by16 (x : Int32) : xushr x 16 &&& 255 = xshr x 16 &&& 255 := by
  apply Int32.toBitVec_inj.1
  unfold xushr xshr
  rw [Int32.toBitVec_and, Int32.toBitVec_and]
  apply BitVec.eq_of_getLsbD_eq
  intro i hi
  rw [BitVec.getLsbD_and, BitVec.getLsbD_and]
  by_cases h8 : i < 8
  · congr 1
    show (x.toBitVec >>> 16).getLsbD i = (x.toBitVec.sshiftRight 16).getLsbD i
    rw [BitVec.getLsbD_ushiftRight, BitVec.getLsbD_sshiftRight, if_pos (show 16 + i < 32 by omega), decide_eq_false (show ¬ 32 ≤ i by omega)]
    rfl
  · rw [m255 i hi (by omega), Bool.and_false, Bool.and_false]
theorem by8 (x : Int32) : xushr x 8 &&& 255 = xshr x 8 &&& 255 := by
  apply Int32.toBitVec_inj.1
  unfold xushr xshr
  rw [Int32.toBitVec_and, Int32.toBitVec_and]
  apply BitVec.eq_of_getLsbD_eq
  intro i hi
  rw [BitVec.getLsbD_and, BitVec.getLsbD_and]
  by_cases h8 : i < 8
  · congr 1
    show (x.toBitVec >>> 8).getLsbD i = (x.toBitVec.sshiftRight 8).getLsbD i
    rw [BitVec.getLsbD_ushiftRight, BitVec.getLsbD_sshiftRight, if_pos (show 8 + i < 32 by omega), decide_eq_false (show ¬ 32 ≤ i by omega)]
    rfl
  · rw [m255 i hi (by omega), Bool.and_false, Bool.and_false]
theorem by0 (x : Int32) : xushr x 0 &&& 255 = xshr x 0 &&& 255 := by
  apply Int32.toBitVec_inj.1
  unfold xushr xshr
  rw [Int32.toBitVec_and, Int32.toBitVec_and]
  apply BitVec.eq_of_getLsbD_eq
  intro i hi
  rw [BitVec.getLsbD_and, BitVec.getLsbD_and]
  by_cases h8 : i < 8
  · congr 1
    show (x.toBitVec >>> 0).getLsbD i = (x.toBitVec.sshiftRight 0).getLsbD i
    rw [BitVec.getLsbD_ushiftRight, BitVec.getLsbD_sshiftRight, if_pos (show 0 + i < 32 by omega), decide_eq_false (show ¬ 32 ≤ i by omega)]
    rfl
  · rw [m255 i hi (by omega), Bool.and_false, Bool.and_false]
theorem upd_agr {f g : Nat → Int32} {z : Nat} {v u : Int32} (h : ∀ k, k < z → f k = g k) (e : v = u) : ∀ k, k < z + 1 → upd f z v k = upd g z u k := by
  intro k hk
  by_cases c : k = z
  · rw [c, upd_at, upd_at, e]
  · rw [upd_ne c, upd_ne c]; exact h k (by omega)
def ad4 (F : Nat → Int32) (z : Nat) (x : Int32) : Nat → Int32 := upd (upd (upd (upd F z (xushr x 24 &&& 255)) (z + 1) (xushr x 16 &&& 255)) (z + 1 + 1) (xushr x 8 &&& 255)) (z + 1 + 1 + 1) (xushr x 0 &&& 255)
def rd4 (F : Nat → Int32) (z : Nat) (x : Int32) : Nat → Int32 := upd (upd (upd (upd F z (xshr x 24 &&& 255)) (z + 1) (xshr x 16 &&& 255)) (z + 2) (xshr x 8 &&& 255)) (z + 3) (xshr x 0 &&& 255)
theorem ad4_agr {f g : Nat → Int32} {z : Nat} {x : Int32} (h : ∀ k, k < z → f k = g k) : ∀ k, k < z + 4 → rd4 f z x k = ad4 g z x k := upd_agr (upd_agr (upd_agr (upd_agr h (by24 x).symm) (by16 x).symm) (by8 x).symm) (by0 x).symm
section FEE
variable {B d : Nat} {E : Nat → va_E} {g0 : Nat → Value} {h : xH} {q : RS} {m f w g : Nat → Int32} {n : Nat → Nat} {T : Nat → Nat → Int32} {p : Nat → Nat → Option Nat} {s : Nat → Nat → Int32} {Q : Option Value → xH → Prop} {x y z : Int32}
theorem xset_mid {a b : Nat} {e e1 e2 : va_E} (hab : a ≠ b) : xset (xset (xset h a e) b e1) a e2 = xset (xset h a e2) b e1 := by
  obtain ⟨h1, h2, h3, h4⟩ := h
  unfold xset
  dsimp only
  congr 3
  funext j
  by_cases ja : j = a
  · subst ja
    rw [vau_at, vau_ne hab, vau_at]
  · rw [vau_ne ja]
    by_cases jb : j = b
    · subst jb; rw [vau_at, vau_at]
    · rw [vau_ne jb, vau_ne ja, vau_ne jb, vau_ne ja]
abbrev FS (h : xH) (B z : Nat) (Y F : Nat → Int32) : xH := xset (xset h (B + 28) (.inl (0, xis 96 F))) (B + 27) (.inr (7, tapF B (nI z) Y))
theorem c_addFour {k : Nat} {Y F : Nat → Int32} (hk : k + 4 ≤ 96) : XC (d + 1) 21 [.ref (B + 27), .int x] (FS h B k Y F) Q ↔ Q none (FS h B (k + 4) Y (ad4 F k x)) := by
  have e28 : ∀ e1 e2, (xset (xset h (B + 28) e1) (B + 27) e2).2.2.1 (B + 28) = e1 := fun e1 e2 => by rw [xset_ne (by omega), xset_self]
  have c28 : ∀ e1 e2 e3, xset (xset (xset h (B + 28) e1) (B + 27) e2) (B + 28) e3 = xset (xset h (B + 28) e3) (B + 27) e2 := fun e1 e2 e3 => xset_mid (by omega)
  have L : ∀ v : Int32, 0 < (tapF B v Y).length := fun v => by rw [tpL]; decide
  have l0 : nI k < 96 := nI_lt (b := 96) (by omega) (by decide)
  have l1 : nI (k + 1) < 96 := nI_lt (b := 96) (by omega) (by decide)
  have l2 : nI (k + 1 + 1) < 96 := nI_lt (b := 96) (by omega) (by decide)
  have l3 : nI (k + 1 + 1 + 1) < 96 := nI_lt (b := 96) (by omega) (by decide)
  rw [e21]
  simp only [s21_0, s21_2, s21_3, s21_4, s21_7, s21_8, s21_11, s21_13, s21_16, s21_17, s21_20, s21_21, s21_24, s21_25, s21_26, s21_27, s21_30, s21_31, s21_32, s21_33, s21_33r, s21_34, s21_37, s21_38, s21_39, s21_42, s21_45, s21_48, xset_self, tp0, tp1, e28, c28, xset_twice, XS96 (show k < 96 by omega), XS96 (show k + 1 < 96 by omega), XS96 (show k + 1 + 1 < 96 by omega), XS96 (show k + 1 + 1 + 1 < 96 by omega), XP_1 (L _), ps0, l0, l1, l2, l3, nI_1, show ((24 : Int32) < 0) = False from eq_false (by decide), show ((16 : Int32) < 0) = False from eq_false (by decide), show ((8 : Int32) < 0) = False from eq_false (by decide), show ((0 : Int32) < 0) = False from eq_false (by decide), show ((-8 : Int32) < 0) = True from eq_true (by decide), show ((24 : Int32) + (-8)) = 16 from rfl, show ((16 : Int32) + (-8)) = 8 from rfl, show ((8 : Int32) + (-8)) = 0 from rfl, show ((0 : Int32) + (-8)) = -8 from rfl, XG_1, XO_some, XV_1, xo_n, xo_i8, xo_r8, xo_i7, xo_r7, xo_i6, xo_r6, xo_i5, xo_r5, xo_i4, xo_r4, xo_i3, xo_r3, xo_i2, xo_r2, Option.toList_some, Option.toList_none, List.cons_append, List.nil_append, bI_t, bI_f, bI_0, bI_n0, if_true, if_false, true_and, and_true, ne_eq, not_true_eq_false, not_false_eq_true, one_ne0, reduceCtorEq]
  exact Iff.rfl
theorem l_feed {k : Nat} (hk : k + 12 ≤ 96) {F : Nat → Int32} (hM : h.2.2.1 (B + 58) = .inr (12, modelF (B + 58) m)) (h5 : m 5 = nI k) (h62 : h.2.2.1 (B + 58 + 4) = .inl (0, xis 96 F)) {c4 c5 : Slot} : XE (d + 11) 191 15 [.val (.ref (B + 58)), .val (.int x), .val (.int y), .val (.int z), c4, c5] [] h Q ↔ Q (some (.int (nI (k + 12)))) (xset (xset h (B + 58 + 4) (.inl (0, xis 96 (rd4 (rd4 (rd4 F k x) (k + 4) y) (k + 8) z)))) (B + 58) (.inr (12, modelF (B + 58) (upd m 5 (nI (k + 12)))))) := by
  have eM : ∀ e, (xset h (B + 58 + 4) e).2.2.1 (B + 58) = .inr (12, modelF (B + 58) m) := fun e => by rw [xset_ne (by omega)]; exact hM
  have L5 : 5 < (modelF (B + 58) m).length := by rw [mfL]; decide
  have e12 : nI k + 12 = nI (k + 12) := nI_add k 12
  simp only [s191_15, s191_16]
  rw [s191_18]
  simp only [s191_20, s191_22, s191_25, s191_27, s191_28, s191_31, s191_32, s191_35, s191_37, s191_39, s191_42, s191_43, s191_46, s191_47, s191_49, s191_50, s191_53, s191_54, s191_57, s191_59, s191_60, s191_62, s191_64, s191_66, s191_68, s191_69, s191_70, s191_71, s191_72, s191_73, s191_76, s191_77, s191_78, s191_81, hM, eM, mf4, mf5, h5, h62, xset_self, xset_twice, show ((0 : Int32) < 12) = True from eq_true (by decide), show ((0 : Int32) < 4) = True from eq_true (by decide), show ((0 : Int32) % 4) = 0 from rfl, show ((0 : Int32) + 1) = 1 from rfl, p0, XS96 (show k < 96 by omega), show ((8 : Int32) * 0) = 0 from rfl, show ((24 : Int32) - 0) = 24 from rfl, show ((4 : Int32) = 0) = False from eq_false (by decide), XG_1, XO_some, XV_1, xo_n, xo_i8, xo_r8, xo_i7, xo_r7, xo_i6, xo_r6, xo_i5, xo_r5, xo_i4, xo_r4, xo_i3, xo_r3, xo_i2, xo_r2, Option.toList_some, Option.toList_none, List.cons_append, List.nil_append, bI_t, bI_f, bI_0, bI_n0, if_true, if_false, true_and, and_true, ne_eq, not_true_eq_false, not_false_eq_true, one_ne0, reduceCtorEq]
  rw [s191_18]
  simp only [s191_20, s191_22, s191_25, s191_27, s191_28, s191_31, s191_32, s191_35, s191_37, s191_39, s191_42, s191_43, s191_46, s191_47, s191_49, s191_50, s191_53, s191_54, s191_57, s191_59, s191_60, s191_62, s191_64, s191_66, s191_68, s191_69, s191_70, s191_71, s191_72, s191_73, s191_76, s191_77, s191_78, s191_81, hM, eM, mf4, mf5, h5, h62, xset_self, xset_twice, show ((1 : Int32) < 12) = True from eq_true (by decide), show ((1 : Int32) < 4) = True from eq_true (by decide), show ((1 : Int32) % 4) = 1 from rfl, show ((1 : Int32) + 1) = 2 from rfl, show (nI k + (1 : Int32)) = nI (k + 1) from nI_add k 1, XS96 (show k + 1 < 96 by omega), show ((8 : Int32) * 1) = 8 from rfl, show ((24 : Int32) - 8) = 16 from rfl, show ((4 : Int32) = 0) = False from eq_false (by decide), XG_1, XO_some, XV_1, xo_n, xo_i8, xo_r8, xo_i7, xo_r7, xo_i6, xo_r6, xo_i5, xo_r5, xo_i4, xo_r4, xo_i3, xo_r3, xo_i2, xo_r2, Option.toList_some, Option.toList_none, List.cons_append, List.nil_append, bI_t, bI_f, bI_0, bI_n0, if_true, if_false, true_and, and_true, ne_eq, not_true_eq_false, not_false_eq_true, one_ne0, reduceCtorEq]
  rw [s191_18]
  simp only [s191_20, s191_22, s191_25, s191_27, s191_28, s191_31, s191_32, s191_35, s191_37, s191_39, s191_42, s191_43, s191_46, s191_47, s191_49, s191_50, s191_53, s191_54, s191_57, s191_59, s191_60, s191_62, s191_64, s191_66, s191_68, s191_69, s191_70, s191_71, s191_72, s191_73, s191_76, s191_77, s191_78, s191_81, hM, eM, mf4, mf5, h5, h62, xset_self, xset_twice, show ((2 : Int32) < 12) = True from eq_true (by decide), show ((2 : Int32) < 4) = True from eq_true (by decide), show ((2 : Int32) % 4) = 2 from rfl, show ((2 : Int32) + 1) = 3 from rfl, show (nI k + (2 : Int32)) = nI (k + 2) from nI_add k 2, XS96 (show k + 2 < 96 by omega), show ((8 : Int32) * 2) = 16 from rfl, show ((24 : Int32) - 16) = 8 from rfl, show ((4 : Int32) = 0) = False from eq_false (by decide), XG_1, XO_some, XV_1, xo_n, xo_i8, xo_r8, xo_i7, xo_r7, xo_i6, xo_r6, xo_i5, xo_r5, xo_i4, xo_r4, xo_i3, xo_r3, xo_i2, xo_r2, Option.toList_some, Option.toList_none, List.cons_append, List.nil_append, bI_t, bI_f, bI_0, bI_n0, if_true, if_false, true_and, and_true, ne_eq, not_true_eq_false, not_false_eq_true, one_ne0, reduceCtorEq]
  rw [s191_18]
  simp only [s191_20, s191_22, s191_25, s191_27, s191_28, s191_31, s191_32, s191_35, s191_37, s191_39, s191_42, s191_43, s191_46, s191_47, s191_49, s191_50, s191_53, s191_54, s191_57, s191_59, s191_60, s191_62, s191_64, s191_66, s191_68, s191_69, s191_70, s191_71, s191_72, s191_73, s191_76, s191_77, s191_78, s191_81, hM, eM, mf4, mf5, h5, h62, xset_self, xset_twice, show ((3 : Int32) < 12) = True from eq_true (by decide), show ((3 : Int32) < 4) = True from eq_true (by decide), show ((3 : Int32) % 4) = 3 from rfl, show ((3 : Int32) + 1) = 4 from rfl, show (nI k + (3 : Int32)) = nI (k + 3) from nI_add k 3, XS96 (show k + 3 < 96 by omega), show ((8 : Int32) * 3) = 24 from rfl, show ((24 : Int32) - 24) = 0 from rfl, show ((4 : Int32) = 0) = False from eq_false (by decide), XG_1, XO_some, XV_1, xo_n, xo_i8, xo_r8, xo_i7, xo_r7, xo_i6, xo_r6, xo_i5, xo_r5, xo_i4, xo_r4, xo_i3, xo_r3, xo_i2, xo_r2, Option.toList_some, Option.toList_none, List.cons_append, List.nil_append, bI_t, bI_f, bI_0, bI_n0, if_true, if_false, true_and, and_true, ne_eq, not_true_eq_false, not_false_eq_true, one_ne0, reduceCtorEq]
  rw [s191_18]
  simp only [s191_20, s191_22, s191_25, s191_27, s191_28, s191_31, s191_32, s191_35, s191_37, s191_39, s191_42, s191_43, s191_46, s191_47, s191_49, s191_50, s191_53, s191_54, s191_57, s191_59, s191_60, s191_62, s191_64, s191_66, s191_68, s191_69, s191_70, s191_71, s191_72, s191_73, s191_76, s191_77, s191_78, s191_81, hM, eM, mf4, mf5, h5, h62, xset_self, xset_twice, show ((4 : Int32) < 12) = True from eq_true (by decide), show ((4 : Int32) < 4) = False from eq_false (by decide), show ((4 : Int32) < 8) = True from eq_true (by decide), show ((4 : Int32) % 4) = 0 from rfl, show ((4 : Int32) + 1) = 5 from rfl, show (nI k + (4 : Int32)) = nI (k + 4) from nI_add k 4, XS96 (show k + 4 < 96 by omega), show ((8 : Int32) * 0) = 0 from rfl, show ((24 : Int32) - 0) = 24 from rfl, show ((4 : Int32) = 0) = False from eq_false (by decide), XG_1, XO_some, XV_1, xo_n, xo_i8, xo_r8, xo_i7, xo_r7, xo_i6, xo_r6, xo_i5, xo_r5, xo_i4, xo_r4, xo_i3, xo_r3, xo_i2, xo_r2, Option.toList_some, Option.toList_none, List.cons_append, List.nil_append, bI_t, bI_f, bI_0, bI_n0, if_true, if_false, true_and, and_true, ne_eq, not_true_eq_false, not_false_eq_true, one_ne0, reduceCtorEq]
  rw [s191_18]
  simp only [s191_20, s191_22, s191_25, s191_27, s191_28, s191_31, s191_32, s191_35, s191_37, s191_39, s191_42, s191_43, s191_46, s191_47, s191_49, s191_50, s191_53, s191_54, s191_57, s191_59, s191_60, s191_62, s191_64, s191_66, s191_68, s191_69, s191_70, s191_71, s191_72, s191_73, s191_76, s191_77, s191_78, s191_81, hM, eM, mf4, mf5, h5, h62, xset_self, xset_twice, show ((5 : Int32) < 12) = True from eq_true (by decide), show ((5 : Int32) < 4) = False from eq_false (by decide), show ((5 : Int32) < 8) = True from eq_true (by decide), show ((5 : Int32) % 4) = 1 from rfl, show ((5 : Int32) + 1) = 6 from rfl, show (nI k + (5 : Int32)) = nI (k + 5) from nI_add k 5, XS96 (show k + 5 < 96 by omega), show ((8 : Int32) * 1) = 8 from rfl, show ((24 : Int32) - 8) = 16 from rfl, show ((4 : Int32) = 0) = False from eq_false (by decide), XG_1, XO_some, XV_1, xo_n, xo_i8, xo_r8, xo_i7, xo_r7, xo_i6, xo_r6, xo_i5, xo_r5, xo_i4, xo_r4, xo_i3, xo_r3, xo_i2, xo_r2, Option.toList_some, Option.toList_none, List.cons_append, List.nil_append, bI_t, bI_f, bI_0, bI_n0, if_true, if_false, true_and, and_true, ne_eq, not_true_eq_false, not_false_eq_true, one_ne0, reduceCtorEq]
  rw [s191_18]
  simp only [s191_20, s191_22, s191_25, s191_27, s191_28, s191_31, s191_32, s191_35, s191_37, s191_39, s191_42, s191_43, s191_46, s191_47, s191_49, s191_50, s191_53, s191_54, s191_57, s191_59, s191_60, s191_62, s191_64, s191_66, s191_68, s191_69, s191_70, s191_71, s191_72, s191_73, s191_76, s191_77, s191_78, s191_81, hM, eM, mf4, mf5, h5, h62, xset_self, xset_twice, show ((6 : Int32) < 12) = True from eq_true (by decide), show ((6 : Int32) < 4) = False from eq_false (by decide), show ((6 : Int32) < 8) = True from eq_true (by decide), show ((6 : Int32) % 4) = 2 from rfl, show ((6 : Int32) + 1) = 7 from rfl, show (nI k + (6 : Int32)) = nI (k + 6) from nI_add k 6, XS96 (show k + 6 < 96 by omega), show ((8 : Int32) * 2) = 16 from rfl, show ((24 : Int32) - 16) = 8 from rfl, show ((4 : Int32) = 0) = False from eq_false (by decide), XG_1, XO_some, XV_1, xo_n, xo_i8, xo_r8, xo_i7, xo_r7, xo_i6, xo_r6, xo_i5, xo_r5, xo_i4, xo_r4, xo_i3, xo_r3, xo_i2, xo_r2, Option.toList_some, Option.toList_none, List.cons_append, List.nil_append, bI_t, bI_f, bI_0, bI_n0, if_true, if_false, true_and, and_true, ne_eq, not_true_eq_false, not_false_eq_true, one_ne0, reduceCtorEq]
  rw [s191_18]
  simp only [s191_20, s191_22, s191_25, s191_27, s191_28, s191_31, s191_32, s191_35, s191_37, s191_39, s191_42, s191_43, s191_46, s191_47, s191_49, s191_50, s191_53, s191_54, s191_57, s191_59, s191_60, s191_62, s191_64, s191_66, s191_68, s191_69, s191_70, s191_71, s191_72, s191_73, s191_76, s191_77, s191_78, s191_81, hM, eM, mf4, mf5, h5, h62, xset_self, xset_twice, show ((7 : Int32) < 12) = True from eq_true (by decide), show ((7 : Int32) < 4) = False from eq_false (by decide), show ((7 : Int32) < 8) = True from eq_true (by decide), show ((7 : Int32) % 4) = 3 from rfl, show ((7 : Int32) + 1) = 8 from rfl, show (nI k + (7 : Int32)) = nI (k + 7) from nI_add k 7, XS96 (show k + 7 < 96 by omega), show ((8 : Int32) * 3) = 24 from rfl, show ((24 : Int32) - 24) = 0 from rfl, show ((4 : Int32) = 0) = False from eq_false (by decide), XG_1, XO_some, XV_1, xo_n, xo_i8, xo_r8, xo_i7, xo_r7, xo_i6, xo_r6, xo_i5, xo_r5, xo_i4, xo_r4, xo_i3, xo_r3, xo_i2, xo_r2, Option.toList_some, Option.toList_none, List.cons_append, List.nil_append, bI_t, bI_f, bI_0, bI_n0, if_true, if_false, true_and, and_true, ne_eq, not_true_eq_false, not_false_eq_true, one_ne0, reduceCtorEq]
  rw [s191_18]
  simp only [s191_20, s191_22, s191_25, s191_27, s191_28, s191_31, s191_32, s191_35, s191_37, s191_39, s191_42, s191_43, s191_46, s191_47, s191_49, s191_50, s191_53, s191_54, s191_57, s191_59, s191_60, s191_62, s191_64, s191_66, s191_68, s191_69, s191_70, s191_71, s191_72, s191_73, s191_76, s191_77, s191_78, s191_81, hM, eM, mf4, mf5, h5, h62, xset_self, xset_twice, show ((8 : Int32) < 12) = True from eq_true (by decide), show ((8 : Int32) < 4) = False from eq_false (by decide), show ((8 : Int32) < 8) = False from eq_false (by decide), show ((8 : Int32) % 4) = 0 from rfl, show ((8 : Int32) + 1) = 9 from rfl, show (nI k + (8 : Int32)) = nI (k + 8) from nI_add k 8, XS96 (show k + 8 < 96 by omega), show ((8 : Int32) * 0) = 0 from rfl, show ((24 : Int32) - 0) = 24 from rfl, show ((4 : Int32) = 0) = False from eq_false (by decide), XG_1, XO_some, XV_1, xo_n, xo_i8, xo_r8, xo_i7, xo_r7, xo_i6, xo_r6, xo_i5, xo_r5, xo_i4, xo_r4, xo_i3, xo_r3, xo_i2, xo_r2, Option.toList_some, Option.toList_none, List.cons_append, List.nil_append, bI_t, bI_f, bI_0, bI_n0, if_true, if_false, true_and, and_true, ne_eq, not_true_eq_false, not_false_eq_true, one_ne0, reduceCtorEq]
  rw [s191_18]
  simp only [s191_20, s191_22, s191_25, s191_27, s191_28, s191_31, s191_32, s191_35, s191_37, s191_39, s191_42, s191_43, s191_46, s191_47, s191_49, s191_50, s191_53, s191_54, s191_57, s191_59, s191_60, s191_62, s191_64, s191_66, s191_68, s191_69, s191_70, s191_71, s191_72, s191_73, s191_76, s191_77, s191_78, s191_81, hM, eM, mf4, mf5, h5, h62, xset_self, xset_twice, show ((9 : Int32) < 12) = True from eq_true (by decide), show ((9 : Int32) < 4) = False from eq_false (by decide), show ((9 : Int32) < 8) = False from eq_false (by decide), show ((9 : Int32) % 4) = 1 from rfl, show ((9 : Int32) + 1) = 10 from rfl, show (nI k + (9 : Int32)) = nI (k + 9) from nI_add k 9, XS96 (show k + 9 < 96 by omega), show ((8 : Int32) * 1) = 8 from rfl, show ((24 : Int32) - 8) = 16 from rfl, show ((4 : Int32) = 0) = False from eq_false (by decide), XG_1, XO_some, XV_1, xo_n, xo_i8, xo_r8, xo_i7, xo_r7, xo_i6, xo_r6, xo_i5, xo_r5, xo_i4, xo_r4, xo_i3, xo_r3, xo_i2, xo_r2, Option.toList_some, Option.toList_none, List.cons_append, List.nil_append, bI_t, bI_f, bI_0, bI_n0, if_true, if_false, true_and, and_true, ne_eq, not_true_eq_false, not_false_eq_true, one_ne0, reduceCtorEq]
  rw [s191_18]
  simp only [s191_20, s191_22, s191_25, s191_27, s191_28, s191_31, s191_32, s191_35, s191_37, s191_39, s191_42, s191_43, s191_46, s191_47, s191_49, s191_50, s191_53, s191_54, s191_57, s191_59, s191_60, s191_62, s191_64, s191_66, s191_68, s191_69, s191_70, s191_71, s191_72, s191_73, s191_76, s191_77, s191_78, s191_81, hM, eM, mf4, mf5, h5, h62, xset_self, xset_twice, show ((10 : Int32) < 12) = True from eq_true (by decide), show ((10 : Int32) < 4) = False from eq_false (by decide), show ((10 : Int32) < 8) = False from eq_false (by decide), show ((10 : Int32) % 4) = 2 from rfl, show ((10 : Int32) + 1) = 11 from rfl, show (nI k + (10 : Int32)) = nI (k + 10) from nI_add k 10, XS96 (show k + 10 < 96 by omega), show ((8 : Int32) * 2) = 16 from rfl, show ((24 : Int32) - 16) = 8 from rfl, show ((4 : Int32) = 0) = False from eq_false (by decide), XG_1, XO_some, XV_1, xo_n, xo_i8, xo_r8, xo_i7, xo_r7, xo_i6, xo_r6, xo_i5, xo_r5, xo_i4, xo_r4, xo_i3, xo_r3, xo_i2, xo_r2, Option.toList_some, Option.toList_none, List.cons_append, List.nil_append, bI_t, bI_f, bI_0, bI_n0, if_true, if_false, true_and, and_true, ne_eq, not_true_eq_false, not_false_eq_true, one_ne0, reduceCtorEq]
  rw [s191_18]
  simp only [s191_20, s191_22, s191_25, s191_27, s191_28, s191_31, s191_32, s191_35, s191_37, s191_39, s191_42, s191_43, s191_46, s191_47, s191_49, s191_50, s191_53, s191_54, s191_57, s191_59, s191_60, s191_62, s191_64, s191_66, s191_68, s191_69, s191_70, s191_71, s191_72, s191_73, s191_76, s191_77, s191_78, s191_81, hM, eM, mf4, mf5, h5, h62, xset_self, xset_twice, show ((11 : Int32) < 12) = True from eq_true (by decide), show ((11 : Int32) < 4) = False from eq_false (by decide), show ((11 : Int32) < 8) = False from eq_false (by decide), show ((11 : Int32) % 4) = 3 from rfl, show ((11 : Int32) + 1) = 12 from rfl, show (nI k + (11 : Int32)) = nI (k + 11) from nI_add k 11, XS96 (show k + 11 < 96 by omega), show ((8 : Int32) * 3) = 24 from rfl, show ((24 : Int32) - 24) = 0 from rfl, show ((4 : Int32) = 0) = False from eq_false (by decide), XG_1, XO_some, XV_1, xo_n, xo_i8, xo_r8, xo_i7, xo_r7, xo_i6, xo_r6, xo_i5, xo_r5, xo_i4, xo_r4, xo_i3, xo_r3, xo_i2, xo_r2, Option.toList_some, Option.toList_none, List.cons_append, List.nil_append, bI_t, bI_f, bI_0, bI_n0, if_true, if_false, true_and, and_true, ne_eq, not_true_eq_false, not_false_eq_true, one_ne0, reduceCtorEq]
  rw [s191_18]
  simp only [s191_20, s191_22, s191_25, s191_27, s191_28, s191_31, s191_32, s191_35, s191_37, s191_39, s191_42, s191_43, s191_46, s191_47, s191_49, s191_50, s191_53, s191_54, s191_57, s191_59, s191_60, s191_62, s191_64, s191_66, s191_68, s191_69, s191_70, s191_71, s191_72, s191_73, s191_76, s191_77, s191_78, s191_81, s191_84, s191_85, s191_85r, s191_86, s191_89, s191_91, s191_92, s191_95, s191_96, s191_99, hM, eM, mf5, h5, xset_self, XP_1 L5, ms5, e12, upd_at, show ((12 : Int32) < 12) = False from eq_false (by decide), XG_1, XO_some, XV_1, xo_n, xo_i8, xo_r8, xo_i7, xo_r7, xo_i6, xo_r6, xo_i5, xo_r5, xo_i4, xo_r4, xo_i3, xo_r3, xo_i2, xo_r2, Option.toList_some, Option.toList_none, List.cons_append, List.nil_append, bI_t, bI_f, bI_0, bI_n0, if_true, if_false, true_and, and_true, ne_eq, not_true_eq_false, not_false_eq_true, one_ne0, reduceCtorEq]
  exact Iff.rfl
theorem ok_feed (S : REP B E g0 h) : OK B E g0 d h 104 191 [.int x, .int y, .int z] := by
  have S0 := S
  obtain ⟨⟨n, T, p, s, m, f, w, g, q, R, I, RR, M, X⟩, hE, hg, hD, hz⟩ := S
  obtain ⟨Xc, ⟨RI, II⟩, Xr, Xm⟩ := X
  obtain ⟨⟨k1, k2, k3, k4, k5, k6⟩, km, kn⟩ := Xm
  have hO := Xc.1.1
  have h27 := Xc.1.2.2.1
  have h96 := Xc.1.2.2.2.1
  have h28 := Xc.1.2.2.2.2.1
  have e12 : nI q.xtz + 12 = nI (q.xtz + 12) := nI_add q.xtz 12
  by_cases hk : 84 < q.xtz
  · have l1 : (84 : Int32) < nI q.xtz := nI_lt (a := 84) hk (by omega)
    have l2 : (96 : Int32) < nI (q.xtz + 12) := nI_lt (a := 96) (by omega) (by omega)
    refine ok_ro S0 (-1000000003) (fun Q K => ?_) (fun Q K => ?_)
    · rw [e104]; simp only [s104_0, s104_1, s104_4, s104_7, s104_9, s104_12, s104_14, s104_15, s104_16, s104_19, s104_20, s104_23, s104_24, s104_27, s104_28, s104_31, s104_32, s104_35, s104_36, s104_39, s104_40, s104_43, s104_46, hO, ob3, h27, tp0, l1, XG_1, XO_some, XV_1, xo_n, xo_i8, xo_r8, xo_i7, xo_r7, xo_i6, xo_r6, xo_i5, xo_r5, xo_i4, xo_r4, xo_i3, xo_r3, xo_i2, xo_r2, Option.toList_some, Option.toList_none, List.cons_append, List.nil_append, bI_t, bI_f, bI_0, bI_n0, if_true, if_false, true_and, and_true, ne_eq, not_true_eq_false, not_false_eq_true, one_ne0, reduceCtorEq]; exact K
    · rw [e191]; simp only [s191_0, s191_1, s191_4, s191_6, s191_7, s191_9, s191_12, s191_14, RR.1, mf5, k3, e12, l2, XG_1, XO_some, XV_1, xo_n, xo_i8, xo_r8, xo_i7, xo_r7, xo_i6, xo_r6, xo_i5, xo_r5, xo_i4, xo_r4, xo_i3, xo_r3, xo_i2, xo_r2, Option.toList_some, Option.toList_none, List.cons_append, List.nil_append, bI_t, bI_f, bI_0, bI_n0, if_true, if_false, true_and, and_true, ne_eq, not_true_eq_false, not_false_eq_true, one_ne0, reduceCtorEq]; exact K
  have l1 : ¬ (84 : Int32) < nI q.xtz := nI_nlt (b := q.xtz) (a := 84) (by omega) (by decide)
  have l2 : ¬ (96 : Int32) < nI (q.xtz + 12) := nI_nlt (a := 96) (by omega) (by decide)
  have hF : FS h B q.xtz (q.xu 0) (q.xu 1) = h := by
    show xset (xset h (B + 28) (.inl (0, xis 96 (q.xu 1)))) (B + 27) (.inr (7, tapF B (nI q.xtz) (q.xu 0))) = h
    rw [← h28, xset_id, ← h27, xset_id]
  have F1 : FR (B + 79) (PX B) h (FS h B (q.xtz + 12) (q.xu 0) (ad4 (ad4 (ad4 (q.xu 1) q.xtz x) (q.xtz + 4) y) (q.xtz + 8) z)) := FR.trans (FR.px (B := B) (a := B + 28) (e := .inl (0, xis 96 (ad4 (ad4 (ad4 (q.xu 1) q.xtz x) (q.xtz + 4) y) (q.xtz + 8) z))) hD (Or.inr ⟨by omega, by omega⟩)) (FR.px hD (Or.inr ⟨by omega, by omega⟩))
  have X1 : RXc B (FS h B (q.xtz + 12) (q.xu 0) (ad4 (ad4 (ad4 (q.xu 1) q.xtz x) (q.xtz + 4) y) (q.xtz + 8) z)).2.2.1 ((q.sU 1 (ad4 (ad4 (ad4 (q.xu 1) q.xtz x) (q.xtz + 4) y) (q.xtz + 8) z)).sZ (q.xtz + 12) (q.xu 0)) := xc_tap (xc_u1 Xc (f := ad4 (ad4 (ad4 (q.xu 1) q.xtz x) (q.xtz + 4) y) (q.xtz + 8) z)) (v := q.xtz + 12) (y := q.xu 0) (by omega)
  have Y1 : RXr B (FS h B (q.xtz + 12) (q.xu 0) (ad4 (ad4 (ad4 (q.xu 1) q.xtz x) (q.xtz + 4) y) (q.xtz + 8) z)).2.2.1 q := xr_o (xr_o Xr (by omega)) (by omega)
  have R1 : RM (FS h B (q.xtz + 12) (q.xu 0) (ad4 (ad4 (ad4 (q.xu 1) q.xtz x) (q.xtz + 4) y) (q.xtz + 8) z)).2.2.1 (B + 58) m f w g := rm_o (rm_o RR (by omega) (by omega) (by omega) (by omega)) (by omega) (by omega) (by omega) (by omega)
  have O1 : ∀ F z2, (FS h B z2 (q.xu 0) F).2.2.1 B = .inr (11, objF B (bI q.xkp) (nI q.xnw)) := fun F z2 => by rw [xset_ne (by omega), xset_ne (by omega)]; exact hO
  have t1 : ∀ F z2, (FS h B z2 (q.xu 0) F).2.2.1 (B + 27) = .inr (7, tapF B (nI z2) (q.xu 0)) := fun F z2 => xset_self
  have hcls : ∀ Q : Option Value → xH → Prop, Q (some (.int (nI (q.xtz + 12)))) (FS h B (q.xtz + 12) (q.xu 0) (ad4 (ad4 (ad4 (q.xu 1) q.xtz x) (q.xtz + 4) y) (q.xtz + 8) z)) → XC (d + 12) 104 [.ref B, .int x, .int y, .int z] h Q := fun Q K => by
    rw [← hF, e104]
    simp only [s104_0, s104_1, s104_4, s104_7, s104_9, s104_12, s104_14, s104_15, s104_16, s104_19, s104_20, s104_23, s104_24, s104_27, s104_28, s104_31, s104_32, s104_35, s104_36, s104_39, s104_40, s104_43, s104_46, O1, ob3, t1, tp0, l1, c_addFour (show q.xtz + 4 ≤ 96 by omega), c_addFour (show q.xtz + 4 + 4 ≤ 96 by omega), c_addFour (show q.xtz + 4 + 4 + 4 ≤ 96 by omega), XG_1, XO_some, XV_1, xo_n, xo_i8, xo_r8, xo_i7, xo_r7, xo_i6, xo_r6, xo_i5, xo_r5, xo_i4, xo_r4, xo_i3, xo_r3, xo_i2, xo_r2, Option.toList_some, Option.toList_none, List.cons_append, List.nil_append, bI_t, bI_f, bI_0, bI_n0, if_true, if_false, true_and, and_true, ne_eq, not_true_eq_false, not_false_eq_true, one_ne0, reduceCtorEq]
    exact K
  generalize hh1 : FS h B (q.xtz + 12) (q.xu 0) (ad4 (ad4 (ad4 (q.xu 1) q.xtz x) (q.xtz + 4) y) (q.xtz + 8) z) = h1 at F1 X1 Y1 R1 hcls
  have hD1 : B + 79 ≤ h1.1 := by rw [F1.1]; exact hD
  have r62 : h1.2.2.1 (B + 58 + 4) = .inl (0, xis 96 (q.xv 4)) := Y1.2.2.1
  have F2 := F1.trans (FR.px (a := B + 58 + 4) (e := .inl (0, xis 96 (rd4 (rd4 (rd4 (q.xv 4) q.xtz x) (q.xtz + 4) y) (q.xtz + 8) z))) hD1 (Or.inr ⟨by omega, by omega⟩))
  have F3 := F2.trans (FR.px (a := B + 58) (e := .inr (12, modelF (B + 58) (upd m 5 (nI (q.xtz + 12))))) hD1 (Or.inr ⟨by omega, by omega⟩))
  have X3 := xc_o (xc_o X1 (a := B + 58 + 4) (e := .inl (0, xis 96 (rd4 (rd4 (rd4 (q.xv 4) q.xtz x) (q.xtz + 4) y) (q.xtz + 8) z))) (by omega)) (a := B + 58) (e := .inr (12, modelF (B + 58) (upd m 5 (nI (q.xtz + 12))))) (by omega)
  have Y3 := xr_o (xr_4 Y1 (f := rd4 (rd4 (rd4 (q.xv 4) q.xtz x) (q.xtz + 4) y) (q.xtz + 8) z)) (a := B + 58) (e := .inr (12, modelF (B + 58) (upd m 5 (nI (q.xtz + 12))))) (by omega)
  have R3 := rm_m (m2 := upd m 5 (nI (q.xtz + 12))) (rm_o R1 (a := B + 58 + 4) (e := .inl (0, xis 96 (rd4 (rd4 (rd4 (q.xv 4) q.xtz x) (q.xtz + 4) y) (q.xtz + 8) z))) (by omega) (by omega) (by omega) (by omega))
  have X4 := rxc_v (k := 4) (F := rd4 (rd4 (rd4 (q.xv 4) q.xtz x) (q.xtz + 4) y) (q.xtz + 8) z) X3
  have Y4 := rxr_of (q2 := ((q.sU 1 (ad4 (ad4 (ad4 (q.xu 1) q.xtz x) (q.xtz + 4) y) (q.xtz + 8) z)).sZ (q.xtz + 12) (q.xu 0)).sV 4 (rd4 (rd4 (rd4 (q.xv 4) q.xtz x) (q.xtz + 4) y) (q.xtz + 8) z)) Y3 rfl
  have Xm4 : RXm (B + 79) h.2.2.1 (((q.sU 1 (ad4 (ad4 (ad4 (q.xu 1) q.xtz x) (q.xtz + 4) y) (q.xtz + 8) z)).sZ (q.xtz + 12) (q.xu 0)).sV 4 (rd4 (rd4 (rd4 (q.xv 4) q.xtz x) (q.xtz + 4) y) (q.xtz + 8) z)) (upd m 5 (nI (q.xtz + 12))) := ⟨⟨(upd_ne (by decide)).trans k1, k2, upd_at, ad4_agr (ad4_agr (ad4_agr k4)), (upd_ne (by decide)).trans k5, k6⟩, km, kn⟩
  refine ok_w (nI (q.xtz + 12)) hcls (fun Q K => ?_) (fun a ha => (F1.at (by omega) (by omega)).trans (hE a ha)) ⟨_, R1.1⟩ (rep_px R I hE hg hD hz F3 R3 M X4 RI II Y4 (rxm_fr (h := h) Xm4 F3)) (by rw [F3.1]; omega) (by rw [F3.2.1]; omega)
  rw [e191]
  simp only [s191_0, s191_1, s191_4, s191_6, s191_7, s191_9, s191_12, s191_14, R1.1, mf5, k3, e12, l2, XG_1, XO_some, XV_1, xo_n, xo_i8, xo_r8, xo_i7, xo_r7, xo_i6, xo_r6, xo_i5, xo_r5, xo_i4, xo_r4, xo_i3, xo_r3, xo_i2, xo_r2, Option.toList_some, Option.toList_none, List.cons_append, List.nil_append, bI_t, bI_f, bI_0, bI_n0, if_true, if_false, true_and, and_true, ne_eq, not_true_eq_false, not_false_eq_true, one_ne0, reduceCtorEq]
  exact (l_feed (by omega) R1.1 k3 r62).mpr K
end FEE
