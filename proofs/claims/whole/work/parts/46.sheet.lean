/-! ===== 46: mark, sheet ===== -/
theorem ls0 {a b c v : Value} : ([a, b, c] : List Value).set 0 v = [v, b, c] := rfl
theorem ls1 {a b c v : Value} : ([a, b, c] : List Value).set 1 v = [a, v, c] := rfl
theorem ls3L {a b c : Value} : ([a, b, c] : List Value).length = 3 := rfl
theorem wiB_m11 {y : Int32} (h : wiB y (-1) 1 = true) : y = -1 ∨ y = 0 ∨ y = 1 := by
  unfold wiB at h
  rw [Bool.and_eq_true, decide_eq_true_eq, decide_eq_true_eq, Int32.lt_iff_toInt_lt, Int32.lt_iff_toInt_lt] at h
  have a0 : (0 : Int32).toInt = 0 := rfl
  have a1 : (1 : Int32).toInt = 1 := rfl
  have a2 : (-1 : Int32).toInt = -1 := rfl
  rw [← Int32.toInt_inj, ← Int32.toInt_inj, ← Int32.toInt_inj]
  omega
def zfl (f : Nat → Int32) (i : Nat) : Nat → Int32 := fun k => if k < i then 0 else f k
def zfr (f : Nat → Int32) (b i : Nat) : Nat → Int32 := fun k => if b ≤ k ∧ k < b + i then 0 else f k
theorem zfl_s {f : Nat → Int32} {i : Nat} : upd (zfl f i) i 0 = zfl f (i + 1) := by
  funext k
  unfold upd zfl
  by_cases e : k = i
  · rw [if_pos e, if_pos (by omega)]
  · rw [if_neg e]
    by_cases e2 : k < i
    · rw [if_pos e2, if_pos (by omega)]
    · rw [if_neg e2, if_neg (by omega)]
theorem zfr_s {f : Nat → Int32} {b i : Nat} : upd (zfr f b i) (b + i) 0 = zfr f b (i + 1) := by
  funext k
  unfold upd zfr
  by_cases e : k = b + i
  · rw [if_pos e, if_pos (by omega)]
  · rw [if_neg e]
    by_cases e2 : b ≤ k ∧ k < b + i
    · rw [if_pos e2, if_pos (by omega)]
    · rw [if_neg e2, if_neg (by omega)]
theorem zfl_0 {f : Nat → Int32} : zfl f 0 = f := by funext k; exact if_neg (by omega)
theorem zfr_0 {f : Nat → Int32} {b : Nat} : zfr f b 0 = f := by funext k; exact if_neg (by omega)
section SHE
variable {B d r : Nat} {E : Nat → va_E} {g0 : Nat → Value} {h h1 h2 : xH} {q : RS} {m m2 f w g : Nat → Int32} {n : Nat → Nat} {T : Nat → Nat → Int32} {p : Nat → Nat → Option Nat} {s : Nat → Nat → Int32} {Q : Option Value → xH → Prop} {x y z : Int32}
theorem l_fill {a : Nat} {f : Nat → Int32} : ∀ k i, i + k = 24 → (XE d 240 5 [.val (.ref a), .val (.int 0), .val (.int (nI i)), .val (.int (nI 24))] [] (xset h a (.inl (0, xis 24 (zfl f i)))) Q ↔ Q none (xset h a (.inl (0, xis 24 (zfl f 24))))) := by
  intro k
  induction k with
  | zero =>
    intro i hi
    have hlt : ¬ nI i < nI 24 := nI_nlt (by omega) (by omega)
    rw [s240_5]
    simp only [s240_0, s240_1, s240_2, s240_3, s240_4, s240_6, s240_7, s240_10, s240_11, s240_12, s240_13, s240_14, s240_17, s240_20, hlt, XG_1, XO_some, XV_1, xo_n, xo_i8, xo_r8, xo_i7, xo_r7, xo_i6, xo_r6, xo_i5, xo_r5, xo_i4, xo_r4, xo_i3, xo_r3, xo_i2, xo_r2, Option.toList_some, Option.toList_none, List.cons_append, List.nil_append, bI_t, bI_f, bI_0, bI_n0, if_true, if_false, true_and, and_true, ne_eq, not_true_eq_false, not_false_eq_true, one_ne0, reduceCtorEq]
    rw [show i = 24 by omega]
  | succ k ih =>
    intro i hi
    have hlt : nI i < nI 24 := nI_lt (by omega) (by decide)
    have h24 : i < 24 := by omega
    rw [s240_5]
    simp only [s240_0, s240_1, s240_2, s240_3, s240_4, s240_6, s240_7, s240_10, s240_11, s240_12, s240_13, s240_14, s240_17, s240_20, hlt, xset_self, XS24 h24, xset_twice, zfl_s, nI_1, XG_1, XO_some, XV_1, xo_n, xo_i8, xo_r8, xo_i7, xo_r7, xo_i6, xo_r6, xo_i5, xo_r5, xo_i4, xo_r4, xo_i3, xo_r3, xo_i2, xo_r2, Option.toList_some, Option.toList_none, List.cons_append, List.nil_append, bI_t, bI_f, bI_0, bI_n0, if_true, if_false, true_and, and_true, ne_eq, not_true_eq_false, not_false_eq_true, one_ne0, reduceCtorEq]
    exact ih (i + 1) (by omega)
theorem c_fill {a : Nat} {f : Nat → Int32} (hA : h.2.2.1 a = .inl (0, xis 24 f)) : XC (d + 1) 240 [.ref a, .int 0] h Q ↔ Q none (xset h a (.inl (0, xis 24 (zfl f 24)))) := by
  rw [e240]
  simp only [s240_0, s240_1, s240_2, s240_3, s240_4, s240_6, s240_7, s240_10, s240_11, s240_12, s240_13, s240_14, s240_17, s240_20, hA, XL_0]
  have := l_fill (d := d) (h := h) (Q := Q) (a := a) (f := f) 24 0 (by omega)
  rw [zfl_0, ← hA, xset_id] at this
  exact this
theorem l_rfill {j : Nat} (hj : j < 4) {F : Nat → Int32} (hM : h.2.2.1 (B + 58) = .inr (12, modelF (B + 58) m)) : ∀ k i, i + k = 24 → (XE (d + 11) 212 66 [.val (.ref (B + 58)), .val (.int (nI j)), .val (.int y), .val (.int z), .val (.int (nI i))] [] (xset h (B + 58 + 14) (.inl (0, xis 96 (zfr F (24 * j) i)))) Q ↔ XE (d + 11) 212 92 [.val (.ref (B + 58)), .val (.int (nI j)), .val (.int y), .val (.int z), .val (.int (nI 24))] [] (xset h (B + 58 + 14) (.inl (0, xis 96 (zfr F (24 * j) 24)))) Q) := by
  have e1 : ∀ e, (xset h (B + 58 + 14) e).2.2.1 (B + 58) = .inr (12, modelF (B + 58) m) := fun e => by rw [xset_ne (by omega)]; exact hM
  have m24 : (24 : Int32) * nI j = nI (24 * j) := pk_mul 24 j
  intro k
  induction k with
  | zero =>
    intro i hi
    rw [show i = 24 by omega, s212_66]
    simp only [s212_0, s212_1, s212_4, s212_7, s212_8, s212_9, s212_10, s212_13, s212_16, s212_17, s212_20, s212_21, s212_23, s212_26, s212_28, s212_29, s212_30, s212_33, s212_34, s212_37, s212_40, s212_41, s212_42, s212_45, s212_46, s212_47, s212_48, s212_49, s212_52, s212_53, s212_54, s212_57, s212_58, s212_61, s212_62, s212_63, s212_64, s212_68, s212_70, s212_73, s212_74, s212_77, s212_79, s212_80, s212_81, s212_83, s212_84, s212_85, s212_86, s212_89, show ((nI 24 : Int32) < 24) = False from eq_false (by decide), XG_1, XO_some, XV_1, xo_n, xo_i8, xo_r8, xo_i7, xo_r7, xo_i6, xo_r6, xo_i5, xo_r5, xo_i4, xo_r4, xo_i3, xo_r3, xo_i2, xo_r2, Option.toList_some, Option.toList_none, List.cons_append, List.nil_append, bI_t, bI_f, bI_0, bI_n0, if_true, if_false, true_and, and_true, ne_eq, not_true_eq_false, not_false_eq_true, one_ne0, reduceCtorEq]
  | succ k ih =>
    intro i hi
    have hlt : nI i < 24 := nI_lt (b := 24) (by omega) (by decide)
    have h96 : 24 * j + i < 96 := by omega
    rw [s212_66]
    simp only [s212_0, s212_1, s212_4, s212_7, s212_8, s212_9, s212_10, s212_13, s212_16, s212_17, s212_20, s212_21, s212_23, s212_26, s212_28, s212_29, s212_30, s212_33, s212_34, s212_37, s212_40, s212_41, s212_42, s212_45, s212_46, s212_47, s212_48, s212_49, s212_52, s212_53, s212_54, s212_57, s212_58, s212_61, s212_62, s212_63, s212_64, s212_68, s212_70, s212_73, s212_74, s212_77, s212_79, s212_80, s212_81, s212_83, s212_84, s212_85, s212_86, s212_89, hlt, e1, mf24, m24, lA, xset_self, XS96 h96, xset_twice, zfr_s, nI_1, XG_1, XO_some, XV_1, xo_n, xo_i8, xo_r8, xo_i7, xo_r7, xo_i6, xo_r6, xo_i5, xo_r5, xo_i4, xo_r4, xo_i3, xo_r3, xo_i2, xo_r2, Option.toList_some, Option.toList_none, List.cons_append, List.nil_append, bI_t, bI_f, bI_0, bI_n0, if_true, if_false, true_and, and_true, ne_eq, not_true_eq_false, not_false_eq_true, one_ne0, reduceCtorEq]
    exact ih (i + 1) (by omega)
theorem ok_mark (S : REP B E g0 h) : OK B E g0 d h 110 213 [.int x, .int y, .int z] := by
  have S0 := S
  obtain ⟨⟨n, T, p, s, m, f, w, g, q, R, I, RR, M, X⟩, hE, hg, hD, hz⟩ := S
  have X0 := X
  obtain ⟨Xc, ⟨RI, II⟩, Xr, Xm⟩ := X
  obtain ⟨k0, km, kn⟩ := Xm
  have hO := Xc.1.1
  have r12 : ∀ {h : xH}, RXr B h.2.2.1 q → h.2.2.1 (B + 58 + 12) = .inl (0, xis 4 (q.xv 12)) := fun X => X.2.2.2.2.2.2.2.2.1
  have r13 : ∀ {h : xH}, RXr B h.2.2.1 q → h.2.2.1 (B + 58 + 13) = .inl (0, xis 4 (q.xv 13)) := fun X => X.2.2.2.2.2.2.2.2.2.1
  have r14 : ∀ {h : xH}, RXr B h.2.2.1 q → h.2.2.1 (B + 58 + 14) = .inl (0, xis 96 (q.xv 14)) := fun X => X.2.2.2.2.2.2.2.2.2.2.1
  cases hx : wiB x 0 3 with
  | false =>
    refine ok_ro S0 BAD (fun Q K => ?_) (fun Q K => ?_)
    · rw [e110]; simp only [s110_0, s110_1, s110_2, s110_5, s110_5n, s110_7, s110_7n, s110_9, s110_9n, s110_12, s110_14, s110_15, s110_15n, s110_17, s110_20, s110_21, s110_24, s110_27, s110_28, s110_28n, s110_30, s110_31, s110_34, s110_37, s110_40, s110_41, s110_41n, s110_43, s110_46, s110_49, s110_50, s110_52, s110_55, s110_57, s110_58, s110_58n, s110_60, s110_63, s110_64, s110_65, s110_66, s110_67, s110_68, s110_69, s110_70, s110_72, s110_75, s110_76, s110_79, s110_82, s110_85, s110_88, s110_90, s110_91, s110_91n, s110_93, s110_96, s110_97, s110_98, s110_99, s110_100, hO, c_sheetAt Xc, hx, Bool.false_eq_true, XG_1, XO_some, XV_1, xo_n, xo_i8, xo_r8, xo_i7, xo_r7, xo_i6, xo_r6, xo_i5, xo_r5, xo_i4, xo_r4, xo_i3, xo_r3, xo_i2, xo_r2, Option.toList_some, Option.toList_none, List.cons_append, List.nil_append, bI_t, bI_f, bI_0, bI_n0, if_true, if_false, true_and, and_true, ne_eq, not_true_eq_false, not_false_eq_true, one_ne0, reduceCtorEq]; exact K
    · rw [e213]; simp only [s213_0, s213_1, s213_4, s213_7, s213_9, s213_10, s213_11, s213_14, s213_15, s213_16, s213_19, s213_22, s213_23, s213_24, s213_25, s213_26, s213_29, s213_30, s213_31, s213_32, s213_33, s213_36, s213_39, s213_42, s213_43, s213_44, s213_47, s213_48, s213_49, s213_52, s213_53, s213_55, s213_58, s213_60, s213_61, s213_62, s213_65, s213_66, s213_67, s213_68, s213_71, s213_72, s213_74, s213_77, s213_78, s213_81, s213_83, s213_86, s213_89, s213_91, s213_92, s213_93, s213_96, s213_98, s213_99, s213_100, s213_101, s213_102, s213_103, s213_106, s213_107, s213_108, s213_111, s213_112, s213_113, s213_116, s213_117, s213_118, s213_119, c_isSheet, hx, XG_1, XO_some, XV_1, xo_n, xo_i8, xo_r8, xo_i7, xo_r7, xo_i6, xo_r6, xo_i5, xo_r5, xo_i4, xo_r4, xo_i3, xo_r3, xo_i2, xo_r2, Option.toList_some, Option.toList_none, List.cons_append, List.nil_append, bI_t, bI_f, bI_0, bI_n0, if_true, if_false, true_and, and_true, ne_eq, not_true_eq_false, not_false_eq_true, one_ne0, reduceCtorEq]; exact K
  | true =>
  obtain ⟨j, hj, rfl⟩ := wiB_t (k := 3) hx (by decide)
  have h4 : j < 4 := by omega
  have hcl : (nI j).toNatClampNeg = j := nI_clamp (by omega)
  obtain ⟨a1, a2, a3, a4⟩ := Xc.2.1 j h4
  obtain ⟨b1, b2, b3⟩ := km j h4
  by_cases hs : q.xso j = -1
  · refine ok_ro S0 (-1000000011) (fun Q K => ?_) (fun Q K => ?_)
    · rw [e110]; simp only [s110_0, s110_1, s110_2, s110_5, s110_5n, s110_7, s110_7n, s110_9, s110_9n, s110_12, s110_14, s110_15, s110_15n, s110_17, s110_20, s110_21, s110_24, s110_27, s110_28, s110_28n, s110_30, s110_31, s110_34, s110_37, s110_40, s110_41, s110_41n, s110_43, s110_46, s110_49, s110_50, s110_52, s110_55, s110_57, s110_58, s110_58n, s110_60, s110_63, s110_64, s110_65, s110_66, s110_67, s110_68, s110_69, s110_70, s110_72, s110_75, s110_76, s110_79, s110_82, s110_85, s110_88, s110_90, s110_91, s110_91n, s110_93, s110_96, s110_97, s110_98, s110_99, s110_100, hO, c_sheetAt Xc, hx, hcl, a1, l3_0, hs, XG_1, XO_some, XV_1, xo_n, xo_i8, xo_r8, xo_i7, xo_r7, xo_i6, xo_r6, xo_i5, xo_r5, xo_i4, xo_r4, xo_i3, xo_r3, xo_i2, xo_r2, Option.toList_some, Option.toList_none, List.cons_append, List.nil_append, bI_t, bI_f, bI_0, bI_n0, if_true, if_false, true_and, and_true, ne_eq, not_true_eq_false, not_false_eq_true, one_ne0, reduceCtorEq]; exact K
    · rw [e213]; simp only [s213_0, s213_1, s213_4, s213_7, s213_9, s213_10, s213_11, s213_14, s213_15, s213_16, s213_19, s213_22, s213_23, s213_24, s213_25, s213_26, s213_29, s213_30, s213_31, s213_32, s213_33, s213_36, s213_39, s213_42, s213_43, s213_44, s213_47, s213_48, s213_49, s213_52, s213_53, s213_55, s213_58, s213_60, s213_61, s213_62, s213_65, s213_66, s213_67, s213_68, s213_71, s213_72, s213_74, s213_77, s213_78, s213_81, s213_83, s213_86, s213_89, s213_91, s213_92, s213_93, s213_96, s213_98, s213_99, s213_100, s213_101, s213_102, s213_103, s213_106, s213_107, s213_108, s213_111, s213_112, s213_113, s213_116, s213_117, s213_118, s213_119, c_isSheet, hx, RR.1, mf22, r12 Xr, XA4 h4, b1, hs, show ((-1 : Int32) < 0) = True from eq_true (by decide), XG_1, XO_some, XV_1, xo_n, xo_i8, xo_r8, xo_i7, xo_r7, xo_i6, xo_r6, xo_i5, xo_r5, xo_i4, xo_r4, xo_i3, xo_r3, xo_i2, xo_r2, Option.toList_some, Option.toList_none, List.cons_append, List.nil_append, bI_t, bI_f, bI_0, bI_n0, if_true, if_false, true_and, and_true, ne_eq, not_true_eq_false, not_false_eq_true, one_ne0, reduceCtorEq]; exact K
  have hp : ¬ q.xso j < 0 := by rcases a3 with e | e | e; exact absurd e hs; rw [e]; decide; rw [e]; decide
  cases hy : isI y (q.xsz j) with
  | false =>
    refine ok_ro S0 (-1000000013) (fun Q K => ?_) (fun Q K => ?_)
    · rw [e110]; simp only [s110_0, s110_1, s110_2, s110_5, s110_5n, s110_7, s110_7n, s110_9, s110_9n, s110_12, s110_14, s110_15, s110_15n, s110_17, s110_20, s110_21, s110_24, s110_27, s110_28, s110_28n, s110_30, s110_31, s110_34, s110_37, s110_40, s110_41, s110_41n, s110_43, s110_46, s110_49, s110_50, s110_52, s110_55, s110_57, s110_58, s110_58n, s110_60, s110_63, s110_64, s110_65, s110_66, s110_67, s110_68, s110_69, s110_70, s110_72, s110_75, s110_76, s110_79, s110_82, s110_85, s110_88, s110_90, s110_91, s110_91n, s110_93, s110_96, s110_97, s110_98, s110_99, s110_100, hO, c_sheetAt Xc, hx, hcl, a1, l3_0, hs, c_hasPlace a4 a1, hy, XG_1, XO_some, XV_1, xo_n, xo_i8, xo_r8, xo_i7, xo_r7, xo_i6, xo_r6, xo_i5, xo_r5, xo_i4, xo_r4, xo_i3, xo_r3, xo_i2, xo_r2, Option.toList_some, Option.toList_none, List.cons_append, List.nil_append, bI_t, bI_f, bI_0, bI_n0, if_true, if_false, true_and, and_true, ne_eq, not_true_eq_false, not_false_eq_true, one_ne0, reduceCtorEq]; exact K
    · rw [e213]; simp only [s213_0, s213_1, s213_4, s213_7, s213_9, s213_10, s213_11, s213_14, s213_15, s213_16, s213_19, s213_22, s213_23, s213_24, s213_25, s213_26, s213_29, s213_30, s213_31, s213_32, s213_33, s213_36, s213_39, s213_42, s213_43, s213_44, s213_47, s213_48, s213_49, s213_52, s213_53, s213_55, s213_58, s213_60, s213_61, s213_62, s213_65, s213_66, s213_67, s213_68, s213_71, s213_72, s213_74, s213_77, s213_78, s213_81, s213_83, s213_86, s213_89, s213_91, s213_92, s213_93, s213_96, s213_98, s213_99, s213_100, s213_101, s213_102, s213_103, s213_106, s213_107, s213_108, s213_111, s213_112, s213_113, s213_116, s213_117, s213_118, s213_119, c_isSheet, hx, RR.1, mf22, mf23, r12 Xr, r13 Xr, XA4 h4, b1, b2, hp, c_in, wiB_isI (show q.xsz j < 2 ^ 30 by omega), hy, XG_1, XO_some, XV_1, xo_n, xo_i8, xo_r8, xo_i7, xo_r7, xo_i6, xo_r6, xo_i5, xo_r5, xo_i4, xo_r4, xo_i3, xo_r3, xo_i2, xo_r2, Option.toList_some, Option.toList_none, List.cons_append, List.nil_append, bI_t, bI_f, bI_0, bI_n0, if_true, if_false, true_and, and_true, ne_eq, not_true_eq_false, not_false_eq_true, one_ne0, reduceCtorEq]; exact K
  | true =>
  obtain ⟨i, hi, rfl⟩ := isI_t hy (by omega)
  have h24 : i < 24 := by omega
  have h96 : 24 * j + i < 96 := by omega
  have m24 : (24 : Int32) * nI j = nI (24 * j) := pk_mul 24 j
  have fin : ∀ v : Int32, (∀ Q : Option Value → xH → Prop, Q (some (.int 1)) (xset h (B + 36 + 2 * j) (.inl (0, xis 24 (upd (q.xpl j) i v)))) → XC (d + 12) 110 [.ref B, .int (nI j), .int (nI i), .int z] h Q) → (∀ (h1 : xH) (Q : Option Value → xH → Prop), RM h1.2.2.1 (B + 58) m f w g → RXr B h1.2.2.1 q → Q (some (.int 1)) (xset h1 (B + 58 + 14) (.inl (0, xis 96 (upd (q.xv 14) (24 * j + i) v)))) → XC (d + 12) 213 [.ref (B + 58), .int (nI j), .int (nI i), .int z] h1 Q) → OK B E g0 d h 110 213 [.int (nI j), .int (nI i), .int z] := by
    intro v hc hr
    have F1 : FR (B + 79) (PX B) h (xset h (B + 36 + 2 * j) (.inl (0, xis 24 (upd (q.xpl j) i v)))) := FR.px hD (Or.inr ⟨by omega, by omega⟩)
    have F2 := F1.trans (FR.px (a := B + 58 + 14) (e := .inl (0, xis 96 (upd (q.xv 14) (24 * j + i) v))) hD (Or.inr ⟨by omega, by omega⟩))
    have X1 := xc_pl Xc (f := upd (q.xpl j) i v) h4
    have Y1 := xr_o Xr (a := B + 36 + 2 * j) (e := .inl (0, xis 24 (upd (q.xpl j) i v))) (by omega)
    have R1 := rm_o RR (a := B + 36 + 2 * j) (e := .inl (0, xis 24 (upd (q.xpl j) i v))) (by omega) (by omega) (by omega) (by omega)
    have X2 := xc_o X1 (a := B + 58 + 14) (e := .inl (0, xis 96 (upd (q.xv 14) (24 * j + i) v))) (by omega)
    have Y2 := xr_14 Y1 (f := upd (q.xv 14) (24 * j + i) v)
    have R2 := rm_o R1 (a := B + 58 + 14) (e := .inl (0, xis 96 (upd (q.xv 14) (24 * j + i) v))) (by omega) (by omega) (by omega) (by omega)
    refine ok_w 1 hc (fun Q K => hr _ Q R1 Y1 K) (fun a ha => (F1.at (by omega) (by omega)).trans (hE a ha)) ⟨_, R1.1⟩ (rep_px R I hE hg hD hz F2 R2 M (q2 := (q.sL j (upd (q.xpl j) i v)).sV 14 (upd (q.xv 14) (24 * j + i) v)) X2 RI II Y2 (rxm_fr (h := h) ?_ F2)) (by rw [F2.1]; omega) (by rw [F2.2.1]; omega)
    refine ⟨k0, fun i2 h2 => ?_, kn⟩
    obtain ⟨c1, c2, c3⟩ := km i2 h2
    refine ⟨c1, c2, fun hso k hk => ?_⟩
    show upd (q.xv 14) (24 * j + i) v (24 * i2 + k) = rup q.xpl j (upd (q.xpl j) i v) i2 k
    by_cases e : i2 = j
    · subst e
      rw [rup_at]
      by_cases e2 : k = i
      · subst e2; rw [upd_at, upd_at]
      · rw [upd_ne (by omega), upd_ne e2]; exact c3 hso k hk
    · rw [rup_ne e, upd_ne (by omega)]; exact c3 hso k hk
  by_cases hs0 : q.xso j = 0
  · by_cases hN : z = NONE
    · refine ok_ro S0 (-1000000012) (fun Q K => ?_) (fun Q K => ?_)
      · rw [e110]; simp only [s110_0, s110_1, s110_2, s110_5, s110_5n, s110_7, s110_7n, s110_9, s110_9n, s110_12, s110_14, s110_15, s110_15n, s110_17, s110_20, s110_21, s110_24, s110_27, s110_28, s110_28n, s110_30, s110_31, s110_34, s110_37, s110_40, s110_41, s110_41n, s110_43, s110_46, s110_49, s110_50, s110_52, s110_55, s110_57, s110_58, s110_58n, s110_60, s110_63, s110_64, s110_65, s110_66, s110_67, s110_68, s110_69, s110_70, s110_72, s110_75, s110_76, s110_79, s110_82, s110_85, s110_88, s110_90, s110_91, s110_91n, s110_93, s110_96, s110_97, s110_98, s110_99, s110_100, hO, c_sheetAt Xc, hx, hcl, a1, l3_0, hs0, show ((0 : Int32) = -1) = False from eq_false (by decide), c_hasPlace a4 a1, hy, hN, XG_1, XO_some, XV_1, xo_n, xo_i8, xo_r8, xo_i7, xo_r7, xo_i6, xo_r6, xo_i5, xo_r5, xo_i4, xo_r4, xo_i3, xo_r3, xo_i2, xo_r2, Option.toList_some, Option.toList_none, List.cons_append, List.nil_append, bI_t, bI_f, bI_0, bI_n0, if_true, if_false, true_and, and_true, ne_eq, not_true_eq_false, not_false_eq_true, one_ne0, reduceCtorEq]; exact K
      · rw [e213]; simp only [s213_0, s213_1, s213_4, s213_7, s213_9, s213_10, s213_11, s213_14, s213_15, s213_16, s213_19, s213_22, s213_23, s213_24, s213_25, s213_26, s213_29, s213_30, s213_31, s213_32, s213_33, s213_36, s213_39, s213_42, s213_43, s213_44, s213_47, s213_48, s213_49, s213_52, s213_53, s213_55, s213_58, s213_60, s213_61, s213_62, s213_65, s213_66, s213_67, s213_68, s213_71, s213_72, s213_74, s213_77, s213_78, s213_81, s213_83, s213_86, s213_89, s213_91, s213_92, s213_93, s213_96, s213_98, s213_99, s213_100, s213_101, s213_102, s213_103, s213_106, s213_107, s213_108, s213_111, s213_112, s213_113, s213_116, s213_117, s213_118, s213_119, c_isSheet, hx, RR.1, mf22, mf23, r12 Xr, r13 Xr, XA4 h4, b1, b2, hs0, show ((0 : Int32) < 0) = False from eq_false (by decide), c_in, wiB_isI (show q.xsz j < 2 ^ 30 by omega), hy, hN, XG_1, XO_some, XV_1, xo_n, xo_i8, xo_r8, xo_i7, xo_r7, xo_i6, xo_r6, xo_i5, xo_r5, xo_i4, xo_r4, xo_i3, xo_r3, xo_i2, xo_r2, Option.toList_some, Option.toList_none, List.cons_append, List.nil_append, bI_t, bI_f, bI_0, bI_n0, if_true, if_false, true_and, and_true, ne_eq, not_true_eq_false, not_false_eq_true, one_ne0, reduceCtorEq]; exact K
    · refine fin z.toInt16.toInt32 (fun Q K => ?_) (fun h1 Q R1 Y1 K => ?_)
      · rw [e110]; simp only [s110_0, s110_1, s110_2, s110_5, s110_5n, s110_7, s110_7n, s110_9, s110_9n, s110_12, s110_14, s110_15, s110_15n, s110_17, s110_20, s110_21, s110_24, s110_27, s110_28, s110_28n, s110_30, s110_31, s110_34, s110_37, s110_40, s110_41, s110_41n, s110_43, s110_46, s110_49, s110_50, s110_52, s110_55, s110_57, s110_58, s110_58n, s110_60, s110_63, s110_64, s110_65, s110_66, s110_67, s110_68, s110_69, s110_70, s110_72, s110_75, s110_76, s110_79, s110_82, s110_85, s110_88, s110_90, s110_91, s110_91n, s110_93, s110_96, s110_97, s110_98, s110_99, s110_100, hO, c_sheetAt Xc, hx, hcl, a1, a2, l3_0, l3_2, hs0, show ((0 : Int32) = -1) = False from eq_false (by decide), c_hasPlace a4 a1, hy, hN, XS24 h24, XG_1, XO_some, XV_1, xo_n, xo_i8, xo_r8, xo_i7, xo_r7, xo_i6, xo_r6, xo_i5, xo_r5, xo_i4, xo_r4, xo_i3, xo_r3, xo_i2, xo_r2, Option.toList_some, Option.toList_none, List.cons_append, List.nil_append, bI_t, bI_f, bI_0, bI_n0, if_true, if_false, true_and, and_true, ne_eq, not_true_eq_false, not_false_eq_true, one_ne0, reduceCtorEq]; exact K
      · rw [e213]; simp only [s213_0, s213_1, s213_4, s213_7, s213_9, s213_10, s213_11, s213_14, s213_15, s213_16, s213_19, s213_22, s213_23, s213_24, s213_25, s213_26, s213_29, s213_30, s213_31, s213_32, s213_33, s213_36, s213_39, s213_42, s213_43, s213_44, s213_47, s213_48, s213_49, s213_52, s213_53, s213_55, s213_58, s213_60, s213_61, s213_62, s213_65, s213_66, s213_67, s213_68, s213_71, s213_72, s213_74, s213_77, s213_78, s213_81, s213_83, s213_86, s213_89, s213_91, s213_92, s213_93, s213_96, s213_98, s213_99, s213_100, s213_101, s213_102, s213_103, s213_106, s213_107, s213_108, s213_111, s213_112, s213_113, s213_116, s213_117, s213_118, s213_119, c_isSheet, hx, R1.1, mf22, mf23, mf24, r12 Y1, r13 Y1, r14 Y1, XA4 h4, b1, b2, hs0, show ((0 : Int32) < 0) = False from eq_false (by decide), show ((0 : Int32) = 1) = False from eq_false (by decide), c_in, wiB_isI (show q.xsz j < 2 ^ 30 by omega), hy, hN, m24, lA, XS96 h96, XG_1, XO_some, XV_1, xo_n, xo_i8, xo_r8, xo_i7, xo_r7, xo_i6, xo_r6, xo_i5, xo_r5, xo_i4, xo_r4, xo_i3, xo_r3, xo_i2, xo_r2, Option.toList_some, Option.toList_none, List.cons_append, List.nil_append, bI_t, bI_f, bI_0, bI_n0, if_true, if_false, true_and, and_true, ne_eq, not_true_eq_false, not_false_eq_true, one_ne0, reduceCtorEq]; exact K
  have hs1 : q.xso j = 1 := by rcases a3 with e | e | e; exact absurd e hs; exact absurd e hs0; exact e
  by_cases hN : z = NONE
  · refine fin z (fun Q K => ?_) (fun h1 Q R1 Y1 K => ?_)
    · rw [e110]; simp only [s110_0, s110_1, s110_2, s110_5, s110_5n, s110_7, s110_7n, s110_9, s110_9n, s110_12, s110_14, s110_15, s110_15n, s110_17, s110_20, s110_21, s110_24, s110_27, s110_28, s110_28n, s110_30, s110_31, s110_34, s110_37, s110_40, s110_41, s110_41n, s110_43, s110_46, s110_49, s110_50, s110_52, s110_55, s110_57, s110_58, s110_58n, s110_60, s110_63, s110_64, s110_65, s110_66, s110_67, s110_68, s110_69, s110_70, s110_72, s110_75, s110_76, s110_79, s110_82, s110_85, s110_88, s110_90, s110_91, s110_91n, s110_93, s110_96, s110_97, s110_98, s110_99, s110_100, hO, c_sheetAt Xc, hx, hcl, a1, a2, l3_0, l3_2, hs1, show ((1 : Int32) = -1) = False from eq_false (by decide), q10, c_hasPlace a4 a1, hy, hN, XS24 h24, XG_1, XO_some, XV_1, xo_n, xo_i8, xo_r8, xo_i7, xo_r7, xo_i6, xo_r6, xo_i5, xo_r5, xo_i4, xo_r4, xo_i3, xo_r3, xo_i2, xo_r2, Option.toList_some, Option.toList_none, List.cons_append, List.nil_append, bI_t, bI_f, bI_0, bI_n0, if_true, if_false, true_and, and_true, ne_eq, not_true_eq_false, not_false_eq_true, one_ne0, reduceCtorEq]; rw [hN] at K; exact K
    · rw [e213]; simp only [s213_0, s213_1, s213_4, s213_7, s213_9, s213_10, s213_11, s213_14, s213_15, s213_16, s213_19, s213_22, s213_23, s213_24, s213_25, s213_26, s213_29, s213_30, s213_31, s213_32, s213_33, s213_36, s213_39, s213_42, s213_43, s213_44, s213_47, s213_48, s213_49, s213_52, s213_53, s213_55, s213_58, s213_60, s213_61, s213_62, s213_65, s213_66, s213_67, s213_68, s213_71, s213_72, s213_74, s213_77, s213_78, s213_81, s213_83, s213_86, s213_89, s213_91, s213_92, s213_93, s213_96, s213_98, s213_99, s213_100, s213_101, s213_102, s213_103, s213_106, s213_107, s213_108, s213_111, s213_112, s213_113, s213_116, s213_117, s213_118, s213_119, c_isSheet, hx, R1.1, mf22, mf23, mf24, r12 Y1, r13 Y1, r14 Y1, XA4 h4, b1, b2, hs1, show ((1 : Int32) < 0) = False from eq_false (by decide), q10, c_in, wiB_isI (show q.xsz j < 2 ^ 30 by omega), hy, hN, m24, lA, XS96 h96, XG_1, XO_some, XV_1, xo_n, xo_i8, xo_r8, xo_i7, xo_r7, xo_i6, xo_r6, xo_i5, xo_r5, xo_i4, xo_r4, xo_i3, xo_r3, xo_i2, xo_r2, Option.toList_some, Option.toList_none, List.cons_append, List.nil_append, bI_t, bI_f, bI_0, bI_n0, if_true, if_false, true_and, and_true, ne_eq, not_true_eq_false, not_false_eq_true, one_ne0, reduceCtorEq]; rw [hN] at K; exact K
  cases hw : wiB z (-99999) 99999 with
  | false =>
    refine ok_ro S0 BAD (fun Q K => ?_) (fun Q K => ?_)
    · rw [e110]; simp only [s110_0, s110_1, s110_2, s110_5, s110_5n, s110_7, s110_7n, s110_9, s110_9n, s110_12, s110_14, s110_15, s110_15n, s110_17, s110_20, s110_21, s110_24, s110_27, s110_28, s110_28n, s110_30, s110_31, s110_34, s110_37, s110_40, s110_41, s110_41n, s110_43, s110_46, s110_49, s110_50, s110_52, s110_55, s110_57, s110_58, s110_58n, s110_60, s110_63, s110_64, s110_65, s110_66, s110_67, s110_68, s110_69, s110_70, s110_72, s110_75, s110_76, s110_79, s110_82, s110_85, s110_88, s110_90, s110_91, s110_91n, s110_93, s110_96, s110_97, s110_98, s110_99, s110_100, hO, c_sheetAt Xc, hx, hcl, a1, l3_0, hs1, show ((1 : Int32) = -1) = False from eq_false (by decide), q10, c_hasPlace a4 a1, hy, hN, c_within, hw, XG_1, XO_some, XV_1, xo_n, xo_i8, xo_r8, xo_i7, xo_r7, xo_i6, xo_r6, xo_i5, xo_r5, xo_i4, xo_r4, xo_i3, xo_r3, xo_i2, xo_r2, Option.toList_some, Option.toList_none, List.cons_append, List.nil_append, bI_t, bI_f, bI_0, bI_n0, if_true, if_false, true_and, and_true, ne_eq, not_true_eq_false, not_false_eq_true, one_ne0, reduceCtorEq]; exact K
    · rw [e213]; simp only [s213_0, s213_1, s213_4, s213_7, s213_9, s213_10, s213_11, s213_14, s213_15, s213_16, s213_19, s213_22, s213_23, s213_24, s213_25, s213_26, s213_29, s213_30, s213_31, s213_32, s213_33, s213_36, s213_39, s213_42, s213_43, s213_44, s213_47, s213_48, s213_49, s213_52, s213_53, s213_55, s213_58, s213_60, s213_61, s213_62, s213_65, s213_66, s213_67, s213_68, s213_71, s213_72, s213_74, s213_77, s213_78, s213_81, s213_83, s213_86, s213_89, s213_91, s213_92, s213_93, s213_96, s213_98, s213_99, s213_100, s213_101, s213_102, s213_103, s213_106, s213_107, s213_108, s213_111, s213_112, s213_113, s213_116, s213_117, s213_118, s213_119, c_isSheet, hx, RR.1, mf22, mf23, r12 Xr, r13 Xr, XA4 h4, b1, b2, hs1, show ((1 : Int32) < 0) = False from eq_false (by decide), q10, c_in, wiB_isI (show q.xsz j < 2 ^ 30 by omega), hy, hN, hw, XG_1, XO_some, XV_1, xo_n, xo_i8, xo_r8, xo_i7, xo_r7, xo_i6, xo_r6, xo_i5, xo_r5, xo_i4, xo_r4, xo_i3, xo_r3, xo_i2, xo_r2, Option.toList_some, Option.toList_none, List.cons_append, List.nil_append, bI_t, bI_f, bI_0, bI_n0, if_true, if_false, true_and, and_true, ne_eq, not_true_eq_false, not_false_eq_true, one_ne0, reduceCtorEq]; exact K
  | true =>
    refine fin z (fun Q K => ?_) (fun h1 Q R1 Y1 K => ?_)
    · rw [e110]; simp only [s110_0, s110_1, s110_2, s110_5, s110_5n, s110_7, s110_7n, s110_9, s110_9n, s110_12, s110_14, s110_15, s110_15n, s110_17, s110_20, s110_21, s110_24, s110_27, s110_28, s110_28n, s110_30, s110_31, s110_34, s110_37, s110_40, s110_41, s110_41n, s110_43, s110_46, s110_49, s110_50, s110_52, s110_55, s110_57, s110_58, s110_58n, s110_60, s110_63, s110_64, s110_65, s110_66, s110_67, s110_68, s110_69, s110_70, s110_72, s110_75, s110_76, s110_79, s110_82, s110_85, s110_88, s110_90, s110_91, s110_91n, s110_93, s110_96, s110_97, s110_98, s110_99, s110_100, hO, c_sheetAt Xc, hx, hcl, a1, a2, l3_0, l3_2, hs1, show ((1 : Int32) = -1) = False from eq_false (by decide), q10, c_hasPlace a4 a1, hy, hN, c_within, hw, XS24 h24, XG_1, XO_some, XV_1, xo_n, xo_i8, xo_r8, xo_i7, xo_r7, xo_i6, xo_r6, xo_i5, xo_r5, xo_i4, xo_r4, xo_i3, xo_r3, xo_i2, xo_r2, Option.toList_some, Option.toList_none, List.cons_append, List.nil_append, bI_t, bI_f, bI_0, bI_n0, if_true, if_false, true_and, and_true, ne_eq, not_true_eq_false, not_false_eq_true, one_ne0, reduceCtorEq]; exact K
    · rw [e213]; simp only [s213_0, s213_1, s213_4, s213_7, s213_9, s213_10, s213_11, s213_14, s213_15, s213_16, s213_19, s213_22, s213_23, s213_24, s213_25, s213_26, s213_29, s213_30, s213_31, s213_32, s213_33, s213_36, s213_39, s213_42, s213_43, s213_44, s213_47, s213_48, s213_49, s213_52, s213_53, s213_55, s213_58, s213_60, s213_61, s213_62, s213_65, s213_66, s213_67, s213_68, s213_71, s213_72, s213_74, s213_77, s213_78, s213_81, s213_83, s213_86, s213_89, s213_91, s213_92, s213_93, s213_96, s213_98, s213_99, s213_100, s213_101, s213_102, s213_103, s213_106, s213_107, s213_108, s213_111, s213_112, s213_113, s213_116, s213_117, s213_118, s213_119, c_isSheet, hx, R1.1, mf22, mf23, mf24, r12 Y1, r13 Y1, r14 Y1, XA4 h4, b1, b2, hs1, show ((1 : Int32) < 0) = False from eq_false (by decide), q10, c_in, wiB_isI (show q.xsz j < 2 ^ 30 by omega), hy, hN, hw, m24, lA, XS96 h96, XG_1, XO_some, XV_1, xo_n, xo_i8, xo_r8, xo_i7, xo_r7, xo_i6, xo_r6, xo_i5, xo_r5, xo_i4, xo_r4, xo_i3, xo_r3, xo_i2, xo_r2, Option.toList_some, Option.toList_none, List.cons_append, List.nil_append, bI_t, bI_f, bI_0, bI_n0, if_true, if_false, true_and, and_true, ne_eq, not_true_eq_false, not_false_eq_true, one_ne0, reduceCtorEq]; exact K
end SHE
