/-! ===== 49: pour, the reference's side ===== -/
theorem benc_inj {a b : Int32} {k : Nat} (ha : a = NONE ∨ ∃ j, j < k ∧ a = nI j) (hb : b = NONE ∨ ∃ j, j < k ∧ b = nI j) (hk : k < 2 ^ 31) : (benc a = benc b) = (a = b) := by
  refine propext ⟨fun e => ?_, fun e => by rw [e]⟩
  rcases benc_neg ha hk with ⟨a1, a2, -⟩ | ⟨i, -, a1, a2, a3, -⟩
  · rcases benc_neg hb hk with ⟨b1, b2, -⟩ | ⟨j, -, b1, b2, b3, -⟩
    · rw [a2, b2]
    · rw [e] at a1; exact absurd a1 b2
  · rcases benc_neg hb hk with ⟨b1, b2, -⟩ | ⟨j, -, b1, b2, b3, -⟩
    · rw [e] at a2; exact absurd b1 a2
    · rw [a3, b3] at e; rw [a1, b1, e]
section PO2
variable {B d r : Nat} {E : Nat → va_E} {g0 : Nat → Value} {h h1 h2 : xH} {q : RS} {m m2 f w g : Nat → Int32} {n n2 : Nat → Nat} {T T2 : Nat → Nat → Int32} {p : Nat → Nat → Option Nat} {s : Nat → Nat → Int32} {Q : Option Value → xH → Prop} {x y z v : Int32}
theorem l_rpour (I : IV n T) {j N : Nat} (hj : j < 4) (hsz : q.xsz j ≤ 24) (hN : N ≤ q.xsz j) (hN2 : N ≤ 2 * n 1) (hN3 : N = q.xsz j ∨ N = 2 * n 1) (b2 : q.xv 13 j = nI (q.xsz j)) (b3 : ∀ k, k < 24 → q.xv 14 (24 * j + k) = q.xpl j k) : ∀ k i h f c4 c5, i + k = N → B + 79 ≤ h.1 → RXr B h.2.2.1 q → RM h.2.2.1 (B + 58) m f w g → MR n (prT n T (q.xpl j) i) f → (∀ h' f', FR (B + 79) (Pn (B + 58)) h h' → RM h'.2.2.1 (B + 58) m f' w g → MR n (prT n T (q.xpl j) N) f' → Q (some (.int (prC n T (q.xpl j) N))) h') → XE (d + 11) 214 27 [.val (.ref (B + 58)), .val (.int (nI j)), .val (.int (prC n T (q.xpl j) i)), .val (.int (nI i)), c4, c5] [] h Q := by
  have hn := I.nn
  intro k
  induction k with
  | zero =>
    intro i h f c4 c5 hi hD Y R M K
    have r13 : h.2.2.1 (B + 58 + 13) = .inl (0, xis 4 (q.xv 13)) := Y.2.2.2.2.2.2.2.2.2.1
    rw [show i = N by omega] at M ⊢
    rw [s214_27]
    by_cases e : nI N < nI (q.xsz j)
    · have h2 : ¬ nI N < nI (2 * n 1) := by
        rcases hN3 with q1 | q1
        · rw [← q1] at e; exact absurd e Int32.lt_irrefl
        · rw [← q1]; exact Int32.lt_irrefl
      simp only [s214_0, s214_1, s214_4, s214_7, s214_9, s214_10, s214_11, s214_14, s214_15, s214_16, s214_19, s214_22, s214_23, s214_24, s214_25, s214_26, s214_28, s214_29, s214_32, s214_33, s214_34, s214_37, s214_38, s214_39, s214_40, s214_43, s214_44, s214_45, s214_46, s214_49, s214_50, s214_53, s214_55, s214_56, s214_57, s214_58, s214_59, s214_60, s214_62, s214_64, s214_66, s214_69, s214_70, s214_72, s214_75, s214_78, s214_80, s214_83, s214_84, s214_86, s214_87, s214_88, s214_90, s214_91, s214_92, s214_93, s214_94, s214_95, s214_96, s214_97, s214_98, s214_99, s214_100, s214_101, s214_102, s214_104, s214_107, s214_109, s214_112, s214_113, s214_116, s214_117, s214_118, s214_119, s214_122, s214_125, s214_126, R.1, R.2.1, mf0, mf23, r13, XA4 hj, b2, e, A2, M.1.2.2.1, l2m, h2, XG_1, XO_some, XV_1, xo_n, xo_i8, xo_r8, xo_i7, xo_r7, xo_i6, xo_r6, xo_i5, xo_r5, xo_i4, xo_r4, xo_i3, xo_r3, xo_i2, xo_r2, Option.toList_some, Option.toList_none, List.cons_append, List.nil_append, bI_t, bI_f, bI_0, bI_n0, if_true, if_false, true_and, and_true, ne_eq, not_true_eq_false, not_false_eq_true, one_ne0, reduceCtorEq]
      exact K h f FR.refl R M
    · simp only [s214_0, s214_1, s214_4, s214_7, s214_9, s214_10, s214_11, s214_14, s214_15, s214_16, s214_19, s214_22, s214_23, s214_24, s214_25, s214_26, s214_28, s214_29, s214_32, s214_33, s214_34, s214_37, s214_38, s214_39, s214_40, s214_43, s214_44, s214_45, s214_46, s214_49, s214_50, s214_53, s214_55, s214_56, s214_57, s214_58, s214_59, s214_60, s214_62, s214_64, s214_66, s214_69, s214_70, s214_72, s214_75, s214_78, s214_80, s214_83, s214_84, s214_86, s214_87, s214_88, s214_90, s214_91, s214_92, s214_93, s214_94, s214_95, s214_96, s214_97, s214_98, s214_99, s214_100, s214_101, s214_102, s214_104, s214_107, s214_109, s214_112, s214_113, s214_116, s214_117, s214_118, s214_119, s214_122, s214_125, s214_126, R.1, mf23, r13, XA4 hj, b2, e, XG_1, XO_some, XV_1, xo_n, xo_i8, xo_r8, xo_i7, xo_r7, xo_i6, xo_r6, xo_i5, xo_r5, xo_i4, xo_r4, xo_i3, xo_r3, xo_i2, xo_r2, Option.toList_some, Option.toList_none, List.cons_append, List.nil_append, bI_t, bI_f, bI_0, bI_n0, if_true, if_false, true_and, and_true, ne_eq, not_true_eq_false, not_false_eq_true, one_ne0, reduceCtorEq]
      exact K h f FR.refl R M
  | succ k ih =>
    intro i h f c4 c5 hi hD Y R M K
    have r13 : h.2.2.1 (B + 58 + 13) = .inl (0, xis 4 (q.xv 13)) := Y.2.2.2.2.2.2.2.2.2.1
    have r14 : h.2.2.1 (B + 58 + 14) = .inl (0, xis 96 (q.xv 14)) := Y.2.2.2.2.2.2.2.2.2.2.1
    have e1 : nI i < nI (q.xsz j) := nI_lt (by omega) (by omega)
    have e2 : nI i < nI (2 * n 1) := nI_lt (by omega) (by omega)
    have h24 : i < 24 := by omega
    have h96 : 24 * j + i < 96 := by omega
    have m24 : (24 : Int32) * nI j = nI (24 * j) := pk_mul 24 j
    have hI0 := iv_prT I (pl := q.xpl j) i
    have h12 : i / 2 < 12 := by omega
    have hq : 38 + 5 * (i / 2) + 3 + i % 2 < 1482 := by omega
    have hii : 2 * (i / 2) + i % 2 = i := by omega
    have i3' : nI (38 + 5 * (i / 2)) + 3 = nI (38 + 5 * (i / 2) + 3) := nI_add _ 3
    have d2 : nI i / 2 = nI (i / 2) := l2d (by omega)
    have d3 : nI i % 2 = nI (i % 2) := nI_mod (b := 2) (by omega) (by decide)
    have hf0 : ∀ b, b ≤ 1 → f (38 + 5 * (i / 2) + 3 + b) = benc (prT n T (q.xpl j) i 7 (2 * (i / 2) + b)) := by
      intro b hb
      rcases (show b = 0 ∨ b = 1 by omega) with rfl | rfl
      · exact (M.2.2.1 (i / 2) h12).2.2.2.1
      · exact (M.2.2.1 (i / 2) h12).2.2.2.2
    have hf := hf0 (i % 2) (by omega)
    rw [hii] at hf
    have hin := benc_inj (hI0.be i (by omega)) (prH_in (pl := q.xpl j) (i := i) hn.1) (show n 0 < 2 ^ 31 by omega)
    obtain ⟨R2, F2⟩ := R.sf (Dy := B + 79) (by omega) hD (f2 := upd f (38 + 5 * (i / 2) + 3 + i % 2) (benc (prH n (q.xpl j) i)))
    have M2 : MR n (prT n T (q.xpl j) (i + 1)) (upd f (38 + 5 * (i / 2) + 3 + i % 2) (benc (prH n (q.xpl j) i))) := by
      have := mr_db M h12 (show i % 2 ≤ 1 by omega) (v := prH n (q.xpl j) i)
      rw [hii] at this
      exact this
    have Y2 := xr_o Y (a := B + 58 + 1) (e := .inl (0, xis 1482 (upd f (38 + 5 * (i / 2) + 3 + i % 2) (benc (prH n (q.xpl j) i))))) (by omega)
    have ih1 := fun c4 c5 => ih (i + 1) _ _ c4 c5 (by omega) (show B + 79 ≤ _ by rw [F2.1]; exact hD) Y2 R2 M2 (fun h' f' F' R' M' => K h' f' (F2.trans F') R' M')
    rw [show prC n T (q.xpl j) (i + 1) = if prT n T (q.xpl j) i 7 i = prH n (q.xpl j) i then prC n T (q.xpl j) i else prC n T (q.xpl j) i + 1 from rfl] at ih1
    have mid : ∀ c4, XE (d + 11) 214 86 [.val (.ref (B + 58)), .val (.int (nI j)), .val (.int (prC n T (q.xpl j) i)), .val (.int (nI i)), c4, .val (.int (benc (prH n (q.xpl j) i)))] [] h Q := by
      intro c4
      simp only [s214_86, s214_87, s214_88, s214_90, s214_91, s214_92, s214_93, s214_94, s214_95, s214_96, s214_97, s214_98, s214_99, s214_100, s214_101, s214_102, s214_104, s214_107, s214_109, s214_112, s214_113, s214_116, s214_117, s214_118, s214_119, s214_122, R.1, d2, d3, z2, m5, i38, i3', lA, r_becomes R hq, hf, hin, nI_1, XG_1, XO_some, XV_1, xo_n, xo_i8, xo_r8, xo_i7, xo_r7, xo_i6, xo_r6, xo_i5, xo_r5, xo_i4, xo_r4, xo_i3, xo_r3, xo_i2, xo_r2, Option.toList_some, Option.toList_none, List.cons_append, List.nil_append, bI_t, bI_f, bI_0, bI_n0, if_true, if_false, true_and, and_true, ne_eq, not_true_eq_false, not_false_eq_true, one_ne0, reduceCtorEq]
      by_cases hc : prT n T (q.xpl j) i 7 i = prH n (q.xpl j) i
      · simp only [hc, if_true] at ih1; simp only [hc, if_true, Int32.add_zero]; exact ih1 _ _
      · simp only [hc, if_false] at ih1; simp only [hc, if_false]; exact ih1 _ _
    rw [s214_27]
    simp only [s214_28, s214_29, s214_32, s214_33, s214_34, s214_37, s214_38, s214_39, s214_40, s214_43, s214_44, s214_45, s214_46, s214_49, s214_50, s214_53, s214_55, s214_56, s214_57, s214_58, s214_59, s214_60, s214_62, s214_64, R.1, R.2.1, mf0, mf23, mf24, r13, r14, XA4 hj, b2, e1, A2, M.1.2.2.1, l2m, e2, m24, lA, XA96 h96, b3 i h24, XG_1, XO_some, XV_1, xo_n, xo_i8, xo_r8, xo_i7, xo_r7, xo_i6, xo_r6, xo_i5, xo_r5, xo_i4, xo_r4, xo_i3, xo_r3, xo_i2, xo_r2, Option.toList_some, Option.toList_none, List.cons_append, List.nil_append, bI_t, bI_f, bI_0, bI_n0, if_true, if_false, true_and, and_true, ne_eq, not_true_eq_false, not_false_eq_true, one_ne0, reduceCtorEq]
    unfold prH at mid
    by_cases hN1 : q.xpl j i = NONE
    · rw [hN1, isI_NONE] at mid
      simp only [Bool.false_eq_true, if_false, show benc NONE = -1 from by decide] at mid
      simp only [s214_66, s214_69, s214_70, s214_72, s214_75, s214_78, s214_80, s214_83, s214_84, hN1, XG_1, XO_some, XV_1, xo_n, xo_i8, xo_r8, xo_i7, xo_r7, xo_i6, xo_r6, xo_i5, xo_r5, xo_i4, xo_r4, xo_i3, xo_r3, xo_i2, xo_r2, Option.toList_some, Option.toList_none, List.cons_append, List.nil_append, bI_t, bI_f, bI_0, bI_n0, if_true, if_false, true_and, and_true, ne_eq, not_true_eq_false, not_false_eq_true, one_ne0, reduceCtorEq]; exact mid _
    · simp only [s214_66, s214_69, s214_70, s214_72, hN1, R.1, r_isHouse R M hI0, XG_1, XO_some, XV_1, xo_n, xo_i8, xo_r8, xo_i7, xo_r7, xo_i6, xo_r6, xo_i5, xo_r5, xo_i4, xo_r4, xo_i3, xo_r3, xo_i2, xo_r2, Option.toList_some, Option.toList_none, List.cons_append, List.nil_append, bI_t, bI_f, bI_0, bI_n0, if_true, if_false, true_and, and_true, ne_eq, not_true_eq_false, not_false_eq_true, one_ne0, reduceCtorEq]
      cases hI : isI (q.xpl j i) (n 0) with
      | false =>
        rw [hI] at mid
        simp only [Bool.false_eq_true, if_false, show benc NONE = -1 from by decide] at mid
        simp only [s214_75, s214_78, s214_80, s214_83, s214_84, XG_1, XO_some, XV_1, xo_n, xo_i8, xo_r8, xo_i7, xo_r7, xo_i6, xo_r6, xo_i5, xo_r5, xo_i4, xo_r4, xo_i3, xo_r3, xo_i2, xo_r2, Option.toList_some, Option.toList_none, List.cons_append, List.nil_append, bI_t, bI_f, bI_0, bI_n0, if_true, if_false, true_and, and_true, ne_eq, not_true_eq_false, not_false_eq_true, one_ne0, reduceCtorEq]; exact mid _
      | true =>
        rw [hI] at mid
        have hbz : benc (q.xpl j i) = q.xpl j i := by unfold benc; rw [if_neg hN1]
        simp only [if_true, hbz] at mid
        simp only [s214_75, s214_78, s214_80, s214_83, s214_84, XG_1, XO_some, XV_1, xo_n, xo_i8, xo_r8, xo_i7, xo_r7, xo_i6, xo_r6, xo_i5, xo_r5, xo_i4, xo_r4, xo_i3, xo_r3, xo_i2, xo_r2, Option.toList_some, Option.toList_none, List.cons_append, List.nil_append, bI_t, bI_f, bI_0, bI_n0, if_true, if_false, true_and, and_true, ne_eq, not_true_eq_false, not_false_eq_true, one_ne0, reduceCtorEq, Bool.true_eq_false]; exact mid _
theorem ok_pour (S : REP B E g0 h) : OK B E g0 d h 111 214 [.int x] := by
  have S0 := S
  obtain ⟨⟨n, T, p, s, m, f, w, g, q, R, I, RR, M, X⟩, hE, hg, hD, hz⟩ := S
  have Xc := X.1
  have hO := Xc.1.1
  cases hx : wiB x 0 3 with
  | false =>
    refine ok_ro S0 BAD (fun Q K => ?_) (fun Q K => ?_)
    · rw [e111]; simp only [s111_0, s111_1, s111_2, s111_5, s111_5n, s111_6, s111_6n, s111_7, s111_7n, s111_10, s111_12, s111_13, s111_13n, s111_14, s111_17, s111_18, s111_21, s111_24, s111_25, s111_26, s111_27, s111_28, s111_32, s111_32n, s111_33, s111_36, s111_39, s111_41, s111_42, s111_43, s111_46, s111_49, s111_50, s111_53, s111_54, s111_57, s111_57n, s111_58, s111_61, s111_63, s111_64, s111_67, s111_70, s111_70n, s111_71, s111_74, s111_76, s111_77, s111_80, s111_82, s111_84, s111_85, s111_88, s111_91, s111_93, s111_94, s111_96, s111_99, s111_100, s111_103, s111_106, s111_108, s111_110, s111_111, s111_114, s111_117, s111_120, s111_121, hO, c_sheetAt Xc, hx, Bool.false_eq_true, XG_1, XO_some, XV_1, xo_n, xo_i8, xo_r8, xo_i7, xo_r7, xo_i6, xo_r6, xo_i5, xo_r5, xo_i4, xo_r4, xo_i3, xo_r3, xo_i2, xo_r2, Option.toList_some, Option.toList_none, List.cons_append, List.nil_append, bI_t, bI_f, bI_0, bI_n0, if_true, if_false, true_and, and_true, ne_eq, not_true_eq_false, not_false_eq_true, one_ne0, reduceCtorEq]; exact K
    · rw [e214]; simp only [s214_0, s214_1, s214_4, s214_7, s214_9, s214_10, s214_11, s214_14, s214_15, s214_16, s214_19, s214_22, s214_23, s214_24, s214_25, s214_26, s214_28, s214_29, s214_32, s214_33, s214_34, s214_37, s214_38, s214_39, s214_40, s214_43, s214_44, s214_45, s214_46, s214_49, s214_50, s214_53, s214_55, s214_56, s214_57, s214_58, s214_59, s214_60, s214_62, s214_64, s214_66, s214_69, s214_70, s214_72, s214_75, s214_78, s214_80, s214_83, s214_84, s214_86, s214_87, s214_88, s214_90, s214_91, s214_92, s214_93, s214_94, s214_95, s214_96, s214_97, s214_98, s214_99, s214_100, s214_101, s214_102, s214_104, s214_107, s214_109, s214_112, s214_113, s214_116, s214_117, s214_118, s214_119, s214_122, s214_125, s214_126, c_isSheet, hx, XG_1, XO_some, XV_1, xo_n, xo_i8, xo_r8, xo_i7, xo_r7, xo_i6, xo_r6, xo_i5, xo_r5, xo_i4, xo_r4, xo_i3, xo_r3, xo_i2, xo_r2, Option.toList_some, Option.toList_none, List.cons_append, List.nil_append, bI_t, bI_f, bI_0, bI_n0, if_true, if_false, true_and, and_true, ne_eq, not_true_eq_false, not_false_eq_true, one_ne0, reduceCtorEq]; exact K
  | true =>
  obtain ⟨j, hj, rfl⟩ := wiB_t (k := 3) hx (by decide)
  have h4 : j < 4 := by omega
  have hcl : (nI j).toNatClampNeg = j := nI_clamp (by omega)
  obtain ⟨a1, a2, a3, a4⟩ := Xc.2.1 j h4
  obtain ⟨b1, b2, b3⟩ := X.2.2.2.2.1 j h4
  by_cases hs : q.xso j = -1
  · have r12 : h.2.2.1 (B + 58 + 12) = .inl (0, xis 4 (q.xv 12)) := X.2.2.1.2.2.2.2.2.2.2.2.1
    refine ok_ro S0 (-1000000011) (fun Q K => ?_) (fun Q K => ?_)
    · rw [e111]; simp only [s111_0, s111_1, s111_2, s111_5, s111_5n, s111_6, s111_6n, s111_7, s111_7n, s111_10, s111_12, s111_13, s111_13n, s111_14, s111_17, s111_18, s111_21, s111_24, s111_25, s111_26, s111_27, s111_28, s111_32, s111_32n, s111_33, s111_36, s111_39, s111_41, s111_42, s111_43, s111_46, s111_49, s111_50, s111_53, s111_54, s111_57, s111_57n, s111_58, s111_61, s111_63, s111_64, s111_67, s111_70, s111_70n, s111_71, s111_74, s111_76, s111_77, s111_80, s111_82, s111_84, s111_85, s111_88, s111_91, s111_93, s111_94, s111_96, s111_99, s111_100, s111_103, s111_106, s111_108, s111_110, s111_111, s111_114, s111_117, s111_120, s111_121, hO, c_sheetAt Xc, hx, hcl, a1, l3_0, hs, XG_1, XO_some, XV_1, xo_n, xo_i8, xo_r8, xo_i7, xo_r7, xo_i6, xo_r6, xo_i5, xo_r5, xo_i4, xo_r4, xo_i3, xo_r3, xo_i2, xo_r2, Option.toList_some, Option.toList_none, List.cons_append, List.nil_append, bI_t, bI_f, bI_0, bI_n0, if_true, if_false, true_and, and_true, ne_eq, not_true_eq_false, not_false_eq_true, one_ne0, reduceCtorEq]; exact K
    · rw [e214]; simp only [s214_0, s214_1, s214_4, s214_7, s214_9, s214_10, s214_11, s214_14, s214_15, s214_16, s214_19, s214_22, s214_23, s214_24, s214_25, s214_26, s214_28, s214_29, s214_32, s214_33, s214_34, s214_37, s214_38, s214_39, s214_40, s214_43, s214_44, s214_45, s214_46, s214_49, s214_50, s214_53, s214_55, s214_56, s214_57, s214_58, s214_59, s214_60, s214_62, s214_64, s214_66, s214_69, s214_70, s214_72, s214_75, s214_78, s214_80, s214_83, s214_84, s214_86, s214_87, s214_88, s214_90, s214_91, s214_92, s214_93, s214_94, s214_95, s214_96, s214_97, s214_98, s214_99, s214_100, s214_101, s214_102, s214_104, s214_107, s214_109, s214_112, s214_113, s214_116, s214_117, s214_118, s214_119, s214_122, s214_125, s214_126, c_isSheet, hx, RR.1, mf22, r12, XA4 h4, b1, hs, show ((-1 : Int32) < 0) = True from eq_true (by decide), XG_1, XO_some, XV_1, xo_n, xo_i8, xo_r8, xo_i7, xo_r7, xo_i6, xo_r6, xo_i5, xo_r5, xo_i4, xo_r4, xo_i3, xo_r3, xo_i2, xo_r2, Option.toList_some, Option.toList_none, List.cons_append, List.nil_append, bI_t, bI_f, bI_0, bI_n0, if_true, if_false, true_and, and_true, ne_eq, not_true_eq_false, not_false_eq_true, one_ne0, reduceCtorEq]; exact K
  have hp : ¬ q.xso j < 0 := by rcases a3 with e | e | e; exact absurd e hs; rw [e]; decide; rw [e]; decide
  obtain ⟨N, n1, n2, n3⟩ : ∃ N, N ≤ q.xsz j ∧ N ≤ 2 * n 1 ∧ (N = q.xsz j ∨ N = 2 * n 1) := by
    by_cases e : q.xsz j ≤ 2 * n 1
    · exact ⟨q.xsz j, Nat.le_refl _, e, Or.inl rfl⟩
    · exact ⟨2 * n 1, by omega, Nat.le_refl _, Or.inr rfl⟩
  refine ok_pm2 R RR X hE hg hD hz (v := prC n T (q.xpl j) N) (iv_prT I (pl := q.xpl j) N) (fun Q K => ?_) (fun h1 X1 hD1 R1 Q K => ?_)
  · rw [e111]; simp only [s111_0, s111_1, s111_2, s111_5, s111_5n, s111_6, s111_6n, s111_7, s111_7n, s111_10, s111_12, s111_13, s111_13n, s111_14, s111_17, s111_18, s111_21, s111_24, s111_25, s111_26, s111_27, s111_28, s111_32, s111_32n, s111_33, s111_36, s111_39, s111_41, s111_42, s111_43, s111_46, s111_49, s111_50, s111_53, s111_54, s111_57, s111_57n, s111_58, s111_61, s111_63, s111_64, s111_67, s111_70, s111_70n, s111_71, s111_74, s111_76, s111_77, s111_80, s111_82, s111_84, s111_85, s111_88, s111_91, s111_93, s111_94, s111_96, s111_99, s111_100, s111_103, s111_106, s111_108, s111_110, s111_111, s111_114, s111_117, s111_120, s111_121, hO, c_sheetAt Xc, hx, hcl, a1, l3_0, hs, XG_1, XO_some, XV_1, xo_n, xo_i8, xo_r8, xo_i7, xo_r7, xo_i6, xo_r6, xo_i5, xo_r5, xo_i4, xo_r4, xo_i3, xo_r3, xo_i2, xo_r2, Option.toList_some, Option.toList_none, List.cons_append, List.nil_append, bI_t, bI_f, bI_0, bI_n0, if_true, if_false, true_and, and_true, ne_eq, not_true_eq_false, not_false_eq_true, one_ne0, reduceCtorEq]
    exact l_pour I h4 n1 n2 n3 N 0 h _ (by omega) hD Xc R (fun h' F' R' => K h' s F' R')
  · have r12 : h1.2.2.1 (B + 58 + 12) = .inl (0, xis 4 (q.xv 12)) := X1.2.2.1.2.2.2.2.2.2.2.2.1
    rw [e214]; simp only [s214_0, s214_1, s214_4, s214_7, s214_9, s214_10, s214_11, s214_14, s214_15, s214_16, s214_19, s214_22, s214_23, s214_24, s214_25, s214_26, s214_28, s214_29, s214_32, s214_33, s214_34, s214_37, s214_38, s214_39, s214_40, s214_43, s214_44, s214_45, s214_46, s214_49, s214_50, s214_53, s214_55, s214_56, s214_57, s214_58, s214_59, s214_60, s214_62, s214_64, s214_66, s214_69, s214_70, s214_72, s214_75, s214_78, s214_80, s214_83, s214_84, s214_86, s214_87, s214_88, s214_90, s214_91, s214_92, s214_93, s214_94, s214_95, s214_96, s214_97, s214_98, s214_99, s214_100, s214_101, s214_102, s214_104, s214_107, s214_109, s214_112, s214_113, s214_116, s214_117, s214_118, s214_119, s214_122, s214_125, s214_126, c_isSheet, hx, R1.1, mf22, r12, XA4 h4, b1, hp, XG_1, XO_some, XV_1, xo_n, xo_i8, xo_r8, xo_i7, xo_r7, xo_i6, xo_r6, xo_i5, xo_r5, xo_i4, xo_r4, xo_i3, xo_r3, xo_i2, xo_r2, Option.toList_some, Option.toList_none, List.cons_append, List.nil_append, bI_t, bI_f, bI_0, bI_n0, if_true, if_false, true_and, and_true, ne_eq, not_true_eq_false, not_false_eq_true, one_ne0, reduceCtorEq]
    exact l_rpour I h4 a4 n1 n2 n3 b2 (b3 hs) N 0 h1 f _ _ (by omega) hD1 X1.2.2.1 R1 M (fun h' f' F' R' M' => K h' f' w g F' R' M')
end PO2
