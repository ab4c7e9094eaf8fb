/-! ===== 29: the reference: texts, comes, heed, missed, gain ===== -/
section RR2
variable {Dy d : Nat} {h h1 : xH} {r : Nat} {m f w g : Nat → Int32} {n : Nat → Nat} {T : Nat → Nat → Int32} {Q : Option Value → xH → Prop} {x y z : Int32}
theorem RM.sw (R : RM h.2.2.1 r m f w g) (hr : r + 20 < Dy) (hD : Dy ≤ h.1) {w2 : Nat → Int32} : RM (xset h (r + 10) (.inl (0, xis 96 w2))).2.2.1 r m f w2 g ∧ FR Dy (Pf r) h (xset h (r + 10) (.inl (0, xis 96 w2))) :=
  ⟨⟨by rw [xset_ne (by omega)]; exact R.1, by rw [xset_ne (by omega)]; exact R.2.1, xset_self, by rw [xset_ne (by omega)]; exact R.2.2.2⟩, FR.set (by omega) (Or.inl rfl) (by omega)⟩
theorem RM.sg (R : RM h.2.2.1 r m f w g) (hr : r + 20 < Dy) (hD : Dy ≤ h.1) {g2 : Nat → Int32} : RM (xset h (r + 11) (.inl (0, xis 4 g2))).2.2.1 r m f w g2 ∧ FR Dy (Pf r) h (xset h (r + 11) (.inl (0, xis 4 g2))) :=
  ⟨⟨by rw [xset_ne (by omega)]; exact R.1, by rw [xset_ne (by omega)]; exact R.2.1, by rw [xset_ne (by omega)]; exact R.2.2.1, xset_self⟩, FR.set (by omega) (Or.inr rfl) (by omega)⟩
theorem l_works (R : RM h.2.2.1 r m f w g) (M : MR n T f) {i u nn : Nat} (hi : i < 14) (hu : u ≤ 95) (hw : wfc (tcd T i) nn u) (hn : nn ≤ 4) :
    ∀ k j, j + k = u → ∀ c5, (XE (d + 1) 209 21 [.val (.ref r), .val (.int (nI i)), .val (.int (nI (erun (tcd T i) g w j).1)), .val (.int (nI u)), .val (.int (nI j)), c5] [] (xset h (r + 10) (.inl (0, xis 96 (erun (tcd T i) g w j).2))) Q ↔ Q (some (.int ((erun (tcd T i) g w u).2 0))) (xset h (r + 10) (.inl (0, xis 96 (erun (tcd T i) g w u).2)))) := by
  have e0 : ∀ e, (xset h (r + 10) e).2.2.1 r = .inr (12, modelF r m) := fun e => by rw [xset_ne (by omega)]; exact R.1
  have e1 : ∀ e, (xset h (r + 10) e).2.2.1 (r + 1) = .inl (0, xis 1482 f) := fun e => by rw [xset_ne (by omega)]; exact R.2.1
  have e2 : ∀ e, (xset h (r + 10) e).2.2.1 (r + 11) = .inl (0, xis 4 g) := fun e => by rw [xset_ne (by omega)]; exact R.2.2.2
  intro k
  induction k with
  | zero =>
    intro j hj c5
    have hju : j = u := by omega
    subst hju
    have hlt : ¬ nI j < nI j := nI_nlt (Nat.le_refl _) (by omega)
    rw [s209_21]
    simp only [s209_0, s209_1, s209_2, s209_3, s209_6, s209_8, s209_9, s209_10, s209_11, s209_12, s209_13, s209_16, s209_17, s209_18, s209_19, s209_23, s209_24, s209_27, s209_28, s209_31, s209_34, s209_36, s209_37, s209_38, s209_39, s209_41, s209_42, s209_43, s209_45, s209_47, s209_50, s209_51, s209_54, s209_55, s209_57, s209_60, s209_63, s209_65, s209_68, s209_69, s209_72, s209_74, s209_77, s209_78, s209_79, s209_80, s209_83, s209_86, s209_88, s209_90, s209_93, s209_94, s209_97, s209_98, s209_99, s209_100, s209_101, s209_104, s209_105, s209_106, s209_107, s209_108, s209_111, s209_112, s209_115, s209_116, s209_117, s209_120, s209_123, s209_124, s209_127, s209_128, s209_129, s209_130, s209_132, s209_133, s209_136, s209_137, s209_138, s209_139, s209_140, s209_141, s209_144, s209_145, s209_146, s209_149, s209_150, s209_153, s209_156, s209_157, s209_160, s209_161, s209_162, e0, xset_self, mf20, XG_1, XO_some, XV_1, xo_n, xo_i8, xo_r8, xo_i7, xo_r7, xo_i6, xo_r6, xo_i5, xo_r5, xo_i4, xo_r4, xo_i3, xo_r3, xo_i2, xo_r2, Option.toList_some, Option.toList_none, List.cons_append, List.nil_append, bI_t, bI_f, bI_0, bI_n0, if_true, if_false, true_and, and_true, ne_eq, not_true_eq_false, not_false_eq_true, one_ne0, reduceCtorEq, hlt, W0]
  | succ k ih =>
    intro j hj c5
    have hju : j < u := by omega
    have hlt : nI j < nI u := nI_lt hju (by omega)
    have hdi := dpt_le (cd := tcd T i) j
    have hx : 138 + 96 * i + j < 1482 := by omega
    have hfc : f (138 + 96 * i + j) = tcd T i j := by rw [Nat.add_assoc]; exact M.2.2.2.2.2 (96 * i + j) (by omega)
    have ih1 := ih (j + 1) (by omega)
    have hs : erun (tcd T i) g w (j + 1) = est g (tcd T i j) (erun (tcd T i) g w j) := rfl
    have ht : (erun (tcd T i) g w j).1 = dpt (tcd T i) j := erun_top j
    rw [hs] at ih1
    generalize erun (tcd T i) g w j = er at ih1 ht ⊢
    obtain ⟨tp, v⟩ := er
    dsimp only at ht ih1 ⊢
    rw [s209_21]
    simp only [s209_0, s209_1, s209_2, s209_3, s209_6, s209_8, s209_9, s209_10, s209_11, s209_12, s209_13, s209_16, s209_17, s209_18, s209_19, s209_23, s209_24, s209_27, s209_28, s209_31, s209_34, s209_36, s209_37, s209_38, s209_39, s209_41, s209_42, s209_43, s209_45, e0, e1, mf0, XG_1, XO_some, XV_1, xo_n, xo_i8, xo_r8, xo_i7, xo_r7, xo_i6, xo_r6, xo_i5, xo_r5, xo_i4, xo_r4, xo_i3, xo_r3, xo_i2, xo_r2, Option.toList_some, Option.toList_none, List.cons_append, List.nil_append, bI_t, bI_f, bI_0, bI_n0, if_true, if_false, true_and, and_true, ne_eq, not_true_eq_false, not_false_eq_true, one_ne0, reduceCtorEq, hlt, m96, i138, lA, XAm hx, hfc]
    rcases hw.1 j hju with ⟨q, hq, hc⟩ | ⟨q, hq, hc⟩ | ⟨hc, hd⟩ | ⟨hc, hd⟩
    · obtain ⟨a1, a2, a3, a4⟩ := num_a hq
      rw [hc] at ih1 ⊢
      have hS : ∀ {G : va_E → Prop} {x : Int32}, XS 0 (.inl (0, xis 96 v)) (nI tp) x G ↔ G (.inl (0, xis 96 (upd v tp x))) := fun {G x} => XS_0 (by omega) (by decide)
      simp only [s209_0, s209_1, s209_2, s209_3, s209_6, s209_8, s209_9, s209_10, s209_11, s209_12, s209_13, s209_16, s209_17, s209_18, s209_19, s209_23, s209_24, s209_27, s209_28, s209_31, s209_34, s209_36, s209_37, s209_38, s209_39, s209_41, s209_42, s209_43, s209_45, s209_47, s209_50, s209_51, s209_54, s209_55, s209_57, s209_60, s209_63, s209_65, s209_68, s209_69, s209_72, s209_74, s209_77, s209_78, s209_79, s209_80, s209_83, s209_86, s209_88, s209_90, s209_93, s209_94, s209_97, s209_98, s209_99, s209_100, s209_101, s209_104, s209_105, s209_106, s209_107, s209_108, s209_111, s209_112, s209_115, s209_116, s209_117, s209_120, s209_123, s209_124, s209_127, s209_128, s209_129, s209_130, s209_132, s209_133, s209_136, s209_137, s209_138, s209_139, s209_140, s209_141, s209_144, s209_145, s209_146, s209_149, s209_150, s209_153, s209_156, s209_157, s209_160, s209_161, s209_162, e0, xset_self, mf20, XG_1, XO_some, XV_1, xo_n, xo_i8, xo_r8, xo_i7, xo_r7, xo_i6, xo_r6, xo_i5, xo_r5, xo_i4, xo_r4, xo_i3, xo_r3, xo_i2, xo_r2, Option.toList_some, Option.toList_none, List.cons_append, List.nil_append, bI_t, bI_f, bI_0, bI_n0, if_true, if_false, true_and, and_true, ne_eq, not_true_eq_false, not_false_eq_true, one_ne0, reduceCtorEq, a1, a2, hS, xset_twice, nI_1]
      unfold est at ih1
      simp only [a1, not_false_eq_true, if_true, a2] at ih1
      exact ih1 _
    · obtain ⟨a1, a2, a3, a4, a5, a6, a7⟩ := name_a (i := q) (by omega)
      rw [hc] at ih1 ⊢
      have hS : ∀ {G : va_E → Prop} {x : Int32}, XS 0 (.inl (0, xis 96 v)) (nI tp) x G ↔ G (.inl (0, xis 96 (upd v tp x))) := fun {G x} => XS_0 (by omega) (by decide)
      simp only [s209_0, s209_1, s209_2, s209_3, s209_6, s209_8, s209_9, s209_10, s209_11, s209_12, s209_13, s209_16, s209_17, s209_18, s209_19, s209_23, s209_24, s209_27, s209_28, s209_31, s209_34, s209_36, s209_37, s209_38, s209_39, s209_41, s209_42, s209_43, s209_45, s209_47, s209_50, s209_51, s209_54, s209_55, s209_57, s209_60, s209_63, s209_65, s209_68, s209_69, s209_72, s209_74, s209_77, s209_78, s209_79, s209_80, s209_83, s209_86, s209_88, s209_90, s209_93, s209_94, s209_97, s209_98, s209_99, s209_100, s209_101, s209_104, s209_105, s209_106, s209_107, s209_108, s209_111, s209_112, s209_115, s209_116, s209_117, s209_120, s209_123, s209_124, s209_127, s209_128, s209_129, s209_130, s209_132, s209_133, s209_136, s209_137, s209_138, s209_139, s209_140, s209_141, s209_144, s209_145, s209_146, s209_149, s209_150, s209_153, s209_156, s209_157, s209_160, s209_161, s209_162, e0, e2, xset_self, mf20, mf21, XG_1, XO_some, XV_1, xo_n, xo_i8, xo_r8, xo_i7, xo_r7, xo_i6, xo_r6, xo_i5, xo_r5, xo_i4, xo_r4, xo_i3, xo_r3, xo_i2, xo_r2, Option.toList_some, Option.toList_none, List.cons_append, List.nil_append, bI_t, bI_f, bI_0, bI_n0, if_true, if_false, true_and, and_true, ne_eq, not_true_eq_false, not_false_eq_true, one_ne0, reduceCtorEq, a1, a2, a6, XA4 (show q < 4 by omega), hS, xset_twice, nI_1]
      unfold est at ih1
      simp only [a1, not_false_eq_true, if_true, a2, if_false, a7] at ih1
      exact ih1 _
    · rw [hc] at ih1 ⊢
      have hm : nI tp - 1 = nI (tp - 1) := pk_sub (b := 1) (by omega)
      have hA : ∀ {F : Int32 → Prop}, XA [0, 7] (.inl (0, xis 96 v)) (nI (tp - 1)) F ↔ F (v (tp - 1)) := fun {F} => XA_0 (by omega) (by decide)
      have hS : ∀ {G : va_E → Prop} {x : Int32}, XS 0 (.inl (0, xis 96 v)) (nI (tp - 1)) x G ↔ G (.inl (0, xis 96 (upd v (tp - 1) x))) := fun {G x} => XS_0 (by omega) (by decide)
      simp only [s209_0, s209_1, s209_2, s209_3, s209_6, s209_8, s209_9, s209_10, s209_11, s209_12, s209_13, s209_16, s209_17, s209_18, s209_19, s209_23, s209_24, s209_27, s209_28, s209_31, s209_34, s209_36, s209_37, s209_38, s209_39, s209_41, s209_42, s209_43, s209_45, s209_47, s209_50, s209_51, s209_54, s209_55, s209_57, s209_60, s209_63, s209_65, s209_68, s209_69, s209_72, s209_74, s209_77, s209_78, s209_79, s209_80, s209_83, s209_86, s209_88, s209_90, s209_93, s209_94, s209_97, s209_98, s209_99, s209_100, s209_101, s209_104, s209_105, s209_106, s209_107, s209_108, s209_111, s209_112, s209_115, s209_116, s209_117, s209_120, s209_123, s209_124, s209_127, s209_128, s209_129, s209_130, s209_132, s209_133, s209_136, s209_137, s209_138, s209_139, s209_140, s209_141, s209_144, s209_145, s209_146, s209_149, s209_150, s209_153, s209_156, s209_157, s209_160, s209_161, s209_162, e0, xset_self, mf20, XG_1, XO_some, XV_1, xo_n, xo_i8, xo_r8, xo_i7, xo_r7, xo_i6, xo_r6, xo_i5, xo_r5, xo_i4, xo_r4, xo_i3, xo_r3, xo_i2, xo_r2, Option.toList_some, Option.toList_none, List.cons_append, List.nil_append, bI_t, bI_f, bI_0, bI_n0, if_true, if_false, true_and, and_true, ne_eq, not_true_eq_false, not_false_eq_true, one_ne0, reduceCtorEq, show (-10 : Int32) < 0 by decide, hm, hA, hS, xset_twice, nI_1]
      unfold est at ih1
      simp only [show (-10 : Int32) < 0 by decide, not_true_eq_false, if_false, if_true] at ih1
      split
      next q => simp only [q, if_true] at ih1; exact ih1 _
      next q => simp only [q, if_false] at ih1; exact ih1 _
    · obtain ⟨a1, a2, a3, a4⟩ := sgn9_a hc
      have hm : nI tp + -1 = nI (tp - 1) := sb_m1 (by omega)
      have hm2 : nI (tp - 1) - 1 = nI (tp - 2) := pk_sub (b := 1) (by omega)
      have hA1 : ∀ {F : Int32 → Prop}, XA [0, 7] (.inl (0, xis 96 v)) (nI (tp - 1)) F ↔ F (v (tp - 1)) := fun {F} => XA_0 (by omega) (by decide)
      have hA2 : ∀ {F : Int32 → Prop}, XA [0, 7] (.inl (0, xis 96 v)) (nI (tp - 2)) F ↔ F (v (tp - 2)) := fun {F} => XA_0 (by omega) (by decide)
      have hS : ∀ {G : va_E → Prop} {x : Int32}, XS 0 (.inl (0, xis 96 v)) (nI (tp - 2)) x G ↔ G (.inl (0, xis 96 (upd v (tp - 2) x))) := fun {G x} => XS_0 (by omega) (by decide)
      simp only [s209_0, s209_1, s209_2, s209_3, s209_6, s209_8, s209_9, s209_10, s209_11, s209_12, s209_13, s209_16, s209_17, s209_18, s209_19, s209_23, s209_24, s209_27, s209_28, s209_31, s209_34, s209_36, s209_37, s209_38, s209_39, s209_41, s209_42, s209_43, s209_45, s209_47, s209_50, s209_51, s209_54, s209_55, s209_57, s209_60, s209_63, s209_65, s209_68, s209_69, s209_72, s209_74, s209_77, s209_78, s209_79, s209_80, s209_83, s209_86, s209_88, s209_90, s209_93, s209_94, s209_97, s209_98, s209_99, s209_100, s209_101, s209_104, s209_105, s209_106, s209_107, s209_108, s209_111, s209_112, s209_115, s209_116, s209_117, s209_120, s209_123, s209_124, s209_127, s209_128, s209_129, s209_130, s209_132, s209_133, s209_136, s209_137, s209_138, s209_139, s209_140, s209_141, s209_144, s209_145, s209_146, s209_149, s209_150, s209_153, s209_156, s209_157, s209_160, s209_161, s209_162, e0, xset_self, mf20, XG_1, XO_some, XV_1, xo_n, xo_i8, xo_r8, xo_i7, xo_r7, xo_i6, xo_r6, xo_i5, xo_r5, xo_i4, xo_r4, xo_i3, xo_r3, xo_i2, xo_r2, Option.toList_some, Option.toList_none, List.cons_append, List.nil_append, bI_t, bI_f, bI_0, bI_n0, if_true, if_false, true_and, and_true, ne_eq, not_true_eq_false, not_false_eq_true, one_ne0, reduceCtorEq, a1, a2, hm, hm2, hA1, hA2, hS, xset_twice, nI_1, c_two]
      unfold est at ih1
      simp only [a1, not_true_eq_false, if_false, a2] at ih1
      exact ih1 _
theorem r_works (R : RM h.2.2.1 r m f w g) (M : MR n T f) (I : IV n T) (hr : r + 20 < Dy) (hD : Dy ≤ h.1) {i nn u : Nat} {e : Nat → Int32} (hi : i < n 3) (hu : T 12 i = nI u) (hul : u ≤ 95) (hw : wfc (tcd T i) nn u) (hn : nn ≤ 4) (he : ∀ j, j < nn → g j = e j) (K : ∀ h' w', FR Dy (Pf r) h h' → RM h'.2.2.1 r m f w' g → Q (some (.int (evT T i e))) h') : XC (d + 2) 209 [.ref r, .int (nI i)] h Q := by
  have hnn := I.nn
  have hx : 110 + 2 * i < 1482 := by omega
  rw [e209]
  simp only [s209_0, s209_1, s209_2, s209_3, s209_6, s209_8, s209_9, s209_10, s209_11, s209_12, s209_13, s209_16, s209_17, s209_18, s209_19, R.1, R.2.1, mf0, XG_1, XO_some, XV_1, xo_n, xo_i8, xo_r8, xo_i7, xo_r7, xo_i6, xo_r6, xo_i5, xo_r5, xo_i4, xo_r4, xo_i3, xo_r3, xo_i2, xo_r2, Option.toList_some, Option.toList_none, List.cons_append, List.nil_append, bI_t, bI_f, bI_0, bI_n0, if_true, if_false, true_and, and_true, ne_eq, not_true_eq_false, not_false_eq_true, one_ne0, reduceCtorEq, l2m, i110, XAm hx, (M.2.2.2.2.1 i hi).1, z1000, (key_of I hi).2]
  rw [hu]
  have hl := l_works (d := d) (Q := Q) R M (i := i) (u := u) (nn := nn) (by omega) hul hw hn u 0 (by omega) .unset
  rw [show erun (tcd T i) g w 0 = (0, w) from rfl] at hl
  dsimp only at hl
  rw [← R.2.2.1, xset_id] at hl
  refine hl.mpr ?_
  rw [evV_eq hw hn he]
  obtain ⟨R1, F1⟩ := R.sw hr hD (w2 := (erun (tcd T i) g w u).2)
  have := K _ _ F1 R1
  unfold evT at this
  rw [hu, nI_clamp (by omega)] at this
  exact this
theorem hld99 {a b : Nat} (ha : a ≤ 24) (hb : b ≤ 24) : hld (nI a - nI b) 0 99 = mx0 (nI a - nI b) := by
  have h1 : (nI a - nI b).toInt = (a : Int) - b := pk_sub_toInt (by omega) (by omega)
  unfold hld mx0
  have e0 : (0 : Int32).toInt = 0 := by decide
  have e99 : (99 : Int32).toInt = 99 := by decide
  by_cases hc : nI a - nI b < 0
  · rw [if_pos hc, if_neg (by rw [Int32.lt_iff_toInt_lt, h1, e0] at *; omega)]
  · rw [if_neg hc, if_neg (by rw [Int32.lt_iff_toInt_lt, h1, e99]; omega)]
    by_cases h2 : 0 < nI a - nI b
    · rw [if_pos h2]
    · rw [if_neg h2]
      apply Int32.toInt_inj.mp
      rw [Int32.lt_iff_toInt_lt, h1, e0] at *
      omega
theorem lst_key (I : IV n T) {ky i : Nat} (hk : ky < 3) (hl : lst (T 10) (nI ky) (n 3) = some i) : i < n 3 ∧ ∃ u, T 12 i = nI u ∧ u ≤ 95 ∧ wfc (tcd T i) (nnk ky) u := by
  obtain ⟨h1, h2⟩ := lst_some hl
  obtain ⟨k2, u, r1, r2, r3, r4, r5⟩ := I.tx i h1
  have : k2 = ky := by rw [r2] at h2; exact (nI_eq (by omega) (by omega)).mp h2
  subst this
  exact ⟨h1, u, r3, r4, r5⟩
theorem r_comesOf (R : RM h.2.2.1 r m f w g) (M : MR n T f) (I : IV n T) (hr : r + 20 < Dy) (hD : Dy ≤ h.1) {i : Nat} (hi : i < n 0) (K : ∀ h' w' g', FR Dy (Pf r) h h' → RM h'.2.2.1 r m f w' g' → Q (some (.int (cmv n T i))) h') : XC (d + 3) 148 [.ref r, .int (nI i)] h Q := by
  have hn := I.nn
  have h10 : i < 10 := by omega
  have e1 : ∀ e, (xset h (r + 11) e).2.2.1 r = .inr (12, modelF r m) := fun e => by rw [xset_ne (by omega)]; exact R.1
  have e2 : ∀ e, (xset h (r + 11) e).2.2.1 (r + 1) = .inl (0, xis 1482 f) := fun e => by rw [xset_ne (by omega)]; exact R.2.1
  have rg : ∀ {d : Nat} {Q : Option Value → xH → Prop} {g2 : Nat → Int32}, (XC (d + 1) 139 [.ref r, .int (nI i), .int 0] (xset h (r + 11) (.inl (0, xis 4 g2))) Q ↔ Q (some (.int (T 1 i))) (xset h (r + 11) (.inl (0, xis 4 g2)))) ∧ (XC (d + 1) 139 [.ref r, .int (nI i), .int 1] (xset h (r + 11) (.inl (0, xis 4 g2))) Q ↔ Q (some (.int (T 2 i))) (xset h (r + 11) (.inl (0, xis 4 g2)))) := fun {d Q g2} => ⟨r_house0 (R.sg hr hD).1 M h10, r_house1 (R.sg hr hD).1 M h10⟩
  obtain ⟨pt, hp1, hp2⟩ := I.pt
  obtain ⟨a, ha1, ha2⟩ := ldc_le (T 7) (nI i) NONE (2 * n 1)
  rw [e148]
  simp only [s148_0, s148_1, s148_2, s148_3, s148_4, s148_7, s148_8, s148_9, s148_10, s148_13, s148_14, s148_15, s148_18, s148_19, s148_20, s148_21, s148_22, s148_25, s148_26, s148_27, s148_30, s148_31, s148_32, s148_33, s148_34, s148_37, s148_38, s148_39, s148_42, s148_43, s148_44, s148_45, s148_46, s148_49, s148_50, s148_51, s148_54, s148_56, s148_57, s148_58, s148_59, s148_60, s148_61, s148_64, s148_65, s148_66, s148_67, s148_70, s148_71, s148_73, s148_74, s148_76, s148_77, s148_78, s148_81, s148_83, s148_84, s148_85, s148_86, s148_88, s148_91, s148_92, s148_93, s148_95, s148_96, s148_99, s148_101, s148_104, s148_105, s148_106, s148_109, s148_110, s148_112, s148_115, R.1, R.2.1, R.2.2.2, e1, e2, xset_self, mf0, mf21, XG_1, XO_some, XV_1, xo_n, xo_i8, xo_r8, xo_i7, xo_r7, xo_i6, xo_r6, xo_i5, xo_r5, xo_i4, xo_r4, xo_i3, xo_r3, xo_i2, xo_r2, Option.toList_some, Option.toList_none, List.cons_append, List.nil_append, bI_t, bI_f, bI_0, bI_n0, if_true, if_false, true_and, and_true, ne_eq, not_true_eq_false, not_false_eq_true, one_ne0, reduceCtorEq, r_load R M I (show i < 2 ^ 31 by omega), r_counts R M I, r_house0 R M h10, fun {d Q g2} => (rg (d := d) (Q := Q) (g2 := g2)).1, fun {d Q g2} => (rg (d := d) (Q := Q) (g2 := g2)).2, F0s, F1s, F2s, F3s, xset_twice, A6, M.1.2.2.2.2.2.2.1, z100, c_within2]
  obtain ⟨R1, F1⟩ := R.sg hr hD (g2 := upd (upd (upd (upd g 0 (T 1 i)) 1 (T 2 i)) 2 (ldv n T i)) 3 (T 0 4))
  cases hl : lst (T 10) 0 (n 3) with
  | none =>
    have := K _ _ _ F1 R1
    unfold cmv at this
    rw [hl] at this
    simp only [oI, show (-1 : Int32) < 0 by decide, if_true]
    rw [hp2, show ldv n T i = nI a from ha2, hld99 (by omega) hp1]
    rw [hp2, show ldv n T i = nI a from ha2] at this
    exact this
  | some k =>
    obtain ⟨hk, u, q1, q2, q3⟩ := lst_key I (ky := 0) (by decide) hl
    simp only [oI, nI_pos (show k < 2 ^ 31 by omega), if_false]
    refine r_works R1 M I hr (by rw [F1.1]; exact hD) hk q1 q2 q3 (by decide) (e := env4 (T 1 i) (T 2 i) (ldv n T i) (T 0 4)) (fun j hj => ?_) fun h2 w2 F2 R2 => ?_
    · have hj4 : j < 4 := hj
      rcases (show j = 0 ∨ j = 1 ∨ j = 2 ∨ j = 3 by omega) with rfl | rfl | rfl | rfl <;> rfl
    · simp only [s148_0, s148_1, s148_2, s148_3, s148_4, s148_7, s148_8, s148_9, s148_10, s148_13, s148_14, s148_15, s148_18, s148_19, s148_20, s148_21, s148_22, s148_25, s148_26, s148_27, s148_30, s148_31, s148_32, s148_33, s148_34, s148_37, s148_38, s148_39, s148_42, s148_43, s148_44, s148_45, s148_46, s148_49, s148_50, s148_51, s148_54, s148_56, s148_57, s148_58, s148_59, s148_60, s148_61, s148_64, s148_65, s148_66, s148_67, s148_70, s148_71, s148_73, s148_74, s148_76, s148_77, s148_78, s148_81, s148_83, s148_84, s148_85, s148_86, s148_88, s148_91, s148_92, s148_93, s148_95, s148_96, s148_99, s148_101, s148_104, s148_105, s148_106, s148_109, s148_110, s148_112, s148_115, XG_1, XO_some, XV_1, xo_n, xo_i8, xo_r8, xo_i7, xo_r7, xo_i6, xo_r6, xo_i5, xo_r5, xo_i4, xo_r4, xo_i3, xo_r3, xo_i2, xo_r2, Option.toList_some, Option.toList_none, List.cons_append, List.nil_append, bI_t, bI_f, bI_0, bI_n0, if_true, if_false, true_and, and_true, ne_eq, not_true_eq_false, not_false_eq_true, one_ne0, reduceCtorEq, c_within2]
      have := K h2 _ _ (F1.trans F2) R2
      unfold cmv at this
      rw [hl] at this
      exact this
theorem hld_rng {x : Int32} {c : Nat} (hc : c < 2 ^ 31) : ∃ q, q ≤ c ∧ hld x 0 (nI c) = nI q := by
  unfold hld
  split
  next => exact ⟨0, Nat.zero_le _, rfl⟩
  next h1 =>
    split
    next => exact ⟨c, Nat.le_refl _, rfl⟩
    next h2 =>
      obtain ⟨j, hj, e⟩ := nI_of h1
      exact ⟨j, by rw [e] at h2; exact Nat.not_lt.mp (fun q => h2 (nI_lt q hj)), e⟩
theorem cmv_rng {i : Nat} : ∃ c, c ≤ 100 ∧ cmv n T i = nI c := by
  unfold cmv
  split
  · exact hld_rng (c := 100) (by decide)
  · exact hld_rng (c := 100) (by decide)
theorem mx30 {c : Nat} (hc : c ≤ 100) : hld (nI c - 30) 0 100 = mx0 (nI c - 30) ∧ ∃ q, q ≤ 100 ∧ mx0 (nI c - 30) = nI q := by
  have h1 : (nI c - 30).toInt = (c : Int) - 30 := pk_sub_toInt (b := 30) (by omega) (by omega)
  have e0 : (0 : Int32).toInt = 0 := by decide
  have e99 : (100 : Int32).toInt = 100 := by decide
  unfold hld mx0
  by_cases hlt : c < 30
  · have a1 : nI c - 30 < 0 := by rw [Int32.lt_iff_toInt_lt, h1, e0]; omega
    have a2 : ¬ 0 < nI c - 30 := by rw [Int32.lt_iff_toInt_lt, h1, e0]; omega
    rw [if_pos a1, if_neg a2]
    exact ⟨rfl, 0, by omega, rfl⟩
  · have e : nI c - 30 = nI (c - 30) := pk_sub (b := 30) (by omega)
    have a1 : ¬ nI c - 30 < 0 := by rw [Int32.lt_iff_toInt_lt, h1, e0]; omega
    have a2 : ¬ 100 < nI c - 30 := by rw [Int32.lt_iff_toInt_lt, h1, e99]; omega
    rw [if_neg a1, if_neg a2]
    by_cases a3 : 0 < nI c - 30
    · rw [if_pos a3]; exact ⟨rfl, c - 30, by omega, e⟩
    · rw [if_neg a3]
      have : nI c - 30 = 0 := by
        apply Int32.toInt_inj.mp
        rw [Int32.lt_iff_toInt_lt, h1, e0] at a3
        rw [h1, e0]
        omega
      exact ⟨this, 0, by omega, rfl⟩
theorem hdv_rng {kn home hs c : Nat} (hc : c ≤ 100) : ∃ q, q ≤ 100 ∧ hdv T kn home hs (nI c) = nI q := by
  unfold hdv
  split
  · exact ⟨c / 2, by omega, l2d (by omega)⟩
  · split
    · split
      · exact ⟨0, by omega, rfl⟩
      · exact ⟨c, hc, rfl⟩
    · split
      · exact (mx30 hc).2
      · exact ⟨c, hc, rfl⟩
theorem r_heedOf (R : RM h.2.2.1 r m f w g) (M : MR n T f) (I : IV n T) (hr : r + 20 < Dy) (hD : Dy ≤ h.1) {i hs : Nat} (hi : i < n 2) (hs0 : hs < n 0) (K : ∀ h' w' g', FR Dy (Pf r) h h' → RM h'.2.2.1 r m f w' g' → Q (some (.int (hdv T (knd T i) (hom T i) hs (cmv n T hs)))) h') : XC (d + 4) 167 [.ref r, .int (nI i), .int (nI hs)] h Q := by
  have hn := I.nn
  obtain ⟨⟨kn, hk, h8⟩, home, hh, h9⟩ := I.th i hi
  obtain ⟨c, hc, hcm⟩ := cmv_rng (n := n) (T := T) (i := hs)
  rw [e167]
  simp only [s167_0, s167_1, s167_2, R.1, XG_1, XO_some, XV_1, xo_n, xo_i8, xo_r8, xo_i7, xo_r7, xo_i6, xo_r6, xo_i5, xo_r5, xo_i4, xo_r4, xo_i3, xo_r3, xo_i2, xo_r2, Option.toList_some, Option.toList_none, List.cons_append, List.nil_append, bI_t, bI_f, bI_0, bI_n0, if_true, if_false, true_and, and_true, ne_eq, not_true_eq_false, not_false_eq_true, one_ne0, reduceCtorEq]
  refine r_comesOf R M I hr hD hs0 fun h1 w1 g1 F1 R1 => ?_
  have K1 := K h1 w1 g1 F1 R1
  have hkn : knd T i = kn := by show (T 8 i).toNatClampNeg = kn; rw [h8, nI_clamp (by omega)]
  have hho : hom T i = home := by show (T 9 i).toNatClampNeg = home; rw [h9, nI_clamp (by omega)]
  rw [hkn, hho] at K1
  simp only [s167_5, s167_6, s167_7, s167_8, s167_11, s167_13, s167_14, s167_15, s167_18, R1.1, XG_1, XO_some, XV_1, xo_n, xo_i8, xo_r8, xo_i7, xo_r7, xo_i6, xo_r6, xo_i5, xo_r5, xo_i4, xo_r4, xo_i3, xo_r3, xo_i2, xo_r2, Option.toList_some, Option.toList_none, List.cons_append, List.nil_append, bI_t, bI_f, bI_0, bI_n0, if_true, if_false, true_and, and_true, ne_eq, not_true_eq_false, not_false_eq_true, one_ne0, reduceCtorEq, r_homeOf R1 M I hi, r_kindOf R1 M I hi, xswi, h8, h9]
  rcases (show kn = 0 ∨ kn = 1 ∨ kn = 2 ∨ kn = 3 ∨ kn = 4 ∨ kn = 5 by omega) with rfl | rfl | rfl | rfl | rfl | rfl
  · rw [if_neg (by decide), if_neg (by decide), if_neg (by decide), if_neg (by decide)]
    simp only [s167_0, s167_1, s167_2, s167_5, s167_6, s167_7, s167_8, s167_11, s167_13, s167_14, s167_15, s167_18, s167_48, s167_49, s167_50, s167_51, s167_52, s167_53, s167_55, s167_58, s167_59, s167_61, s167_62, s167_65, s167_68, s167_69, s167_72, s167_73, s167_74, s167_75, s167_77, s167_78, s167_79, s167_81, s167_84, s167_85, s167_86]; exact K1
  · rw [if_neg (by decide), if_neg (by decide), if_neg (by decide), if_neg (by decide)]
    simp only [s167_0, s167_1, s167_2, s167_5, s167_6, s167_7, s167_8, s167_11, s167_13, s167_14, s167_15, s167_18, s167_48, s167_49, s167_50, s167_51, s167_52, s167_53, s167_55, s167_58, s167_59, s167_61, s167_62, s167_65, s167_68, s167_69, s167_72, s167_73, s167_74, s167_75, s167_77, s167_78, s167_79, s167_81, s167_84, s167_85, s167_86]; exact K1
  · rw [if_pos (by decide)]
    simp only [s167_0, s167_1, s167_2, s167_5, s167_6, s167_7, s167_8, s167_11, s167_13, s167_14, s167_15, s167_18, s167_48, s167_49, s167_50, s167_51, s167_52, s167_53, s167_55, s167_58, s167_59, s167_61, s167_62, s167_65, s167_68, s167_69, s167_72, s167_73, s167_74, s167_75, s167_77, s167_78, s167_79, s167_81, s167_84, s167_85, s167_86, z2, XG_1, XO_some, XV_1, xo_n, xo_i8, xo_r8, xo_i7, xo_r7, xo_i6, xo_r6, xo_i5, xo_r5, xo_i4, xo_r4, xo_i3, xo_r3, xo_i2, xo_r2, Option.toList_some, Option.toList_none, List.cons_append, List.nil_append, bI_t, bI_f, bI_0, bI_n0, if_true, if_false, true_and, and_true, ne_eq, not_true_eq_false, not_false_eq_true, one_ne0, reduceCtorEq]; exact K1
  · rw [if_neg (by decide), if_pos (by decide)]
    unfold hdv at K1
    rw [if_neg (by decide), if_pos rfl] at K1
    simp only [s167_0, s167_1, s167_2, s167_5, s167_6, s167_7, s167_8, s167_11, s167_13, s167_14, s167_15, s167_18, s167_48, s167_49, s167_50, s167_51, s167_52, s167_53, s167_55, s167_58, s167_59, s167_61, s167_62, s167_65, s167_68, s167_69, s167_72, s167_73, s167_74, s167_75, s167_77, s167_78, s167_79, s167_81, s167_84, s167_85, s167_86, XG_1, XO_some, XV_1, xo_n, xo_i8, xo_r8, xo_i7, xo_r7, xo_i6, xo_r6, xo_i5, xo_r5, xo_i4, xo_r4, xo_i3, xo_r3, xo_i2, xo_r2, Option.toList_some, Option.toList_none, List.cons_append, List.nil_append, bI_t, bI_f, bI_0, bI_n0, if_true, if_false, true_and, and_true, ne_eq, not_true_eq_false, not_false_eq_true, one_ne0, reduceCtorEq, R1.1, nI_eq (show hs < 2 ^ 31 by omega) (show home < 2 ^ 31 by omega), r_doAgree R1 M (show home < 10 by omega)]
    by_cases e : hs = home
    · rw [if_pos (Or.inl e)] at K1
      simp only [e, if_true]; exact K1
    · simp only [e, if_false]
      rw [I.sy home hs hh hs0]
      cases hag : agB (T 3) hs home with
      | true => rw [if_pos (Or.inr hag)] at K1; simp only [Bool.true_eq_false, if_false]; exact K1
      | false => rw [if_neg (by rw [hag]; simp [e])] at K1; simp only [if_true]; exact K1
  · rw [if_neg (by decide), if_neg (by decide), if_pos (by decide)]
    simp only [s167_0, s167_1, s167_2, s167_5, s167_6, s167_7, s167_8, s167_11, s167_13, s167_14, s167_15, s167_18, s167_48, s167_49, s167_50, s167_51, s167_52, s167_53, s167_55, s167_58, s167_59, s167_61, s167_62, s167_65, s167_68, s167_69, s167_72, s167_73, s167_74, s167_75, s167_77, s167_78, s167_79, s167_81, s167_84, s167_85, s167_86, z2, XG_1, XO_some, XV_1, xo_n, xo_i8, xo_r8, xo_i7, xo_r7, xo_i6, xo_r6, xo_i5, xo_r5, xo_i4, xo_r4, xo_i3, xo_r3, xo_i2, xo_r2, Option.toList_some, Option.toList_none, List.cons_append, List.nil_append, bI_t, bI_f, bI_0, bI_n0, if_true, if_false, true_and, and_true, ne_eq, not_true_eq_false, not_false_eq_true, one_ne0, reduceCtorEq]; exact K1
  · rw [if_neg (by decide), if_neg (by decide), if_neg (by decide), if_pos (by decide)]
    simp only [s167_0, s167_1, s167_2, s167_5, s167_6, s167_7, s167_8, s167_11, s167_13, s167_14, s167_15, s167_18, s167_48, s167_49, s167_50, s167_51, s167_52, s167_53, s167_55, s167_58, s167_59, s167_61, s167_62, s167_65, s167_68, s167_69, s167_72, s167_73, s167_74, s167_75, s167_77, s167_78, s167_79, s167_81, s167_84, s167_85, s167_86, XG_1, XO_some, XV_1, xo_n, xo_i8, xo_r8, xo_i7, xo_r7, xo_i6, xo_r6, xo_i5, xo_r5, xo_i4, xo_r4, xo_i3, xo_r3, xo_i2, xo_r2, Option.toList_some, Option.toList_none, List.cons_append, List.nil_append, bI_t, bI_f, bI_0, bI_n0, if_true, if_false, true_and, and_true, ne_eq, not_true_eq_false, not_false_eq_true, one_ne0, reduceCtorEq, c_within2]
    rw [hcm, (mx30 hc).1, ← hcm]
    exact K1
theorem r_missedAt (R : RM h.2.2.1 r m f w g) (M : MR n T f) (I : IV n T) (hr : r + 20 < Dy) (hD : Dy ≤ h.1) {i dd : Nat} (hi : i < n 2) (hd : dd < n 1) (K : ∀ h' w' g', FR Dy (Pf r) h h' → RM h'.2.2.1 r m f w' g' → Q (some (.int (msT n T i dd))) h') : XC (d + 5) 168 [.ref r, .int (nI i), .int (nI dd)] h Q := by
  have hn := I.nn
  have h12 : dd < 12 := by omega
  have step : ∀ (b : Nat) (acc : Int32) (c5 : Slot) (h : xH) (w g : Nat → Int32), b < 2 → Dy ≤ h.1 → RM h.2.2.1 r m f w g → (∀ h' w' g' c5, FR Dy (Pf r) h h' → RM h'.2.2.1 r m f w' g' → XE (d + 4) 168 5 [.val (.ref r), .val (.int (nI i)), .val (.int (nI dd)), .val (.int (acc * bfc n T (knd T i) (hom T i) (2 * dd + b))), .val (.int (nI (b + 1))), c5] [] h' Q) → XE (d + 4) 168 5 [.val (.ref r), .val (.int (nI i)), .val (.int (nI dd)), .val (.int acc), .val (.int (nI b)), c5] [] h Q := by
    intro b acc c5 h w g hb hD R K
    have hlt : nI b < 2 := nI_lt (b := 2) hb (by decide)
    rw [s168_5]
    simp only [s168_0, s168_1, s168_2, s168_3, s168_7, s168_8, s168_11, s168_12, s168_13, s168_14, s168_16, s168_17, s168_20, s168_22, s168_23, s168_25, s168_28, s168_30, s168_33, s168_35, s168_36, s168_37, s168_39, s168_42, s168_43, s168_44, s168_45, s168_48, s168_51, s168_52, R.1, XG_1, XO_some, XV_1, xo_n, xo_i8, xo_r8, xo_i7, xo_r7, xo_i6, xo_r6, xo_i5, xo_r5, xo_i4, xo_r4, xo_i3, xo_r3, xo_i2, xo_r2, Option.toList_some, Option.toList_none, List.cons_append, List.nil_append, bI_t, bI_f, bI_0, bI_n0, if_true, if_false, true_and, and_true, ne_eq, not_true_eq_false, not_false_eq_true, one_ne0, reduceCtorEq, hlt, i3, r_doorb R M h12 hb]
    unfold bfc at K
    rcases benc_neg (I.be (2 * dd + b) (by omega)) (show n 0 < 2 ^ 31 by omega) with ⟨q1, q2, q3⟩ | ⟨j, hj, q1, q2, q3, q4⟩
    · simp only [q1, if_true, nI_1]
      rw [q3] at K
      exact K h w g _ FR.refl R
    · simp only [q2, if_false]
      rw [q3]
      refine r_heedOf R M I hr hD hi hj fun h1 w1 g1 F1 R1 => ?_
      simp only [s168_0, s168_1, s168_2, s168_3, s168_7, s168_8, s168_11, s168_12, s168_13, s168_14, s168_16, s168_17, s168_20, s168_22, s168_23, s168_25, s168_28, s168_30, s168_33, s168_35, s168_36, s168_37, s168_39, s168_42, s168_43, s168_44, s168_45, s168_48, s168_51, s168_52, XG_1, XO_some, XV_1, xo_n, xo_i8, xo_r8, xo_i7, xo_r7, xo_i6, xo_r6, xo_i5, xo_r5, xo_i4, xo_r4, xo_i3, xo_r3, xo_i2, xo_r2, Option.toList_some, Option.toList_none, List.cons_append, List.nil_append, bI_t, bI_f, bI_0, bI_n0, if_true, if_false, true_and, and_true, ne_eq, not_true_eq_false, not_false_eq_true, one_ne0, reduceCtorEq, nI_1]
      rw [q4, q1, nI_clamp (by omega)] at K
      exact K h1 w1 g1 _ F1 R1
  rw [e168]
  simp only [s168_0, s168_1, s168_2, s168_3]
  refine step 0 1 _ h w g (by decide) hD R fun h1 w1 g1 c5 F1 R1 => ?_
  refine step 1 _ _ h1 w1 g1 (by decide) (by rw [F1.1]; exact hD) R1 fun h2 w2 g2 c5 F2 R2 => ?_
  rw [s168_5]
  simp only [s168_0, s168_1, s168_2, s168_3, s168_7, s168_8, s168_11, s168_12, s168_13, s168_14, s168_16, s168_17, s168_20, s168_22, s168_23, s168_25, s168_28, s168_30, s168_33, s168_35, s168_36, s168_37, s168_39, s168_42, s168_43, s168_44, s168_45, s168_48, s168_51, s168_52, XG_1, XO_some, XV_1, xo_n, xo_i8, xo_r8, xo_i7, xo_r7, xo_i6, xo_r6, xo_i5, xo_r5, xo_i4, xo_r4, xo_i3, xo_r3, xo_i2, xo_r2, Option.toList_some, Option.toList_none, List.cons_append, List.nil_append, bI_t, bI_f, bI_0, bI_n0, if_true, if_false, true_and, and_true, ne_eq, not_true_eq_false, not_false_eq_true, one_ne0, reduceCtorEq, show ¬ nI (1 + 1) < 2 by decide]
  exact K h2 w2 g2 (F1.trans F2) R2
theorem bfc_rng {kn home j : Nat} : ∃ q, q ≤ 100 ∧ bfc n T kn home j = nI q := by
  unfold bfc
  split
  · obtain ⟨c, hc, e⟩ := cmv_rng (n := n) (T := T) (i := (T 7 j).toNatClampNeg)
    rw [e]
    obtain ⟨q, hq, e2⟩ := hdv_rng (T := T) (kn := kn) (home := home) (hs := (T 7 j).toNatClampNeg) hc
    rw [e2]
    exact ⟨100 - q, by omega, pk_sub (a := 100) hq⟩
  · exact ⟨100, by omega, rfl⟩
theorem msd_rng {kn home dd : Nat} : ∃ q, q ≤ 10000 ∧ msd n T kn home dd = nI q := by
  obtain ⟨a, ha, e1⟩ := bfc_rng (n := n) (T := T) (kn := kn) (home := home) (j := 2 * dd)
  obtain ⟨b, hb, e2⟩ := bfc_rng (n := n) (T := T) (kn := kn) (home := home) (j := 2 * dd + 1)
  unfold msd
  rw [e1, e2, show (1 : Int32) = nI 1 from rfl, pk_mul, pk_mul]
  exact ⟨1 * a * b, by have := Nat.mul_le_mul ha hb; rw [Nat.one_mul]; exact this, rfl⟩
theorem gain_plain (I : IV n T) {dd q : Nat} (hd : dd < n 1) (hq : q ≤ 10000) : hld (T 5 dd * nI q / 10000) 0 99999 = T 5 dd * nI q / 10000 := by
  obtain ⟨a, ha, e⟩ := I.wo dd hd
  have h1 := Nat.mul_le_mul ha hq
  rw [e, pk_mul, show (10000 : Int32) = nI 10000 from rfl, pk_div (by omega) (by decide) (by decide)]
  unfold hld
  rw [if_neg (nI_pos (by omega)), if_neg (show ¬ (99999 : Int32) < nI (a * q / 10000) from nI_nlt (a := 99999) (by omega) (by decide))]
theorem r_gainAt (R : RM h.2.2.1 r m f w g) (M : MR n T f) (I : IV n T) (hr : r + 20 < Dy) (hD : Dy ≤ h.1) {i dd : Nat} (hi : i < n 2) (hd : dd < n 1) (K : ∀ h' w' g', FR Dy (Pf r) h h' → RM h'.2.2.1 r m f w' g' → Q (some (.int (gnT n T i dd))) h') : XC (d + 6) 169 [.ref r, .int (nI i), .int (nI dd)] h Q := by
  have hn := I.nn
  have h12 : dd < 12 := by omega
  obtain ⟨q, hq, hms⟩ := msd_rng (n := n) (T := T) (kn := knd T i) (home := hom T i) (dd := dd)
  rw [e169]
  simp only [s169_0, s169_1, s169_2, s169_3, R.1, XG_1, XO_some, XV_1, xo_n, xo_i8, xo_r8, xo_i7, xo_r7, xo_i6, xo_r6, xo_i5, xo_r5, xo_i4, xo_r4, xo_i3, xo_r3, xo_i2, xo_r2, Option.toList_some, Option.toList_none, List.cons_append, List.nil_append, bI_t, bI_f, bI_0, bI_n0, if_true, if_false, true_and, and_true, ne_eq, not_true_eq_false, not_false_eq_true, one_ne0, reduceCtorEq]
  refine r_missedAt R M I hr hD hi hd fun h1 w1 g1 F1 R1 => ?_
  have hD1 : Dy ≤ h1.1 := by rw [F1.1]; exact hD
  have e1 : ∀ e, (xset h1 (r + 11) e).2.2.1 r = .inr (12, modelF r m) := fun e => by rw [xset_ne (by omega)]; exact R1.1
  have rg : ∀ {d : Nat} {Q : Option Value → xH → Prop} {g2 : Nat → Int32}, XC (d + 1) 140 [.ref r, .int (nI dd), .int 1] (xset h1 (r + 11) (.inl (0, xis 4 g2))) Q ↔ Q (some (.int (T 5 dd))) (xset h1 (r + 11) (.inl (0, xis 4 g2))) := fun {d Q g2} => r_door1 (R1.sg hr hD1).1 M h12
  obtain ⟨R2, F2⟩ := R1.sg hr hD1 (g2 := upd (upd g1 0 (T 5 dd)) 1 (msT n T i dd))
  simp only [s169_0, s169_1, s169_2, s169_3, s169_6, s169_7, s169_8, s169_9, s169_12, s169_14, s169_15, s169_18, s169_19, s169_20, s169_21, s169_22, s169_25, s169_26, s169_27, s169_30, s169_31, s169_32, s169_33, s169_35, s169_38, s169_39, s169_40, s169_41, s169_44, s169_45, s169_46, s169_49, s169_50, s169_53, s169_54, s169_56, s169_59, s169_60, s169_62, s169_65, R1.1, R1.2.2.2, e1, xset_self, mf21, XG_1, XO_some, XV_1, xo_n, xo_i8, xo_r8, xo_i7, xo_r7, xo_i6, xo_r6, xo_i5, xo_r5, xo_i4, xo_r4, xo_i3, xo_r3, xo_i2, xo_r2, Option.toList_some, Option.toList_none, List.cons_append, List.nil_append, bI_t, bI_f, bI_0, bI_n0, if_true, if_false, true_and, and_true, ne_eq, not_true_eq_false, not_false_eq_true, one_ne0, reduceCtorEq, r_counts R1 M I, r_door1 R1 M h12, rg, F0s, F1s, xset_twice, z10000]
  cases hl : lst (T 10) 1 (n 3) with
  | none =>
    have := K _ _ _ (F1.trans F2) R2
    unfold gnT gnv at this
    rw [hl] at this
    simp only [oI, show (-1 : Int32) < 0 by decide, if_true]
    dsimp only at this
    rw [show msT n T i dd = nI q from hms, gain_plain I hd hq] at this
    rw [show msT n T i dd = nI q from hms]
    exact this
  | some k =>
    obtain ⟨hk, u, q1, q2, q3⟩ := lst_key I (ky := 1) (by decide) hl
    simp only [oI, nI_pos (show k < 2 ^ 31 by omega), if_false]
    refine r_works R2 M I hr hD1 hk q1 q2 q3 (by decide) (e := env4 (T 5 dd) (msT n T i dd) 0 0) (fun j hj => ?_) fun h3 w3 F3 R3 => ?_
    · have hj4 : j < 2 := hj
      rcases (show j = 0 ∨ j = 1 by omega) with rfl | rfl <;> rfl
    · simp only [s169_0, s169_1, s169_2, s169_3, s169_6, s169_7, s169_8, s169_9, s169_12, s169_14, s169_15, s169_18, s169_19, s169_20, s169_21, s169_22, s169_25, s169_26, s169_27, s169_30, s169_31, s169_32, s169_33, s169_35, s169_38, s169_39, s169_40, s169_41, s169_44, s169_45, s169_46, s169_49, s169_50, s169_53, s169_54, s169_56, s169_59, s169_60, s169_62, s169_65, XG_1, XO_some, XV_1, xo_n, xo_i8, xo_r8, xo_i7, xo_r7, xo_i6, xo_r6, xo_i5, xo_r5, xo_i4, xo_r4, xo_i3, xo_r3, xo_i2, xo_r2, Option.toList_some, Option.toList_none, List.cons_append, List.nil_append, bI_t, bI_f, bI_0, bI_n0, if_true, if_false, true_and, and_true, ne_eq, not_true_eq_false, not_false_eq_true, one_ne0, reduceCtorEq, c_within2]
      have := K h3 _ _ (F1.trans (F2.trans F3)) R3
      unfold gnT gnv at this
      rw [hl] at this
      exact this
end RR2
