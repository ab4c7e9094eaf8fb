/-! ===== 40: worst ===== -/
def wst (n : Nat → Nat) (T : Nat → Nat → Int32) : Nat → Option (Nat × Nat)
  | 0 => none
  | i + 1 => match gst (T 4) (gnT n T i) (T 9 i) (n 1) with
    | none => wst n T i
    | some dd => match wst n T i with
      | none => some (i, dd)
      | some q => if gnT n T q.1 q.2 < gnT n T i dd then some (i, dd) else some q
def wsB (o : Option (Nat × Nat)) : Int32 := match o with
  | none => NONE
  | some q => nI (12 * q.1 + q.2)
def wsI (o : Option (Nat × Nat)) : Int32 := match o with
  | none => -1
  | some q => nI q.1
def wsD (o : Option (Nat × Nat)) : Int32 := match o with
  | none => -1
  | some q => nI q.2
def wsG (n : Nat → Nat) (T : Nat → Nat → Int32) (o : Option (Nat × Nat)) : Int32 := match o with
  | none => -1
  | some q => gnT n T q.1 q.2
section PUB8
variable {Dy d b t r : Nat} {h : xH} {n : Nat → Nat} {T : Nat → Nat → Int32} {p : Nat → Nat → Option Nat} {s : Nat → Nat → Int32} {Q : Option Value → xH → Prop} {x y z : Int32} {m f w g : Nat → Int32}
theorem wst_s {i : Nat} : wst n T (i + 1) = match gst (T 4) (gnT n T i) (T 9 i) (n 1) with
    | none => wst n T i
    | some dd => match wst n T i with
      | none => some (i, dd)
      | some q => if gnT n T q.1 q.2 < gnT n T i dd then some (i, dd) else some q := rfl
theorem wst_lt : ∀ i q, wst n T i = some q → q.1 < i ∧ q.2 < n 1 := by
  intro i
  induction i with
  | zero => intro q h; cases h
  | succ i ih =>
    intro q h
    rw [wst_s] at h
    cases hg : gst (T 4) (gnT n T i) (T 9 i) (n 1) with
    | none =>
      rw [hg] at h
      dsimp only at h
      obtain ⟨a, c⟩ := ih q h
      exact ⟨by omega, c⟩
    | some dd =>
      have hdd := (gst_lt hg).1
      rw [hg] at h
      dsimp only at h
      cases hw : wst n T i with
      | none => rw [hw] at h; dsimp only at h; cases h; exact ⟨by show i < i + 1; omega, hdd⟩
      | some q2 =>
        rw [hw] at h
        dsimp only at h
        split at h
        · cases h; exact ⟨by show i < i + 1; omega, hdd⟩
        · have e : q2 = q := Option.some.inj h
          obtain ⟨a, c⟩ := ih q2 hw
          rw [← e]
          exact ⟨by omega, c⟩
theorem gnT_rng (n : Nat → Nat) (T : Nat → Nat → Int32) (i dd : Nat) : ∃ q, q ≤ 99999 ∧ gnT n T i dd = nI q := by
  unfold gnT gnv
  split
  · exact hld_rng (c := 99999) (by decide)
  · exact hld_rng (c := 99999) (by decide)
theorem l_worst (R : RT Dy h.2.2.1 t n T p s) (I : IV n T) (W : wei n T s) {l : List Value} (hO : h.2.2.1 b = .inr (11, .ref t :: l)) : ∀ k i c4 c5, i + k = n 2 → (∀ c4 c5, XE (d + 11) 100 134 [.val (.ref b), .val (.int x), .val (.int (wsB (wst n T (n 2)))), .val (.int (nI (n 2))), c4, c5] [] h Q) → XE (d + 11) 100 24 [.val (.ref b), .val (.int x), .val (.int (wsB (wst n T i))), .val (.int (nI i)), c4, c5] [] h Q := by
  have hn := I.nn
  intro k
  induction k with
  | zero =>
    intro i c4 c5 hi K
    have hlt : ¬ nI (n 2) < nI (n 2) := Int32.lt_irrefl
    rw [show i = n 2 by omega, s100_24]
    simp only [s100_0, s100_1, s100_2, s100_3, s100_6, s100_9, s100_11, s100_12, s100_13, s100_16, s100_19, s100_21, s100_22, s100_23, s100_25, s100_26, s100_29, s100_32, s100_35, s100_36, s100_39, s100_40, s100_43, s100_43n, s100_45, s100_45n, s100_47, s100_47n, s100_50, s100_52, s100_55, s100_56, s100_59, s100_59n, s100_61, s100_64, s100_65, s100_68, s100_71, s100_72, s100_74, s100_75, s100_78, s100_80, s100_82, s100_84, s100_87, s100_88, s100_90, s100_93, s100_94, s100_97, s100_100, s100_101, s100_103, s100_104, s100_106, s100_107, s100_108, s100_109, s100_112, s100_115, s100_116, s100_117, s100_120, s100_121, s100_123, s100_124, s100_126, s100_127, s100_128, s100_131, hO, o0, R.o, tf2, hlt, XG_1, XO_some, XV_1, xo_n, xo_i8, xo_r8, xo_i7, xo_r7, xo_i6, xo_r6, xo_i5, xo_r5, xo_i4, xo_r4, xo_i3, xo_r3, xo_i2, xo_r2, Option.toList_some, Option.toList_none, List.cons_append, List.nil_append, bI_t, bI_f, bI_0, bI_n0, if_true, if_false, true_and, and_true, ne_eq, not_true_eq_false, not_false_eq_true, one_ne0, reduceCtorEq]
    exact K _ _
  | succ k ih =>
    intro i c4 c5 hi K
    have hlt : nI i < nI (n 2) := nI_lt (by omega) (by omega)
    have hi2 : i < n 2 := by omega
    obtain ⟨a, kn, home, pa, ha, hk, hh, h8, h9, -, -, -, hA⟩ := th_at R I hi2
    have hX1 : ∀ {F : Value → Prop}, XG [0, 1, 2, 3, 4, 9] 1 (.inr (kcl kn, [.int (nI kn), .int (nI home)])) F ↔ F (.int (nI home)) := fun {F} => XG_c (kcl_in hk)
    have hI := isI_n hi2 (show n 2 < 2 ^ 31 by omega)
    have hcl : (nI i).toNatClampNeg = i := nI_clamp (by omega)
    have hgc : gst (T 4) (fun k => s 2 (12 * i + k)) (nI home) (n 1) = gst (T 4) (gnT n T i) (T 9 i) (n 1) := by rw [h9]; exact gst_congr (fun j hj => (W.2 i j hi2 hj).2)
    have ih1 := fun c4 c5 => ih (i + 1) c4 c5 (by omega) K
    rw [wst_s] at ih1
    rw [s100_24]
    simp only [s100_0, s100_1, s100_2, s100_3, s100_6, s100_9, s100_11, s100_12, s100_13, s100_16, s100_19, s100_21, s100_22, s100_23, s100_25, s100_26, s100_29, s100_32, s100_35, s100_36, s100_39, s100_40, s100_43, s100_43n, s100_45, s100_45n, s100_47, s100_47n, s100_50, s100_52, s100_55, s100_56, s100_59, s100_59n, s100_61, s100_64, s100_65, s100_68, s100_71, s100_72, s100_74, s100_75, s100_78, s100_80, s100_82, hO, o0, R.o, tf2, tf19, hlt, c_thiefAt R, hI, hcl, pa, va_rf, hA, hX1, l12, c_greatest R R.ga (show 12 * i + n 1 ≤ 72 by omega) (by decide), hgc, XG_1, XO_some, XV_1, xo_n, xo_i8, xo_r8, xo_i7, xo_r7, xo_i6, xo_r6, xo_i5, xo_r5, xo_i4, xo_r4, xo_i3, xo_r3, xo_i2, xo_r2, Option.toList_some, Option.toList_none, List.cons_append, List.nil_append, bI_t, bI_f, bI_0, bI_n0, if_true, if_false, true_and, and_true, ne_eq, not_true_eq_false, not_false_eq_true, one_ne0, reduceCtorEq]
    cases hg : gst (T 4) (gnT n T i) (T 9 i) (n 1) with
    | none =>
      rw [hg] at ih1
      dsimp only at ih1
      simp only [s100_84, s100_87, s100_88, s100_90, s100_93, s100_94, s100_97, s100_100, s100_101, s100_103, s100_104, s100_106, s100_107, s100_108, s100_109, s100_112, s100_115, s100_116, s100_117, s100_120, s100_121, s100_123, s100_124, s100_126, s100_127, s100_128, s100_131, oI, nI_1, XG_1, XO_some, XV_1, xo_n, xo_i8, xo_r8, xo_i7, xo_r7, xo_i6, xo_r6, xo_i5, xo_r5, xo_i4, xo_r4, xo_i3, xo_r3, xo_i2, xo_r2, Option.toList_some, Option.toList_none, List.cons_append, List.nil_append, bI_t, bI_f, bI_0, bI_n0, if_true, if_false, true_and, and_true, ne_eq, not_true_eq_false, not_false_eq_true, one_ne0, reduceCtorEq]
      exact ih1 _ _
    | some dd =>
      have hdd := (gst_lt hg).1
      have e1 : 12 * i + dd < 72 := by omega
      rw [hg] at ih1
      dsimp only at ih1
      cases hw : wst n T i with
      | none =>
        rw [hw] at ih1
        dsimp only at ih1
        simp only [s100_84, s100_87, s100_88, s100_90, s100_93, s100_94, s100_97, s100_100, s100_101, s100_103, s100_104, s100_106, s100_107, s100_108, s100_109, s100_112, s100_115, s100_116, s100_117, s100_120, s100_121, s100_123, s100_124, s100_126, s100_127, s100_128, s100_131, oI, wsB, nI_NONE (show dd < 2 ^ 31 by omega), l12, nI_add, nI_1, XG_1, XO_some, XV_1, xo_n, xo_i8, xo_r8, xo_i7, xo_r7, xo_i6, xo_r6, xo_i5, xo_r5, xo_i4, xo_r4, xo_i3, xo_r3, xo_i2, xo_r2, Option.toList_some, Option.toList_none, List.cons_append, List.nil_append, bI_t, bI_f, bI_0, bI_n0, if_true, if_false, true_and, and_true, ne_eq, not_true_eq_false, not_false_eq_true, one_ne0, reduceCtorEq]
        exact ih1 _ _
      | some q =>
        obtain ⟨q1, q2⟩ := wst_lt i q hw
        have e2 : 12 * q.1 + q.2 < 72 := by omega
        rw [hw] at ih1
        dsimp only at ih1
        simp only [s100_84, s100_87, s100_88, s100_90, s100_93, s100_94, s100_97, s100_100, s100_101, s100_103, s100_104, s100_106, s100_107, s100_108, s100_109, s100_112, s100_115, s100_116, s100_117, s100_120, s100_121, s100_123, s100_124, s100_126, s100_127, s100_128, s100_131, hO, o0, R.o, R.ga, tf19, oI, wsB, nI_NONE (show dd < 2 ^ 31 by omega), nI_NONE (show 12 * q.1 + q.2 < 2 ^ 31 by omega), l12, nI_add, nI_1, XA72 e1, XA72 e2, (W.2 i dd hi2 hdd).2, (W.2 q.1 q.2 (by omega) q2).2, XG_1, XO_some, XV_1, xo_n, xo_i8, xo_r8, xo_i7, xo_r7, xo_i6, xo_r6, xo_i5, xo_r5, xo_i4, xo_r4, xo_i3, xo_r3, xo_i2, xo_r2, Option.toList_some, Option.toList_none, List.cons_append, List.nil_append, bI_t, bI_f, bI_0, bI_n0, if_true, if_false, true_and, and_true, ne_eq, not_true_eq_false, not_false_eq_true, one_ne0, reduceCtorEq]
        by_cases hc : gnT n T q.1 q.2 < gnT n T i dd
        · simp only [hc, if_true] at ih1 ⊢; exact ih1 _ _
        · simp only [hc, if_false] at ih1 ⊢; exact ih1 _ _
theorem l_rworst (M : MR n T f) (I : IV n T) (hr : r + 20 < Dy) : ∀ k i h w g c6 c7, i + k = n 2 → Dy ≤ h.1 → RM h.2.2.1 r m f w g → (∀ h' w' g' c6 c7, FR Dy (Pf r) h h' → RM h'.2.2.1 r m f w' g' → XE (d + 11) 184 111 [.val (.ref r), .val (.int x), .val (.int (wsI (wst n T (n 2)))), .val (.int (wsD (wst n T (n 2)))), .val (.int (wsG n T (wst n T (n 2)))), .val (.int (nI (n 2))), c6, c7] [] h' Q) → XE (d + 11) 184 22 [.val (.ref r), .val (.int x), .val (.int (wsI (wst n T i))), .val (.int (wsD (wst n T i))), .val (.int (wsG n T (wst n T i))), .val (.int (nI i)), c6, c7] [] h Q := by
  have hn := I.nn
  intro k
  induction k with
  | zero =>
    intro i h w g c6 c7 hi hD R K
    have hlt : ¬ nI (n 2) < nI (n 2) := Int32.lt_irrefl
    rw [show i = n 2 by omega, s184_22]
    simp only [s184_0, s184_1, s184_2, s184_3, s184_6, s184_9, s184_11, s184_12, s184_13, s184_14, s184_15, s184_16, s184_17, s184_19, s184_20, s184_24, s184_25, s184_28, s184_29, s184_30, s184_33, s184_34, s184_36, s184_37, s184_40, s184_42, s184_44, s184_47, s184_48, s184_51, s184_52, s184_54, s184_56, s184_59, s184_61, s184_63, s184_65, s184_68, s184_70, s184_73, s184_74, s184_75, s184_77, s184_79, s184_82, s184_84, s184_87, s184_88, s184_89, s184_91, s184_93, s184_96, s184_98, s184_101, s184_103, s184_105, s184_108, R.1, R.2.1, mf0, A3, M.1.2.2.2.1, hlt, XG_1, XO_some, XV_1, xo_n, xo_i8, xo_r8, xo_i7, xo_r7, xo_i6, xo_r6, xo_i5, xo_r5, xo_i4, xo_r4, xo_i3, xo_r3, xo_i2, xo_r2, Option.toList_some, Option.toList_none, List.cons_append, List.nil_append, bI_t, bI_f, bI_0, bI_n0, if_true, if_false, true_and, and_true, ne_eq, not_true_eq_false, not_false_eq_true, one_ne0, reduceCtorEq]
    exact K h w g _ _ FR.refl R
  | succ k ih =>
    intro i h w g c6 c7 hi hD R K
    have hlt : nI i < nI (n 2) := nI_lt (by omega) (by omega)
    have hi2 : i < n 2 := by omega
    rw [s184_22]
    simp only [s184_0, s184_1, s184_2, s184_3, s184_6, s184_9, s184_11, s184_12, s184_13, s184_14, s184_15, s184_16, s184_17, s184_19, s184_20, s184_24, s184_25, s184_28, s184_29, s184_30, s184_33, s184_34, s184_36, s184_37, R.1, R.2.1, mf0, A3, M.1.2.2.2.1, hlt, XG_1, XO_some, XV_1, xo_n, xo_i8, xo_r8, xo_i7, xo_r7, xo_i6, xo_r6, xo_i5, xo_r5, xo_i4, xo_r4, xo_i3, xo_r3, xo_i2, xo_r2, Option.toList_some, Option.toList_none, List.cons_append, List.nil_append, bI_t, bI_f, bI_0, bI_n0, if_true, if_false, true_and, and_true, ne_eq, not_true_eq_false, not_false_eq_true, one_ne0, reduceCtorEq]
    refine r_bestG R M I hr hD hi2 fun h1 w1 g1 F1 R1 => ?_
    have hD1 : Dy ≤ h1.1 := by rw [F1.1]; exact hD
    have ih1 := fun h2 w2 g2 c6 c7 (F2 : FR Dy (Pf r) h1 h2) R2 => ih (i + 1) h2 w2 g2 c6 c7 (by omega) (show Dy ≤ h2.1 by rw [F2.1]; exact hD1) R2 (fun h' w' g' c6 c7 F' R' => K h' w' g' c6 c7 (F1.trans (F2.trans F')) R')
    rw [wst_s] at ih1
    have hm1 : ¬ wsG n T (wst n T i) < -1 := by
      cases wst n T i with
      | none => exact Int32.lt_irrefl
      | some q =>
        obtain ⟨q3, q4, q5⟩ := gnT_rng n T q.1 q.2
        show ¬ gnT n T q.1 q.2 < -1
        rw [q5, Int32.lt_iff_toInt_lt, nI_toInt (by omega), show (-1 : Int32).toInt = -1 from rfl]
        omega
    cases hg : gst (T 4) (gnT n T i) (T 9 i) (n 1) with
    | none =>
      rw [hg] at ih1
      dsimp only at ih1
      simp only [s184_40, s184_42, s184_44, s184_47, s184_48, s184_51, s184_52, s184_54, s184_56, s184_59, s184_61, s184_63, s184_65, s184_68, s184_70, s184_73, s184_74, s184_75, s184_77, s184_79, s184_82, s184_84, s184_87, s184_88, s184_89, s184_91, s184_93, s184_96, s184_98, s184_101, s184_103, s184_105, s184_108, oI, show ((-1 : Int32) < 0) = True from eq_true (by decide), hm1, nI_1, XG_1, XO_some, XV_1, xo_n, xo_i8, xo_r8, xo_i7, xo_r7, xo_i6, xo_r6, xo_i5, xo_r5, xo_i4, xo_r4, xo_i3, xo_r3, xo_i2, xo_r2, Option.toList_some, Option.toList_none, List.cons_append, List.nil_append, bI_t, bI_f, bI_0, bI_n0, if_true, if_false, true_and, and_true, ne_eq, not_true_eq_false, not_false_eq_true, one_ne0, reduceCtorEq]
      exact ih1 h1 w1 g1 _ _ FR.refl R1
    | some dd =>
      have hdd := (gst_lt hg).1
      rw [hg] at ih1
      dsimp only at ih1
      simp only [s184_40, s184_42, s184_44, s184_47, s184_48, s184_51, s184_52, s184_54, s184_56, R1.1, oI, nI_pos (show dd < 2 ^ 31 by omega), XG_1, XO_some, XV_1, xo_n, xo_i8, xo_r8, xo_i7, xo_r7, xo_i6, xo_r6, xo_i5, xo_r5, xo_i4, xo_r4, xo_i3, xo_r3, xo_i2, xo_r2, Option.toList_some, Option.toList_none, List.cons_append, List.nil_append, bI_t, bI_f, bI_0, bI_n0, if_true, if_false, true_and, and_true, ne_eq, not_true_eq_false, not_false_eq_true, one_ne0, reduceCtorEq]
      refine r_gainAt R1 M I hr hD1 hi2 hdd fun h2 w2 g2 F2 R2 => ?_
      have ih2 := fun c6 c7 => ih1 h2 w2 g2 c6 c7 F2 R2
      obtain ⟨q3, q4, q5⟩ := gnT_rng n T i dd
      cases hw : wst n T i with
      | none =>
        rw [hw] at ih2
        have hc : (-1 : Int32) < gnT n T i dd := by
          rw [q5, Int32.lt_iff_toInt_lt, nI_toInt (by omega), show (-1 : Int32).toInt = -1 from rfl]
          omega
        dsimp only [wsI, wsD, wsG] at ih2 ⊢
        simp only [s184_59, s184_61, s184_63, s184_65, s184_68, s184_70, s184_73, s184_74, s184_75, s184_77, s184_79, s184_82, s184_84, s184_87, s184_88, s184_89, s184_91, s184_93, s184_96, s184_98, s184_101, s184_103, s184_105, s184_108, hc, nI_1, XG_1, XO_some, XV_1, xo_n, xo_i8, xo_r8, xo_i7, xo_r7, xo_i6, xo_r6, xo_i5, xo_r5, xo_i4, xo_r4, xo_i3, xo_r3, xo_i2, xo_r2, Option.toList_some, Option.toList_none, List.cons_append, List.nil_append, bI_t, bI_f, bI_0, bI_n0, if_true, if_false, true_and, and_true, ne_eq, not_true_eq_false, not_false_eq_true, one_ne0, reduceCtorEq]
        exact ih2 _ _
      | some q =>
        rw [hw] at ih2
        dsimp only [wsI, wsD, wsG] at ih2 ⊢
        by_cases hc : gnT n T q.1 q.2 < gnT n T i dd
        · simp only [hc, if_true] at ih2
          simp only [s184_59, s184_61, s184_63, s184_65, s184_68, s184_70, s184_73, s184_74, s184_75, s184_77, s184_79, s184_82, s184_84, s184_87, s184_88, s184_89, s184_91, s184_93, s184_96, s184_98, s184_101, s184_103, s184_105, s184_108, hc, nI_1, XG_1, XO_some, XV_1, xo_n, xo_i8, xo_r8, xo_i7, xo_r7, xo_i6, xo_r6, xo_i5, xo_r5, xo_i4, xo_r4, xo_i3, xo_r3, xo_i2, xo_r2, Option.toList_some, Option.toList_none, List.cons_append, List.nil_append, bI_t, bI_f, bI_0, bI_n0, if_true, if_false, true_and, and_true, ne_eq, not_true_eq_false, not_false_eq_true, one_ne0, reduceCtorEq]
          exact ih2 _ _
        · simp only [hc, if_false] at ih2
          simp only [s184_59, s184_61, s184_63, s184_65, s184_68, s184_70, s184_73, s184_74, s184_75, s184_77, s184_79, s184_82, s184_84, s184_87, s184_88, s184_89, s184_91, s184_93, s184_96, s184_98, s184_101, s184_103, s184_105, s184_108, hc, nI_1, XG_1, XO_some, XV_1, xo_n, xo_i8, xo_r8, xo_i7, xo_r7, xo_i6, xo_r6, xo_i5, xo_r5, xo_i4, xo_r4, xo_i3, xo_r3, xo_i2, xo_r2, Option.toList_some, Option.toList_none, List.cons_append, List.nil_append, bI_t, bI_f, bI_0, bI_n0, if_true, if_false, true_and, and_true, ne_eq, not_true_eq_false, not_false_eq_true, one_ne0, reduceCtorEq]
          exact ih2 _ _
theorem pm_worst (S : ST Dy b t r h n T p s) : PM Dy d b t r h n T p 100 184 [.int x] := by
  obtain ⟨⟨l, hO⟩, ht, hr, hD, R, I, hbt⟩ := S
  have hn := I.nn
  cases hx : wiB x 0 2 with
  | false =>
    refine ⟨BAD, n, T, I, fun Q K => ?_, fun h m f w g hD R M Q K => ?_⟩
    · rw [e100]; simp only [s100_0, s100_1, s100_2, s100_3, s100_6, s100_9, s100_11, s100_12, s100_13, s100_16, s100_19, s100_21, s100_22, s100_23, s100_25, s100_26, s100_29, s100_32, s100_35, s100_36, s100_39, s100_40, s100_43, s100_43n, s100_45, s100_45n, s100_47, s100_47n, s100_50, s100_52, s100_55, s100_56, s100_59, s100_59n, s100_61, s100_64, s100_65, s100_68, s100_71, s100_72, s100_74, s100_75, s100_78, s100_80, s100_82, s100_84, s100_87, s100_88, s100_90, s100_93, s100_94, s100_97, s100_100, s100_101, s100_103, s100_104, s100_106, s100_107, s100_108, s100_109, s100_112, s100_115, s100_116, s100_117, s100_120, s100_121, s100_123, s100_124, s100_126, s100_127, s100_128, s100_131, s100_134, s100_135, s100_137, s100_140, s100_142, s100_143, s100_144, s100_172, s100_173, s100_175, s100_176, s100_177, s100_178, s100_180, s100_181, s100_182, s100_183, s100_186, s100_189, s100_190, s100_191, c_within, hx, XG_1, XO_some, XV_1, xo_n, xo_i8, xo_r8, xo_i7, xo_r7, xo_i6, xo_r6, xo_i5, xo_r5, xo_i4, xo_r4, xo_i3, xo_r3, xo_i2, xo_r2, Option.toList_some, Option.toList_none, List.cons_append, List.nil_append, bI_t, bI_f, bI_0, bI_n0, if_true, if_false, true_and, and_true, ne_eq, not_true_eq_false, not_false_eq_true, one_ne0, reduceCtorEq]; exact K h s FR.refl R
    · rw [e184]; simp only [s184_0, s184_1, s184_2, s184_3, s184_6, s184_9, s184_11, s184_12, s184_13, s184_14, s184_15, s184_16, s184_17, s184_19, s184_20, s184_24, s184_25, s184_28, s184_29, s184_30, s184_33, s184_34, s184_36, s184_37, s184_40, s184_42, s184_44, s184_47, s184_48, s184_51, s184_52, s184_54, s184_56, s184_59, s184_61, s184_63, s184_65, s184_68, s184_70, s184_73, s184_74, s184_75, s184_77, s184_79, s184_82, s184_84, s184_87, s184_88, s184_89, s184_91, s184_93, s184_96, s184_98, s184_101, s184_103, s184_105, s184_108, s184_111, s184_112, s184_115, s184_116, s184_119, s184_120, s184_121, s184_124, s184_125, s184_128, s184_130, s184_133, c_in, hx, XG_1, XO_some, XV_1, xo_n, xo_i8, xo_r8, xo_i7, xo_r7, xo_i6, xo_r6, xo_i5, xo_r5, xo_i4, xo_r4, xo_i3, xo_r3, xo_i2, xo_r2, Option.toList_some, Option.toList_none, List.cons_append, List.nil_append, bI_t, bI_f, bI_0, bI_n0, if_true, if_false, true_and, and_true, ne_eq, not_true_eq_false, not_false_eq_true, one_ne0, reduceCtorEq]; exact K h f w g FR.refl R M
  | true =>
  obtain ⟨kx, hkx, rfl⟩ := wiB_t (k := 2) hx (by decide)
  have cls : ∀ {Q : Option Value → xH → Prop}, (∀ h1 s1 c4 c5, FR Dy (Pt t) h h1 → RT Dy h1.2.2.1 t n T p s1 → wei n T s1 → h1.2.2.1 b = .inr (11, .ref t :: l) → XE (d + 11) 100 134 [.val (.ref b), .val (.int (nI kx)), .val (.int (wsB (wst n T (n 2)))), .val (.int (nI (n 2))), c4, c5] [] h1 Q) → XC (d + 12) 100 [.ref b, .int (nI kx)] h Q := by
    intro Q K
    rw [e100]; simp only [s100_0, s100_1, s100_2, s100_3, s100_6, s100_9, s100_11, s100_12, s100_13, s100_16, hO, o0, R.o, c_within, hx, XG_1, XO_some, XV_1, xo_n, xo_i8, xo_r8, xo_i7, xo_r7, xo_i6, xo_r6, xo_i5, xo_r5, xo_i4, xo_r4, xo_i3, xo_r3, xo_i2, xo_r2, Option.toList_some, Option.toList_none, List.cons_append, List.nil_append, bI_t, bI_f, bI_0, bI_n0, if_true, if_false, true_and, and_true, ne_eq, not_true_eq_false, not_false_eq_true, one_ne0, reduceCtorEq]
    refine c_weigh I ht hD R fun h1 s1 F1 R1 W1 => ?_
    have hO1 : h1.2.2.1 b = .inr (11, .ref t :: l) := by rw [F1.at (by omega) (by omega)]; exact hO
    simp only [s100_19, s100_21, s100_22, s100_23, XG_1, XO_some, XV_1, xo_n, xo_i8, xo_r8, xo_i7, xo_r7, xo_i6, xo_r6, xo_i5, xo_r5, xo_i4, xo_r4, xo_i3, xo_r3, xo_i2, xo_r2, Option.toList_some, Option.toList_none, List.cons_append, List.nil_append, bI_t, bI_f, bI_0, bI_n0, if_true, if_false, true_and, and_true, ne_eq, not_true_eq_false, not_false_eq_true, one_ne0, reduceCtorEq]
    exact l_worst R1 I W1 hO1 (n 2) 0 _ _ (by omega) (fun c4 c5 => K h1 s1 c4 c5 (frpw F1) R1 W1 hO1)
  have rfs : ∀ h m f w g, Dy ≤ h.1 → RM h.2.2.1 r m f w g → MR n T f → ∀ {Q : Option Value → xH → Prop}, (∀ h' w' g' c6 c7, FR Dy (Pf r) h h' → RM h'.2.2.1 r m f w' g' → XE (d + 11) 184 111 [.val (.ref r), .val (.int (nI kx)), .val (.int (wsI (wst n T (n 2)))), .val (.int (wsD (wst n T (n 2)))), .val (.int (wsG n T (wst n T (n 2)))), .val (.int (nI (n 2))), c6, c7] [] h' Q) → XC (d + 12) 184 [.ref r, .int (nI kx)] h Q := by
    intro h m f w g hD R M Q K
    rw [e184]; simp only [s184_0, s184_1, s184_2, s184_3, s184_6, s184_9, s184_11, s184_12, s184_13, s184_14, s184_15, s184_16, s184_17, s184_19, s184_20, c_in, hx, XG_1, XO_some, XV_1, xo_n, xo_i8, xo_r8, xo_i7, xo_r7, xo_i6, xo_r6, xo_i5, xo_r5, xo_i4, xo_r4, xo_i3, xo_r3, xo_i2, xo_r2, Option.toList_some, Option.toList_none, List.cons_append, List.nil_append, bI_t, bI_f, bI_0, bI_n0, if_true, if_false, true_and, and_true, ne_eq, not_true_eq_false, not_false_eq_true, one_ne0, reduceCtorEq]
    exact l_rworst M I hr (n 2) 0 h w g _ _ (by omega) hD R K
  have y0 : (nI kx = 0) = (kx = 0) := propext (nI_eq (b := 0) (by omega) (by decide))
  have y1 : (nI kx = 1) = (kx = 1) := propext (nI_eq (b := 1) (by omega) (by decide))
  cases hw : wst n T (n 2) with
  | none =>
    refine ⟨NONE, n, T, I, fun Q K => ?_, fun h m f w g hD R M Q K => ?_⟩
    · refine cls fun h1 s1 c4 c5 F1 R1 W1 hO1 => ?_
      rw [hw]
      simp only [s100_134, s100_135, s100_137, s100_140, s100_142, s100_143, s100_144, s100_172, s100_173, s100_175, s100_176, s100_177, s100_178, s100_180, s100_181, s100_182, s100_183, s100_186, s100_189, s100_190, s100_191, wsB, XG_1, XO_some, XV_1, xo_n, xo_i8, xo_r8, xo_i7, xo_r7, xo_i6, xo_r6, xo_i5, xo_r5, xo_i4, xo_r4, xo_i3, xo_r3, xo_i2, xo_r2, Option.toList_some, Option.toList_none, List.cons_append, List.nil_append, bI_t, bI_f, bI_0, bI_n0, if_true, if_false, true_and, and_true, ne_eq, not_true_eq_false, not_false_eq_true, one_ne0, reduceCtorEq]
      exact K h1 s1 F1 R1
    · refine rfs h m f w g hD R M fun h1 w1 g1 c6 c7 F1 R1 => ?_
      have K1 := K h1 f w1 g1 (frpn F1) R1 M
      rw [hw]
      have hm : ((-1 : Int32) < 0) = True := eq_true (by decide)
      rcases (show kx = 0 ∨ kx = 1 ∨ kx = 2 by omega) with rfl | rfl | rfl
      · simp only [s184_111, s184_112, s184_115, s184_116, s184_119, s184_120, s184_121, s184_124, s184_125, s184_128, s184_130, s184_133, y0, wsI, c_told0, hm, XG_1, XO_some, XV_1, xo_n, xo_i8, xo_r8, xo_i7, xo_r7, xo_i6, xo_r6, xo_i5, xo_r5, xo_i4, xo_r4, xo_i3, xo_r3, xo_i2, xo_r2, Option.toList_some, Option.toList_none, List.cons_append, List.nil_append, bI_t, bI_f, bI_0, bI_n0, if_true, if_false, true_and, and_true, ne_eq, not_true_eq_false, not_false_eq_true, one_ne0, reduceCtorEq]; exact K1
      · simp only [s184_111, s184_112, s184_115, s184_116, s184_119, s184_120, s184_121, s184_124, s184_125, s184_128, s184_130, s184_133, y0, y1, wsD, c_told0, hm, XG_1, XO_some, XV_1, xo_n, xo_i8, xo_r8, xo_i7, xo_r7, xo_i6, xo_r6, xo_i5, xo_r5, xo_i4, xo_r4, xo_i3, xo_r3, xo_i2, xo_r2, Option.toList_some, Option.toList_none, List.cons_append, List.nil_append, bI_t, bI_f, bI_0, bI_n0, if_true, if_false, true_and, and_true, ne_eq, not_true_eq_false, not_false_eq_true, one_ne0, reduceCtorEq]; exact K1
      · simp only [s184_111, s184_112, s184_115, s184_116, s184_119, s184_120, s184_121, s184_124, s184_125, s184_128, s184_130, s184_133, y0, y1, wsG, c_told0, hm, XG_1, XO_some, XV_1, xo_n, xo_i8, xo_r8, xo_i7, xo_r7, xo_i6, xo_r6, xo_i5, xo_r5, xo_i4, xo_r4, xo_i3, xo_r3, xo_i2, xo_r2, Option.toList_some, Option.toList_none, List.cons_append, List.nil_append, bI_t, bI_f, bI_0, bI_n0, if_true, if_false, true_and, and_true, ne_eq, not_true_eq_false, not_false_eq_true, one_ne0, reduceCtorEq]; exact K1
  | some q =>
    obtain ⟨q1, q2⟩ := wst_lt _ q hw
    have e72 : 12 * q.1 + q.2 < 72 := by omega
    have hN := nI_NONE (show 12 * q.1 + q.2 < 2 ^ 31 by omega)
    obtain ⟨q3, q4, q5⟩ := gnT_rng n T q.1 q.2
    have d1 : nI (12 * q.1 + q.2) / 12 = nI q.1 := by rw [show (12 : Int32) = nI 12 from rfl, pk_div (by omega) (by decide) (by decide)]; exact congrArg nI (by omega)
    have d2 : nI (12 * q.1 + q.2) % 12 = nI q.2 := by rw [show (12 : Int32) = nI 12 from rfl, nI_mod (by omega) (by decide)]; exact congrArg nI (by omega)
    rcases (show kx = 0 ∨ kx = 1 ∨ kx = 2 by omega) with rfl | rfl | rfl
    · refine ⟨nI q.1, n, T, I, fun Q K => ?_, fun h m f w g hD R M Q K => ?_⟩
      · refine cls fun h1 s1 c4 c5 F1 R1 W1 hO1 => ?_
        rw [hw]
        simp only [s100_134, s100_135, s100_137, s100_140, s100_142, s100_143, s100_144, s100_172, s100_173, s100_175, s100_176, s100_177, s100_178, s100_180, s100_181, s100_182, s100_183, s100_186, s100_189, s100_190, s100_191, wsB, hN, xswi, y0, d1, z12, XG_1, XO_some, XV_1, xo_n, xo_i8, xo_r8, xo_i7, xo_r7, xo_i6, xo_r6, xo_i5, xo_r5, xo_i4, xo_r4, xo_i3, xo_r3, xo_i2, xo_r2, Option.toList_some, Option.toList_none, List.cons_append, List.nil_append, bI_t, bI_f, bI_0, bI_n0, if_true, if_false, true_and, and_true, ne_eq, not_true_eq_false, not_false_eq_true, one_ne0, reduceCtorEq]
        exact K h1 s1 F1 R1
      · refine rfs h m f w g hD R M fun h1 w1 g1 c6 c7 F1 R1 => ?_
        rw [hw]
        simp only [s184_111, s184_112, s184_115, s184_116, s184_119, s184_120, s184_121, s184_124, s184_125, s184_128, s184_130, s184_133, y0, wsI, c_told0, nI_pos (show q.1 < 2 ^ 31 by omega), XG_1, XO_some, XV_1, xo_n, xo_i8, xo_r8, xo_i7, xo_r7, xo_i6, xo_r6, xo_i5, xo_r5, xo_i4, xo_r4, xo_i3, xo_r3, xo_i2, xo_r2, Option.toList_some, Option.toList_none, List.cons_append, List.nil_append, bI_t, bI_f, bI_0, bI_n0, if_true, if_false, true_and, and_true, ne_eq, not_true_eq_false, not_false_eq_true, one_ne0, reduceCtorEq]
        exact K h1 f w1 g1 (frpn F1) R1 M
    · refine ⟨nI q.2, n, T, I, fun Q K => ?_, fun h m f w g hD R M Q K => ?_⟩
      · refine cls fun h1 s1 c4 c5 F1 R1 W1 hO1 => ?_
        rw [hw]
        simp only [s100_134, s100_135, s100_137, s100_140, s100_142, s100_143, s100_144, s100_172, s100_173, s100_175, s100_176, s100_177, s100_178, s100_180, s100_181, s100_182, s100_183, s100_186, s100_189, s100_190, s100_191, wsB, hN, xswi, y0, y1, d2, z12, XG_1, XO_some, XV_1, xo_n, xo_i8, xo_r8, xo_i7, xo_r7, xo_i6, xo_r6, xo_i5, xo_r5, xo_i4, xo_r4, xo_i3, xo_r3, xo_i2, xo_r2, Option.toList_some, Option.toList_none, List.cons_append, List.nil_append, bI_t, bI_f, bI_0, bI_n0, if_true, if_false, true_and, and_true, ne_eq, not_true_eq_false, not_false_eq_true, one_ne0, reduceCtorEq]
        exact K h1 s1 F1 R1
      · refine rfs h m f w g hD R M fun h1 w1 g1 c6 c7 F1 R1 => ?_
        rw [hw]
        simp only [s184_111, s184_112, s184_115, s184_116, s184_119, s184_120, s184_121, s184_124, s184_125, s184_128, s184_130, s184_133, y0, y1, wsD, c_told0, nI_pos (show q.2 < 2 ^ 31 by omega), XG_1, XO_some, XV_1, xo_n, xo_i8, xo_r8, xo_i7, xo_r7, xo_i6, xo_r6, xo_i5, xo_r5, xo_i4, xo_r4, xo_i3, xo_r3, xo_i2, xo_r2, Option.toList_some, Option.toList_none, List.cons_append, List.nil_append, bI_t, bI_f, bI_0, bI_n0, if_true, if_false, true_and, and_true, ne_eq, not_true_eq_false, not_false_eq_true, one_ne0, reduceCtorEq]
        exact K h1 f w1 g1 (frpn F1) R1 M
    · refine ⟨gnT n T q.1 q.2, n, T, I, fun Q K => ?_, fun h m f w g hD R M Q K => ?_⟩
      · refine cls fun h1 s1 c4 c5 F1 R1 W1 hO1 => ?_
        rw [hw]
        simp only [s100_134, s100_135, s100_137, s100_140, s100_142, s100_143, s100_144, s100_172, s100_173, s100_175, s100_176, s100_177, s100_178, s100_180, s100_181, s100_182, s100_183, s100_186, s100_189, s100_190, s100_191, hO1, o0, R1.o, R1.ga, tf19, wsB, hN, xswi, y0, y1, XA72 e72, (W1.2 q.1 q.2 q1 q2).2, XG_1, XO_some, XV_1, xo_n, xo_i8, xo_r8, xo_i7, xo_r7, xo_i6, xo_r6, xo_i5, xo_r5, xo_i4, xo_r4, xo_i3, xo_r3, xo_i2, xo_r2, Option.toList_some, Option.toList_none, List.cons_append, List.nil_append, bI_t, bI_f, bI_0, bI_n0, if_true, if_false, true_and, and_true, ne_eq, not_true_eq_false, not_false_eq_true, one_ne0, reduceCtorEq]
        exact K h1 s1 F1 R1
      · refine rfs h m f w g hD R M fun h1 w1 g1 c6 c7 F1 R1 => ?_
        have hp : ¬ gnT n T q.1 q.2 < 0 := by rw [q5]; exact nI_pos (by omega)
        rw [hw]
        simp only [s184_111, s184_112, s184_115, s184_116, s184_119, s184_120, s184_121, s184_124, s184_125, s184_128, s184_130, s184_133, y0, y1, wsG, c_told0, hp, XG_1, XO_some, XV_1, xo_n, xo_i8, xo_r8, xo_i7, xo_r7, xo_i6, xo_r6, xo_i5, xo_r5, xo_i4, xo_r4, xo_i3, xo_r3, xo_i2, xo_r2, Option.toList_some, Option.toList_none, List.cons_append, List.nil_append, bI_t, bI_f, bI_0, bI_n0, if_true, if_false, true_and, and_true, ne_eq, not_true_eq_false, not_false_eq_true, one_ne0, reduceCtorEq]
        exact K h1 f w1 g1 (frpn F1) R1 M
end PUB8
