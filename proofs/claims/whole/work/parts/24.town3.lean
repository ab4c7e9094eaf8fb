/-! ===== 24: comes, heed, lawful ===== -/
def nnk (k : Nat) : Nat := [4, 2, 3].getD k 0
def tcd (T : Nat → Nat → Int32) (i : Nat) : Nat → Int32 := fun k => T 13 (96 * i + k)
/-- what holds of a town's numbers -/
def IV (n : Nat → Nat) (T : Nat → Nat → Int32) : Prop := (n 0 ≤ 10 ∧ n 1 ≤ 12 ∧ n 2 ≤ 6 ∧ n 3 ≤ 14) ∧ (∃ pt, pt ≤ 24 ∧ T 0 4 = nI pt) ∧ (∀ i, i < n 1 → ∃ j, j < n 0 ∧ T 4 i = nI j) ∧ (∀ i, i < n 1 → ∃ j, j ≤ 999 ∧ T 5 i = nI j) ∧ (∀ i, i < 2 * n 1 → T 7 i = NONE ∨ ∃ j, j < n 0 ∧ T 7 i = nI j) ∧
  (∀ i, i < n 2 → (∃ k, k ≤ 5 ∧ T 8 i = nI k) ∧ ∃ j, j < n 0 ∧ T 9 i = nI j) ∧ (∀ i j, i < n 0 → j < n 0 → agB (T 3) i j = agB (T 3) j i) ∧ (∀ i j, i < n 0 → n 0 ≤ j → j < 10 → agB (T 3) i j = false) ∧
  ∀ i, i < n 3 → ∃ ky u, ky < 3 ∧ T 10 i = nI ky ∧ T 12 i = nI u ∧ u ≤ 95 ∧ wfc (tcd T i) (nnk ky) u
section IVs
variable {n : Nat → Nat} {T : Nat → Nat → Int32}
theorem IV.nn (I : IV n T) : n 0 ≤ 10 ∧ n 1 ≤ 12 ∧ n 2 ≤ 6 ∧ n 3 ≤ 14 := I.1
theorem IV.pt (I : IV n T) : ∃ pt, pt ≤ 24 ∧ T 0 4 = nI pt := I.2.1
theorem IV.ow (I : IV n T) : ∀ i, i < n 1 → ∃ j, j < n 0 ∧ T 4 i = nI j := I.2.2.1
theorem IV.wo (I : IV n T) : ∀ i, i < n 1 → ∃ j, j ≤ 999 ∧ T 5 i = nI j := I.2.2.2.1
theorem IV.be (I : IV n T) : ∀ i, i < 2 * n 1 → T 7 i = NONE ∨ ∃ j, j < n 0 ∧ T 7 i = nI j := I.2.2.2.2.1
theorem IV.th (I : IV n T) : ∀ i, i < n 2 → (∃ k, k ≤ 5 ∧ T 8 i = nI k) ∧ ∃ j, j < n 0 ∧ T 9 i = nI j := I.2.2.2.2.2.1
theorem IV.sy (I : IV n T) : ∀ i j, i < n 0 → j < n 0 → agB (T 3) i j = agB (T 3) j i := I.2.2.2.2.2.2.1
theorem IV.hi (I : IV n T) : ∀ i j, i < n 0 → n 0 ≤ j → j < 10 → agB (T 3) i j = false := I.2.2.2.2.2.2.2.1
theorem IV.tx (I : IV n T) : ∀ i, i < n 3 → ∃ ky u, ky < 3 ∧ T 10 i = nI ky ∧ T 12 i = nI u ∧ u ≤ 95 ∧ wfc (tcd T i) (nnk ky) u := I.2.2.2.2.2.2.2.2
end IVs
def evT (T : Nat → Nat → Int32) (i : Nat) (e : Nat → Int32) : Int32 := evV (tcd T i) e (T 12 i).toNatClampNeg
def mx0 (x : Int32) : Int32 := if 0 < x then x else 0
def ldv (n : Nat → Nat) (T : Nat → Nat → Int32) (i : Nat) : Int32 := ldc (T 7) (nI i) NONE (2 * n 1)
def cmv (n : Nat → Nat) (T : Nat → Nat → Int32) (i : Nat) : Int32 := match lst (T 10) 0 (n 3) with
  | some x => hld (evT T x (env4 (T 1 i) (T 2 i) (ldv n T i) (T 0 4))) 0 100
  | none => hld (T 1 i * T 2 i / 100 - 10 * mx0 (ldv n T i - T 0 4)) 0 100
def hdv (T : Nat → Nat → Int32) (kn home hs : Nat) (cm : Int32) : Int32 := if kn = 2 ∨ kn = 4 then cm / 2 else if kn = 3 then (if hs = home ∨ agB (T 3) hs home = true then 0 else cm) else if kn = 5 then mx0 (cm - 30) else cm
def lwB (n : Nat → Nat) (T : Nat → Nat → Int32) (dd : Nat) (x y : Int32) : Bool := if isI x (n 0) = false then false else if isI y (n 0) = false then false else if x = y then false else if x = T 4 dd then false else if y = T 4 dd then false else if agB (T 3) x.toNatClampNeg y.toNatClampNeg = true then false else match lst (T 10) 2 (n 3) with
  | none => true
  | some k => !decide (evT T k (env4 (if y < x then y else x) (if x < y then y else x) (T 4 dd) 0) = 0)
theorem nI_clampE {j : Nat} (h : j < 2 ^ 31) : (nI j).toNatClampNeg = j := nI_clamp h
section TM3
variable {Dy d : Nat} {h : xH} {t : Nat} {n : Nat → Nat} {T : Nat → Nat → Int32} {p : Nat → Nat → Option Nat} {s : Nat → Nat → Int32} {Q : Option Value → xH → Prop} {x y z : Int32}
/-- the text that counts for a key, by its number, as a cell -/
theorem lawAt (R : RT Dy h.2.2.1 t n T p s) (I : IV n T) {ky : Nat} (hk : ky < 3) {Q : Option Value → xH → Prop} : (lst (T 10) (nI ky) (n 3) = none ∧ ((if isI (oI NONE (lst (T 10) (nI ky) (n 3))) (n 3) = true then Q (some (va_rf (p 1 (oI NONE (lst (T 10) (nI ky) (n 3))).toNatClampNeg))) h else Q (some .null) h) ↔ Q (some .null) h)) ∨ ∃ i a u, lst (T 10) (nI ky) (n 3) = some i ∧ ((if isI (oI NONE (lst (T 10) (nI ky) (n 3))) (n 3) = true then Q (some (va_rf (p 1 (oI NONE (lst (T 10) (nI ky) (n 3))).toNatClampNeg))) h else Q (some .null) h) ↔ Q (some (.ref a)) h) ∧ Dy ≤ a ∧ txt h.2.2.1 a (T 10 i) (T 11 i) (T 12 i) (tcd T i) ∧ T 12 i = nI u ∧ u ≤ 95 ∧ wfc (tcd T i) (nnk ky) u := by
  have hn := R.nn
  cases hl : lst (T 10) (nI ky) (n 3) with
  | none =>
    refine Or.inl ⟨rfl, ?_⟩
    rw [show oI NONE none = NONE from rfl, isI_NONE]
    exact Iff.rfl
  | some i =>
    obtain ⟨h1, h2⟩ := lst_some hl
    obtain ⟨a, q1, q2, q3⟩ := R.tx i h1
    obtain ⟨k2, u, r1, r2, r3, r4, r5⟩ := I.tx i h1
    have : k2 = ky := by rw [r2] at h2; exact (nI_eq (by omega) (by omega)).mp h2
    subst this
    refine Or.inr ⟨i, a, u, rfl, ?_, q2, q3, r3, r4, r5⟩
    rw [show oI NONE (some i) = nI i from rfl, isI_n h1 (by omega), nI_clamp (by omega), q1]
    exact Iff.rfl
theorem ldc_le (bl : Nat → Int32) (hs wo : Int32) : ∀ k, ∃ m, m ≤ k ∧ ldc bl hs wo k = nI m := by
  intro k
  induction k with
  | zero => exact ⟨0, Nat.le_refl _, rfl⟩
  | succ k ih =>
    obtain ⟨m, h1, h2⟩ := ih
    unfold ldc
    split
    · exact ⟨m + 1, by omega, by rw [h2, nI_1]⟩
    · exact ⟨m, by omega, h2⟩
theorem c_comesNow (R : RT Dy h.2.2.1 t n T p s) (I : IV n T) {i : Nat} (hi : i < n 0) (K : ∀ h', FR Dy P0 h h' → Q (some (.int (cmv n T i))) h') : XC (d + 3) 64 [.ref t, .int (nI i)] h Q := by
  have hn := R.nn
  have h10 : i < 10 := by omega
  have hI := isI_n hi (show n 0 < 2 ^ 31 by omega)
  have h100 : ¬ (100 : Int32) < 0 := by decide
  rw [e64]
  simp only [s64_0, s64_1, s64_2, s64_5, s64_8, s64_9, s64_10, s64_11, s64_12, s64_13, s64_16, R.o, XG_1, XO_some, XV_1, xo_n, xo_i8, xo_r8, xo_i7, xo_r7, xo_i6, xo_r6, xo_i5, xo_r5, xo_i4, xo_r4, xo_i3, xo_r3, xo_i2, xo_r2, Option.toList_some, Option.toList_none, List.cons_append, List.nil_append, bI_t, bI_f, bI_0, bI_n0, if_true, if_false, true_and, and_true, ne_eq, not_true_eq_false, not_false_eq_true, one_ne0, reduceCtorEq, c_isHouse R, hI, c_lastOf R, c_textAt R, Bool.true_eq_false]
  rcases lawAt R I (ky := 0) (by decide) (Q := fun v h' => XE (d + 2) 64 19 [.val (.ref t), .val (.int (nI i)), .unset, .unset, .unset] (v.toList ++ []) h' Q) with ⟨hl, hq⟩ | ⟨k, a, u, hl, hq, ha, hX, hu, hul, hw⟩
  · refine hq.mpr ?_
    simp only [s64_0, s64_1, s64_2, s64_5, s64_8, s64_9, s64_10, s64_11, s64_12, s64_13, s64_16, s64_19, s64_19n, s64_20, s64_21, s64_22, s64_24, s64_27, s64_28, s64_28n, s64_29, s64_29n, s64_32, s64_32n, s64_33, s64_34, s64_37, s64_38, s64_39, s64_40, s64_43, s64_44, s64_45, s64_46, s64_47, s64_50, s64_53, s64_54, s64_56, s64_59, s64_60, s64_62, s64_63, s64_64, s64_65, s64_68, s64_69, s64_72, s64_73, s64_75, s64_76, s64_79, s64_80, s64_81, s64_82, s64_85, s64_86, s64_87, s64_88, s64_90, s64_91, s64_93, s64_94, s64_95, s64_97, s64_100, R.o, R.aw, R.ca, tf4, tf8, tf9, XG_1, XO_some, XV_1, xo_n, xo_i8, xo_r8, xo_i7, xo_r7, xo_i6, xo_r6, xo_i5, xo_r5, xo_i4, xo_r4, xo_i3, xo_r3, xo_i2, xo_r2, Option.toList_some, Option.toList_none, List.cons_append, List.nil_append, bI_t, bI_f, bI_0, bI_n0, if_true, if_false, true_and, and_true, ne_eq, not_true_eq_false, not_false_eq_true, one_ne0, reduceCtorEq, c_load R, XA10 h10, z100, c_held h100]
    have := K h FR.refl
    unfold cmv at this
    rw [show (0 : Int32) = nI 0 from rfl, hl] at this
    exact this
  · refine hq.mpr ?_
    simp only [s64_0, s64_1, s64_2, s64_5, s64_8, s64_9, s64_10, s64_11, s64_12, s64_13, s64_16, s64_19, s64_19n, s64_20, s64_21, s64_22, s64_24, s64_27, s64_28, s64_28n, s64_29, s64_29n, s64_32, s64_32n, s64_33, s64_34, s64_37, s64_38, s64_39, s64_40, s64_43, s64_44, s64_45, s64_46, s64_47, s64_50, s64_53, s64_54, s64_56, s64_59, s64_60, s64_62, s64_63, s64_64, s64_65, s64_68, s64_69, s64_72, s64_73, s64_75, s64_76, s64_79, s64_80, s64_81, s64_82, s64_85, s64_86, s64_87, s64_88, s64_90, s64_91, s64_93, s64_94, s64_95, s64_97, s64_100, R.o, R.aw, R.ca, tf4, tf8, tf9, XG_1, XO_some, XV_1, xo_n, xo_i8, xo_r8, xo_i7, xo_r7, xo_i6, xo_r6, xo_i5, xo_r5, xo_i4, xo_r4, xo_i3, xo_r3, xo_i2, xo_r2, Option.toList_some, Option.toList_none, List.cons_append, List.nil_append, bI_t, bI_f, bI_0, bI_n0, if_true, if_false, true_and, and_true, ne_eq, not_true_eq_false, not_false_eq_true, one_ne0, reduceCtorEq, c_load R, XA10 h10, hX.choose_spec.2.2.1]
    refine c_gives hX hu hul hw (by decide) ha (e2 := env4 (T 1 i) (T 2 i) (ldv n T i) (T 0 4)) (fun j _ => rfl) fun h1 F1 => ?_
    simp only [s64_0, s64_1, s64_2, s64_5, s64_8, s64_9, s64_10, s64_11, s64_12, s64_13, s64_16, s64_19, s64_19n, s64_20, s64_21, s64_22, s64_24, s64_27, s64_28, s64_28n, s64_29, s64_29n, s64_32, s64_32n, s64_33, s64_34, s64_37, s64_38, s64_39, s64_40, s64_43, s64_44, s64_45, s64_46, s64_47, s64_50, s64_53, s64_54, s64_56, s64_59, s64_60, s64_62, s64_63, s64_64, s64_65, s64_68, s64_69, s64_72, s64_73, s64_75, s64_76, s64_79, s64_80, s64_81, s64_82, s64_85, s64_86, s64_87, s64_88, s64_90, s64_91, s64_93, s64_94, s64_95, s64_97, s64_100, XG_1, XO_some, XV_1, xo_n, xo_i8, xo_r8, xo_i7, xo_r7, xo_i6, xo_r6, xo_i5, xo_r5, xo_i4, xo_r4, xo_i3, xo_r3, xo_i2, xo_r2, Option.toList_some, Option.toList_none, List.cons_append, List.nil_append, bI_t, bI_f, bI_0, bI_n0, if_true, if_false, true_and, and_true, ne_eq, not_true_eq_false, not_false_eq_true, one_ne0, reduceCtorEq, c_held h100]
    have := K h1 F1
    unfold cmv evT at this
    rw [show (0 : Int32) = nI 0 from rfl, hl] at this
    dsimp only at this
    rw [hu, nI_clamp (by omega)] at this
    exact this
/-- heeds, by the thief's kind -/
theorem c_heeds (R : RT Dy h.2.2.1 t n T p s) {a kn home hs : Nat} {cm : Int32} (hk : kn ≤ 5) (hh : home < n 0) (hs' : hs < n 0) (hA : h.2.2.1 a = .inr (kcl kn, [.int (nI kn), .int (nI home)])) : XV [(0, 1), (1, 4), (2, 47), (3, 10), (4, 1), (9, 47)] (h.2.2.1 a) (fun m' => XC (d + 3) m' [.ref a, .ref t, .int (nI hs), .int cm] h Q) ↔ Q (some (.int (hdv T kn home hs cm))) h := by
  have hn := R.nn
  rw [hA]
  rcases (show kn = 0 ∨ kn = 1 ∨ kn = 2 ∨ kn = 3 ∨ kn = 4 ∨ kn = 5 by omega) with rfl | rfl | rfl | rfl | rfl | rfl
  · show XC (d + 3) 47 _ h Q ↔ _
    rw [e47]; simp only [s47_0, s47_1]; rfl
  · show XC (d + 3) 47 _ h Q ↔ _
    rw [e47]; simp only [s47_0, s47_1]; rfl
  · show XC (d + 3) 1 _ h Q ↔ _
    rw [e1]; simp only [s1_0, s1_1, s1_1n, s1_2, s1_3, s1_4, s1_7, s1_8, s1_9, hA, XG_1, XO_some, XV_1, xo_n, xo_i8, xo_r8, xo_i7, xo_r7, xo_i6, xo_r6, xo_i5, xo_r5, xo_i4, xo_r4, xo_i3, xo_r3, xo_i2, xo_r2, Option.toList_some, Option.toList_none, List.cons_append, List.nil_append, bI_t, bI_f, bI_0, bI_n0, if_true, if_false, true_and, and_true, ne_eq, not_true_eq_false, not_false_eq_true, one_ne0, reduceCtorEq]
    show (XC (d + 2) 47 _ h _ ↔ _)
    rw [e47]; simp only [s47_0, s47_1, s1_0, s1_1, s1_1n, s1_2, s1_3, s1_4, s1_7, s1_8, s1_9, XG_1, XO_some, XV_1, xo_n, xo_i8, xo_r8, xo_i7, xo_r7, xo_i6, xo_r6, xo_i5, xo_r5, xo_i4, xo_r4, xo_i3, xo_r3, xo_i2, xo_r2, Option.toList_some, Option.toList_none, List.cons_append, List.nil_append, bI_t, bI_f, bI_0, bI_n0, if_true, if_false, true_and, and_true, ne_eq, not_true_eq_false, not_false_eq_true, one_ne0, reduceCtorEq, z2]; rfl
  · show XC (d + 3) 10 _ h Q ↔ _
    have hX : ∀ {F : Value → Prop}, XG [3] 1 (.inr (kcl 3, [.int (nI 3), .int (nI home)])) F ↔ F (.int (nI home)) := fun {F} => XG_1 (ci := 3)
    rw [e10]; simp only [s10_0, s10_1, s10_2, s10_5, s10_8, s10_8n, s10_9, s10_10, s10_11, s10_14, s10_17, s10_20, hA, hX, XG_1, XO_some, XV_1, xo_n, xo_i8, xo_r8, xo_i7, xo_r7, xo_i6, xo_r6, xo_i5, xo_r5, xo_i4, xo_r4, xo_i3, xo_r3, xo_i2, xo_r2, Option.toList_some, Option.toList_none, List.cons_append, List.nil_append, bI_t, bI_f, bI_0, bI_n0, if_true, if_false, true_and, and_true, ne_eq, not_true_eq_false, not_false_eq_true, one_ne0, reduceCtorEq, nI_eq (show hs < 2 ^ 31 by omega) (show home < 2 ^ 31 by omega), R.o, c_doAgree R hs' hh]
    unfold hdv
    by_cases e : hs = home
    · simp only [e, if_true, s10_0, s10_1, s10_2, s10_5, s10_8, s10_8n, s10_9, s10_10, s10_11, s10_14, s10_17, s10_20, s10_21, s10_24, s10_25, s10_25n, s10_26, s10_27, s10_28, s10_31]
      simp
    · simp only [e, if_false]
      cases agB (T 3) hs home with
      | true => simp only [s10_0, s10_1, s10_2, s10_5, s10_8, s10_8n, s10_9, s10_10, s10_11, s10_14, s10_17, s10_20, s10_21, s10_24, s10_25, s10_25n, s10_26, s10_27, s10_28, s10_31]; simp
      | false =>
        simp only [s10_0, s10_1, s10_2, s10_5, s10_8, s10_8n, s10_9, s10_10, s10_11, s10_14, s10_17, s10_20, s10_21, s10_24, s10_25, s10_25n, s10_26, s10_27, s10_28, s10_31, hA, XG_1, XO_some, XV_1, xo_n, xo_i8, xo_r8, xo_i7, xo_r7, xo_i6, xo_r6, xo_i5, xo_r5, xo_i4, xo_r4, xo_i3, xo_r3, xo_i2, xo_r2, Option.toList_some, Option.toList_none, List.cons_append, List.nil_append, bI_t, bI_f, bI_0, bI_n0, if_true, if_false, true_and, and_true, ne_eq, not_true_eq_false, not_false_eq_true, one_ne0, reduceCtorEq, if_true]
        show (XC (d + 2) 47 _ h _ ↔ _)
        rw [e47]; simp only [s47_0, s47_1, s10_0, s10_1, s10_2, s10_5, s10_8, s10_8n, s10_9, s10_10, s10_11, s10_14, s10_17, s10_20, s10_21, s10_24, s10_25, s10_25n, s10_26, s10_27, s10_28, s10_31, XG_1, XO_some, XV_1, xo_n, xo_i8, xo_r8, xo_i7, xo_r7, xo_i6, xo_r6, xo_i5, xo_r5, xo_i4, xo_r4, xo_i3, xo_r3, xo_i2, xo_r2, Option.toList_some, Option.toList_none, List.cons_append, List.nil_append, bI_t, bI_f, bI_0, bI_n0, if_true, if_false, true_and, and_true, ne_eq, not_true_eq_false, not_false_eq_true, one_ne0, reduceCtorEq]; simp
  · show XC (d + 3) 1 _ h Q ↔ _
    rw [e1]; simp only [s1_0, s1_1, s1_1n, s1_2, s1_3, s1_4, s1_7, s1_8, s1_9, hA, XG_1, XO_some, XV_1, xo_n, xo_i8, xo_r8, xo_i7, xo_r7, xo_i6, xo_r6, xo_i5, xo_r5, xo_i4, xo_r4, xo_i3, xo_r3, xo_i2, xo_r2, Option.toList_some, Option.toList_none, List.cons_append, List.nil_append, bI_t, bI_f, bI_0, bI_n0, if_true, if_false, true_and, and_true, ne_eq, not_true_eq_false, not_false_eq_true, one_ne0, reduceCtorEq]
    show (XC (d + 2) 47 _ h _ ↔ _)
    rw [e47]; simp only [s47_0, s47_1, s1_0, s1_1, s1_1n, s1_2, s1_3, s1_4, s1_7, s1_8, s1_9, XG_1, XO_some, XV_1, xo_n, xo_i8, xo_r8, xo_i7, xo_r7, xo_i6, xo_r6, xo_i5, xo_r5, xo_i4, xo_r4, xo_i3, xo_r3, xo_i2, xo_r2, Option.toList_some, Option.toList_none, List.cons_append, List.nil_append, bI_t, bI_f, bI_0, bI_n0, if_true, if_false, true_and, and_true, ne_eq, not_true_eq_false, not_false_eq_true, one_ne0, reduceCtorEq, z2]; rfl
  · show XC (d + 3) 4 _ h Q ↔ _
    rw [e4]; simp only [s4_0, s4_1, s4_2, s4_2n, s4_3, s4_4, s4_5, s4_8, s4_10, s4_11, s4_14, hA, XG_1, XO_some, XV_1, xo_n, xo_i8, xo_r8, xo_i7, xo_r7, xo_i6, xo_r6, xo_i5, xo_r5, xo_i4, xo_r4, xo_i3, xo_r3, xo_i2, xo_r2, Option.toList_some, Option.toList_none, List.cons_append, List.nil_append, bI_t, bI_f, bI_0, bI_n0, if_true, if_false, true_and, and_true, ne_eq, not_true_eq_false, not_false_eq_true, one_ne0, reduceCtorEq]
    show (XC (d + 2) 47 _ h _ ↔ _)
    rw [e47]; simp only [s47_0, s47_1, s4_0, s4_1, s4_2, s4_2n, s4_3, s4_4, s4_5, s4_8, s4_10, s4_11, s4_14, XG_1, XO_some, XV_1, xo_n, xo_i8, xo_r8, xo_i7, xo_r7, xo_i6, xo_r6, xo_i5, xo_r5, xo_i4, xo_r4, xo_i3, xo_r3, xo_i2, xo_r2, Option.toList_some, Option.toList_none, List.cons_append, List.nil_append, bI_t, bI_f, bI_0, bI_n0, if_true, if_false, true_and, and_true, ne_eq, not_true_eq_false, not_false_eq_true, one_ne0, reduceCtorEq]; rfl
theorem c_would (R : RT Dy h.2.2.1 t n T p s) (I : IV n T) {dd : Nat} (hd : dd < n 1) (K : ∀ h', FR Dy P0 h h' → Q (some (.int (bI (lwB n T dd x y)))) h') : XC (d + 3) 72 [.ref t, .int (nI dd), .int x, .int y] h Q := by
  have hn := R.nn
  have h12 : dd < 12 := by omega
  have hI := isI_n hd (show n 1 < 2 ^ 31 by omega)
  have K0 := K h FR.refl
  rw [e72]
  simp only [s72_0, s72_1, s72_2, s72_5, s72_8, s72_9, s72_10, s72_13, s72_16, s72_17, s72_18, s72_21, s72_24, s72_25, s72_26, R.o, XG_1, XO_some, XV_1, xo_n, xo_i8, xo_r8, xo_i7, xo_r7, xo_i6, xo_r6, xo_i5, xo_r5, xo_i4, xo_r4, xo_i3, xo_r3, xo_i2, xo_r2, Option.toList_some, Option.toList_none, List.cons_append, List.nil_append, bI_t, bI_f, bI_0, bI_n0, if_true, if_false, true_and, and_true, ne_eq, not_true_eq_false, not_false_eq_true, one_ne0, reduceCtorEq, c_isDoor R, c_isHouse R, hI, Bool.true_eq_false]
  unfold lwB at K0 K
  cases hx : isI x (n 0) with
  | false => simp only [hx, if_true, bI_f] at K0; simp only [s72_0, s72_1, s72_2, s72_5, s72_8, s72_9, s72_10, s72_13, s72_16, s72_17, s72_18, s72_21, s72_24, s72_25, s72_26, s72_29, s72_30, s72_30t, s72_30b, s72_31, s72_32, s72_35, s72_36, s72_37, s72_39, s72_40, s72_42, s72_45, s72_46, s72_48, s72_51, s72_52, s72_53, s72_54, s72_57, s72_60, s72_61, s72_61t, s72_61b, s72_62, s72_63, s72_64, s72_65, s72_68, s72_71, s72_71n, s72_73, s72_73n, s72_75, s72_75n, s72_78, s72_78n, s72_80, s72_81, s72_82, s72_85, s72_86, s72_87, s72_90, s72_92, s72_93, s72_96, s72_99, s72_100, s72_103, s72_104, s72_104t, s72_104b, if_true]; exact K0
  | true =>
  cases hy : isI y (n 0) with
  | false => simp only [hx, hy, if_true, if_false, Bool.true_eq_false, bI_f] at K0; simp only [s72_0, s72_1, s72_2, s72_5, s72_8, s72_9, s72_10, s72_13, s72_16, s72_17, s72_18, s72_21, s72_24, s72_25, s72_26, s72_29, s72_30, s72_30t, s72_30b, s72_31, s72_32, s72_35, s72_36, s72_37, s72_39, s72_40, s72_42, s72_45, s72_46, s72_48, s72_51, s72_52, s72_53, s72_54, s72_57, s72_60, s72_61, s72_61t, s72_61b, s72_62, s72_63, s72_64, s72_65, s72_68, s72_71, s72_71n, s72_73, s72_73n, s72_75, s72_75n, s72_78, s72_78n, s72_80, s72_81, s72_82, s72_85, s72_86, s72_87, s72_90, s72_92, s72_93, s72_96, s72_99, s72_100, s72_103, s72_104, s72_104t, s72_104b, if_true, if_false, Bool.true_eq_false]; exact K0
  | true =>
  simp only [hx, hy, Bool.true_eq_false, if_false] at K0 K ⊢
  by_cases hxy : x = y
  · simp only [hxy, if_true, bI_f] at K0; simp only [hxy, if_true, s72_0, s72_1, s72_2, s72_5, s72_8, s72_9, s72_10, s72_13, s72_16, s72_17, s72_18, s72_21, s72_24, s72_25, s72_26, s72_29, s72_30, s72_30t, s72_30b, s72_31, s72_32, s72_35, s72_36, s72_37, s72_39, s72_40, s72_42, s72_45, s72_46, s72_48, s72_51, s72_52, s72_53, s72_54, s72_57, s72_60, s72_61, s72_61t, s72_61b, s72_62, s72_63, s72_64, s72_65, s72_68, s72_71, s72_71n, s72_73, s72_73n, s72_75, s72_75n, s72_78, s72_78n, s72_80, s72_81, s72_82, s72_85, s72_86, s72_87, s72_90, s72_92, s72_93, s72_96, s72_99, s72_100, s72_103, s72_104, s72_104t, s72_104b]; exact K0
  simp only [hxy, if_false] at K0 K ⊢
  simp only [s72_29, s72_30, s72_30t, s72_30b, s72_31, s72_32, s72_35, s72_36, s72_37, s72_39, s72_40, s72_42, s72_45, s72_46, s72_48, s72_51, s72_52, s72_53, s72_54, s72_57, s72_60, R.o, R.ow, tf11, XG_1, XO_some, XV_1, xo_n, xo_i8, xo_r8, xo_i7, xo_r7, xo_i6, xo_r6, xo_i5, xo_r5, xo_i4, xo_r4, xo_i3, xo_r3, xo_i2, xo_r2, Option.toList_some, Option.toList_none, List.cons_append, List.nil_append, bI_t, bI_f, bI_0, bI_n0, if_true, if_false, true_and, and_true, ne_eq, not_true_eq_false, not_false_eq_true, one_ne0, reduceCtorEq, XA12 h12]
  by_cases h1 : x = T 4 dd
  · simp only [h1, if_true, bI_f] at K0; simp only [h1, if_true, s72_0, s72_1, s72_2, s72_5, s72_8, s72_9, s72_10, s72_13, s72_16, s72_17, s72_18, s72_21, s72_24, s72_25, s72_26, s72_29, s72_30, s72_30t, s72_30b, s72_31, s72_32, s72_35, s72_36, s72_37, s72_39, s72_40, s72_42, s72_45, s72_46, s72_48, s72_51, s72_52, s72_53, s72_54, s72_57, s72_60, s72_61, s72_61t, s72_61b, s72_62, s72_63, s72_64, s72_65, s72_68, s72_71, s72_71n, s72_73, s72_73n, s72_75, s72_75n, s72_78, s72_78n, s72_80, s72_81, s72_82, s72_85, s72_86, s72_87, s72_90, s72_92, s72_93, s72_96, s72_99, s72_100, s72_103, s72_104, s72_104t, s72_104b]; exact K0
  simp only [h1, if_false] at K0 K ⊢
  by_cases h2 : y = T 4 dd
  · simp only [h2, if_true, bI_f] at K0; simp only [h2, if_true, s72_0, s72_1, s72_2, s72_5, s72_8, s72_9, s72_10, s72_13, s72_16, s72_17, s72_18, s72_21, s72_24, s72_25, s72_26, s72_29, s72_30, s72_30t, s72_30b, s72_31, s72_32, s72_35, s72_36, s72_37, s72_39, s72_40, s72_42, s72_45, s72_46, s72_48, s72_51, s72_52, s72_53, s72_54, s72_57, s72_60, s72_61, s72_61t, s72_61b, s72_62, s72_63, s72_64, s72_65, s72_68, s72_71, s72_71n, s72_73, s72_73n, s72_75, s72_75n, s72_78, s72_78n, s72_80, s72_81, s72_82, s72_85, s72_86, s72_87, s72_90, s72_92, s72_93, s72_96, s72_99, s72_100, s72_103, s72_104, s72_104t, s72_104b]; exact K0
  simp only [h2, if_false] at K0 K ⊢
  obtain ⟨i, hi, rfl⟩ := isI_t hx (by omega)
  obtain ⟨j, hj, rfl⟩ := isI_t hy (by omega)
  simp only [c_doAgree R hi hj, XG_1, XO_some, XV_1, xo_n, xo_i8, xo_r8, xo_i7, xo_r7, xo_i6, xo_r6, xo_i5, xo_r5, xo_i4, xo_r4, xo_i3, xo_r3, xo_i2, xo_r2, Option.toList_some, Option.toList_none, List.cons_append, List.nil_append, bI_t, bI_f, bI_0, bI_n0, if_true, if_false, true_and, and_true, ne_eq, not_true_eq_false, not_false_eq_true, one_ne0, reduceCtorEq]
  rw [nI_clamp (show i < 2 ^ 31 by omega), nI_clamp (show j < 2 ^ 31 by omega)] at K0 K
  simp only [s72_57, XG_1, XO_some, XV_1, xo_n, xo_i8, xo_r8, xo_i7, xo_r7, xo_i6, xo_r6, xo_i5, xo_r5, xo_i4, xo_r4, xo_i3, xo_r3, xo_i2, xo_r2, Option.toList_some, Option.toList_none, List.cons_append, List.nil_append, bI_t, bI_f, bI_0, bI_n0, if_true, if_false, true_and, and_true, ne_eq, not_true_eq_false, not_false_eq_true, one_ne0, reduceCtorEq]
  cases hag : agB (T 3) i j with
  | true => simp only [hag, if_true, bI_f] at K0; simp only [s72_0, s72_1, s72_2, s72_5, s72_8, s72_9, s72_10, s72_13, s72_16, s72_17, s72_18, s72_21, s72_24, s72_25, s72_26, s72_29, s72_30, s72_30t, s72_30b, s72_31, s72_32, s72_35, s72_36, s72_37, s72_39, s72_40, s72_42, s72_45, s72_46, s72_48, s72_51, s72_52, s72_53, s72_54, s72_57, s72_60, s72_61, s72_61t, s72_61b, s72_62, s72_63, s72_64, s72_65, s72_68, s72_71, s72_71n, s72_73, s72_73n, s72_75, s72_75n, s72_78, s72_78n, s72_80, s72_81, s72_82, s72_85, s72_86, s72_87, s72_90, s72_92, s72_93, s72_96, s72_99, s72_100, s72_103, s72_104, s72_104t, s72_104b, if_false, Bool.true_eq_false]; exact K0
  | false =>
  simp only [hag, Bool.false_eq_true, if_false] at K0 K
  simp only [s72_60, s72_61, s72_61t, s72_61b, s72_62, s72_63, s72_64, s72_65, s72_68, R.o, XG_1, XO_some, XV_1, xo_n, xo_i8, xo_r8, xo_i7, xo_r7, xo_i6, xo_r6, xo_i5, xo_r5, xo_i4, xo_r4, xo_i3, xo_r3, xo_i2, xo_r2, Option.toList_some, Option.toList_none, List.cons_append, List.nil_append, bI_t, bI_f, bI_0, bI_n0, if_true, if_false, true_and, and_true, ne_eq, not_true_eq_false, not_false_eq_true, one_ne0, reduceCtorEq, c_lastOf R, c_textAt R]
  rcases lawAt R I (ky := 2) (by decide) (Q := fun v h' => XE (d + 2) 72 71 [.val (.ref t), .val (.int (nI dd)), .val (.int (nI i)), .val (.int (nI j)), .val (.int (T 4 dd)), .unset] (v.toList ++ []) h' Q) with ⟨hl, hq⟩ | ⟨k, a, u, hl, hq, ha, hX, hu, hul, hw⟩
  · refine hq.mpr ?_
    simp only [s72_0, s72_1, s72_2, s72_5, s72_8, s72_9, s72_10, s72_13, s72_16, s72_17, s72_18, s72_21, s72_24, s72_25, s72_26, s72_29, s72_30, s72_30t, s72_30b, s72_31, s72_32, s72_35, s72_36, s72_37, s72_39, s72_40, s72_42, s72_45, s72_46, s72_48, s72_51, s72_52, s72_53, s72_54, s72_57, s72_60, s72_61, s72_61t, s72_61b, s72_62, s72_63, s72_64, s72_65, s72_68, s72_71, s72_71n, s72_73, s72_73n, s72_75, s72_75n, s72_78, s72_78n, s72_80, s72_81, s72_82, s72_85, s72_86, s72_87, s72_90, s72_92, s72_93, s72_96, s72_99, s72_100, s72_103, s72_104, s72_104t, s72_104b, XG_1, XO_some, XV_1, xo_n, xo_i8, xo_r8, xo_i7, xo_r7, xo_i6, xo_r6, xo_i5, xo_r5, xo_i4, xo_r4, xo_i3, xo_r3, xo_i2, xo_r2, Option.toList_some, Option.toList_none, List.cons_append, List.nil_append, bI_t, bI_f, bI_0, bI_n0, if_true, if_false, true_and, and_true, ne_eq, not_true_eq_false, not_false_eq_true, one_ne0, reduceCtorEq]
    rw [show (2 : Int32) = nI 2 from rfl, hl] at K0
    exact K0
  · refine hq.mpr ?_
    simp only [s72_0, s72_1, s72_2, s72_5, s72_8, s72_9, s72_10, s72_13, s72_16, s72_17, s72_18, s72_21, s72_24, s72_25, s72_26, s72_29, s72_30, s72_30t, s72_30b, s72_31, s72_32, s72_35, s72_36, s72_37, s72_39, s72_40, s72_42, s72_45, s72_46, s72_48, s72_51, s72_52, s72_53, s72_54, s72_57, s72_60, s72_61, s72_61t, s72_61b, s72_62, s72_63, s72_64, s72_65, s72_68, s72_71, s72_71n, s72_73, s72_73n, s72_75, s72_75n, s72_78, s72_78n, s72_80, s72_81, s72_82, s72_85, s72_86, s72_87, s72_90, s72_92, s72_93, s72_96, s72_99, s72_100, s72_103, s72_104, s72_104t, s72_104b, XG_1, XO_some, XV_1, xo_n, xo_i8, xo_r8, xo_i7, xo_r7, xo_i6, xo_r6, xo_i5, xo_r5, xo_i4, xo_r4, xo_i3, xo_r3, xo_i2, xo_r2, Option.toList_some, Option.toList_none, List.cons_append, List.nil_append, bI_t, bI_f, bI_0, bI_n0, if_true, if_false, true_and, and_true, ne_eq, not_true_eq_false, not_false_eq_true, one_ne0, reduceCtorEq, hX.choose_spec.2.2.1]
    refine c_gives hX hu hul hw (by decide) ha (e2 := env4 (if nI j < nI i then nI j else nI i) (if nI i < nI j then nI j else nI i) (T 4 dd) 0) (fun j _ => rfl) fun h1 F1 => ?_
    simp only [s72_0, s72_1, s72_2, s72_5, s72_8, s72_9, s72_10, s72_13, s72_16, s72_17, s72_18, s72_21, s72_24, s72_25, s72_26, s72_29, s72_30, s72_30t, s72_30b, s72_31, s72_32, s72_35, s72_36, s72_37, s72_39, s72_40, s72_42, s72_45, s72_46, s72_48, s72_51, s72_52, s72_53, s72_54, s72_57, s72_60, s72_61, s72_61t, s72_61b, s72_62, s72_63, s72_64, s72_65, s72_68, s72_71, s72_71n, s72_73, s72_73n, s72_75, s72_75n, s72_78, s72_78n, s72_80, s72_81, s72_82, s72_85, s72_86, s72_87, s72_90, s72_92, s72_93, s72_96, s72_99, s72_100, s72_103, s72_104, s72_104t, s72_104b, XG_1, XO_some, XV_1, xo_n, xo_i8, xo_r8, xo_i7, xo_r7, xo_i6, xo_r6, xo_i5, xo_r5, xo_i4, xo_r4, xo_i3, xo_r3, xo_i2, xo_r2, Option.toList_some, Option.toList_none, List.cons_append, List.nil_append, bI_t, bI_f, bI_0, bI_n0, if_true, if_false, true_and, and_true, ne_eq, not_true_eq_false, not_false_eq_true, one_ne0, reduceCtorEq]
    have := K h1 F1
    rw [show (2 : Int32) = nI 2 from rfl, hl] at this
    dsimp only at this
    unfold evT at this
    rw [hu, nI_clamp (by omega)] at this
    by_cases hz : evV (tcd T k) (env4 (if nI j < nI i then nI j else nI i) (if nI i < nI j then nI j else nI i) (T 4 dd) 0) u = 0
    · simp only [hz, if_true, decide_true, Bool.not_true, bI_f] at this ⊢; exact this
    · simp only [hz, if_false, decide_false, Bool.not_false, bI_t] at this ⊢; exact this
end TM3
