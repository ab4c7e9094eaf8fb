/-! ===== 23: what a text gives; the town's small readings ===== -/
def twoF (x a b : Int32) : Int32 := if x = -8 then a * b else if x = -7 then a - b else if x = -6 then a + b else if x = -5 then (if b < a then 1 else 0) else if x = -4 then (if a = b then 1 else 0) else if x = -3 then (if a < b then 1 else 0) else if x = -2 then (if a = 0 then 0 else if b = 0 then 0 else 1) else if x = -1 then (if a = 0 then (if b = 0 then 0 else 1) else 1) else (if b = 0 then 0 else a / b)
section TX1
variable {d : Nat} {h : xH} {Q : Option Value → xH → Prop} {x y z : Int32}
theorem c_two : XC (d + 1) 208 [.int x, .int y, .int z] h Q ↔ Q (some (.int (twoF x y z))) h := by
  rw [e208]
  simp only [s208_0, s208_1, s208_48, s208_49, s208_52, s208_53, s208_56, s208_57, s208_60, s208_61, s208_62, s208_63, s208_66, s208_67, s208_70, s208_71, s208_74, s208_75, s208_76, s208_77, s208_78, s208_81, s208_82, s208_85, s208_86, s208_87, s208_88, s208_89, s208_92, s208_93, s208_96, s208_97, s208_98, s208_99, s208_100, s208_103, s208_104, s208_107, s208_108, s208_109, s208_110, s208_111, s208_112, s208_113, s208_114, s208_115, s208_116, s208_117, s208_118, s208_119, s208_120, s208_121, s208_122, s208_125, s208_126, s208_129, s208_130, s208_131, s208_132, xswi, XG_1, XO_some, XV_1, xo_n, xo_i8, xo_r8, xo_i7, xo_r7, xo_i6, xo_r6, xo_i5, xo_r5, xo_i4, xo_r4, xo_i3, xo_r3, xo_i2, xo_r2, Option.toList_some, Option.toList_none, List.cons_append, List.nil_append, bI_t, bI_f, bI_0, bI_n0, if_true, if_false, true_and, and_true, ne_eq, not_true_eq_false, not_false_eq_true, one_ne0, reduceCtorEq]
  unfold twoF
  by_cases h1 : x = -8
  · simp only [h1, if_true]
  simp only [h1, if_false]
  by_cases h1 : x = -7
  · simp only [h1, if_true]
  simp only [h1, if_false]
  by_cases h1 : x = -6
  · simp only [h1, if_true]
  simp only [h1, if_false]
  by_cases h1 : x = -5
  · simp only [h1, if_true]; split <;> rfl
  simp only [h1, if_false]
  by_cases h1 : x = -4
  · simp only [h1, if_true]; split <;> rfl
  simp only [h1, if_false]
  by_cases h1 : x = -3
  · simp only [h1, if_true]; split <;> rfl
  simp only [h1, if_false]
  by_cases h1 : x = -2
  · simp only [h1, if_true]; split
    · rfl
    · split <;> rfl
  simp only [h1, if_false]
  by_cases h1 : x = -1
  · simp only [h1, if_true]; split
    · split <;> rfl
    · rfl
  simp only [h1, if_false]
  by_cases hz : z = 0
  · simp only [hz, if_true]
  · simp only [hz, if_false, not_false_eq_true, true_and]
/-- the class's sign of the reference's -/
theorem c_joined (hx : x = -1 ∨ x = -2 ∨ x = -3 ∨ x = -4 ∨ x = -5 ∨ x = -6 ∨ x = -7 ∨ x = -8 ∨ x = -9) : XC (d + 1) 43 [.int (-1000 - cenc x), .int y, .int z] h Q ↔ Q (some (.int (twoF x y z))) h := by
  rw [e43]
  rcases hx with rfl | rfl | rfl | rfl | rfl | rfl | rfl | rfl | rfl
  · rw [show (-1000 - cenc (-1) : Int32) = 124 by decide]
    simp only [s43_0, s43_1, s43_84, s43_85, s43_88, s43_89, s43_92, s43_93, s43_96, s43_97, s43_98, s43_99, s43_102, s43_103, s43_106, s43_107, s43_110, s43_111, s43_112, s43_113, s43_114, s43_117, s43_118, s43_121, s43_122, s43_123, s43_124, s43_125, s43_128, s43_129, s43_132, s43_133, s43_134, s43_135, s43_136, s43_139, s43_140, s43_143, s43_144, s43_145, s43_146, s43_147, s43_148, s43_149, s43_150, s43_151, s43_152, s43_153, s43_154, s43_155, s43_156, s43_157, s43_158, s43_161, s43_162, s43_165, s43_166, s43_167, s43_168, s43_169, s43_170, xswi]
    simp [twoF]; split
    · split <;> rfl
    · rfl
  · rw [show (-1000 - cenc (-2) : Int32) = 38 by decide]
    simp only [s43_0, s43_1, s43_84, s43_85, s43_88, s43_89, s43_92, s43_93, s43_96, s43_97, s43_98, s43_99, s43_102, s43_103, s43_106, s43_107, s43_110, s43_111, s43_112, s43_113, s43_114, s43_117, s43_118, s43_121, s43_122, s43_123, s43_124, s43_125, s43_128, s43_129, s43_132, s43_133, s43_134, s43_135, s43_136, s43_139, s43_140, s43_143, s43_144, s43_145, s43_146, s43_147, s43_148, s43_149, s43_150, s43_151, s43_152, s43_153, s43_154, s43_155, s43_156, s43_157, s43_158, s43_161, s43_162, s43_165, s43_166, s43_167, s43_168, s43_169, s43_170, xswi]
    simp [twoF]; split
    · rfl
    · split <;> rfl
  · rw [show (-1000 - cenc (-3) : Int32) = 60 by decide]
    simp only [s43_0, s43_1, s43_84, s43_85, s43_88, s43_89, s43_92, s43_93, s43_96, s43_97, s43_98, s43_99, s43_102, s43_103, s43_106, s43_107, s43_110, s43_111, s43_112, s43_113, s43_114, s43_117, s43_118, s43_121, s43_122, s43_123, s43_124, s43_125, s43_128, s43_129, s43_132, s43_133, s43_134, s43_135, s43_136, s43_139, s43_140, s43_143, s43_144, s43_145, s43_146, s43_147, s43_148, s43_149, s43_150, s43_151, s43_152, s43_153, s43_154, s43_155, s43_156, s43_157, s43_158, s43_161, s43_162, s43_165, s43_166, s43_167, s43_168, s43_169, s43_170, xswi]
    simp [twoF]; split <;> rfl
  · rw [show (-1000 - cenc (-4) : Int32) = 61 by decide]
    simp only [s43_0, s43_1, s43_84, s43_85, s43_88, s43_89, s43_92, s43_93, s43_96, s43_97, s43_98, s43_99, s43_102, s43_103, s43_106, s43_107, s43_110, s43_111, s43_112, s43_113, s43_114, s43_117, s43_118, s43_121, s43_122, s43_123, s43_124, s43_125, s43_128, s43_129, s43_132, s43_133, s43_134, s43_135, s43_136, s43_139, s43_140, s43_143, s43_144, s43_145, s43_146, s43_147, s43_148, s43_149, s43_150, s43_151, s43_152, s43_153, s43_154, s43_155, s43_156, s43_157, s43_158, s43_161, s43_162, s43_165, s43_166, s43_167, s43_168, s43_169, s43_170, xswi]
    simp [twoF]; split <;> rfl
  · rw [show (-1000 - cenc (-5) : Int32) = 62 by decide]
    simp only [s43_0, s43_1, s43_84, s43_85, s43_88, s43_89, s43_92, s43_93, s43_96, s43_97, s43_98, s43_99, s43_102, s43_103, s43_106, s43_107, s43_110, s43_111, s43_112, s43_113, s43_114, s43_117, s43_118, s43_121, s43_122, s43_123, s43_124, s43_125, s43_128, s43_129, s43_132, s43_133, s43_134, s43_135, s43_136, s43_139, s43_140, s43_143, s43_144, s43_145, s43_146, s43_147, s43_148, s43_149, s43_150, s43_151, s43_152, s43_153, s43_154, s43_155, s43_156, s43_157, s43_158, s43_161, s43_162, s43_165, s43_166, s43_167, s43_168, s43_169, s43_170, xswi]
    simp [twoF]; split <;> rfl
  · rw [show (-1000 - cenc (-6) : Int32) = 43 by decide]
    simp only [s43_0, s43_1, s43_84, s43_85, s43_88, s43_89, s43_92, s43_93, s43_96, s43_97, s43_98, s43_99, s43_102, s43_103, s43_106, s43_107, s43_110, s43_111, s43_112, s43_113, s43_114, s43_117, s43_118, s43_121, s43_122, s43_123, s43_124, s43_125, s43_128, s43_129, s43_132, s43_133, s43_134, s43_135, s43_136, s43_139, s43_140, s43_143, s43_144, s43_145, s43_146, s43_147, s43_148, s43_149, s43_150, s43_151, s43_152, s43_153, s43_154, s43_155, s43_156, s43_157, s43_158, s43_161, s43_162, s43_165, s43_166, s43_167, s43_168, s43_169, s43_170, xswi]
    simp [twoF]
  · rw [show (-1000 - cenc (-7) : Int32) = 45 by decide]
    simp only [s43_0, s43_1, s43_84, s43_85, s43_88, s43_89, s43_92, s43_93, s43_96, s43_97, s43_98, s43_99, s43_102, s43_103, s43_106, s43_107, s43_110, s43_111, s43_112, s43_113, s43_114, s43_117, s43_118, s43_121, s43_122, s43_123, s43_124, s43_125, s43_128, s43_129, s43_132, s43_133, s43_134, s43_135, s43_136, s43_139, s43_140, s43_143, s43_144, s43_145, s43_146, s43_147, s43_148, s43_149, s43_150, s43_151, s43_152, s43_153, s43_154, s43_155, s43_156, s43_157, s43_158, s43_161, s43_162, s43_165, s43_166, s43_167, s43_168, s43_169, s43_170, xswi]
    simp [twoF]
  · rw [show (-1000 - cenc (-8) : Int32) = 42 by decide]
    simp only [s43_0, s43_1, s43_84, s43_85, s43_88, s43_89, s43_92, s43_93, s43_96, s43_97, s43_98, s43_99, s43_102, s43_103, s43_106, s43_107, s43_110, s43_111, s43_112, s43_113, s43_114, s43_117, s43_118, s43_121, s43_122, s43_123, s43_124, s43_125, s43_128, s43_129, s43_132, s43_133, s43_134, s43_135, s43_136, s43_139, s43_140, s43_143, s43_144, s43_145, s43_146, s43_147, s43_148, s43_149, s43_150, s43_151, s43_152, s43_153, s43_154, s43_155, s43_156, s43_157, s43_158, s43_161, s43_162, s43_165, s43_166, s43_167, s43_168, s43_169, s43_170, xswi]
    simp [twoF]
  · rw [show (-1000 - cenc (-9) : Int32) = 47 by decide]
    simp only [s43_0, s43_1, s43_84, s43_85, s43_88, s43_89, s43_92, s43_93, s43_96, s43_97, s43_98, s43_99, s43_102, s43_103, s43_106, s43_107, s43_110, s43_111, s43_112, s43_113, s43_114, s43_117, s43_118, s43_121, s43_122, s43_123, s43_124, s43_125, s43_128, s43_129, s43_132, s43_133, s43_134, s43_135, s43_136, s43_139, s43_140, s43_143, s43_144, s43_145, s43_146, s43_147, s43_148, s43_149, s43_150, s43_151, s43_152, s43_153, s43_154, s43_155, s43_156, s43_157, s43_158, s43_161, s43_162, s43_165, s43_166, s43_167, s43_168, s43_169, s43_170, xswi]
    simp [twoF]
    by_cases hz : z = 0
    · simp [hz]
    · simp [hz]
def env4 (a b c e : Int32) : Nat → Int32 := fun i => if i = 0 then a else if i = 1 then b else if i = 2 then c else e
theorem c_named {i : Nat} (hi : i < 4) {a b c e : Int32} : XC (d + 1) 42 [.int (nI i), .int a, .int b, .int c, .int e] h Q ↔ Q (some (.int (env4 a b c e i))) h := by
  rw [e42]
  simp only [s42_0, s42_1, s42_28, s42_29, s42_30, s42_31, s42_32, s42_33, s42_34, s42_36, xswi]
  rcases (show i = 0 ∨ i = 1 ∨ i = 2 ∨ i = 3 by omega) with rfl | rfl | rfl | rfl
  · rfl
  · rfl
  · rfl
  · rfl
end TX1
def est (e : Nat → Int32) (x : Int32) (q : Nat × (Nat → Int32)) : Nat × (Nat → Int32) :=
  if ¬ x < 0 then (q.1 + 1, upd q.2 q.1 (if x < 10000 then x else e (x - 10000).toNatClampNeg)) else if x = -10 then (q.1, upd q.2 (q.1 - 1) (if q.2 (q.1 - 1) = 0 then 1 else 0)) else (q.1 - 1, upd q.2 (q.1 - 2) (twoF x (q.2 (q.1 - 2)) (q.2 (q.1 - 1))))
def erun (cd e : Nat → Int32) (g : Nat → Int32) : Nat → Nat × (Nat → Int32)
  | 0 => (0, g)
  | k + 1 => est e (cd k) (erun cd e g k)
def dpt (cd : Nat → Int32) : Nat → Nat
  | 0 => 0
  | k + 1 => if ¬ cd k < 0 then dpt cd k + 1 else if cd k = -10 then dpt cd k else dpt cd k - 1
def sgn9 (x : Int32) : Prop := x = -1 ∨ x = -2 ∨ x = -3 ∨ x = -4 ∨ x = -5 ∨ x = -6 ∨ x = -7 ∨ x = -8 ∨ x = -9
def wfk (cd : Nat → Int32) (nn k : Nat) : Prop := (∃ v, v < 10000 ∧ cd k = nI v) ∨ (∃ i, i < nn ∧ cd k = nI (10000 + i)) ∨ (cd k = -10 ∧ 1 ≤ dpt cd k) ∨ (sgn9 (cd k) ∧ 2 ≤ dpt cd k)
def wfc (cd : Nat → Int32) (nn u : Nat) : Prop := (∀ k, k < u → wfk cd nn k) ∧ dpt cd u = 1
theorem sgn9_neg {x : Int32} (h : sgn9 x) : x < 0 ∧ x ≠ -10 ∧ cenc x < -1033 - 1 ∨ x < 0 ∧ x ≠ -10 ∧ cenc x < -1033 ∨ x < 0 ∧ x ≠ -10 ∧ cenc x ≠ -1033 ∧ cenc x < -1000 := by
  rcases h with rfl | rfl | rfl | rfl | rfl | rfl | rfl | rfl | rfl <;> decide
theorem sgn9_a {x : Int32} (h : sgn9 x) : x < 0 ∧ x ≠ -10 ∧ cenc x ≠ -1033 ∧ ¬ (-1000) < cenc x := by
  rcases h with rfl | rfl | rfl | rfl | rfl | rfl | rfl | rfl | rfl <;> decide
theorem num_a {v : Nat} (h : v < 10000) : ¬ nI v < 0 ∧ nI v < 10000 ∧ cenc (nI v) = nI v ∧ -1000 < nI v := by
  have h1 : ¬ nI v < 0 := nI_pos (by omega)
  have h2 : nI v < 10000 := nI_lt (b := 10000) h (by decide)
  refine ⟨h1, h2, by unfold cenc; rw [if_neg h1, if_pos h2], ?_⟩
  rw [Int32.lt_iff_toInt_lt, nI_toInt (by omega)]
  have : (-1000 : Int32).toInt = -1000 := by decide
  omega
theorem name_a {i : Nat} (h : i < 4) : ¬ nI (10000 + i) < 0 ∧ ¬ nI (10000 + i) < 10000 ∧ -1000 < cenc (nI (10000 + i)) ∧ cenc (nI (10000 + i)) < 0 ∧ -1 - cenc (nI (10000 + i)) = nI i ∧ nI (10000 + i) - 10000 = nI i ∧ (nI (10000 + i) - 10000).toNatClampNeg = i := by
  rcases (show i = 0 ∨ i = 1 ∨ i = 2 ∨ i = 3 by omega) with rfl | rfl | rfl | rfl <;> decide
theorem erun_top {cd e g : Nat → Int32} : ∀ k, (erun cd e g k).1 = dpt cd k := by
  intro k
  induction k with
  | zero => rfl
  | succ k ih =>
    show (est e (cd k) (erun cd e g k)).1 = dpt cd (k + 1)
    unfold est dpt
    split
    · rw [← ih]
    · split
      · rw [← ih]
      · rw [← ih]
theorem dpt_le {cd : Nat → Int32} : ∀ k, dpt cd k ≤ k := by
  intro k
  induction k with
  | zero => exact Nat.le_refl _
  | succ k ih => unfold dpt; split <;> first | omega | (split <;> omega)
theorem erun_ext {cd e e2 g g2 : Nat → Int32} {nn u : Nat} (hw : ∀ k, k < u → wfk cd nn k) (hn : nn ≤ 4) (he : ∀ i, i < nn → e i = e2 i) : ∀ k, k ≤ u → ∀ j, j < dpt cd k → (erun cd e g k).2 j = (erun cd e2 g2 k).2 j := by
  intro k
  induction k with
  | zero => intro _ j hj; exact absurd hj (Nat.not_lt_zero j)
  | succ k ih =>
    intro hk j hj
    have ih1 := ih (by omega)
    show (est e (cd k) (erun cd e g k)).2 j = (est e2 (cd k) (erun cd e2 g2 k)).2 j
    unfold est
    rw [erun_top, erun_top]
    unfold dpt at hj
    rcases hw k (by omega) with ⟨v, hv, hc⟩ | ⟨i, hi, hc⟩ | ⟨hc, hd⟩ | ⟨hc, hd⟩
    · obtain ⟨a1, a2, -⟩ := num_a hv
      rw [hc] at hj ⊢
      rw [if_pos a1] at hj
      rw [if_pos a1, if_pos a1, if_pos a2, if_pos a2]
      dsimp only
      by_cases e0 : j = dpt cd k
      · rw [e0, upd_at, upd_at]
      · rw [upd_ne e0, upd_ne e0]; exact ih1 j (by omega)
    · obtain ⟨a1, a2, -, -, -, -, a3⟩ := name_a (i := i) (by omega)
      rw [hc] at hj ⊢
      rw [if_pos a1] at hj
      rw [if_pos a1, if_pos a1, if_neg a2, if_neg a2, a3, he i hi]
      dsimp only
      by_cases e0 : j = dpt cd k
      · rw [e0, upd_at, upd_at]
      · rw [upd_ne e0, upd_ne e0]; exact ih1 j (by omega)
    · rw [hc] at hj ⊢
      rw [if_neg (by decide), if_pos rfl] at hj
      rw [if_neg (show ¬ ¬ (-10 : Int32) < 0 by decide), if_pos rfl, if_neg (show ¬ ¬ (-10 : Int32) < 0 by decide), if_pos rfl, ih1 _ (by omega : dpt cd k - 1 < dpt cd k)]
      dsimp only
      by_cases e0 : j = dpt cd k - 1
      · rw [e0, upd_at, upd_at]
      · rw [upd_ne e0, upd_ne e0]; exact ih1 j hj
    · obtain ⟨a1, a2, -⟩ := sgn9_a hc
      rw [if_neg (fun q => q a1), if_neg a2] at hj
      rw [if_neg (fun q => q a1), if_neg a2, if_neg (fun q => q a1), if_neg a2, ih1 _ (by omega : dpt cd k - 1 < dpt cd k), ih1 _ (by omega : dpt cd k - 2 < dpt cd k)]
      dsimp only
      by_cases e0 : j = dpt cd k - 2
      · rw [e0, upd_at, upd_at]
      · rw [upd_ne e0, upd_ne e0]; exact ih1 j (by omega)
/-- what a code gives -/
def evV (cd e : Nat → Int32) (u : Nat) : Int32 := (erun cd e (fun _ => 0) u).2 0
theorem evV_eq {cd e e2 g : Nat → Int32} {nn u : Nat} (hw : wfc cd nn u) (hn : nn ≤ 4) (he : ∀ i, i < nn → e i = e2 i) : (erun cd e g u).2 0 = evV cd e2 u := erun_ext hw.1 hn he u (Nat.le_refl u) 0 (by rw [hw.2]; decide)
theorem xset_id {h : xH} {a : Nat} : xset h a (h.2.2.1 a) = h := by
  obtain ⟨h1, h2, h3, h4⟩ := h
  unfold xset
  dsimp only
  congr 3
  funext j
  by_cases hj : j = a
  · subst hj; rw [xup_s]
  · rw [xup_n hj]
section TX2
variable {d : Nat} {h : xH} {Q : Option Value → xH → Prop}
theorem l_gives {a u : Nat} {ky tm b1 b2 b3 b4 : Int32} {cd f g : Nat → Int32} {nn : Nat} (hu : u ≤ 95) (h0 : h.2.2.1 a = .inr (8, [.int ky, .int tm, .ref (a + 1), .ref (a + 2)])) (h1 : h.2.2.1 (a + 1) = .inl (0, xis u f)) (hf : ∀ k, k < u → f k = cenc (cd k)) (hw : wfc cd nn u) (hn : nn ≤ 4) :
    ∀ k i, i + k = u → ∀ c7, (XE (d + 1) 41 6 [.val (.ref a), .val (.int b1), .val (.int b2), .val (.int b3), .val (.int b4), .val (.int (nI (erun cd (env4 b1 b2 b3 b4) g i).1)), .val (.int (nI i)), c7] [] (xset h (a + 2) (.inl (0, xis u (erun cd (env4 b1 b2 b3 b4) g i).2))) Q ↔ Q (some (.int ((erun cd (env4 b1 b2 b3 b4) g u).2 0))) (xset h (a + 2) (.inl (0, xis u (erun cd (env4 b1 b2 b3 b4) g u).2)))) := by
  have e0 : ∀ e, (xset h (a + 2) e).2.2.1 a = .inr (8, [.int ky, .int tm, .ref (a + 1), .ref (a + 2)]) := fun e => by rw [xset_ne (by omega)]; exact h0
  have e1 : ∀ e, (xset h (a + 2) e).2.2.1 (a + 1) = .inl (0, xis u f) := fun e => by rw [xset_ne (by omega)]; exact h1
  intro k
  induction k with
  | zero =>
    intro i hi c7
    have hiu : i = u := by omega
    subst hiu
    have hlt : ¬ nI i < nI i := nI_nlt (Nat.le_refl _) (by omega)
    have hp : 0 < nI (erun cd (env4 b1 b2 b3 b4) g i).1 := by rw [erun_top, hw.2]; decide
    have hi0 : 0 < i := Nat.lt_of_lt_of_le (by rw [hw.2]; decide : 0 < dpt cd i) (dpt_le i)
    have hA : ∀ {F : Int32 → Prop} {w : Nat → Int32}, XA [0, 7] (.inl (0, xis i w)) 0 F ↔ F (w 0) := fun {F w} => XA_0 (j := 0) hi0 (by omega)
    rw [s41_6]
    simp only [s41_0, s41_1, s41_3, s41_4, s41_8, s41_9, s41_12, s41_13, s41_16, s41_17, s41_20, s41_22, s41_23, s41_25, s41_27, s41_30, s41_33, s41_35, s41_36, s41_39, s41_40, s41_43, s41_44, s41_47, s41_49, s41_51, s41_54, s41_56, s41_59, s41_60, s41_62, s41_63, s41_64, s41_65, s41_66, s41_68, s41_71, s41_72, s41_75, s41_78, s41_80, s41_83, s41_86, s41_88, s41_91, s41_92, s41_95, s41_97, s41_98, s41_99, s41_100, s41_103, s41_105, s41_106, s41_107, s41_108, s41_111, s41_112, s41_115, s41_116, s41_117, s41_120, s41_122, s41_123, s41_126, s41_129, s41_130, s41_133, s41_135, s41_136, s41_137, s41_140, s41_142, s41_143, s41_144, s41_147, s41_149, s41_150, s41_151, s41_152, s41_153, s41_156, s41_158, s41_159, s41_162, s41_163, s41_166, s41_169, s41_171, s41_174, s41_175, s41_178, s41_179, s41_180, s41_183, s41_184, e0, e1, xset_self, List.getElem?_cons_succ, List.getElem?_cons_zero, XL_0, XG_1, XO_some, XV_1, xo_n, xo_i8, xo_r8, xo_i7, xo_r7, xo_i6, xo_r6, xo_i5, xo_r5, xo_i4, xo_r4, xo_i3, xo_r3, xo_i2, xo_r2, Option.toList_some, Option.toList_none, List.cons_append, List.nil_append, bI_t, bI_f, bI_0, bI_n0, if_true, if_false, true_and, and_true, ne_eq, not_true_eq_false, not_false_eq_true, one_ne0, reduceCtorEq, hlt, hp, hA]
  | succ k ih =>
    intro i hi c7
    have hiu : i < u := by omega
    have hlt : nI i < nI u := nI_lt hiu (by omega)
    have hdi := dpt_le (cd := cd) i
    have ih1 := ih (i + 1) (by omega)
    have hs : erun cd (env4 b1 b2 b3 b4) g (i + 1) = est (env4 b1 b2 b3 b4) (cd i) (erun cd (env4 b1 b2 b3 b4) g i) := rfl
    have ht : (erun cd (env4 b1 b2 b3 b4) g i).1 = dpt cd i := erun_top i
    rw [hs] at ih1
    generalize erun cd (env4 b1 b2 b3 b4) g i = er at ih1 ht ⊢
    obtain ⟨tp, w⟩ := er
    dsimp only at ht ih1 ⊢
    have hAc : ∀ {F : Int32 → Prop}, XA [0, 7] (.inl (0, xis u f)) (nI i) F ↔ F (cenc (cd i)) := fun {F} => by rw [XA_0 hiu (by omega), hf i hiu]
    rw [s41_6]
    rcases hw.1 i hiu with ⟨v, hv, hc⟩ | ⟨j, hj, hc⟩ | ⟨hc, hd⟩ | ⟨hc, hd⟩
    · obtain ⟨a1, a2, a3, a4⟩ := num_a hv
      rw [hc] at ih1 hAc
      rw [a3] at hAc
      have hlt2 : nI tp < nI u := nI_lt (by omega) (by omega)
      have hS : ∀ {G : va_E → Prop} {x : Int32}, XS 0 (.inl (0, xis u w)) (nI tp) x G ↔ G (.inl (0, xis u (upd w tp x))) := fun {G x} => XS_0 (by omega) (by omega)
      simp only [s41_0, s41_1, s41_3, s41_4, s41_8, s41_9, s41_12, s41_13, s41_16, s41_17, s41_20, s41_22, s41_23, s41_25, s41_27, s41_30, s41_33, s41_35, s41_36, s41_39, s41_40, s41_43, s41_44, s41_47, s41_49, s41_51, s41_54, s41_56, s41_59, s41_60, s41_62, s41_63, s41_64, s41_65, s41_66, s41_68, s41_71, s41_72, s41_75, s41_78, s41_80, s41_83, s41_86, s41_88, s41_91, s41_92, s41_95, s41_97, s41_98, s41_99, s41_100, s41_103, s41_105, s41_106, s41_107, s41_108, s41_111, s41_112, s41_115, s41_116, s41_117, s41_120, s41_122, s41_123, s41_126, s41_129, s41_130, s41_133, s41_135, s41_136, s41_137, s41_140, s41_142, s41_143, s41_144, s41_147, s41_149, s41_150, s41_151, s41_152, s41_153, s41_156, s41_158, s41_159, s41_162, s41_163, s41_166, s41_169, s41_171, s41_174, s41_175, s41_178, s41_179, s41_180, s41_183, s41_184, e0, e1, xset_self, List.getElem?_cons_succ, List.getElem?_cons_zero, XL_0, XG_1, XO_some, XV_1, xo_n, xo_i8, xo_r8, xo_i7, xo_r7, xo_i6, xo_r6, xo_i5, xo_r5, xo_i4, xo_r4, xo_i3, xo_r3, xo_i2, xo_r2, Option.toList_some, Option.toList_none, List.cons_append, List.nil_append, bI_t, bI_f, bI_0, bI_n0, if_true, if_false, true_and, and_true, ne_eq, not_true_eq_false, not_false_eq_true, one_ne0, reduceCtorEq, hlt, hAc, a1, a4, hlt2, hS, xset_twice, nI_1]
      unfold est at ih1
      simp only [a1, not_false_eq_true, if_true, a2] at ih1
      exact ih1 _
    · obtain ⟨a1, a2, a3, a4, a5, a6, a7⟩ := name_a (i := j) (by omega)
      rw [hc] at ih1 hAc
      have hlt2 : nI tp < nI u := nI_lt (by omega) (by omega)
      have hS : ∀ {G : va_E → Prop} {x : Int32}, XS 0 (.inl (0, xis u w)) (nI tp) x G ↔ G (.inl (0, xis u (upd w tp x))) := fun {G x} => XS_0 (by omega) (by omega)
      simp only [s41_0, s41_1, s41_3, s41_4, s41_8, s41_9, s41_12, s41_13, s41_16, s41_17, s41_20, s41_22, s41_23, s41_25, s41_27, s41_30, s41_33, s41_35, s41_36, s41_39, s41_40, s41_43, s41_44, s41_47, s41_49, s41_51, s41_54, s41_56, s41_59, s41_60, s41_62, s41_63, s41_64, s41_65, s41_66, s41_68, s41_71, s41_72, s41_75, s41_78, s41_80, s41_83, s41_86, s41_88, s41_91, s41_92, s41_95, s41_97, s41_98, s41_99, s41_100, s41_103, s41_105, s41_106, s41_107, s41_108, s41_111, s41_112, s41_115, s41_116, s41_117, s41_120, s41_122, s41_123, s41_126, s41_129, s41_130, s41_133, s41_135, s41_136, s41_137, s41_140, s41_142, s41_143, s41_144, s41_147, s41_149, s41_150, s41_151, s41_152, s41_153, s41_156, s41_158, s41_159, s41_162, s41_163, s41_166, s41_169, s41_171, s41_174, s41_175, s41_178, s41_179, s41_180, s41_183, s41_184, e0, e1, xset_self, List.getElem?_cons_succ, List.getElem?_cons_zero, XL_0, XG_1, XO_some, XV_1, xo_n, xo_i8, xo_r8, xo_i7, xo_r7, xo_i6, xo_r6, xo_i5, xo_r5, xo_i4, xo_r4, xo_i3, xo_r3, xo_i2, xo_r2, Option.toList_some, Option.toList_none, List.cons_append, List.nil_append, bI_t, bI_f, bI_0, bI_n0, if_true, if_false, true_and, and_true, ne_eq, not_true_eq_false, not_false_eq_true, one_ne0, reduceCtorEq, hlt, hAc, a3, a4, a5, hlt2, hS, xset_twice, nI_1, c_named (show j < 4 by omega)]
      unfold est at ih1
      simp only [a1, not_false_eq_true, if_true, a2, if_false, a7] at ih1
      exact ih1 _
    · rw [hc] at ih1 hAc
      rw [show cenc (-10) = -1033 by decide] at hAc
      have hlt2 : 0 < nI tp := nI_lt (a := 0) (by omega) (by omega)
      have hm : nI tp - 1 = nI (tp - 1) := pk_sub (b := 1) (by omega)
      have hA : ∀ {F : Int32 → Prop}, XA [0, 7] (.inl (0, xis u w)) (nI (tp - 1)) F ↔ F (w (tp - 1)) := fun {F} => XA_0 (by omega) (by omega)
      have hS : ∀ {G : va_E → Prop} {x : Int32}, XS 0 (.inl (0, xis u w)) (nI (tp - 1)) x G ↔ G (.inl (0, xis u (upd w (tp - 1) x))) := fun {G x} => XS_0 (by omega) (by omega)
      have b1' : ¬ (-1000 : Int32) < -1033 := by decide
      simp only [s41_0, s41_1, s41_3, s41_4, s41_8, s41_9, s41_12, s41_13, s41_16, s41_17, s41_20, s41_22, s41_23, s41_25, s41_27, s41_30, s41_33, s41_35, s41_36, s41_39, s41_40, s41_43, s41_44, s41_47, s41_49, s41_51, s41_54, s41_56, s41_59, s41_60, s41_62, s41_63, s41_64, s41_65, s41_66, s41_68, s41_71, s41_72, s41_75, s41_78, s41_80, s41_83, s41_86, s41_88, s41_91, s41_92, s41_95, s41_97, s41_98, s41_99, s41_100, s41_103, s41_105, s41_106, s41_107, s41_108, s41_111, s41_112, s41_115, s41_116, s41_117, s41_120, s41_122, s41_123, s41_126, s41_129, s41_130, s41_133, s41_135, s41_136, s41_137, s41_140, s41_142, s41_143, s41_144, s41_147, s41_149, s41_150, s41_151, s41_152, s41_153, s41_156, s41_158, s41_159, s41_162, s41_163, s41_166, s41_169, s41_171, s41_174, s41_175, s41_178, s41_179, s41_180, s41_183, s41_184, e0, e1, xset_self, List.getElem?_cons_succ, List.getElem?_cons_zero, XL_0, XG_1, XO_some, XV_1, xo_n, xo_i8, xo_r8, xo_i7, xo_r7, xo_i6, xo_r6, xo_i5, xo_r5, xo_i4, xo_r4, xo_i3, xo_r3, xo_i2, xo_r2, Option.toList_some, Option.toList_none, List.cons_append, List.nil_append, bI_t, bI_f, bI_0, bI_n0, if_true, if_false, true_and, and_true, ne_eq, not_true_eq_false, not_false_eq_true, one_ne0, reduceCtorEq, hlt, hAc, b1', hlt2, hm, hA, hS, xset_twice, nI_1]
      unfold est at ih1
      simp only [show (-10 : Int32) < 0 by decide, not_true_eq_false, if_false, if_true] at ih1
      split
      next q => simp only [q, if_true] at ih1; exact ih1 _
      next q => simp only [q, if_false] at ih1; exact ih1 _
    · obtain ⟨a1, a2, a3, a4⟩ := sgn9_a hc
      have hlt2 : 1 < nI tp := nI_lt (a := 1) (by omega) (by omega)
      have hm : nI tp + -1 = nI (tp - 1) := sb_m1 (by omega)
      have hm2 : nI (tp - 1) - 1 = nI (tp - 2) := pk_sub (b := 1) (by omega)
      have hA1 : ∀ {F : Int32 → Prop}, XA [0, 7] (.inl (0, xis u w)) (nI (tp - 1)) F ↔ F (w (tp - 1)) := fun {F} => XA_0 (by omega) (by omega)
      have hA2 : ∀ {F : Int32 → Prop}, XA [0, 7] (.inl (0, xis u w)) (nI (tp - 2)) F ↔ F (w (tp - 2)) := fun {F} => XA_0 (by omega) (by omega)
      have hS : ∀ {G : va_E → Prop} {x : Int32}, XS 0 (.inl (0, xis u w)) (nI (tp - 2)) x G ↔ G (.inl (0, xis u (upd w (tp - 2) x))) := fun {G x} => XS_0 (by omega) (by omega)
      simp only [s41_0, s41_1, s41_3, s41_4, s41_8, s41_9, s41_12, s41_13, s41_16, s41_17, s41_20, s41_22, s41_23, s41_25, s41_27, s41_30, s41_33, s41_35, s41_36, s41_39, s41_40, s41_43, s41_44, s41_47, s41_49, s41_51, s41_54, s41_56, s41_59, s41_60, s41_62, s41_63, s41_64, s41_65, s41_66, s41_68, s41_71, s41_72, s41_75, s41_78, s41_80, s41_83, s41_86, s41_88, s41_91, s41_92, s41_95, s41_97, s41_98, s41_99, s41_100, s41_103, s41_105, s41_106, s41_107, s41_108, s41_111, s41_112, s41_115, s41_116, s41_117, s41_120, s41_122, s41_123, s41_126, s41_129, s41_130, s41_133, s41_135, s41_136, s41_137, s41_140, s41_142, s41_143, s41_144, s41_147, s41_149, s41_150, s41_151, s41_152, s41_153, s41_156, s41_158, s41_159, s41_162, s41_163, s41_166, s41_169, s41_171, s41_174, s41_175, s41_178, s41_179, s41_180, s41_183, s41_184, e0, e1, xset_self, List.getElem?_cons_succ, List.getElem?_cons_zero, XL_0, XG_1, XO_some, XV_1, xo_n, xo_i8, xo_r8, xo_i7, xo_r7, xo_i6, xo_r6, xo_i5, xo_r5, xo_i4, xo_r4, xo_i3, xo_r3, xo_i2, xo_r2, Option.toList_some, Option.toList_none, List.cons_append, List.nil_append, bI_t, bI_f, bI_0, bI_n0, if_true, if_false, true_and, and_true, ne_eq, not_true_eq_false, not_false_eq_true, one_ne0, reduceCtorEq, hlt, hAc, a3, a4, hlt2, hm, hm2, hA1, hA2, hS, xset_twice, nI_1, c_joined hc]
      unfold est at ih1
      simp only [a1, not_true_eq_false, if_false, a2] at ih1
      exact ih1 _
/-- Text.gives -/
theorem c_gives {Dy a : Nat} {ky tm us b1 b2 b3 b4 : Int32} {cd e2 : Nat → Int32} {nn u : Nat} (hX : txt h.2.2.1 a ky tm us cd) (hus : us = nI u) (hul : u ≤ 95) (hw : wfc cd nn u) (hn : nn ≤ 4) (ha : Dy ≤ a) (he : ∀ i, i < nn → env4 b1 b2 b3 b4 i = e2 i) (K : ∀ h', FR Dy P0 h h' → Q (some (.int (evV cd e2 u))) h') : XC (d + 2) 41 [.ref a, .int b1, .int b2, .int b3, .int b4] h Q := by
  obtain ⟨v, q1, q2, h0, ⟨f, h1, hf⟩, g, h2⟩ := hX
  have huv : v = u := by rw [q1] at hus; exact (nI_eq (by omega) (by omega)).mp hus
  subst huv
  rw [e41]
  simp only [s41_0, s41_1, s41_3, s41_4]
  have hl := (l_gives (d := d) (h := h) (Q := Q) (b1 := b1) (b2 := b2) (b3 := b3) (b4 := b4) (g := g) hul h0 h1 hf hw hn v 0 (by omega) .unset)
  rw [show (erun cd (env4 b1 b2 b3 b4) g 0) = (0, g) from rfl] at hl
  dsimp only at hl
  rw [← h2, xset_id] at hl
  refine hl.mpr ?_
  rw [evV_eq hw hn he]
  exact K _ (FR.stk (us := us) (cd := cd) ha h0 h1 h2)
end TX2

def lst (ky : Nat → Int32) (x : Int32) : Nat → Option Nat
  | 0 => none
  | i + 1 => if ky i = x then some i else lst ky x i
theorem lst_some {ky : Nat → Int32} {x : Int32} {i : Nat} : ∀ {k : Nat}, lst ky x k = some i → i < k ∧ ky i = x := by
  intro k
  induction k with
  | zero => intro h; cases h
  | succ k ih =>
    intro h
    unfold lst at h
    split at h
    next e => cases h; exact ⟨Nat.lt_succ_self _, e⟩
    next => obtain ⟨a, b⟩ := ih h; exact ⟨by omega, b⟩
def oI (z : Int32) (o : Option Nat) : Int32 := match o with
  | some i => nI i
  | none => z
section XQs
variable {j : Nat} {f : Nat → Option Nat} {F : Value → Prop}
theorem XQ_n {ka N : Nat} (h3 : 3 ≤ ka) (h7 : ka < 7) (h : j < N) (hN : N < 2 ^ 31) : XQ (.inl (ka, xrs N f)) (nI j) F ↔ F (va_rf (f j)) := by
  unfold XQ
  dsimp only
  rw [nI_clamp (Nat.lt_trans h hN)]
  exact ⟨fun q => q.2, fun q => ⟨⟨h3, h7, xin_nI h hN⟩, q⟩⟩
theorem XQ6 (h : j < 6) : XQ (.inl (6, xrs 6 f)) (nI j) F ↔ F (va_rf (f j)) := XQ_n (by decide) (by decide) h (by decide)
theorem XQ14 (h : j < 14) : XQ (.inl (5, xrs 14 f)) (nI j) F ↔ F (va_rf (f j)) := XQ_n (by decide) (by decide) h (by decide)
theorem XQ4 (h : j < 4) : XQ (.inl (3, xrs 4 f)) (nI j) F ↔ F (va_rf (f j)) := XQ_n (by decide) (by decide) h (by decide)
theorem XQ5 (h : j < 5) : XQ (.inl (4, xrs 5 f)) (nI j) F ↔ F (va_rf (f j)) := XQ_n (by decide) (by decide) h (by decide)
end XQs
theorem va_rf_s {a : Nat} : va_rf (some a) = .ref a := rfl
theorem va_rf_n : va_rf none = .null := rfl
def agB (ag : Nat → Int32) (i j : Nat) : Bool := !decide (xshr (ag i) (nI j) &&& 1 = 0)
def drw (z : Int32) : Int32 := z * 1103515245 + 12345
def drv (z : Int32) : Int32 := xushr (drw z) 8
section TM2
variable {Dy d : Nat} {h : xH} {t : Nat} {n : Nat → Nat} {T : Nat → Nat → Int32} {p : Nat → Nat → Option Nat} {s : Nat → Nat → Int32} {Q : Option Value → xH → Prop} {x y z : Int32}
theorem c_thiefAt (R : RT Dy h.2.2.1 t n T p s) : XC (d + 2) 54 [.ref t, .int x] h Q ↔ (if isI x (n 2) = true then Q (some (va_rf (p 0 x.toNatClampNeg))) h else Q (some .null) h) := by
  have hn := R.nn
  rw [e54]
  simp only [s54_0, s54_1, s54_2, s54_3, s54_6, s54_7, s54_8, s54_11, R.o, tf2, XG_1, XO_some, XV_1, xo_n, xo_i8, xo_r8, xo_i7, xo_r7, xo_i6, xo_r6, xo_i5, xo_r5, xo_i4, xo_r4, xo_i3, xo_r3, xo_i2, xo_r2, Option.toList_some, Option.toList_none, List.cons_append, List.nil_append, bI_t, bI_f, bI_0, bI_n0, if_true, if_false, true_and, and_true, ne_eq, not_true_eq_false, not_false_eq_true, one_ne0, reduceCtorEq, c_within, wiB_isI (show n 2 < 2 ^ 30 by omega)]
  cases hx : isI x (n 2) with
  | true =>
    obtain ⟨j, hj, rfl⟩ := isI_t hx (by omega)
    have h6 : j < 6 := by omega
    obtain ⟨a, q1, -⟩ := R.th j hj
    simp only [s54_0, s54_1, s54_2, s54_3, s54_6, s54_7, s54_8, s54_11, s54_14, s54_15, s54_18, s54_19, s54_20, s54_23, s54_24, s54_24n, R.o, R.ba, tf15, XG_1, XO_some, XV_1, xo_n, xo_i8, xo_r8, xo_i7, xo_r7, xo_i6, xo_r6, xo_i5, xo_r5, xo_i4, xo_r4, xo_i3, xo_r3, xo_i2, xo_r2, Option.toList_some, Option.toList_none, List.cons_append, List.nil_append, bI_t, bI_f, bI_0, bI_n0, if_true, if_false, true_and, and_true, ne_eq, not_true_eq_false, not_false_eq_true, one_ne0, reduceCtorEq, XQ6 h6, q1, va_rf_s, nI_clamp (show j < 2 ^ 31 by omega), Bool.true_eq_false]
  | false => simp only [s54_0, s54_1, s54_2, s54_3, s54_6, s54_7, s54_8, s54_11, s54_14, s54_15, s54_18, s54_19, s54_20, s54_23, s54_24, s54_24n, XG_1, XO_some, XV_1, xo_n, xo_i8, xo_r8, xo_i7, xo_r7, xo_i6, xo_r6, xo_i5, xo_r5, xo_i4, xo_r4, xo_i3, xo_r3, xo_i2, xo_r2, Option.toList_some, Option.toList_none, List.cons_append, List.nil_append, bI_t, bI_f, bI_0, bI_n0, if_true, if_false, true_and, and_true, ne_eq, not_true_eq_false, not_false_eq_true, one_ne0, reduceCtorEq, Bool.false_eq_true]
theorem c_textAt (R : RT Dy h.2.2.1 t n T p s) : XC (d + 2) 55 [.ref t, .int x] h Q ↔ (if isI x (n 3) = true then Q (some (va_rf (p 1 x.toNatClampNeg))) h else Q (some .null) h) := by
  have hn := R.nn
  rw [e55]
  simp only [s55_0, s55_1, s55_2, s55_3, s55_6, s55_7, s55_8, s55_11, R.o, tf3, XG_1, XO_some, XV_1, xo_n, xo_i8, xo_r8, xo_i7, xo_r7, xo_i6, xo_r6, xo_i5, xo_r5, xo_i4, xo_r4, xo_i3, xo_r3, xo_i2, xo_r2, Option.toList_some, Option.toList_none, List.cons_append, List.nil_append, bI_t, bI_f, bI_0, bI_n0, if_true, if_false, true_and, and_true, ne_eq, not_true_eq_false, not_false_eq_true, one_ne0, reduceCtorEq, c_within, wiB_isI (show n 3 < 2 ^ 30 by omega)]
  cases hx : isI x (n 3) with
  | true =>
    obtain ⟨j, hj, rfl⟩ := isI_t hx (by omega)
    have h6 : j < 14 := by omega
    obtain ⟨a, q1, -⟩ := R.tx j hj
    simp only [s55_0, s55_1, s55_2, s55_3, s55_6, s55_7, s55_8, s55_11, s55_14, s55_15, s55_18, s55_19, s55_20, s55_23, s55_24, s55_24n, R.o, R.la, tf16, XG_1, XO_some, XV_1, xo_n, xo_i8, xo_r8, xo_i7, xo_r7, xo_i6, xo_r6, xo_i5, xo_r5, xo_i4, xo_r4, xo_i3, xo_r3, xo_i2, xo_r2, Option.toList_some, Option.toList_none, List.cons_append, List.nil_append, bI_t, bI_f, bI_0, bI_n0, if_true, if_false, true_and, and_true, ne_eq, not_true_eq_false, not_false_eq_true, one_ne0, reduceCtorEq, XQ14 h6, q1, va_rf_s, nI_clamp (show j < 2 ^ 31 by omega), Bool.true_eq_false]
  | false => simp only [s55_0, s55_1, s55_2, s55_3, s55_6, s55_7, s55_8, s55_11, s55_14, s55_15, s55_18, s55_19, s55_20, s55_23, s55_24, s55_24n, XG_1, XO_some, XV_1, xo_n, xo_i8, xo_r8, xo_i7, xo_r7, xo_i6, xo_r6, xo_i5, xo_r5, xo_i4, xo_r4, xo_i3, xo_r3, xo_i2, xo_r2, Option.toList_some, Option.toList_none, List.cons_append, List.nil_append, bI_t, bI_f, bI_0, bI_n0, if_true, if_false, true_and, and_true, ne_eq, not_true_eq_false, not_false_eq_true, one_ne0, reduceCtorEq, Bool.false_eq_true]
theorem l_lastOf (R : RT Dy h.2.2.1 t n T p s) : ∀ k, k ≤ n 3 → ∀ c3, (XE d 63 7 [.val (.ref t), .val (.int x), .val (.int (nI k - 1)), c3] [] h Q ↔ Q (some (.int (oI NONE (lst (T 10) x k)))) h) := by
  have hn := R.nn
  intro k
  induction k with
  | zero =>
    intro _ c3
    have hlt : nI 0 - 1 < 0 := by decide
    rw [s63_7]
    simp only [s63_0, s63_1, s63_4, s63_5, s63_6, s63_8, s63_11, s63_12, s63_15, s63_16, s63_17, s63_17n, s63_18, s63_18n, s63_19, s63_19n, s63_22, s63_22n, s63_23, s63_26, s63_27, s63_30, s63_31, s63_32, s63_35, s63_38, s63_40, XG_1, XO_some, XV_1, xo_n, xo_i8, xo_r8, xo_i7, xo_r7, xo_i6, xo_r6, xo_i5, xo_r5, xo_i4, xo_r4, xo_i3, xo_r3, xo_i2, xo_r2, Option.toList_some, Option.toList_none, List.cons_append, List.nil_append, bI_t, bI_f, bI_0, bI_n0, if_true, if_false, true_and, and_true, ne_eq, not_true_eq_false, not_false_eq_true, one_ne0, reduceCtorEq, hlt]
    rfl
  | succ k ih =>
    intro hk c3
    have h6 : k < 14 := by omega
    have hlt : ¬ nI k < 0 := nI_pos (by omega)
    obtain ⟨a, q1, -, u, -, -, q2, -⟩ := R.tx k (by omega)
    have ih1 := ih (by omega) (.val (.ref a))
    rw [s63_7]
    simp only [s63_0, s63_1, s63_4, s63_5, s63_6, s63_8, s63_11, s63_12, s63_15, s63_16, s63_17, s63_17n, s63_18, s63_18n, s63_19, s63_19n, s63_22, s63_22n, s63_23, s63_26, s63_27, s63_30, s63_31, s63_32, s63_35, s63_38, s63_40, R.o, R.la, tf16, XG_1, XO_some, XV_1, xo_n, xo_i8, xo_r8, xo_i7, xo_r7, xo_i6, xo_r6, xo_i5, xo_r5, xo_i4, xo_r4, xo_i3, xo_r3, xo_i2, xo_r2, Option.toList_some, Option.toList_none, List.cons_append, List.nil_append, bI_t, bI_f, bI_0, bI_n0, if_true, if_false, true_and, and_true, ne_eq, not_true_eq_false, not_false_eq_true, one_ne0, reduceCtorEq, nI_pred, hlt, XQ14 h6, q1, va_rf_s, q2, List.getElem?_cons_zero]
    rw [show lst (T 10) x (k + 1) = if T 10 k = x then some k else lst (T 10) x k from rfl]
    by_cases hb : T 10 k = x
    · simp only [hb, if_true, oI]
    · simp only [hb, if_false]
      rw [Int32.sub_eq_add_neg] at ih1
      exact ih1
theorem c_lastOf (R : RT Dy h.2.2.1 t n T p s) : XC (d + 1) 63 [.ref t, .int x] h Q ↔ Q (some (.int (oI NONE (lst (T 10) x (n 3))))) h := by
  rw [e63]
  simp only [s63_0, s63_1, s63_4, s63_5, s63_6, R.o, tf3, XG_1, XO_some, XV_1, xo_n, xo_i8, xo_r8, xo_i7, xo_r7, xo_i6, xo_r6, xo_i5, xo_r5, xo_i4, xo_r4, xo_i3, xo_r3, xo_i2, xo_r2, Option.toList_some, Option.toList_none, List.cons_append, List.nil_append, bI_t, bI_f, bI_0, bI_n0, if_true, if_false, true_and, and_true, ne_eq, not_true_eq_false, not_false_eq_true, one_ne0, reduceCtorEq]
  exact l_lastOf R (n 3) (Nat.le_refl _) _
theorem c_doAgree (R : RT Dy h.2.2.1 t n T p s) {i j : Nat} (hi : i < n 0) (hj : j < n 0) : XC (d + 2) 59 [.ref t, .int (nI i), .int (nI j)] h Q ↔ Q (some (.int (bI (agB (T 3) i j)))) h := by
  have hn := R.nn
  have h10 : i < 10 := by omega
  have hiI := isI_n hi (show n 0 < 2 ^ 31 by omega)
  have hjI := isI_n hj (show n 0 < 2 ^ 31 by omega)
  rw [e59]
  simp only [s59_0, s59_1, s59_2, s59_5, s59_8, s59_9, s59_10, s59_13, s59_16, s59_17, s59_20, s59_21, s59_22, s59_23, s59_24, s59_25, s59_26, s59_29, s59_30, s59_33, s59_34, s59_34t, s59_34b, R.o, R.ag, tf10, XG_1, XO_some, XV_1, xo_n, xo_i8, xo_r8, xo_i7, xo_r7, xo_i6, xo_r6, xo_i5, xo_r5, xo_i4, xo_r4, xo_i3, xo_r3, xo_i2, xo_r2, Option.toList_some, Option.toList_none, List.cons_append, List.nil_append, bI_t, bI_f, bI_0, bI_n0, if_true, if_false, true_and, and_true, ne_eq, not_true_eq_false, not_false_eq_true, one_ne0, reduceCtorEq, c_isHouse R, hiI, hjI, XA10 h10, Bool.true_eq_false]
  unfold agB
  split
  next q => simp only [q, decide_true, Bool.not_true, bI_f]
  next q => simp only [q, decide_false, Bool.not_false, bI_t]
theorem c_draw (R : RT Dy h.2.2.1 t n T p s) : XC (d + 1) 58 [.ref t] h Q ↔ Q (some (.int (drv (T 0 7)))) (xset h t (.inr (10, townF t n (sup T 0 7 (drw (T 0 7)))))) := by
  rw [e58]
  simp only [s58_0, s58_1, s58_2, s58_5, s58_7, s58_8, s58_11, s58_12, s58_15, s58_16, s58_19, s58_21, s58_22, R.o, tf7, XG_1, XO_some, XV_1, xo_n, xo_i8, xo_r8, xo_i7, xo_r7, xo_i6, xo_r6, xo_i5, xo_r5, xo_i4, xo_r4, xo_i3, xo_r3, xo_i2, xo_r2, Option.toList_some, Option.toList_none, List.cons_append, List.nil_append, bI_t, bI_f, bI_0, bI_n0, if_true, if_false, true_and, and_true, ne_eq, not_true_eq_false, not_false_eq_true, one_ne0, reduceCtorEq, XP_1 (show 7 < (townF t n T).length by rw [tfL]; decide), ts7, xset_self, sup_at]
  rfl
end TM2
