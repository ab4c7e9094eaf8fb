/-! ===== 72: texts: the words of a tape, and how they are read ===== -/
def isL (v : Int32) : Bool := !decide (v < 97) && !decide (122 < v)
def isD (v : Int32) : Bool := !decide (v < 48) && !decide (57 < v)
def so (v : Int32) : Nat := if isL v = true then 1 else if isD v = true then 2 else 3
theorem so_32 : so 32 = 3 := by decide
theorem so_v (v : Int32) : so v = 1 ∨ so v = 2 ∨ so v = 3 := by
  unfold so
  by_cases h : isL v = true
  · rw [if_pos h]; exact Or.inl rfl
  · rw [if_neg h]
    by_cases h2 : isD v = true
    · rw [if_pos h2]; exact Or.inr (Or.inl rfl)
    · rw [if_neg h2]; exact Or.inr (Or.inr rfl)
theorem so_1 {v : Int32} : so v = 1 ↔ isL v = true := by
  unfold so
  by_cases h : isL v = true
  · rw [if_pos h]; exact ⟨fun _ => h, fun _ => rfl⟩
  · rw [if_neg h]
    by_cases h2 : isD v = true
    · rw [if_pos h2]; exact ⟨fun q => absurd q (by decide), fun q => absurd q h⟩
    · rw [if_neg h2]; exact ⟨fun q => absurd q (by decide), fun q => absurd q h⟩
theorem isLD {v : Int32} (h : isL v = true) : isD v = false := by
  unfold isL at h
  unfold isD
  rw [Bool.and_eq_true, Bool.not_eq_true', decide_eq_false_iff_not] at h
  have h1 := h.1
  rw [Int32.lt_iff_toInt_lt, show (97 : Int32).toInt = 97 from rfl] at h1
  have h2 : (57 : Int32) < v := by
    rw [Int32.lt_iff_toInt_lt, show (57 : Int32).toInt = 57 from rfl]; omega
  rw [decide_eq_true h2]
  exact Bool.and_false _
theorem so_2 {v : Int32} : so v = 2 ↔ isD v = true := by
  unfold so
  by_cases h : isL v = true
  · rw [if_pos h, isLD h]; exact ⟨fun q => absurd q (by decide), fun q => absurd q (by decide)⟩
  · rw [if_neg h]
    by_cases h2 : isD v = true
    · rw [if_pos h2]; exact ⟨fun _ => h2, fun _ => rfl⟩
    · rw [if_neg h2]; exact ⟨fun q => absurd q (by decide), fun q => absurd q h2⟩
theorem isL_n {v : Int32} (h : isL v = true) : ∃ k, k < 128 ∧ 97 ≤ k ∧ v = nI k := by
  unfold isL at h
  rw [Bool.and_eq_true, Bool.not_eq_true', decide_eq_false_iff_not, Bool.not_eq_true', decide_eq_false_iff_not, Int32.lt_iff_toInt_lt, Int32.lt_iff_toInt_lt, show (97 : Int32).toInt = 97 from rfl, show (122 : Int32).toInt = 122 from rfl] at h
  refine ⟨v.toInt.toNat, by omega, by omega, ?_⟩
  rw [← Int32.toInt_inj, nI_toInt (by omega)]
  omega
theorem isD_n {v : Int32} (h : isD v = true) : ∃ k, k < 10 ∧ v = nI (48 + k) := by
  unfold isD at h
  rw [Bool.and_eq_true, Bool.not_eq_true', decide_eq_false_iff_not, Bool.not_eq_true', decide_eq_false_iff_not, Int32.lt_iff_toInt_lt, Int32.lt_iff_toInt_lt, show (48 : Int32).toInt = 48 from rfl, show (57 : Int32).toInt = 57 from rfl] at h
  refine ⟨v.toInt.toNat - 48, by omega, ?_⟩
  rw [← Int32.toInt_inj, nI_toInt (by omega)]
  omega
/-- blanks are passed over -/
def skp (b : Nat → Int32) (z : Nat) : Nat → Nat → Nat
  | 0, k => k
  | f + 1, k => if k < z ∧ b k = 32 then skp b z f (k + 1) else k
/-- a word goes on -/
def rn (b : Nat → Int32) (z s : Nat) : Nat → Nat → Nat
  | 0, k => k
  | f + 1, k => if k < z ∧ so (b k) = s then rn b z s f (k + 1) else k
def tf (b : Nat → Int32) (z p : Nat) : Nat := skp b z (z - p) p
def ts (b : Nat → Int32) (z p : Nat) : Nat := if tf b z p < z then so (b (tf b z p)) else 0
def tn (b : Nat → Int32) (z p : Nat) : Nat := if tf b z p < z then (if so (b (tf b z p)) = 3 then tf b z p + 1 else rn b z (so (b (tf b z p))) (z - (tf b z p + 1)) (tf b z p + 1)) else tf b z p
/-- whether a letter or figure stands right before a place -/
def cls (b : Nat → Int32) (k : Nat) : Bool := decide (0 < k) && !decide (so (b (k - 1)) = 3)
section LEX
variable {b : Nat → Int32} {z s : Nat}
theorem skp_ge : ∀ f k, k ≤ skp b z f k := by
  intro f
  induction f with
  | zero => intro k; exact Nat.le_refl _
  | succ f ih =>
    intro k
    unfold skp
    by_cases e : k < z ∧ b k = 32
    · rw [if_pos e]; have := ih (k + 1); omega
    · rw [if_neg e]; exact Nat.le_refl _
theorem skp_le : ∀ f k, k ≤ z → skp b z f k ≤ z := by
  intro f
  induction f with
  | zero => intro k h; exact h
  | succ f ih =>
    intro k h
    unfold skp
    by_cases e : k < z ∧ b k = 32
    · rw [if_pos e]; exact ih (k + 1) (by omega)
    · rw [if_neg e]; exact h
theorem skp_32 : ∀ f k, k < skp b z f k → b (skp b z f k - 1) = 32 := by
  intro f
  induction f with
  | zero => intro k h; exact absurd h (Nat.lt_irrefl _)
  | succ f ih =>
    intro k h
    unfold skp at h ⊢
    by_cases e : k < z ∧ b k = 32
    · rw [if_pos e] at h ⊢
      by_cases e2 : k + 1 < skp b z f (k + 1)
      · exact ih (k + 1) e2
      · have := skp_ge (b := b) (z := z) f (k + 1)
        rw [show skp b z f (k + 1) = k + 1 by omega]
        exact e.2
    · rw [if_neg e] at h; exact absurd h (Nat.lt_irrefl _)
theorem rn_ge : ∀ f k, k ≤ rn b z s f k := by
  intro f
  induction f with
  | zero => intro k; exact Nat.le_refl _
  | succ f ih =>
    intro k
    unfold rn
    by_cases e : k < z ∧ so (b k) = s
    · rw [if_pos e]; have := ih (k + 1); omega
    · rw [if_neg e]; exact Nat.le_refl _
theorem rn_le : ∀ f k, k ≤ z → rn b z s f k ≤ z := by
  intro f
  induction f with
  | zero => intro k h; exact h
  | succ f ih =>
    intro k h
    unfold rn
    by_cases e : k < z ∧ so (b k) = s
    · rw [if_pos e]; exact ih (k + 1) (by omega)
    · rw [if_neg e]; exact h
theorem rn_in : ∀ f k j, k ≤ j → j < rn b z s f k → so (b j) = s := by
  intro f
  induction f with
  | zero => intro k j h1 h2; exact absurd h2 (Nat.not_lt.mpr h1)
  | succ f ih =>
    intro k j h1 h2
    unfold rn at h2
    by_cases e : k < z ∧ so (b k) = s
    · rw [if_pos e] at h2
      by_cases e2 : j = k
      · rw [e2]; exact e.2
      · exact ih (k + 1) j (by omega) h2
    · rw [if_neg e] at h2; omega
variable {p : Nat}
theorem tf_ge : p ≤ tf b z p := skp_ge _ _
theorem tf_le (hp : p ≤ z) : tf b z p ≤ z := skp_le _ _ hp
theorem ts_0 : ts b z p = 0 ↔ z ≤ tf b z p := by
  unfold ts
  by_cases e : tf b z p < z
  · rw [if_pos e]
    rcases so_v (b (tf b z p)) with h | h | h <;> rw [h] <;> omega
  · rw [if_neg e]; omega
theorem ts_n (h : ¬ ts b z p = 0) : tf b z p < z ∧ ts b z p = so (b (tf b z p)) := by
  have e : tf b z p < z := by have := ts_0 (b := b) (z := z) (p := p); omega
  exact ⟨e, if_pos e⟩
theorem tn_gt (h : ¬ ts b z p = 0) : tf b z p < tn b z p := by
  obtain ⟨e, -⟩ := ts_n h
  unfold tn
  rw [if_pos e]
  by_cases e2 : so (b (tf b z p)) = 3
  · rw [if_pos e2]; omega
  · rw [if_neg e2]; have := rn_ge (b := b) (z := z) (s := so (b (tf b z p))) (z - (tf b z p + 1)) (tf b z p + 1); omega
theorem tn_le (hp : p ≤ z) : tn b z p ≤ z := by
  unfold tn
  by_cases e : tf b z p < z
  · rw [if_pos e]
    by_cases e2 : so (b (tf b z p)) = 3
    · rw [if_pos e2]; omega
    · rw [if_neg e2]; exact rn_le _ _ (by omega)
  · rw [if_neg e]; exact tf_le hp
theorem tn_in (h : ¬ ts b z p = 0) {j : Nat} (h1 : tf b z p ≤ j) (h2 : j < tn b z p) : so (b j) = ts b z p := by
  obtain ⟨e, e1⟩ := ts_n h
  rw [e1]
  by_cases c : j = tf b z p
  · rw [c]
  · unfold tn at h2
    rw [if_pos e] at h2
    by_cases e2 : so (b (tf b z p)) = 3
    · rw [if_pos e2] at h2; omega
    · rw [if_neg e2] at h2
      exact rn_in _ _ j (by omega) h2
theorem tn_ge (hp : p ≤ z) : p ≤ tn b z p := by
  have h0 := tf_ge (b := b) (z := z) (p := p)
  by_cases e : ts b z p = 0
  · have e2 := ts_0.mp e
    unfold tn
    rw [if_neg (by omega)]; exact h0
  · have := tn_gt e; omega
end LEX
