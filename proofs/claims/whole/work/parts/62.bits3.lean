/-! ===== 62: both counts are one ===== -/
theorem bc_a : ∀ k, k < 32 → ∀ j, j < 32 → bcF (nI (32 * k + j)) = btF 10 (nI (32 * k + j)) 0 ∧ btZ 10 (nI (32 * k + j)) = true := by decide +kernel
theorem bc_all {k : Nat} (hk : k < 1024) : bcF (nI k) = btF 10 (nI k) 0 ∧ btZ 10 (nI k) = true := by
  have := bc_a (k / 32) (by omega) (k % 32) (by omega)
  rw [Nat.div_add_mod] at this
  exact this
