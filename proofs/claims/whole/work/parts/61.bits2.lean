/-! ===== 61: counting bits, the reference's loop ===== -/
def btZ : Nat → Int32 → Bool
  | 0, x => decide (x = 0)
  | k + 1, x => if x = 0 then true else btZ k (x &&& (x - 1))
section BIT2
variable {d : Nat} {h : xH} {Q : Option Value → xH → Prop}
theorem l_bitsOf {c0 : Slot} : ∀ k x v, btZ k x = true → (XE d 188 4 [c0, .val (.int v), .val (.int x)] [] h Q ↔ Q (some (.int (btF k x v))) h) := by
  intro k
  induction k with
  | zero =>
    intro x v hx
    have h0 : x = 0 := of_decide_eq_true hx
    rw [s188_4]
    simp only [s188_0, s188_1, s188_2, s188_3, s188_5, s188_8, s188_11, s188_12, s188_13, s188_14, s188_15, s188_16, s188_17, s188_20, s188_21, h0, if_true]
    rfl
  | succ k ih =>
    intro x v hx
    unfold btZ at hx
    rw [s188_4]
    by_cases h0 : x = 0
    · simp only [s188_0, s188_1, s188_2, s188_3, s188_5, s188_8, s188_11, s188_12, s188_13, s188_14, s188_15, s188_16, s188_17, s188_20, s188_21, h0, if_true]
      unfold btF
      rw [if_pos rfl]
    · rw [if_neg h0] at hx
      simp only [s188_0, s188_1, s188_2, s188_3, s188_5, s188_8, s188_11, s188_12, s188_13, s188_14, s188_15, s188_16, s188_17, s188_20, s188_21, h0, if_false]
      rw [show btF (k + 1) x v = btF k (x &&& (x - 1)) (v + 1) from if_neg h0]
      exact ih _ _ hx
theorem r_bitsOf {x : Int32} (hx : btZ 10 x = true) : XC (d + 1) 188 [.int x] h Q ↔ Q (some (.int (btF 10 x 0))) h := by
  rw [e188]
  simp only [s188_0, s188_1, s188_2, s188_3]
  exact l_bitsOf 10 x 0 hx
end BIT2
