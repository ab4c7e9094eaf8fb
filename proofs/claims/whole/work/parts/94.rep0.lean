/-! ===== 94: all holds at the start ===== -/
def LF (B : Nat) : List va_E := [.inr (11, ob_11 (.ref (B + 1)) (.ref (B + 14)) (.int 0) (.ref (B + 27)) (.ref (B + 31)) (.int 0) (.ref (B + 32)) (.ref (B + 33)) (.ref (B + 34))), .inr (10, ob_10 (.int 0) (.int 0) (.int 0) (.int 0) (.int 3) (.int 0) (.int 0) (.int 1) (.ref (B + 2)) (.ref (B + 3)) (.ref (B + 4)) (.ref (B + 5)) (.ref (B + 6)) (.ref (B + 7)) (.ref (B + 8)) (.ref (B + 9)) (.ref (B + 10)) (.ref (B + 11)) (.ref (B + 12)) (.ref (B + 13))), .inl (0, xis 10 (fun _ => 0)), .inl (0, xis 10 (fun _ => 0)), .inl (0, xis 10 (fun _ => 0)), .inl (0, xis 12 (fun _ => 0)), .inl (0, xis 12 (fun _ => 0)), .inl (0, xis 12 (fun _ => 0)), .inl (0, xis 24 (fun _ => 0)), .inl (6, xrs 6 (fun _ => none)), .inl (5, xrs 14 (fun _ => none)), .inl (0, xis 10 (fun _ => 0)), .inl (0, xis 72 (fun _ => 0)), .inl (0, xis 72 (fun _ => 0)), .inr (10, ob_10 (.int 0) (.int 0) (.int 0) (.int 0) (.int 3) (.int 0) (.int 0) (.int 1) (.ref (B + 15)) (.ref (B + 16)) (.ref (B + 17)) (.ref (B + 18)) (.ref (B + 19)) (.ref (B + 20)) (.ref (B + 21)) (.ref (B + 22)) (.ref (B + 23)) (.ref (B + 24)) (.ref (B + 25)) (.ref (B + 26))), .inl (0, xis 10 (fun _ => 0)), .inl (0, xis 10 (fun _ => 0)), .inl (0, xis 10 (fun _ => 0)), .inl (0, xis 12 (fun _ => 0)), .inl (0, xis 12 (fun _ => 0)), .inl (0, xis 12 (fun _ => 0)), .inl (0, xis 24 (fun _ => 0)), .inl (6, xrs 6 (fun _ => none)), .inl (5, xrs 14 (fun _ => none)), .inl (0, xis 10 (fun _ => 0)), .inl (0, xis 72 (fun _ => 0)), .inl (0, xis 72 (fun _ => 0)), .inr (7, ob_7 (.int 0) (.ref (B + 28)) (.int 0) (.int 0) (.int 0) (.int 0) (.int 0) (.ref (B + 29)) (.int 0) (.ref (B + 30)) (.int 0) (.int 0) (.int 0) (.int 0)), .inl (0, xis 96 (fun _ => 0)), .inl (0, xis 96 (fun _ => 0)), .inl (0, xis 96 (fun _ => 0)), .inl (0, xis 60 (fun _ => 0)), .inl (3, xrs 4 (shF B)), .inl (4, xrs 5 (slF B)), .inl (0, xis 12 (fun _ => 0)), .inr (5, ob_5 (.int (-1)) (.int 0) (.ref (B + 36))), .inl (0, xis 24 (fun _ => 0)), .inr (5, ob_5 (.int (-1)) (.int 0) (.ref (B + 38))), .inl (0, xis 24 (fun _ => 0)), .inr (5, ob_5 (.int (-1)) (.int 0) (.ref (B + 40))), .inl (0, xis 24 (fun _ => 0)), .inr (5, ob_5 (.int (-1)) (.int 0) (.ref (B + 42))), .inl (0, xis 24 (fun _ => 0)), .inr (6, ob_6 (.int 0) .null (.ref (B + 44)) (.int 0)), .inr (5, ob_5 (.int (-1)) (.int 0) (.ref (B + 45))), .inl (0, xis 24 (fun _ => 0)), .inr (6, ob_6 (.int 0) .null (.ref (B + 47)) (.int 0)), .inr (5, ob_5 (.int (-1)) (.int 0) (.ref (B + 48))), .inl (0, xis 24 (fun _ => 0)), .inr (6, ob_6 (.int 0) .null (.ref (B + 50)) (.int 0)), .inr (5, ob_5 (.int (-1)) (.int 0) (.ref (B + 51))), .inl (0, xis 24 (fun _ => 0)), .inr (6, ob_6 (.int 0) .null (.ref (B + 53)) (.int 0)), .inr (5, ob_5 (.int (-1)) (.int 0) (.ref (B + 54))), .inl (0, xis 24 (fun _ => 0)), .inr (6, ob_6 (.int 0) .null (.ref (B + 56)) (.int 0)), .inr (5, ob_5 (.int (-1)) (.int 0) (.ref (B + 57))), .inl (0, xis 24 (fun _ => 0)), .inr (12, ob_12 (.ref (B + 59)) (.ref (B + 60)) (.ref (B + 61)) (.int 0) (.ref (B + 62)) (.int 0) (.int 0) (.int 0) (.int 0) (.int 0) (.int 0) (.int 0) (.ref (B + 63)) (.ref (B + 64)) (.ref (B + 65)) (.int 0) (.int 0) (.ref (B + 66)) (.int 0) (.ref (B + 67)) (.ref (B + 68)) (.ref (B + 69)) (.ref (B + 70)) (.ref (B + 71)) (.ref (B + 72)) (.ref (B + 73)) (.ref (B + 74)) (.ref (B + 75)) (.ref (B + 76)) (.ref (B + 77)) (.ref (B + 78)) (.int 0)), .inl (0, xis 1482 (upd (upd (fun _ => 0) 0 1) 6 3)), .inl (0, xis 1482 (fun _ => 0)), .inl (0, xis 1482 (fun _ => 0)), .inl (0, xis 96 (fun _ => 0)), .inl (2, xis 11 keyR), .inl (0, xis 4 keyA), .inl (0, xis 96 (fun _ => 0)), .inl (0, xis 96 (fun _ => 0)), .inl (1, xis 10 (fun _ => 0)), .inl (0, xis 96 (fun _ => 0)), .inl (0, xis 4 (fun _ => 0)), .inl (0, xis 4 (upd (upd (upd (upd (fun _ => 0) 0 (-1)) 1 (-1)) 2 (-1)) 3 (-1))), .inl (0, xis 4 (fun _ => 0)), .inl (0, xis 96 (fun _ => 0)), .inl (0, xis 5 (fun _ => 0)), .inl (0, xis 5 (fun _ => 0)), .inl (0, xis 5 (fun _ => 0)), .inl (0, xis 120 (fun _ => 0)), .inl (0, xis 24 (fun _ => 0)), .inl (0, xis 60 (fun _ => 0))]
def T0 : Nat → Nat → Int32
  | 0 => fun b => if b = 4 then 3 else if b = 7 then 1 else 0
  | _ + 1 => fun _ => 0
def G0 : Nat → Nat → Nat → Int32
  | 1 => fun k => if k = 12 then (upd (upd (upd (upd (fun _ => 0) 0 (-1)) 1 (-1)) 2 (-1)) 3 (-1)) else fun _ => 0
  | 4 => fun k => if k = 0 then fun _ => -1 else if k = 3 then fun _ => -1 else fun _ => 0
  | _ => fun _ _ => 0
def q0 : RS := (false, fun _ _ => 0, T0, fun _ _ => none, fun _ _ => 0, fun _ => none, G0)
def f0 : Nat → Int32 := (upd (upd (fun _ => 0) 0 1) 6 3)
theorem iv_0 : IV (fun _ => 0) T0 := ⟨⟨by decide, by decide, by decide, by decide⟩, ⟨3, by decide, rfl⟩, fun i hi => absurd hi (Nat.not_lt_zero i), fun i hi => absurd hi (Nat.not_lt_zero i), fun i hi => absurd hi (Nat.not_lt_zero i), fun i hi => absurd hi (Nat.not_lt_zero i), fun i j hi => absurd hi (Nat.not_lt_zero i), fun i j hi => absurd hi (Nat.not_lt_zero i), fun i hi => absurd hi (Nat.not_lt_zero i)⟩
theorem mr_0 : MR (fun _ => 0) T0 f0 := by
  have h : ∀ j, 8 ≤ j → f0 j = 0 := fun j hj => by unfold f0; rw [upd_ne (by omega), upd_ne (by omega)]
  have b0 : benc 0 = 0 := by decide
  refine ⟨⟨rfl, rfl, rfl, rfl, rfl, rfl, rfl, rfl⟩, fun i hi => ⟨h _ (by omega), h _ (by omega), h _ (by omega)⟩, fun i hi => ⟨h _ (by omega), h _ (by omega), h _ (by omega), (h _ (by omega)).trans b0.symm, (h _ (by omega)).trans b0.symm⟩, fun i hi => absurd hi (Nat.not_lt_zero i), fun i hi => absurd hi (Nat.not_lt_zero i), fun k hk => h _ (by omega)⟩
section RP0
variable {B S : Nat} {E : Nat → va_E} {g : Nat → Value}
theorem rt_1 : RT (B + 79) (hb B E g S (LF B)).2.2.1 (B + 1) (fun _ => 0) T0 (fun _ _ => none) (fun _ _ => 0) :=
  ⟨hb_at (j := 1), hb_at (j := 2), hb_at (j := 3), hb_at (j := 4), hb_at (j := 5), hb_at (j := 6), hb_at (j := 7), hb_at (j := 8), hb_at (j := 9), hb_at (j := 10), hb_at (j := 11), hb_at (j := 12), hb_at (j := 13), ⟨by decide, by decide, by decide, by decide⟩, fun i hi => absurd hi (Nat.not_lt_zero i), fun i hi => absurd hi (Nat.not_lt_zero i), fun _ _ _ => rfl, fun _ _ _ => rfl⟩
theorem rt_14 : RT (B + 79) (hb B E g S (LF B)).2.2.1 (B + 14) (fun _ => 0) T0 (fun _ _ => none) (fun _ _ => 0) :=
  ⟨hb_at (j := 14), hb_at (j := 15), hb_at (j := 16), hb_at (j := 17), hb_at (j := 18), hb_at (j := 19), hb_at (j := 20), hb_at (j := 21), hb_at (j := 22), hb_at (j := 23), hb_at (j := 24), hb_at (j := 25), hb_at (j := 26), ⟨by decide, by decide, by decide, by decide⟩, fun i hi => absurd hi (Nat.not_lt_zero i), fun i hi => absurd hi (Nat.not_lt_zero i), fun _ _ _ => rfl, fun _ _ _ => rfl⟩
theorem rxc_0 : RXc B (hb B E g S (LF B)).2.2.1 q0 := by
  refine ⟨⟨hb_at (j := 0), by decide, hb_at (j := 27), by decide, hb_at (j := 28), hb_at (j := 29), hb_at (j := 30), hb_at (j := 31), hb_at (j := 32), hb_at (j := 33), hb_at (j := 34)⟩, fun i hi => ?_, fun i hi => ?_⟩
  · match i, hi with
    | 0, _ => exact ⟨hb_at (j := 35), hb_at (j := 36), Or.inl rfl, by decide⟩
    | 1, _ => exact ⟨hb_at (j := 37), hb_at (j := 38), Or.inl rfl, by decide⟩
    | 2, _ => exact ⟨hb_at (j := 39), hb_at (j := 40), Or.inl rfl, by decide⟩
    | 3, _ => exact ⟨hb_at (j := 41), hb_at (j := 42), Or.inl rfl, by decide⟩
    | n + 4, h => omega
  · match i, hi with
    | 0, _ => exact ⟨hb_at (j := 43), hb_at (j := 44), hb_at (j := 45), Or.inl rfl, by decide, fun _ => rfl⟩
    | 1, _ => exact ⟨hb_at (j := 46), hb_at (j := 47), hb_at (j := 48), Or.inl rfl, by decide, fun _ => rfl⟩
    | 2, _ => exact ⟨hb_at (j := 49), hb_at (j := 50), hb_at (j := 51), Or.inl rfl, by decide, fun _ => rfl⟩
    | 3, _ => exact ⟨hb_at (j := 52), hb_at (j := 53), hb_at (j := 54), Or.inl rfl, by decide, fun _ => rfl⟩
    | 4, _ => exact ⟨hb_at (j := 55), hb_at (j := 56), hb_at (j := 57), Or.inl rfl, by decide, fun _ => rfl⟩
    | n + 5, h => omega
theorem rxr_0 : RXr B (hb B E g S (LF B)).2.2.1 q0 := ⟨hb_at (j := 60), hb_at (j := 61), hb_at (j := 62), hb_at (j := 63), hb_at (j := 64), hb_at (j := 65), hb_at (j := 66), hb_at (j := 67), hb_at (j := 70), hb_at (j := 71), hb_at (j := 72), hb_at (j := 73), hb_at (j := 74), hb_at (j := 75), hb_at (j := 76), hb_at (j := 77), hb_at (j := 78)⟩
theorem rm_0 : RM (hb B E g S (LF B)).2.2.1 (B + 58) (fun _ => 0) f0 (fun _ => 0) (fun _ => 0) := ⟨hb_at (j := 58), hb_at (j := 59), hb_at (j := 68), hb_at (j := 69)⟩
theorem rxm_0 : RXm (B + 79) (hb B E g S (LF B)).2.2.1 q0 (fun _ => 0) := by
  refine ⟨⟨rfl, fun h => (by cases h), rfl, fun k hk => absurd hk (Nat.not_lt_zero k), rfl, fun k hk => absurd hk (Nat.not_lt_zero k)⟩, fun i hi => ?_, fun i hi => ?_⟩
  · match i, hi with
    | 0, _ => exact ⟨rfl, rfl, fun h => absurd rfl h⟩
    | 1, _ => exact ⟨rfl, rfl, fun h => absurd rfl h⟩
    | 2, _ => exact ⟨rfl, rfl, fun h => absurd rfl h⟩
    | 3, _ => exact ⟨rfl, rfl, fun h => absurd rfl h⟩
    | n + 4, h => omega
  · exact ⟨rfl, fun h => absurd (show (0 : Int32) = 1 from h) (by decide), fun h => absurd (show (0 : Int32) = 2 from h) (by decide), fun h => absurd (show (0 : Int32) = 3 from h) (by decide)⟩
theorem rep_0 (hz : ∀ a, B ≤ a → E a = .inr (99, [])) : REP B E g (hb B E g S (LF B)) := by
  refine ⟨⟨fun _ => 0, T0, fun _ _ => none, fun _ _ => 0, fun _ => 0, f0, fun _ => 0, fun _ => 0, q0, rt_1, iv_0, rm_0, mr_0, rxc_0, ⟨rt_14, iv_0⟩, rxr_0, rxm_0⟩, fun a ha => hb_lo ha, rfl, Nat.le_refl _, fun a ha => hb_hi ha⟩
end RP0
