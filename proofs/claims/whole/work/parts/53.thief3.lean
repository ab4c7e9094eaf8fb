/-! ===== 53: the town with a new thief ===== -/
section TH3
variable {Dy t : Nat} {h : xH} {n : Nat → Nat} {T : Nat → Nat → Int32} {p : Nat → Nat → Option Nat} {s : Nat → Nat → Int32} {y : Int32}
theorem vau_at {α : Type} {g : Nat → α} {i : Nat} {v : α} : va_up g i v i = v := if_pos rfl
theorem vau_ne {α : Type} {g : Nat → α} {i j : Nat} {v : α} (e : j ≠ i) : va_up g i v j = g j := if_neg e
/-- a thief is made and stands at place i of the band -/
theorem rt_band (R : RT Dy h.2.2.1 t n T p s) (ht : t + 12 < Dy) (hD : Dy ≤ h.1) (hz : h.2.2.1 h.1 = .inr (99, [])) {n2 : Nat → Nat} {T2 : Nat → Nat → Int32} {i kn : Nat} (hk : kn ≤ 5) (hi : i < 6) (m0 : n2 0 = n 0) (m1 : n2 1 = n 1) (m3 : n2 3 = n 3) (m2 : n2 2 ≤ 6 ∧ n 2 ≤ n2 2 ∧ i < n2 2 ∧ ∀ k, k < n2 2 → k ≠ i → k < n 2) (t0 : T2 0 = T 0) (t1 : T2 1 = T 1) (t2 : T2 2 = T 2) (t3 : T2 3 = T 3) (t4 : T2 4 = T 4) (t5 : T2 5 = T 5) (t6 : T2 6 = T 6) (t7 : T2 7 = T 7) (t8 : T2 8 = upd (T 8) i (nI kn)) (t9 : T2 9 = upd (T 9) i y) (t10 : T2 10 = T 10) (t11 : T2 11 = T 11) (t12 : T2 12 = T 12) (t13 : T2 13 = T 13) : RT Dy (xset (xset (xnew h 2 (.inr (kcl kn, [.int (nI kn), .int y]))) (t + 8) (.inl (6, xrs 6 (va_up (p 0) i (some h.1))))) t (.inr (10, townF t n2 T2))).2.2.1 t n2 T2 (rup p 0 (va_up (p 0) i (some h.1))) s ∧ FW Dy (Pt t) h (xset (xset (xnew h 2 (.inr (kcl kn, [.int (nI kn), .int y]))) (t + 8) (.inl (6, xrs 6 (va_up (p 0) i (some h.1))))) t (.inr (10, townF t n2 T2))) := by
  have F1 : FW Dy (Pt t) h (xnew h 2 (.inr (kcl kn, [.int (nI kn), .int y]))) := FW.new hD hz
  have F2 := F1.trans (FR.pt (a := t + 8) (e := .inl (6, xrs 6 (va_up (p 0) i (some h.1)))) ht (show Dy ≤ h.1 + 1 by omega) ⟨by omega, by omega⟩).fw
  have F := F2.trans (FR.pt (a := t) (e := .inr (10, townF t n2 T2)) ht (show Dy ≤ h.1 + 1 by omega) ⟨by omega, by omega⟩).fw
  refine ⟨?_, F⟩
  have ec : ∀ k, k ≤ 12 → k ≠ 0 → k ≠ 8 → (xset (xset (xnew h 2 (.inr (kcl kn, [.int (nI kn), .int y]))) (t + 8) (.inl (6, xrs 6 (va_up (p 0) i (some h.1))))) t (.inr (10, townF t n2 T2))).2.2.1 (t + k) = h.2.2.1 (t + k) := fun k k1 k2 k3 => by rw [xset_ne (by omega), xset_ne (by omega), xnew_ne (by omega)]
  have ea : (xset (xset (xnew h 2 (.inr (kcl kn, [.int (nI kn), .int y]))) (t + 8) (.inl (6, xrs 6 (va_up (p 0) i (some h.1))))) t (.inr (10, townF t n2 T2))).2.2.1 h.1 = .inr (kcl kn, [.int (nI kn), .int y]) := by rw [xset_ne (by omega), xset_ne (by omega), xnew_at]
  have hn := R.nn
  refine ⟨xset_self, by rw [t1]; exact (ec 1 (by omega) (by omega) (by omega)).trans R.aw, by rw [t2]; exact (ec 2 (by omega) (by omega) (by omega)).trans R.ca, by rw [t3]; exact (ec 3 (by omega) (by omega) (by omega)).trans R.ag, by rw [t4]; exact (ec 4 (by omega) (by omega) (by omega)).trans R.ow, by rw [t5]; exact (ec 5 (by omega) (by omega) (by omega)).trans R.wo, by rw [t6]; exact (ec 6 (by omega) (by omega) (by omega)).trans R.no, by rw [t7]; exact (ec 7 (by omega) (by omega) (by omega)).trans R.be, ?_, (ec 9 (by omega) (by omega) (by omega)).trans R.la, (ec 10 (by omega) (by omega) (by omega)).trans R.co, (ec 11 (by omega) (by omega) (by omega)).trans R.mi, (ec 12 (by omega) (by omega) (by omega)).trans R.ga, ⟨by rw [m0]; exact hn.1, by rw [m1]; exact hn.2.1, m2.1, by rw [m3]; exact hn.2.2.2⟩, fun k hk2 => ?_, fun k hk2 => ?_, fun k k1 k2 => ?_, fun k k1 k2 => ?_⟩
  · rw [xset_ne (by omega), xset_self]; rfl
  · rw [t8, t9]
    by_cases e : k = i
    · subst e
      rw [upd_at, upd_at]
      exact ⟨h.1, vau_at, hD, kn, hk, rfl, ea⟩
    · rw [upd_ne e, upd_ne e]
      obtain ⟨a, q1, q2, q3⟩ := R.th k (m2.2.2.2 k hk2 e)
      exact ⟨a, (vau_ne e).trans q1, q2, F.2.1 _ _ _ q2 q3⟩
  · rw [m3] at hk2
    rw [t10, t11, t12, t13]
    obtain ⟨a, q1, q2, q3⟩ := R.tx k hk2
    exact ⟨a, q1, q2, F.2.2 _ _ _ _ _ q2 q3⟩
  · have : k ≠ i := by omega
    exact (vau_ne this).trans (R.tn.1 k (by omega) k2)
  · rw [m3] at k1
    exact R.tn.2 k k1 k2
end TH3
