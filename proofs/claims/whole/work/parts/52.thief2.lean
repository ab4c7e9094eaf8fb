/-! ===== 52: a thief on both sides ===== -/
section TH2
variable {n : Nat → Nat} {T : Nat → Nat → Int32} {f : Nat → Int32} {x y : Int32}
theorem mr_thief (M : MR n T f) (h6 : n 2 < 6) : MR (va_up n 2 (n 2 + 1)) (sup (sup T 8 (n 2) x) 9 (n 2) y) (upd (upd (upd f (98 + 2 * n 2) x) (98 + 2 * n 2 + 1) y) 3 (nI (n 2 + 1))) := by
  have hx : ∀ j, j ≠ 98 + 2 * n 2 → j ≠ 98 + 2 * n 2 + 1 → j ≠ 3 → (upd (upd (upd f (98 + 2 * n 2) x) (98 + 2 * n 2 + 1) y) 3 (nI (n 2 + 1))) j = f j := fun j a b c => by rw [upd_ne c, upd_ne b, upd_ne a]
  obtain ⟨⟨a0, a1, a2, a3, a4, a5, a6, a7⟩, b, c, e, k, l⟩ := M
  refine ⟨⟨(hx 0 (by omega) (by omega) (by omega)).trans a0, (hx 1 (by omega) (by omega) (by omega)).trans a1, (hx 2 (by omega) (by omega) (by omega)).trans a2, upd_at, (hx 4 (by omega) (by omega) (by omega)).trans a4, (hx 5 (by omega) (by omega) (by omega)).trans a5, (hx 6 (by omega) (by omega) (by omega)).trans a6, (hx 7 (by omega) (by omega) (by omega)).trans a7⟩, fun i2 h2 => ?_, fun i2 h2 => ?_, fun i2 h2 => ?_, fun i2 h2 => ?_, fun i2 h2 => ?_⟩
  · rw [hx _ (by omega) (by omega) (by omega), hx _ (by omega) (by omega) (by omega), hx _ (by omega) (by omega) (by omega)]; exact b i2 h2
  · rw [hx _ (by omega) (by omega) (by omega), hx _ (by omega) (by omega) (by omega), hx _ (by omega) (by omega) (by omega), hx _ (by omega) (by omega) (by omega), hx _ (by omega) (by omega) (by omega)]; exact c i2 h2
  · have h3 : i2 < n 2 + 1 := h2
    by_cases q : i2 = n 2
    · subst q
      refine ⟨?_, ?_⟩
      · rw [upd_ne (by omega), upd_ne (by omega), upd_at, sup_ne (by decide), sup_at]
      · rw [upd_ne (by omega), upd_at, sup_at]
    · obtain ⟨e1, e2⟩ := e i2 (by omega)
      refine ⟨?_, ?_⟩
      · rw [hx _ (by omega) (by omega) (by omega), e1, sup_ne (by decide), sup_row, upd_ne q]
      · rw [hx _ (by omega) (by omega) (by omega), e2, sup_row, upd_ne q, sup_ne (by decide)]
  · rw [hx _ (by omega) (by omega) (by omega), hx _ (by omega) (by omega) (by omega)]; exact k i2 h2
  · rw [hx _ (by omega) (by omega) (by omega)]; exact l i2 h2
theorem mr_turn (M : MR n T f) (hn : n 2 ≤ 6) {i : Nat} (hi : i < n 2) : MR n (sup T 8 i x) (upd f (98 + 2 * i) x) := by
  have hx : ∀ j, j ≠ 98 + 2 * i → (upd f (98 + 2 * i) x) j = f j := fun j a => upd_ne a
  obtain ⟨⟨a0, a1, a2, a3, a4, a5, a6, a7⟩, b, c, e, k, l⟩ := M
  refine ⟨⟨(hx 0 (by omega)).trans a0, (hx 1 (by omega)).trans a1, (hx 2 (by omega)).trans a2, (hx 3 (by omega)).trans a3, (hx 4 (by omega)).trans a4, (hx 5 (by omega)).trans a5, (hx 6 (by omega)).trans a6, (hx 7 (by omega)).trans a7⟩, fun i2 h2 => ?_, fun i2 h2 => ?_, fun i2 h2 => ?_, fun i2 h2 => ?_, fun i2 h2 => ?_⟩
  · rw [hx _ (by omega), hx _ (by omega), hx _ (by omega)]; exact b i2 h2
  · rw [hx _ (by omega), hx _ (by omega), hx _ (by omega), hx _ (by omega), hx _ (by omega)]; exact c i2 h2
  · obtain ⟨e1, e2⟩ := e i2 h2
    by_cases q : i2 = i
    · subst q
      exact ⟨by rw [upd_at, sup_at], by rw [hx _ (by omega)]; exact e2⟩
    · exact ⟨by rw [hx _ (by omega), e1, sup_row, upd_ne q], by rw [hx _ (by omega)]; exact e2⟩
  · rw [hx _ (by omega), hx _ (by omega)]; exact k i2 h2
  · rw [hx _ (by omega)]; exact l i2 h2
theorem iv_thief (I : IV n T) (h6 : n 2 < 6) {kn j : Nat} (hk : kn ≤ 5) (hj : j < n 0) : IV (va_up n 2 (n 2 + 1)) (sup (sup T 8 (n 2) (nI kn)) 9 (n 2) (nI j)) := by
  have hn := I.nn
  refine ⟨⟨hn.1, hn.2.1, by show n 2 + 1 ≤ 6; omega, hn.2.2.2⟩, I.pt, I.ow, I.wo, I.be, fun i hi => ?_, I.sy, I.hi, I.tx⟩
  have hi' : i < n 2 + 1 := hi
  rw [sup_row, sup_ne (show 8 ≠ 9 by decide), sup_row, sup_ne (show 9 ≠ 8 by decide)]
  by_cases q : i = n 2
  · subst q
    rw [upd_at, upd_at]
    exact ⟨⟨kn, hk, rfl⟩, j, hj, rfl⟩
  · rw [upd_ne q, upd_ne q]
    exact I.th i (by omega)
theorem iv_turn (I : IV n T) {i kn : Nat} (hk : kn ≤ 5) : IV n (sup T 8 i (nI kn)) := by
  refine ⟨I.1, I.pt, I.ow, I.wo, I.be, fun i2 h2 => ?_, I.sy, I.hi, I.tx⟩
  rw [sup_row, sup_ne (show 9 ≠ 8 by decide)]
  obtain ⟨e1, e2⟩ := I.th i2 h2
  by_cases q : i2 = i
  · subst q; rw [upd_at]; exact ⟨⟨kn, hk, rfl⟩, e2⟩
  · rw [upd_ne q]; exact ⟨e1, e2⟩
end TH2
