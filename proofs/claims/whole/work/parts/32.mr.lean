/-! ===== 32: one number written on both sides ===== -/
section MRS
variable {n : Nat → Nat} {T : Nat → Nat → Int32} {f : Nat → Int32}
theorem mr_h1 (M : MR n T f) {i : Nat} (hi : i < 10) {v : Int32} : MR n (sup T 1 i v) (upd f (8 + 3 * i) v) := by
  obtain ⟨⟨a0, a1, a2, a3, a4, a5, a6, a7⟩, b, c, e, k, l⟩ := M
  refine ⟨⟨by rw [upd_ne (show 0 ≠ 8 + 3 * i by omega)]; exact a0, by rw [upd_ne (show 1 ≠ 8 + 3 * i by omega)]; exact a1, by rw [upd_ne (show 2 ≠ 8 + 3 * i by omega)]; exact a2, by rw [upd_ne (show 3 ≠ 8 + 3 * i by omega)]; exact a3, by rw [upd_ne (show 4 ≠ 8 + 3 * i by omega)]; exact a4, by rw [upd_ne (show 5 ≠ 8 + 3 * i by omega)]; exact a5, by rw [upd_ne (show 6 ≠ 8 + 3 * i by omega)]; exact a6, by rw [upd_ne (show 7 ≠ 8 + 3 * i by omega)]; exact a7⟩, fun i2 h2 => ?_, fun i2 h2 => by simp only [upd_ne (show 38 + 5 * i2 ≠ 8 + 3 * i by omega), upd_ne (show 38 + 5 * i2 + 1 ≠ 8 + 3 * i by omega), upd_ne (show 38 + 5 * i2 + 2 ≠ 8 + 3 * i by omega), upd_ne (show 38 + 5 * i2 + 3 ≠ 8 + 3 * i by omega), upd_ne (show 38 + 5 * i2 + 4 ≠ 8 + 3 * i by omega)]; exact c i2 h2, fun i2 h2 => by simp only [upd_ne (show 98 + 2 * i2 ≠ 8 + 3 * i by omega), upd_ne (show 98 + 2 * i2 + 1 ≠ 8 + 3 * i by omega)]; exact e i2 h2, fun i2 h2 => by simp only [upd_ne (show 110 + 2 * i2 ≠ 8 + 3 * i by omega), upd_ne (show 110 + 2 * i2 + 1 ≠ 8 + 3 * i by omega)]; exact k i2 h2, fun i2 h2 => by simp only [upd_ne (show 138 + i2 ≠ 8 + 3 * i by omega)]; exact l i2 h2⟩
  obtain ⟨b0, b1, b2⟩ := b i2 h2
  by_cases q : i2 = i
  · subst q
    refine ⟨?_, ?_, ?_⟩
    · rw [upd_at]; exact sup_at.symm
    · rw [upd_ne (by omega)]; exact b1
    · rw [upd_ne (by omega)]; exact b2
  · refine ⟨?_, ?_, ?_⟩
    · rw [upd_ne (by omega), sup_row, upd_ne q]; exact b0
    · rw [upd_ne (by omega)]; exact b1
    · rw [upd_ne (by omega)]; exact b2
theorem mr_h2 (M : MR n T f) {i : Nat} (hi : i < 10) {v : Int32} : MR n (sup T 2 i v) (upd f (8 + 3 * i + 1) v) := by
  obtain ⟨⟨a0, a1, a2, a3, a4, a5, a6, a7⟩, b, c, e, k, l⟩ := M
  refine ⟨⟨by rw [upd_ne (show 0 ≠ 8 + 3 * i + 1 by omega)]; exact a0, by rw [upd_ne (show 1 ≠ 8 + 3 * i + 1 by omega)]; exact a1, by rw [upd_ne (show 2 ≠ 8 + 3 * i + 1 by omega)]; exact a2, by rw [upd_ne (show 3 ≠ 8 + 3 * i + 1 by omega)]; exact a3, by rw [upd_ne (show 4 ≠ 8 + 3 * i + 1 by omega)]; exact a4, by rw [upd_ne (show 5 ≠ 8 + 3 * i + 1 by omega)]; exact a5, by rw [upd_ne (show 6 ≠ 8 + 3 * i + 1 by omega)]; exact a6, by rw [upd_ne (show 7 ≠ 8 + 3 * i + 1 by omega)]; exact a7⟩, fun i2 h2 => ?_, fun i2 h2 => by simp only [upd_ne (show 38 + 5 * i2 ≠ 8 + 3 * i + 1 by omega), upd_ne (show 38 + 5 * i2 + 1 ≠ 8 + 3 * i + 1 by omega), upd_ne (show 38 + 5 * i2 + 2 ≠ 8 + 3 * i + 1 by omega), upd_ne (show 38 + 5 * i2 + 3 ≠ 8 + 3 * i + 1 by omega), upd_ne (show 38 + 5 * i2 + 4 ≠ 8 + 3 * i + 1 by omega)]; exact c i2 h2, fun i2 h2 => by simp only [upd_ne (show 98 + 2 * i2 ≠ 8 + 3 * i + 1 by omega), upd_ne (show 98 + 2 * i2 + 1 ≠ 8 + 3 * i + 1 by omega)]; exact e i2 h2, fun i2 h2 => by simp only [upd_ne (show 110 + 2 * i2 ≠ 8 + 3 * i + 1 by omega), upd_ne (show 110 + 2 * i2 + 1 ≠ 8 + 3 * i + 1 by omega)]; exact k i2 h2, fun i2 h2 => by simp only [upd_ne (show 138 + i2 ≠ 8 + 3 * i + 1 by omega)]; exact l i2 h2⟩
  obtain ⟨b0, b1, b2⟩ := b i2 h2
  by_cases q : i2 = i
  · subst q
    refine ⟨?_, ?_, ?_⟩
    · rw [upd_ne (by omega)]; exact b0
    · rw [upd_at]; exact sup_at.symm
    · rw [upd_ne (by omega)]; exact b2
  · refine ⟨?_, ?_, ?_⟩
    · rw [upd_ne (by omega)]; exact b0
    · rw [upd_ne (by omega), sup_row, upd_ne q]; exact b1
    · rw [upd_ne (by omega)]; exact b2
theorem mr_h3 (M : MR n T f) {i : Nat} (hi : i < 10) {v : Int32} : MR n (sup T 3 i v) (upd f (8 + 3 * i + 2) v) := by
  obtain ⟨⟨a0, a1, a2, a3, a4, a5, a6, a7⟩, b, c, e, k, l⟩ := M
  refine ⟨⟨by rw [upd_ne (show 0 ≠ 8 + 3 * i + 2 by omega)]; exact a0, by rw [upd_ne (show 1 ≠ 8 + 3 * i + 2 by omega)]; exact a1, by rw [upd_ne (show 2 ≠ 8 + 3 * i + 2 by omega)]; exact a2, by rw [upd_ne (show 3 ≠ 8 + 3 * i + 2 by omega)]; exact a3, by rw [upd_ne (show 4 ≠ 8 + 3 * i + 2 by omega)]; exact a4, by rw [upd_ne (show 5 ≠ 8 + 3 * i + 2 by omega)]; exact a5, by rw [upd_ne (show 6 ≠ 8 + 3 * i + 2 by omega)]; exact a6, by rw [upd_ne (show 7 ≠ 8 + 3 * i + 2 by omega)]; exact a7⟩, fun i2 h2 => ?_, fun i2 h2 => by simp only [upd_ne (show 38 + 5 * i2 ≠ 8 + 3 * i + 2 by omega), upd_ne (show 38 + 5 * i2 + 1 ≠ 8 + 3 * i + 2 by omega), upd_ne (show 38 + 5 * i2 + 2 ≠ 8 + 3 * i + 2 by omega), upd_ne (show 38 + 5 * i2 + 3 ≠ 8 + 3 * i + 2 by omega), upd_ne (show 38 + 5 * i2 + 4 ≠ 8 + 3 * i + 2 by omega)]; exact c i2 h2, fun i2 h2 => by simp only [upd_ne (show 98 + 2 * i2 ≠ 8 + 3 * i + 2 by omega), upd_ne (show 98 + 2 * i2 + 1 ≠ 8 + 3 * i + 2 by omega)]; exact e i2 h2, fun i2 h2 => by simp only [upd_ne (show 110 + 2 * i2 ≠ 8 + 3 * i + 2 by omega), upd_ne (show 110 + 2 * i2 + 1 ≠ 8 + 3 * i + 2 by omega)]; exact k i2 h2, fun i2 h2 => by simp only [upd_ne (show 138 + i2 ≠ 8 + 3 * i + 2 by omega)]; exact l i2 h2⟩
  obtain ⟨b0, b1, b2⟩ := b i2 h2
  by_cases q : i2 = i
  · subst q
    refine ⟨?_, ?_, ?_⟩
    · rw [upd_ne (by omega)]; exact b0
    · rw [upd_ne (by omega)]; exact b1
    · rw [upd_at]; exact sup_at.symm
  · refine ⟨?_, ?_, ?_⟩
    · rw [upd_ne (by omega)]; exact b0
    · rw [upd_ne (by omega)]; exact b1
    · rw [upd_ne (by omega), sup_row, upd_ne q]; exact b2
theorem mr_d0 (M : MR n T f) {i : Nat} (hi : i < 12) {v : Int32} : MR n (sup T 4 i v) (upd f (38 + 5 * i) (v)) := by
  obtain ⟨⟨a0, a1, a2, a3, a4, a5, a6, a7⟩, b, c, e, k, l⟩ := M
  refine ⟨⟨by rw [upd_ne (show 0 ≠ 38 + 5 * i by omega)]; exact a0, by rw [upd_ne (show 1 ≠ 38 + 5 * i by omega)]; exact a1, by rw [upd_ne (show 2 ≠ 38 + 5 * i by omega)]; exact a2, by rw [upd_ne (show 3 ≠ 38 + 5 * i by omega)]; exact a3, by rw [upd_ne (show 4 ≠ 38 + 5 * i by omega)]; exact a4, by rw [upd_ne (show 5 ≠ 38 + 5 * i by omega)]; exact a5, by rw [upd_ne (show 6 ≠ 38 + 5 * i by omega)]; exact a6, by rw [upd_ne (show 7 ≠ 38 + 5 * i by omega)]; exact a7⟩, fun i2 h2 => by simp only [upd_ne (show 8 + 3 * i2 ≠ 38 + 5 * i by omega), upd_ne (show 8 + 3 * i2 + 1 ≠ 38 + 5 * i by omega), upd_ne (show 8 + 3 * i2 + 2 ≠ 38 + 5 * i by omega)]; exact b i2 h2, fun i2 h2 => ?_, fun i2 h2 => by simp only [upd_ne (show 98 + 2 * i2 ≠ 38 + 5 * i by omega), upd_ne (show 98 + 2 * i2 + 1 ≠ 38 + 5 * i by omega)]; exact e i2 h2, fun i2 h2 => by simp only [upd_ne (show 110 + 2 * i2 ≠ 38 + 5 * i by omega), upd_ne (show 110 + 2 * i2 + 1 ≠ 38 + 5 * i by omega)]; exact k i2 h2, fun i2 h2 => by simp only [upd_ne (show 138 + i2 ≠ 38 + 5 * i by omega)]; exact l i2 h2⟩
  obtain ⟨c0, c1, c2, c3, c4⟩ := c i2 h2
  by_cases q : i2 = i
  · subst q
    refine ⟨?_, ?_, ?_, ?_, ?_⟩
    · rw [upd_at]; exact sup_at.symm
    · rw [upd_ne (by omega)]; exact c1
    · rw [upd_ne (by omega)]; exact c2
    · rw [upd_ne (by omega)]; exact c3
    · rw [upd_ne (by omega)]; exact c4
  · refine ⟨?_, ?_, ?_, ?_, ?_⟩
    · rw [upd_ne (by omega), sup_row, upd_ne q]; exact c0
    · rw [upd_ne (by omega)]; exact c1
    · rw [upd_ne (by omega)]; exact c2
    · rw [upd_ne (by omega)]; exact c3
    · rw [upd_ne (by omega)]; exact c4
theorem mr_d1 (M : MR n T f) {i : Nat} (hi : i < 12) {v : Int32} : MR n (sup T 5 i v) (upd f (38 + 5 * i + 1) (v)) := by
  obtain ⟨⟨a0, a1, a2, a3, a4, a5, a6, a7⟩, b, c, e, k, l⟩ := M
  refine ⟨⟨by rw [upd_ne (show 0 ≠ 38 + 5 * i + 1 by omega)]; exact a0, by rw [upd_ne (show 1 ≠ 38 + 5 * i + 1 by omega)]; exact a1, by rw [upd_ne (show 2 ≠ 38 + 5 * i + 1 by omega)]; exact a2, by rw [upd_ne (show 3 ≠ 38 + 5 * i + 1 by omega)]; exact a3, by rw [upd_ne (show 4 ≠ 38 + 5 * i + 1 by omega)]; exact a4, by rw [upd_ne (show 5 ≠ 38 + 5 * i + 1 by omega)]; exact a5, by rw [upd_ne (show 6 ≠ 38 + 5 * i + 1 by omega)]; exact a6, by rw [upd_ne (show 7 ≠ 38 + 5 * i + 1 by omega)]; exact a7⟩, fun i2 h2 => by simp only [upd_ne (show 8 + 3 * i2 ≠ 38 + 5 * i + 1 by omega), upd_ne (show 8 + 3 * i2 + 1 ≠ 38 + 5 * i + 1 by omega), upd_ne (show 8 + 3 * i2 + 2 ≠ 38 + 5 * i + 1 by omega)]; exact b i2 h2, fun i2 h2 => ?_, fun i2 h2 => by simp only [upd_ne (show 98 + 2 * i2 ≠ 38 + 5 * i + 1 by omega), upd_ne (show 98 + 2 * i2 + 1 ≠ 38 + 5 * i + 1 by omega)]; exact e i2 h2, fun i2 h2 => by simp only [upd_ne (show 110 + 2 * i2 ≠ 38 + 5 * i + 1 by omega), upd_ne (show 110 + 2 * i2 + 1 ≠ 38 + 5 * i + 1 by omega)]; exact k i2 h2, fun i2 h2 => by simp only [upd_ne (show 138 + i2 ≠ 38 + 5 * i + 1 by omega)]; exact l i2 h2⟩
  obtain ⟨c0, c1, c2, c3, c4⟩ := c i2 h2
  by_cases q : i2 = i
  · subst q
    refine ⟨?_, ?_, ?_, ?_, ?_⟩
    · rw [upd_ne (by omega)]; exact c0
    · rw [upd_at]; exact sup_at.symm
    · rw [upd_ne (by omega)]; exact c2
    · rw [upd_ne (by omega)]; exact c3
    · rw [upd_ne (by omega)]; exact c4
  · refine ⟨?_, ?_, ?_, ?_, ?_⟩
    · rw [upd_ne (by omega)]; exact c0
    · rw [upd_ne (by omega), sup_row, upd_ne q]; exact c1
    · rw [upd_ne (by omega)]; exact c2
    · rw [upd_ne (by omega)]; exact c3
    · rw [upd_ne (by omega)]; exact c4
theorem mr_d2 (M : MR n T f) {i : Nat} (hi : i < 12) {v : Int32} : MR n (sup T 6 i v) (upd f (38 + 5 * i + 2) (v)) := by
  obtain ⟨⟨a0, a1, a2, a3, a4, a5, a6, a7⟩, b, c, e, k, l⟩ := M
  refine ⟨⟨by rw [upd_ne (show 0 ≠ 38 + 5 * i + 2 by omega)]; exact a0, by rw [upd_ne (show 1 ≠ 38 + 5 * i + 2 by omega)]; exact a1, by rw [upd_ne (show 2 ≠ 38 + 5 * i + 2 by omega)]; exact a2, by rw [upd_ne (show 3 ≠ 38 + 5 * i + 2 by omega)]; exact a3, by rw [upd_ne (show 4 ≠ 38 + 5 * i + 2 by omega)]; exact a4, by rw [upd_ne (show 5 ≠ 38 + 5 * i + 2 by omega)]; exact a5, by rw [upd_ne (show 6 ≠ 38 + 5 * i + 2 by omega)]; exact a6, by rw [upd_ne (show 7 ≠ 38 + 5 * i + 2 by omega)]; exact a7⟩, fun i2 h2 => by simp only [upd_ne (show 8 + 3 * i2 ≠ 38 + 5 * i + 2 by omega), upd_ne (show 8 + 3 * i2 + 1 ≠ 38 + 5 * i + 2 by omega), upd_ne (show 8 + 3 * i2 + 2 ≠ 38 + 5 * i + 2 by omega)]; exact b i2 h2, fun i2 h2 => ?_, fun i2 h2 => by simp only [upd_ne (show 98 + 2 * i2 ≠ 38 + 5 * i + 2 by omega), upd_ne (show 98 + 2 * i2 + 1 ≠ 38 + 5 * i + 2 by omega)]; exact e i2 h2, fun i2 h2 => by simp only [upd_ne (show 110 + 2 * i2 ≠ 38 + 5 * i + 2 by omega), upd_ne (show 110 + 2 * i2 + 1 ≠ 38 + 5 * i + 2 by omega)]; exact k i2 h2, fun i2 h2 => by simp only [upd_ne (show 138 + i2 ≠ 38 + 5 * i + 2 by omega)]; exact l i2 h2⟩
  obtain ⟨c0, c1, c2, c3, c4⟩ := c i2 h2
  by_cases q : i2 = i
  · subst q
    refine ⟨?_, ?_, ?_, ?_, ?_⟩
    · rw [upd_ne (by omega)]; exact c0
    · rw [upd_ne (by omega)]; exact c1
    · rw [upd_at]; exact sup_at.symm
    · rw [upd_ne (by omega)]; exact c3
    · rw [upd_ne (by omega)]; exact c4
  · refine ⟨?_, ?_, ?_, ?_, ?_⟩
    · rw [upd_ne (by omega)]; exact c0
    · rw [upd_ne (by omega)]; exact c1
    · rw [upd_ne (by omega), sup_row, upd_ne q]; exact c2
    · rw [upd_ne (by omega)]; exact c3
    · rw [upd_ne (by omega)]; exact c4
theorem mr_d3 (M : MR n T f) {i : Nat} (hi : i < 12) {v : Int32} : MR n (sup T 7 (2 * i) v) (upd f (38 + 5 * i + 3) (benc v)) := by
  obtain ⟨⟨a0, a1, a2, a3, a4, a5, a6, a7⟩, b, c, e, k, l⟩ := M
  refine ⟨⟨by rw [upd_ne (show 0 ≠ 38 + 5 * i + 3 by omega)]; exact a0, by rw [upd_ne (show 1 ≠ 38 + 5 * i + 3 by omega)]; exact a1, by rw [upd_ne (show 2 ≠ 38 + 5 * i + 3 by omega)]; exact a2, by rw [upd_ne (show 3 ≠ 38 + 5 * i + 3 by omega)]; exact a3, by rw [upd_ne (show 4 ≠ 38 + 5 * i + 3 by omega)]; exact a4, by rw [upd_ne (show 5 ≠ 38 + 5 * i + 3 by omega)]; exact a5, by rw [upd_ne (show 6 ≠ 38 + 5 * i + 3 by omega)]; exact a6, by rw [upd_ne (show 7 ≠ 38 + 5 * i + 3 by omega)]; exact a7⟩, fun i2 h2 => by simp only [upd_ne (show 8 + 3 * i2 ≠ 38 + 5 * i + 3 by omega), upd_ne (show 8 + 3 * i2 + 1 ≠ 38 + 5 * i + 3 by omega), upd_ne (show 8 + 3 * i2 + 2 ≠ 38 + 5 * i + 3 by omega)]; exact b i2 h2, fun i2 h2 => ?_, fun i2 h2 => by simp only [upd_ne (show 98 + 2 * i2 ≠ 38 + 5 * i + 3 by omega), upd_ne (show 98 + 2 * i2 + 1 ≠ 38 + 5 * i + 3 by omega)]; exact e i2 h2, fun i2 h2 => by simp only [upd_ne (show 110 + 2 * i2 ≠ 38 + 5 * i + 3 by omega), upd_ne (show 110 + 2 * i2 + 1 ≠ 38 + 5 * i + 3 by omega)]; exact k i2 h2, fun i2 h2 => by simp only [upd_ne (show 138 + i2 ≠ 38 + 5 * i + 3 by omega)]; exact l i2 h2⟩
  obtain ⟨c0, c1, c2, c3, c4⟩ := c i2 h2
  by_cases q : i2 = i
  · subst q
    refine ⟨?_, ?_, ?_, ?_, ?_⟩
    · rw [upd_ne (by omega)]; exact c0
    · rw [upd_ne (by omega)]; exact c1
    · rw [upd_ne (by omega)]; exact c2
    · rw [upd_at, sup_at]
    · rw [upd_ne (by omega), sup_row, upd_ne (by omega)]; exact c4
  · refine ⟨?_, ?_, ?_, ?_, ?_⟩
    · rw [upd_ne (by omega)]; exact c0
    · rw [upd_ne (by omega)]; exact c1
    · rw [upd_ne (by omega)]; exact c2
    · rw [upd_ne (by omega), sup_row, upd_ne (by omega)]; exact c3
    · rw [upd_ne (by omega), sup_row, upd_ne (by omega)]; exact c4
theorem mr_d4 (M : MR n T f) {i : Nat} (hi : i < 12) {v : Int32} : MR n (sup T 7 (2 * i + 1) v) (upd f (38 + 5 * i + 4) (benc v)) := by
  obtain ⟨⟨a0, a1, a2, a3, a4, a5, a6, a7⟩, b, c, e, k, l⟩ := M
  refine ⟨⟨by rw [upd_ne (show 0 ≠ 38 + 5 * i + 4 by omega)]; exact a0, by rw [upd_ne (show 1 ≠ 38 + 5 * i + 4 by omega)]; exact a1, by rw [upd_ne (show 2 ≠ 38 + 5 * i + 4 by omega)]; exact a2, by rw [upd_ne (show 3 ≠ 38 + 5 * i + 4 by omega)]; exact a3, by rw [upd_ne (show 4 ≠ 38 + 5 * i + 4 by omega)]; exact a4, by rw [upd_ne (show 5 ≠ 38 + 5 * i + 4 by omega)]; exact a5, by rw [upd_ne (show 6 ≠ 38 + 5 * i + 4 by omega)]; exact a6, by rw [upd_ne (show 7 ≠ 38 + 5 * i + 4 by omega)]; exact a7⟩, fun i2 h2 => by simp only [upd_ne (show 8 + 3 * i2 ≠ 38 + 5 * i + 4 by omega), upd_ne (show 8 + 3 * i2 + 1 ≠ 38 + 5 * i + 4 by omega), upd_ne (show 8 + 3 * i2 + 2 ≠ 38 + 5 * i + 4 by omega)]; exact b i2 h2, fun i2 h2 => ?_, fun i2 h2 => by simp only [upd_ne (show 98 + 2 * i2 ≠ 38 + 5 * i + 4 by omega), upd_ne (show 98 + 2 * i2 + 1 ≠ 38 + 5 * i + 4 by omega)]; exact e i2 h2, fun i2 h2 => by simp only [upd_ne (show 110 + 2 * i2 ≠ 38 + 5 * i + 4 by omega), upd_ne (show 110 + 2 * i2 + 1 ≠ 38 + 5 * i + 4 by omega)]; exact k i2 h2, fun i2 h2 => by simp only [upd_ne (show 138 + i2 ≠ 38 + 5 * i + 4 by omega)]; exact l i2 h2⟩
  obtain ⟨c0, c1, c2, c3, c4⟩ := c i2 h2
  by_cases q : i2 = i
  · subst q
    refine ⟨?_, ?_, ?_, ?_, ?_⟩
    · rw [upd_ne (by omega)]; exact c0
    · rw [upd_ne (by omega)]; exact c1
    · rw [upd_ne (by omega)]; exact c2
    · rw [upd_ne (by omega), sup_row, upd_ne (by omega)]; exact c3
    · rw [upd_at, sup_at]
  · refine ⟨?_, ?_, ?_, ?_, ?_⟩
    · rw [upd_ne (by omega)]; exact c0
    · rw [upd_ne (by omega)]; exact c1
    · rw [upd_ne (by omega)]; exact c2
    · rw [upd_ne (by omega), sup_row, upd_ne (by omega)]; exact c3
    · rw [upd_ne (by omega), sup_row, upd_ne (by omega)]; exact c4
theorem mr_pt (M : MR n T f) {v : Int32} : MR n (sup T 0 4 v) (upd f 6 v) := by
  obtain ⟨⟨a0, a1, a2, a3, a4, a5, a6, a7⟩, b, c, e, k, l⟩ := M
  exact ⟨⟨by rw [upd_ne (show 0 ≠ 6 by omega)]; exact a0, by rw [upd_ne (show 1 ≠ 6 by omega)]; exact a1, by rw [upd_ne (show 2 ≠ 6 by omega)]; exact a2, by rw [upd_ne (show 3 ≠ 6 by omega)]; exact a3, by rw [upd_ne (show 4 ≠ 6 by omega)]; exact a4, by rw [upd_ne (show 5 ≠ 6 by omega)]; exact a5, by rw [upd_at]; exact sup_at.symm, by rw [upd_ne (show 7 ≠ 6 by omega)]; exact a7⟩, fun i2 h2 => by simp only [upd_ne (show 8 + 3 * i2 ≠ 6 by omega), upd_ne (show 8 + 3 * i2 + 1 ≠ 6 by omega), upd_ne (show 8 + 3 * i2 + 2 ≠ 6 by omega)]; exact b i2 h2, fun i2 h2 => by simp only [upd_ne (show 38 + 5 * i2 ≠ 6 by omega), upd_ne (show 38 + 5 * i2 + 1 ≠ 6 by omega), upd_ne (show 38 + 5 * i2 + 2 ≠ 6 by omega), upd_ne (show 38 + 5 * i2 + 3 ≠ 6 by omega), upd_ne (show 38 + 5 * i2 + 4 ≠ 6 by omega)]; exact c i2 h2, fun i2 h2 => by simp only [upd_ne (show 98 + 2 * i2 ≠ 6 by omega), upd_ne (show 98 + 2 * i2 + 1 ≠ 6 by omega)]; exact e i2 h2, fun i2 h2 => by simp only [upd_ne (show 110 + 2 * i2 ≠ 6 by omega), upd_ne (show 110 + 2 * i2 + 1 ≠ 6 by omega)]; exact k i2 h2, fun i2 h2 => by simp only [upd_ne (show 138 + i2 ≠ 6 by omega)]; exact l i2 h2⟩
theorem mr_nh (M : MR n T f) {v : Nat} : MR (va_up n 0 v) T (upd f 1 (nI v)) := by
  obtain ⟨⟨a0, a1, a2, a3, a4, a5, a6, a7⟩, b, c, e, k, l⟩ := M
  exact ⟨⟨by rw [upd_ne (show 0 ≠ 1 by omega)]; exact a0, by rw [upd_at]; rfl, by rw [upd_ne (show 2 ≠ 1 by omega)]; exact a2, by rw [upd_ne (show 3 ≠ 1 by omega)]; exact a3, by rw [upd_ne (show 4 ≠ 1 by omega)]; exact a4, by rw [upd_ne (show 5 ≠ 1 by omega)]; exact a5, by rw [upd_ne (show 6 ≠ 1 by omega)]; exact a6, by rw [upd_ne (show 7 ≠ 1 by omega)]; exact a7⟩, fun i2 h2 => by simp only [upd_ne (show 8 + 3 * i2 ≠ 1 by omega), upd_ne (show 8 + 3 * i2 + 1 ≠ 1 by omega), upd_ne (show 8 + 3 * i2 + 2 ≠ 1 by omega)]; exact b i2 h2, fun i2 h2 => by simp only [upd_ne (show 38 + 5 * i2 ≠ 1 by omega), upd_ne (show 38 + 5 * i2 + 1 ≠ 1 by omega), upd_ne (show 38 + 5 * i2 + 2 ≠ 1 by omega), upd_ne (show 38 + 5 * i2 + 3 ≠ 1 by omega), upd_ne (show 38 + 5 * i2 + 4 ≠ 1 by omega)]; exact c i2 h2, fun i2 h2 => by simp only [upd_ne (show 98 + 2 * i2 ≠ 1 by omega), upd_ne (show 98 + 2 * i2 + 1 ≠ 1 by omega)]; exact e i2 h2, fun i2 h2 => by simp only [upd_ne (show 110 + 2 * i2 ≠ 1 by omega), upd_ne (show 110 + 2 * i2 + 1 ≠ 1 by omega)]; exact k i2 h2, fun i2 h2 => by simp only [upd_ne (show 138 + i2 ≠ 1 by omega)]; exact l i2 h2⟩
theorem mr_nd (M : MR n T f) {v : Nat} : MR (va_up n 1 v) T (upd f 2 (nI v)) := by
  obtain ⟨⟨a0, a1, a2, a3, a4, a5, a6, a7⟩, b, c, e, k, l⟩ := M
  exact ⟨⟨by rw [upd_ne (show 0 ≠ 2 by omega)]; exact a0, by rw [upd_ne (show 1 ≠ 2 by omega)]; exact a1, by rw [upd_at]; rfl, by rw [upd_ne (show 3 ≠ 2 by omega)]; exact a3, by rw [upd_ne (show 4 ≠ 2 by omega)]; exact a4, by rw [upd_ne (show 5 ≠ 2 by omega)]; exact a5, by rw [upd_ne (show 6 ≠ 2 by omega)]; exact a6, by rw [upd_ne (show 7 ≠ 2 by omega)]; exact a7⟩, fun i2 h2 => by simp only [upd_ne (show 8 + 3 * i2 ≠ 2 by omega), upd_ne (show 8 + 3 * i2 + 1 ≠ 2 by omega), upd_ne (show 8 + 3 * i2 + 2 ≠ 2 by omega)]; exact b i2 h2, fun i2 h2 => by simp only [upd_ne (show 38 + 5 * i2 ≠ 2 by omega), upd_ne (show 38 + 5 * i2 + 1 ≠ 2 by omega), upd_ne (show 38 + 5 * i2 + 2 ≠ 2 by omega), upd_ne (show 38 + 5 * i2 + 3 ≠ 2 by omega), upd_ne (show 38 + 5 * i2 + 4 ≠ 2 by omega)]; exact c i2 h2, fun i2 h2 => by simp only [upd_ne (show 98 + 2 * i2 ≠ 2 by omega), upd_ne (show 98 + 2 * i2 + 1 ≠ 2 by omega)]; exact e i2 h2, fun i2 h2 => by simp only [upd_ne (show 110 + 2 * i2 ≠ 2 by omega), upd_ne (show 110 + 2 * i2 + 1 ≠ 2 by omega)]; exact k i2 h2, fun i2 h2 => by simp only [upd_ne (show 138 + i2 ≠ 2 by omega)]; exact l i2 h2⟩
end MRS
