/-! ===== 73: texts: signs that wait, and what is given out ===== -/
def rk (s : Int32) : Nat := if s = -1 then 1 else if s = -2 then 2 else if ¬ s < -5 then 3 else if ¬ s < -7 then 4 else if ¬ s < -9 then 5 else 6
def asc (s : Int32) : Int32 := if s = -1 then 124 else if s = -2 then 38 else if s = -3 then 60 else if s = -4 then 61 else if s = -5 then 62 else if s = -6 then 43 else if s = -7 then 45 else if s = -8 then 42 else if s = -9 then 47 else if s = -10 then 33 else 40
def sgv (v : Int32) : Int32 := if v = 124 then -1 else if v = 38 then -2 else if v = 60 then -3 else if v = 61 then -4 else if v = 62 then -5 else if v = 43 then -6 else if v = 45 then -7 else if v = 42 then -8 else if v = 47 then -9 else 0
def nmv (ky : Nat) (v : Int32) : Int32 := if ky = 0 then (if v = 97 then 0 else if v = 99 then 1 else if v = 108 then 2 else if v = 112 then 3 else -1) else if ky = 1 then (if v = 119 then 0 else if v = 109 then 1 else -1) else (if v = 112 then 0 else if v = 113 then 1 else if v = 111 then 2 else -1)
def nmb (b : Nat → Int32) : Nat → Nat → Int32 → Int32
  | 0, _, a => a
  | c + 1, k, a => nmb b c (k + 1) (10 * a + b k - 48)
def opn : List Int32 → Nat
  | [] => 0
  | s :: W => if s = -11 then opn W + 1 else opn W
def cn : List Int32 → Nat
  | [] => 0
  | s :: W => if s = -10 then cn W + 1 else cn W
def nb : List Int32 → Nat
  | [] => 0
  | s :: W => if s = -10 ∨ s = -11 then nb W else nb W + 1
def tsg : List Int32 → Bool
  | [] => false
  | s :: W => if s = -11 then false else if rk s = 3 then true else tsg W
def stl (l : Nat) : List Int32 → List Int32 → List Int32 × List Int32
  | [], C => ([], C)
  | s :: W, C => if s = -11 ∨ rk s < l then (s :: W, C) else stl l W (s :: C)
/-- how the waiting signs stand: their ranks fall within a brace, a not stands only where a piece is wanted -/
def sh : Nat → List Int32 → Prop
  | _, [] => True
  | r, s :: W => (s = -10 ∧ r = 8 ∧ sh 8 W) ∨ (sgn9 s ∧ rk s < r ∧ sh (rk s) W) ∨ (s = -11 ∧ sh 8 W)
def dpl : List Int32 → Nat
  | [] => 0
  | s :: C => if ¬ s < 0 then dpl C + 1 else if s = -10 then dpl C else dpl C - 1
def wfl (nn : Nat) : List Int32 → Prop
  | [] => True
  | s :: C => ((∃ v, v < 10000 ∧ s = nI v) ∨ (∃ i, i < nn ∧ s = nI (10000 + i)) ∨ (s = -10 ∧ 1 ≤ dpl C) ∨ (sgn9 s ∧ 2 ≤ dpl C)) ∧ wfl nn C
/-- a row holds a list, its first at the end -/
def SRe (e : Int32 → Int32) (w : Nat → Int32) : List Int32 → Prop
  | [] => True
  | s :: W => w W.length = e s ∧ SRe e w W
theorem SRe_up {e : Int32 → Int32} {w : Nat → Int32} {v : Int32} : ∀ (W : List Int32) (k : Nat), W.length ≤ k → SRe e w W → SRe e (upd w k v) W := by
  intro W
  induction W with
  | nil => intro k _ _; trivial
  | cons s W ih =>
    intro k hk h
    have hl : W.length + 1 ≤ k := hk
    exact ⟨by rw [upd_ne (by omega)]; exact h.1, ih k (by omega) h.2⟩
theorem SRe_push {e : Int32 → Int32} {w : Nat → Int32} {s v : Int32} {W : List Int32} (h : SRe e w W) (hv : v = e s) : SRe e (upd w W.length v) (s :: W) := ⟨by rw [upd_at]; exact hv, SRe_up W _ (Nat.le_refl _) h⟩
theorem rk_9 {s : Int32} (h : sgn9 s) : 1 ≤ rk s ∧ rk s ≤ 5 ∧ ¬ s = -10 ∧ ¬ s = -11 ∧ s < 0 ∧ ¬ asc s = 33 ∧ ¬ asc s = 40 ∧ -1000 - asc s = cenc s := by
  rcases h with rfl | rfl | rfl | rfl | rfl | rfl | rfl | rfl | rfl <;> decide
theorem rk_10 : rk (-10) = 6 := by decide
theorem sgv_9 {v : Int32} (h : ¬ sgv v = 0) : sgn9 (sgv v) ∧ asc (sgv v) = v := by
  unfold sgv at h ⊢
  by_cases h1 : v = 124
  · rw [if_pos h1, h1]; unfold sgn9; decide
  rw [if_neg h1] at h ⊢
  by_cases h2 : v = 38
  · rw [if_pos h2, h2]; unfold sgn9; decide
  rw [if_neg h2] at h ⊢
  by_cases h3 : v = 60
  · rw [if_pos h3, h3]; unfold sgn9; decide
  rw [if_neg h3] at h ⊢
  by_cases h4 : v = 61
  · rw [if_pos h4, h4]; unfold sgn9; decide
  rw [if_neg h4] at h ⊢
  by_cases h5 : v = 62
  · rw [if_pos h5, h5]; unfold sgn9; decide
  rw [if_neg h5] at h ⊢
  by_cases h6 : v = 43
  · rw [if_pos h6, h6]; unfold sgn9; decide
  rw [if_neg h6] at h ⊢
  by_cases h7 : v = 45
  · rw [if_pos h7, h7]; unfold sgn9; decide
  rw [if_neg h7] at h ⊢
  by_cases h8 : v = 42
  · rw [if_pos h8, h8]; unfold sgn9; decide
  rw [if_neg h8] at h ⊢
  by_cases h9 : v = 47
  · rw [if_pos h9, h9]; unfold sgn9; decide
  rw [if_neg h9] at h
  exact absurd rfl h
theorem sh_mono : ∀ (W : List Int32) (r r2 : Nat), r ≤ r2 → r2 ≤ 8 → sh r W → sh r2 W := by
  intro W
  cases W with
  | nil => intro _ _ _ _ _; trivial
  | cons s W =>
    intro r r2 h1 h2 h
    rcases h with ⟨a, b, c⟩ | ⟨a, b, c⟩ | ⟨a, c⟩
    · exact Or.inl ⟨a, by omega, c⟩
    · exact Or.inr (Or.inl ⟨a, by omega, c⟩)
    · exact Or.inr (Or.inr ⟨a, c⟩)
theorem stl_len (l : Nat) : ∀ W C, (stl l W C).1.length + (stl l W C).2.length = W.length + C.length := by
  intro W
  induction W with
  | nil => intro C; rfl
  | cons s W ih =>
    intro C
    unfold stl
    by_cases e : s = -11 ∨ rk s < l
    · rw [if_pos e]
    · rw [if_neg e, ih]
      show W.length + (C.length + 1) = W.length + 1 + C.length
      omega
/-- signs are given out where a piece has ended -/
theorem stl_7 {nn : Nat} (l : Nat) (hl : l ≤ 5) : ∀ W r C, r ≤ 7 → sh r W → wfl nn C → dpl C = nb W + 1 → sh l (stl l W C).1 ∧ opn (stl l W C).1 = opn W ∧ cn (stl l W C).1 = cn W ∧ wfl nn (stl l W C).2 ∧ dpl (stl l W C).2 = nb (stl l W C).1 + 1 := by
  intro W
  induction W with
  | nil => intro r C _ _ hw hd; exact ⟨trivial, rfl, rfl, hw, hd⟩
  | cons s W ih =>
    intro r C hr h hw hd
    rcases h with ⟨a, b, c⟩ | ⟨a, b, c⟩ | ⟨a, c⟩
    · omega
    · obtain ⟨k1, k2, k3, k4, k5, -⟩ := rk_9 a
      unfold stl
      by_cases e : rk s < l
      · rw [if_pos (Or.inr e)]
        exact ⟨Or.inr (Or.inl ⟨a, e, c⟩), rfl, rfl, hw, hd⟩
      · rw [if_neg (fun q => by rcases q with q | q; exact k4 q; exact e q)]
        have n1 : nb (s :: W) = nb W + 1 := if_neg (fun q => by rcases q with q | q; exact k3 q; exact k4 q)
        have d1 : dpl (s :: C) = dpl C - 1 := by
          show (if ¬ s < 0 then dpl C + 1 else if s = -10 then dpl C else dpl C - 1) = dpl C - 1
          rw [if_neg (fun q => q k5), if_neg k3]
        rw [n1] at hd
        obtain ⟨i1, i2, i3, i4, i5⟩ := ih (rk s) (s :: C) (by omega) c ⟨Or.inr (Or.inr (Or.inr ⟨a, by omega⟩)), hw⟩ (by rw [d1]; omega)
        exact ⟨i1, by rw [i2]; exact (if_neg k4).symm, by rw [i3]; exact (if_neg k3).symm, i4, i5⟩
    · unfold stl
      rw [if_pos (Or.inl a)]
      exact ⟨Or.inr (Or.inr ⟨a, c⟩), rfl, rfl, hw, hd⟩
/-- nots are given out behind a piece -/
theorem stl_6 {nn : Nat} : ∀ W C, sh 8 W → wfl nn C → dpl C = nb W + 1 → sh 7 (stl 6 W C).1 ∧ opn (stl 6 W C).1 = opn W ∧ cn (stl 6 W C).1 ≤ cn W ∧ wfl nn (stl 6 W C).2 ∧ dpl (stl 6 W C).2 = nb (stl 6 W C).1 + 1 ∧ tsg (stl 6 W C).1 = tsg W := by
  intro W
  induction W with
  | nil => intro C _ hw hd; exact ⟨trivial, rfl, Nat.le_refl _, hw, hd, rfl⟩
  | cons s W ih =>
    intro C h hw hd
    rcases h with ⟨a, b, c⟩ | ⟨a, b, c⟩ | ⟨a, c⟩
    · subst a
      unfold stl
      rw [if_neg (by decide)]
      have n1 : nb (-10 :: W) = nb W := if_pos (Or.inl rfl)
      rw [n1] at hd
      obtain ⟨i1, i2, i3, i4, i5, i6⟩ := ih (-10 :: C) c ⟨Or.inr (Or.inr (Or.inl ⟨rfl, by omega⟩)), hw⟩ (by show dpl C = _; exact hd)
      refine ⟨i1, by rw [i2]; rfl, ?_, i4, i5, by rw [i6]; rfl⟩
      show _ ≤ cn W + 1
      omega
    · obtain ⟨k1, k2, k3, k4, k5, -⟩ := rk_9 a
      unfold stl
      rw [if_pos (Or.inr (by omega))]
      exact ⟨Or.inr (Or.inl ⟨a, by omega, c⟩), rfl, Nat.le_refl _, hw, hd, rfl⟩
    · unfold stl
      rw [if_pos (Or.inl a)]
      exact ⟨Or.inr (Or.inr ⟨a, c⟩), rfl, Nat.le_refl _, hw, hd, rfl⟩
/-- up to the open brace -/
theorem stl_0 : ∀ W r C, r ≤ 7 → sh r W → ¬ opn W = 0 → ∃ W2, (stl 0 W C).1 = -11 :: W2 ∧ sh 8 W2 := by
  intro W
  induction W with
  | nil => intro r C _ _ h; exact absurd rfl h
  | cons s W ih =>
    intro r C hr h ho
    rcases h with ⟨a, b, c⟩ | ⟨a, b, c⟩ | ⟨a, c⟩
    · omega
    · obtain ⟨k1, k2, k3, k4, k5, -⟩ := rk_9 a
      unfold stl
      rw [if_neg (fun q => by rcases q with q | q; exact k4 q; omega)]
      exact ih (rk s) (s :: C) (by omega) c (by rw [show opn (s :: W) = opn W from if_neg k4] at ho; exact ho)
    · unfold stl
      rw [if_pos (Or.inl a), a]
      exact ⟨W, rfl, c⟩
theorem tsg_lo : ∀ W r, r ≤ 3 → sh r W → tsg W = false := by
  intro W
  induction W with
  | nil => intro _ _ _; rfl
  | cons s W ih =>
    intro r hr h
    rcases h with ⟨a, b, c⟩ | ⟨a, b, c⟩ | ⟨a, c⟩
    · omega
    · obtain ⟨k1, k2, k3, k4, k5, -⟩ := rk_9 a
      show (if s = -11 then false else if rk s = 3 then true else tsg W) = false
      rw [if_neg k4, if_neg (by omega)]
      exact ih (rk s) (by omega) c
    · show (if s = -11 then false else if rk s = 3 then true else tsg W) = false
      rw [if_pos a]
/-- no test stands: whether tests themselves are given out makes no difference -/
theorem stl_34 : ∀ W r C, r ≤ 7 → sh r W → tsg W = false → stl 4 W C = stl 3 W C := by
  intro W
  induction W with
  | nil => intro _ _ _ _ _; rfl
  | cons s W ih =>
    intro r C hr h ht
    rcases h with ⟨a, b, c⟩ | ⟨a, b, c⟩ | ⟨a, c⟩
    · omega
    · obtain ⟨k1, k2, k3, k4, k5, -⟩ := rk_9 a
      have ht2 : (if s = -11 then false else if rk s = 3 then true else tsg W) = false := ht
      rw [if_neg k4] at ht2
      by_cases e : rk s = 3
      · rw [if_pos e] at ht2; cases ht2
      rw [if_neg e] at ht2
      unfold stl
      by_cases e3 : rk s < 3
      · rw [if_pos (Or.inr e3), if_pos (Or.inr (by omega))]
      · rw [if_neg (fun q => by rcases q with q | q; exact k4 q; omega), if_neg (fun q => by rcases q with q | q; exact k4 q; exact e3 q)]
        exact ih (rk s) (s :: C) (by omega) c ht2
    · unfold stl
      rw [if_pos (Or.inl a), if_pos (Or.inl a)]
theorem stl_4t : ∀ W r C, r ≤ 7 → sh r W → tsg W = true → ∃ s W2, (stl 4 W C).1 = s :: W2 ∧ sgn9 s ∧ rk s = 3 := by
  intro W
  induction W with
  | nil => intro _ _ _ _ h; cases h
  | cons s W ih =>
    intro r C hr h ht
    rcases h with ⟨a, b, c⟩ | ⟨a, b, c⟩ | ⟨a, c⟩
    · omega
    · obtain ⟨k1, k2, k3, k4, k5, -⟩ := rk_9 a
      have ht2 : (if s = -11 then false else if rk s = 3 then true else tsg W) = true := ht
      rw [if_neg k4] at ht2
      unfold stl
      by_cases e : rk s = 3
      · rw [if_pos (Or.inr (by omega))]; exact ⟨s, W, rfl, a, e⟩
      rw [if_neg e] at ht2
      by_cases e3 : rk s < 3
      · rw [tsg_lo W (rk s) (by omega) c] at ht2; cases ht2
      · rw [if_neg (fun q => by rcases q with q | q; exact k4 q; omega)]
        exact ih (rk s) (s :: C) (by omega) c ht2
    · have ht2 : (if s = -11 then false else if rk s = 3 then true else tsg W) = true := ht
      rw [if_pos a] at ht2; cases ht2
/-- a test stays where only what binds closer is given out -/
theorem tsg_hi : ∀ W r C l, r ≤ 7 → 3 < l → l ≤ 5 → sh r W → tsg (stl l W C).1 = tsg W := by
  intro W
  induction W with
  | nil => intro _ _ _ _ _ _ _; rfl
  | cons s W ih =>
    intro r C l hr h3 h5 h
    rcases h with ⟨a, b, c⟩ | ⟨a, b, c⟩ | ⟨a, c⟩
    · omega
    · obtain ⟨k1, k2, k3, k4, k5, -⟩ := rk_9 a
      unfold stl
      by_cases e : rk s < l
      · rw [if_pos (Or.inr e)]
      · rw [if_neg (fun q => by rcases q with q | q; exact k4 q; exact e q), ih (rk s) (s :: C) l (by omega) h3 h5 c]
        show _ = (if s = -11 then false else if rk s = 3 then true else tsg W)
        rw [if_neg k4, if_neg (by omega)]
    · unfold stl
      rw [if_pos (Or.inl a)]
theorem nmv_n {ky : Nat} {v : Int32} (hk : ky < 3) (h : ¬ nmv ky v < 0) : ∃ i, i < nnk ky ∧ nmv ky v = nI i := by
  unfold nmv at h ⊢
  rcases (show ky = 0 ∨ ky = 1 ∨ ky = 2 by omega) with rfl | rfl | rfl
  · rw [if_pos rfl] at h ⊢
    by_cases h1 : v = 97
    · rw [if_pos h1]; exact ⟨0, by decide, rfl⟩
    rw [if_neg h1] at h ⊢
    by_cases h2 : v = 99
    · rw [if_pos h2]; exact ⟨1, by decide, rfl⟩
    rw [if_neg h2] at h ⊢
    by_cases h3 : v = 108
    · rw [if_pos h3]; exact ⟨2, by decide, rfl⟩
    rw [if_neg h3] at h ⊢
    by_cases h4 : v = 112
    · rw [if_pos h4]; exact ⟨3, by decide, rfl⟩
    rw [if_neg h4] at h
    exact absurd (by decide) h
  · rw [if_neg (by decide), if_pos rfl] at h ⊢
    by_cases h1 : v = 119
    · rw [if_pos h1]; exact ⟨0, by decide, rfl⟩
    rw [if_neg h1] at h ⊢
    by_cases h2 : v = 109
    · rw [if_pos h2]; exact ⟨1, by decide, rfl⟩
    rw [if_neg h2] at h
    exact absurd (by decide) h
  · rw [if_neg (by decide), if_neg (by decide)] at h ⊢
    by_cases h1 : v = 112
    · rw [if_pos h1]; exact ⟨0, by decide, rfl⟩
    rw [if_neg h1] at h ⊢
    by_cases h2 : v = 113
    · rw [if_pos h2]; exact ⟨1, by decide, rfl⟩
    rw [if_neg h2] at h ⊢
    by_cases h3 : v = 111
    · rw [if_pos h3]; exact ⟨2, by decide, rfl⟩
    rw [if_neg h3] at h
    exact absurd (by decide) h
theorem nmb_n {b : Nat → Int32} : ∀ c k v, v * 10 ^ c + 10 ^ c ≤ 10000 → (∀ j, k ≤ j → j < k + c → isD (b j) = true) → ∃ v2, v2 < 10000 ∧ nmb b c k (nI v) = nI v2 := by
  intro c
  induction c with
  | zero => intro k v h _; exact ⟨v, by omega, rfl⟩
  | succ c ih =>
    intro k v h hd
    obtain ⟨g, hg, e⟩ := isD_n (hd k (Nat.le_refl _) (by omega))
    have hp : 10 ^ (c + 1) = 10 * 10 ^ c := by rw [Nat.pow_succ, Nat.mul_comm]
    have hb : (10 * v + g) * 10 ^ c + 10 ^ c ≤ 10000 := by
      rw [hp] at h
      have h1 : v * (10 * 10 ^ c) = 10 * v * 10 ^ c := by rw [← Nat.mul_assoc, Nat.mul_comm v 10]
      have h2 : (10 * v + g) * 10 ^ c = 10 * v * 10 ^ c + g * 10 ^ c := Nat.add_mul _ _ _
      have h3 : g * 10 ^ c ≤ 9 * 10 ^ c := Nat.mul_le_mul_right _ (by omega)
      omega
    obtain ⟨v2, h2, e2⟩ := ih (k + 1) (10 * v + g) hb (fun j h1 h2 => hd j (by omega) (by omega))
    refine ⟨v2, h2, ?_⟩
    rw [← e2]
    show nmb b c (k + 1) (10 * nI v + b k - 48) = _
    rw [e, show (10 : Int32) * nI v = nI (10 * v) from pk_mul 10 v, nI_add, show nI (10 * v + (48 + g)) - 48 = nI (10 * v + (48 + g) - 48) from pk_sub (b := 48) (by omega), show 10 * v + (48 + g) - 48 = 10 * v + g by omega]
/-- the row of codes that a list tells -/
theorem dpt_l {cd : Nat → Int32} : ∀ C, SRe id cd C → dpt cd C.length = dpl C := by
  intro C
  induction C with
  | nil => intro _; rfl
  | cons s C ih =>
    intro h
    have e : cd C.length = s := h.1
    show (if ¬ cd C.length < 0 then dpt cd C.length + 1 else if cd C.length = -10 then dpt cd C.length else dpt cd C.length - 1) = (if ¬ s < 0 then dpl C + 1 else if s = -10 then dpl C else dpl C - 1)
    rw [e, ih h.2]
theorem wfc_l {cd : Nat → Int32} {nn : Nat} : ∀ C, SRe id cd C → wfl nn C → ∀ k, k < C.length → wfk cd nn k := by
  intro C
  induction C with
  | nil => intro _ _ k hk; exact absurd hk (Nat.not_lt_zero k)
  | cons s C ih =>
    intro h hw k hk
    have hk2 : k < C.length + 1 := hk
    by_cases e : k = C.length
    · subst e
      have e1 : cd C.length = s := h.1
      unfold wfk
      rw [e1, dpt_l C h.2]
      exact hw.1
    · exact ih h.2 hw.2 k (by omega)
theorem SRe_at {e : Int32 → Int32} {f g : Nat → Int32} : ∀ C, SRe id f C → SRe e g C → ∀ k, k < C.length → g k = e (f k) := by
  intro C
  induction C with
  | nil => intro _ _ k hk; exact absurd hk (Nat.not_lt_zero k)
  | cons s C ih =>
    intro h1 h2 k hk
    have hk2 : k < C.length + 1 := hk
    by_cases c : k = C.length
    · subst c
      rw [h2.1, h1.1]; rfl
    · exact ih h1.2 h2.2 k (by omega)
