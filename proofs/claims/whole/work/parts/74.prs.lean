/-! ===== 74: texts: a text read as a whole ===== -/
def trm (b : Nat → Int32) (z ky p : Nat) : Option Int32 := if cls b (tf b z p) = true then none else if ts b z p = 2 then (if 4 < tn b z p - tf b z p then none else some (nmb b (tn b z p - tf b z p) (tf b z p) 0)) else (if tn b z p - tf b z p = 1 ∧ ¬ nmv ky (b (tf b z p)) < 0 then some (10000 + nmv ky (b (tf b z p))) else none)
def jn (b : Nat → Int32) (z p : Nat) (W : List Int32) : Option Int32 := if ts b z p = 3 ∧ ¬ sgv (b (tf b z p)) = 0 then (if rk (sgv (b (tf b z p))) = 3 ∧ tsg W = true then none else some (sgv (b (tf b z p)))) else none
def prs (b : Nat → Int32) (z ky : Nat) : Nat → Nat → List Int32 → List Int32 → Nat → Bool → Option (List Int32 × List Int32 × Nat) × Nat
  | 0, p, _, _, _, _ => (none, p)
  | f + 1, p, W, C, A, wt =>
    if ts b z p = 0 then (if wt = true ∨ ¬ opn W = 0 then (none, tf b z p) else (some (W, C, A), tf b z p))
    else if wt = true then
      (if ts b z p = 3 then
        (if b (tf b z p) = 40 ∧ opn W < 8 then prs b z ky f (tn b z p) (-11 :: W) C A true
         else if b (tf b z p) = 33 ∧ cn W < 8 then prs b z ky f (tn b z p) (-10 :: W) C A true
         else (none, tf b z p))
       else match trm b z ky p with
         | none => (none, tf b z p)
         | some v => prs b z ky f (tn b z p) (stl 6 W (v :: C)).1 (stl 6 W (v :: C)).2 (A + 1) false)
    else if ts b z p = 3 ∧ b (tf b z p) = 41 then
      (if opn W = 0 then (none, tf b z p)
       else prs b z ky f (tn b z p) (stl 6 (stl 0 W C).1.tail (stl 0 W C).2).1 (stl 6 (stl 0 W C).1.tail (stl 0 W C).2).2 A false)
    else match jn b z p W with
      | none => (none, tf b z p)
      | some g => prs b z ky f (tn b z p) (g :: (stl (rk g) W C).1) (stl (rk g) W C).2 A true
/-- what holds while a text is read -/
def PI (nn z p : Nat) (W C : List Int32) (A : Nat) (wt : Bool) : Prop := sh (if wt = true then 8 else 7) W ∧ opn W ≤ 8 ∧ W.length + C.length + 3 ≤ p ∧ p ≤ z ∧ wfl nn C ∧ dpl C = nb W + (if wt = true then 0 else 1) ∧ A ≤ C.length
section PIs
variable {nn z p ky A : Nat} {W C : List Int32} {b : Nat → Int32} {v g : Int32}
theorem pi_open (I : PI nn z p W C A true) (h : ¬ ts b z p = 0) (ho : opn W < 8) : PI nn z (tn b z p) (-11 :: W) C A true := by
  obtain ⟨i1, i2, i3, i4, i5, i6, i7⟩ := I
  have h1 := tn_gt h
  have h2 := tf_ge (b := b) (z := z) (p := p)
  refine ⟨Or.inr (Or.inr ⟨rfl, i1⟩), ?_, ?_, tn_le i4, i5, i6, i7⟩
  · show opn W + 1 ≤ 8; omega
  · show W.length + 1 + C.length + 3 ≤ _; omega
theorem pi_not (I : PI nn z p W C A true) (h : ¬ ts b z p = 0) : PI nn z (tn b z p) (-10 :: W) C A true := by
  obtain ⟨i1, i2, i3, i4, i5, i6, i7⟩ := I
  have h1 := tn_gt h
  have h2 := tf_ge (b := b) (z := z) (p := p)
  refine ⟨Or.inl ⟨rfl, rfl, i1⟩, i2, ?_, tn_le i4, i5, i6, i7⟩
  show W.length + 1 + C.length + 3 ≤ _; omega
theorem trm_ok (hk : ky < 3) (h : ¬ ts b z p = 0) (h3 : ¬ ts b z p = 3) (e : trm b z ky p = some v) : ((∃ u, u < 10000 ∧ v = nI u) ∨ ∃ i, i < nnk ky ∧ v = nI (10000 + i)) ∧ ¬ v < 0 := by
  have key : (∃ u, u < 10000 ∧ v = nI u) ∨ ∃ i, i < nnk ky ∧ v = nI (10000 + i) := by
    unfold trm at e
    by_cases c1 : cls b (tf b z p) = true
    · rw [if_pos c1] at e; cases e
    rw [if_neg c1] at e
    by_cases c2 : ts b z p = 2
    · rw [if_pos c2] at e
      by_cases c3 : 4 < tn b z p - tf b z p
      · rw [if_pos c3] at e; cases e
      rw [if_neg c3] at e
      have e1 := Option.some.inj e
      have hb : 0 * 10 ^ (tn b z p - tf b z p) + 10 ^ (tn b z p - tf b z p) ≤ 10000 := by
        have : 10 ^ (tn b z p - tf b z p) ≤ 10 ^ 4 := Nat.pow_le_pow_right (by decide) (by omega)
        omega
      obtain ⟨u, h1, h2⟩ := nmb_n (b := b) (tn b z p - tf b z p) (tf b z p) 0 hb (fun j j1 j2 => by
        have := tn_in h (j := j) j1 (by omega)
        rw [c2] at this
        exact so_2.mp this)
      exact Or.inl ⟨u, h1, by rw [← e1]; exact h2⟩
    · rw [if_neg c2] at e
      by_cases c3 : tn b z p - tf b z p = 1 ∧ ¬ nmv ky (b (tf b z p)) < 0
      · rw [if_pos c3] at e
        have e1 := Option.some.inj e
        obtain ⟨i, h1, h2⟩ := nmv_n hk c3.2
        refine Or.inr ⟨i, h1, ?_⟩
        rw [← e1, h2]
        exact nI_add 10000 i
      · rw [if_neg c3] at e; cases e
  refine ⟨key, ?_⟩
  have h4 : nnk ky ≤ 4 := by rcases (show ky = 0 ∨ ky = 1 ∨ ky = 2 by omega) with rfl | rfl | rfl <;> decide
  rcases key with ⟨u, h1, rfl⟩ | ⟨i, h1, rfl⟩
  · exact nI_nlt (b := 0) (by omega) (by omega)
  · exact nI_nlt (b := 0) (by omega) (by omega)
theorem pi_term (hk : ky < 3) (I : PI (nnk ky) z p W C A true) (h : ¬ ts b z p = 0) (h3 : ¬ ts b z p = 3) (e : trm b z ky p = some v) : PI (nnk ky) z (tn b z p) (stl 6 W (v :: C)).1 (stl 6 W (v :: C)).2 (A + 1) false ∧ wfl (nnk ky) (v :: C) ∧ dpl (v :: C) = nb W + 1 := by
  obtain ⟨i1, i2, i3, i4, i5, i6, i7⟩ := I
  have h1 := tn_gt h
  have h2 := tf_ge (b := b) (z := z) (p := p)
  obtain ⟨t1, t2⟩ := trm_ok hk h h3 e
  have w1 : wfl (nnk ky) (v :: C) := ⟨by rcases t1 with t | t; exact Or.inl t; exact Or.inr (Or.inl t), i5⟩
  have d1 : dpl (v :: C) = nb W + 1 := by
    show (if ¬ v < 0 then dpl C + 1 else if v = -10 then dpl C else dpl C - 1) = _
    rw [if_pos t2, i6]; rfl
  obtain ⟨s1, s2, s3, s4, s5, s6⟩ := stl_6 W (v :: C) i1 w1 d1
  have l1 := stl_len 6 W (v :: C)
  have l2 : (v :: C).length = C.length + 1 := rfl
  have l3 : C.length + 1 ≤ (stl 6 W (v :: C)).2.length := by
    have : ∀ W C, C.length ≤ (stl 6 W C).2.length := by
      intro W
      induction W with
      | nil => intro C; exact Nat.le_refl _
      | cons s W ih =>
        intro C
        unfold stl
        by_cases e : s = -11 ∨ rk s < 6
        · rw [if_pos e]; exact Nat.le_refl _
        · rw [if_neg e]
          have := ih (s :: C)
          have l : (s :: C).length = C.length + 1 := rfl
          omega
    have := this W (v :: C)
    omega
  exact ⟨⟨s1, by rw [s2]; exact i2, by omega, tn_le i4, s4, s5, by omega⟩, w1, d1⟩
theorem stl_ge (l : Nat) : ∀ W C, C.length ≤ (stl l W C).2.length := by
  intro W
  induction W with
  | nil => intro C; exact Nat.le_refl _
  | cons s W ih =>
    intro C
    unfold stl
    by_cases e : s = -11 ∨ rk s < l
    · rw [if_pos e]; exact Nat.le_refl _
    · rw [if_neg e]
      have := ih (s :: C)
      have l : (s :: C).length = C.length + 1 := rfl
      omega
theorem pi_end (I : PI nn z p W C A false) (h : ¬ ts b z p = 0) (ho : ¬ opn W = 0) : ∃ W2, (stl 0 W C).1 = -11 :: W2 ∧ sh 8 W2 ∧ opn W = opn W2 + 1 ∧ cn W = cn W2 ∧ wfl nn (stl 0 W C).2 ∧ dpl (stl 0 W C).2 = nb W2 + 1 ∧ PI nn z (tn b z p) (stl 6 W2 (stl 0 W C).2).1 (stl 6 W2 (stl 0 W C).2).2 A false := by
  obtain ⟨i1, i2, i3, i4, i5, i6, i7⟩ := I
  have h1 := tn_gt h
  have h2 := tf_ge (b := b) (z := z) (p := p)
  obtain ⟨W2, e1, e2⟩ := stl_0 W 7 C (by omega) i1 ho
  obtain ⟨s1, s2, s3, s4, s5⟩ := stl_7 0 (by omega) W 7 C (by omega) i1 i5 i6
  rw [e1] at s2 s3 s5
  have o2 : opn W2 + 1 = opn W := s2
  have c2 : cn W2 = cn W := s3
  have n2 : dpl (stl 0 W C).2 = nb W2 + 1 := s5
  obtain ⟨u1, u2, u3, u4, u5, u6⟩ := stl_6 W2 (stl 0 W C).2 e2 s4 n2
  have l1 := stl_len 0 W C
  have l2 := stl_len 6 W2 (stl 0 W C).2
  rw [e1] at l1
  have l3 : (-11 :: W2).length = W2.length + 1 := rfl
  have l4 := stl_ge 0 W C
  have l5 := stl_ge 6 W2 (stl 0 W C).2
  exact ⟨W2, e1, e2, o2.symm, c2.symm, s4, n2, u1, by rw [u2]; omega, by omega, tn_le i4, u4, u5, by omega⟩
theorem jn_ok (e : jn b z p W = some g) : ts b z p = 3 ∧ g = sgv (b (tf b z p)) ∧ sgn9 g ∧ asc g = b (tf b z p) ∧ (rk g = 3 → tsg W = false) := by
  unfold jn at e
  by_cases c : ts b z p = 3 ∧ ¬ sgv (b (tf b z p)) = 0
  · rw [if_pos c] at e
    by_cases c2 : rk (sgv (b (tf b z p))) = 3 ∧ tsg W = true
    · rw [if_pos c2] at e; cases e
    · rw [if_neg c2] at e
      have e1 := Option.some.inj e
      subst e1
      obtain ⟨a1, a2⟩ := sgv_9 c.2
      refine ⟨c.1, rfl, a1, a2, fun h => ?_⟩
      cases q : tsg W with
      | false => rfl
      | true => exact absurd ⟨h, q⟩ c2
  · rw [if_neg c] at e; cases e
theorem pi_join (I : PI nn z p W C A false) (h : ¬ ts b z p = 0) (e : jn b z p W = some g) : sh (rk g) (stl (rk g) W C).1 ∧ opn (stl (rk g) W C).1 = opn W ∧ cn (stl (rk g) W C).1 = cn W ∧ PI nn z (tn b z p) (g :: (stl (rk g) W C).1) (stl (rk g) W C).2 A true := by
  obtain ⟨i1, i2, i3, i4, i5, i6, i7⟩ := I
  have h1 := tn_gt h
  have h2 := tf_ge (b := b) (z := z) (p := p)
  obtain ⟨j1, j2, j3, j4, j5⟩ := jn_ok e
  obtain ⟨k1, k2, k3, k4, k5, -⟩ := rk_9 j3
  obtain ⟨s1, s2, s3, s4, s5⟩ := stl_7 (rk g) k2 W 7 C (by omega) i1 i5 i6
  have l1 := stl_len (rk g) W C
  have l4 := stl_ge (rk g) W C
  refine ⟨s1, s2, s3, Or.inr (Or.inl ⟨j3, by show rk g < 8; omega, s1⟩), ?_, ?_, tn_le i4, s4, ?_, by omega⟩
  · rw [show opn (g :: (stl (rk g) W C).1) = opn (stl (rk g) W C).1 from if_neg k4, s2]; exact i2
  · show (stl (rk g) W C).1.length + 1 + (stl (rk g) W C).2.length + 3 ≤ _; omega
  · rw [s5, show nb (g :: (stl (rk g) W C).1) = nb (stl (rk g) W C).1 + 1 from if_neg (fun q => by rcases q with q | q; exact k3 q; exact k4 q)]; rfl
end PIs
