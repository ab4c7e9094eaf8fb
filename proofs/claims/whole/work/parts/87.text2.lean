/-! ===== 87: a text is read: good or bad ===== -/
def BADq (b : Nat → Int32) (z q : Nat) : Prop := kyv b (ts b z 0) (tf b z 0) (tn b z 0) = -1000000005 ∧ q = tf b z 0 ∨ ∃ ky, ky < 3 ∧ kyv b (ts b z 0) (tf b z 0) (tn b z 0) = nI ky ∧ prs b z ky (z + 1) (tn b z 0) [] [] 0 true = (none, q)
def GOOD (b : Nat → Int32) (z ky : Nat) (W L : List Int32) (A r : Nat) : Prop := ky < 3 ∧ kyv b (ts b z 0) (tf b z 0) (tn b z 0) = nI ky ∧ prs b z ky (z + 1) (tn b z 0) [] [] 0 true = (some (W, L, A), r)
theorem nI_NN {ky : Nat} (h : ky < 2 ^ 31) : ¬ nI ky = -1000000005 := fun q => by
  have := congrArg Int32.toInt q
  rw [nI_toInt h, show (-1000000005 : Int32).toInt = -1000000005 from rfl] at this
  omega
section BG
variable {b : Nat → Int32} {z : Nat}
theorem bg_or : (∃ q, BADq b z q) ∨ ∃ ky W L A r, GOOD b z ky W L A r := by
  rcases kyv_c (b := b) (st := ts b z 0) (fr := tf b z 0) (to := tn b z 0) with e | ⟨ky, hk, e, -⟩
  · exact Or.inl ⟨_, Or.inl ⟨e, rfl⟩⟩
  · cases q : prs b z ky (z + 1) (tn b z 0) [] [] 0 true with
    | mk a r =>
      cases a with
      | none => exact Or.inl ⟨r, Or.inr ⟨ky, hk, e, q⟩⟩
      | some x => exact Or.inr ⟨ky, x.1, x.2.1, x.2.2, r, hk, e, q⟩
theorem bb_u {q q2 : Nat} (h : BADq b z q) (h2 : BADq b z q2) : q = q2 := by
  rcases h with ⟨e, e1⟩ | ⟨ky, hk, e, e1⟩ <;> rcases h2 with ⟨f, f1⟩ | ⟨ky2, hk2, f, f1⟩
  · rw [e1, f1]
  · rw [e] at f; exact absurd f.symm (nI_NN (by omega))
  · rw [f] at e; exact absurd e.symm (nI_NN (by omega))
  · rw [e] at f
    have ek := (nI_eq (by omega) (by omega)).mp f
    subst ek
    rw [e1] at f1
    exact (Prod.mk.inj f1).2
theorem bg_n {q ky A r : Nat} {W L : List Int32} (h : BADq b z q) (g : GOOD b z ky W L A r) : False := by
  obtain ⟨hk2, f, f1⟩ := g
  rcases h with ⟨e, e1⟩ | ⟨ky1, hk, e, e1⟩
  · rw [e] at f; exact absurd f.symm (nI_NN (by omega))
  · rw [e] at f
    have ek := (nI_eq (by omega) (by omega)).mp f
    subst ek
    rw [e1] at f1
    have := (Prod.mk.inj f1).1
    cases this
theorem gg_u {ky A r ky2 A2 r2 : Nat} {W L W2 L2 : List Int32} (h : GOOD b z ky W L A r) (g : GOOD b z ky2 W2 L2 A2 r2) : ky = ky2 ∧ W = W2 ∧ L = L2 ∧ A = A2 := by
  obtain ⟨hk, e, e1⟩ := h
  obtain ⟨hk2, f, f1⟩ := g
  rw [e] at f
  have ek := (nI_eq (by omega) (by omega)).mp f
  subst ek
  rw [e1] at f1
  have := Option.some.inj (Prod.mk.inj f1).1
  exact ⟨rfl, (Prod.mk.inj this).1, (Prod.mk.inj (Prod.mk.inj this).2).1, (Prod.mk.inj (Prod.mk.inj this).2).2⟩
theorem prs_le {ky : Nat} : ∀ fu p W L A wt, p ≤ z → (prs b z ky fu p W L A wt).2 ≤ z := by
  intro fu
  induction fu with
  | zero => intro p W L A wt hp; exact hp
  | succ fu ih =>
    intro p W L A wt hp
    have h1 := tf_le (b := b) hp
    have h2 := tn_le (b := b) hp
    unfold prs
    by_cases c0 : ts b z p = 0
    · rw [if_pos c0]
      by_cases c1 : wt = true ∨ ¬ opn W = 0
      · rw [if_pos c1]; exact h1
      · rw [if_neg c1]; exact h1
    rw [if_neg c0]
    by_cases c1 : wt = true
    · rw [if_pos c1]
      by_cases c3 : ts b z p = 3
      · rw [if_pos c3]
        by_cases cO : b (tf b z p) = 40 ∧ opn W < 8
        · rw [if_pos cO]; exact ih _ _ _ _ _ h2
        rw [if_neg cO]
        by_cases cN : b (tf b z p) = 33 ∧ cn W < 8
        · rw [if_pos cN]; exact ih _ _ _ _ _ h2
        rw [if_neg cN]; exact h1
      · rw [if_neg c3]
        cases trm b z ky p with
        | none => exact h1
        | some v => exact ih _ _ _ _ _ h2
    rw [if_neg c1]
    by_cases cE : ts b z p = 3 ∧ b (tf b z p) = 41
    · rw [if_pos cE]
      by_cases co : opn W = 0
      · rw [if_pos co]; exact h1
      · rw [if_neg co]; exact ih _ _ _ _ _ h2
    · rw [if_neg cE]
      cases jn b z p W with
      | none => exact h1
      | some g => exact ih _ _ _ _ _ h2
theorem prs_pi {ky : Nat} (hk : ky < 3) : ∀ fu p W L A wt W2 L2 A2 r, PI (nnk ky) z p W L A wt → prs b z ky fu p W L A wt = (some (W2, L2, A2), r) → opn W2 = 0 ∧ ∃ p2, PI (nnk ky) z p2 W2 L2 A2 false := by
  intro fu
  induction fu with
  | zero => intro p W L A wt W2 L2 A2 r I e; exact absurd (Prod.mk.inj e).1 (fun q => by cases q)
  | succ fu ih =>
    intro p W L A wt W2 L2 A2 r I e
    have no : ∀ q : Nat, ((none : Option (List Int32 × List Int32 × Nat)), q) = (some (W2, L2, A2), r) → False := fun q w => by
      have := (Prod.mk.inj w).1
      cases this
    unfold prs at e
    by_cases c0 : ts b z p = 0
    · rw [if_pos c0] at e
      by_cases c1 : wt = true ∨ ¬ opn W = 0
      · rw [if_pos c1] at e; exact (no _ e).elim
      · rw [if_neg c1] at e
        have e1 := Option.some.inj (Prod.mk.inj e).1
        have w1 := (Prod.mk.inj e1).1
        have w2 := (Prod.mk.inj (Prod.mk.inj e1).2).1
        have w3 := (Prod.mk.inj (Prod.mk.inj e1).2).2
        subst w1 w2 w3
        have wf : wt = false := by
          cases wt with
          | false => rfl
          | true => exact absurd (Or.inl rfl) c1
        subst wf
        refine ⟨?_, p, I⟩
        by_cases q : opn W = 0
        · exact q
        · exact absurd (Or.inr q) c1
    rw [if_neg c0] at e
    cases wt with
    | true =>
      rw [if_pos rfl] at e
      by_cases c3 : ts b z p = 3
      · rw [if_pos c3] at e
        by_cases cO : b (tf b z p) = 40 ∧ opn W < 8
        · rw [if_pos cO] at e; exact ih _ _ _ _ _ _ _ _ _ (pi_open I c0 cO.2) e
        rw [if_neg cO] at e
        by_cases cN : b (tf b z p) = 33 ∧ cn W < 8
        · rw [if_pos cN] at e; exact ih _ _ _ _ _ _ _ _ _ (pi_not I c0) e
        rw [if_neg cN] at e; exact (no _ e).elim
      · rw [if_neg c3] at e
        cases cT : trm b z ky p with
        | none => rw [cT] at e; exact (no _ e).elim
        | some v => rw [cT] at e; exact ih _ _ _ _ _ _ _ _ _ (pi_term hk I c0 c3 cT).1 e
    | false =>
      rw [if_neg (by decide)] at e
      by_cases cE : ts b z p = 3 ∧ b (tf b z p) = 41
      · rw [if_pos cE] at e
        by_cases co : opn W = 0
        · rw [if_pos co] at e; exact (no _ e).elim
        · rw [if_neg co] at e
          obtain ⟨W3, w1, -, -, -, -, -, I2⟩ := pi_end I c0 co
          rw [w1] at e
          exact ih _ _ _ _ _ _ _ _ _ I2 e
      · rw [if_neg cE] at e
        cases cJ : jn b z p W with
        | none => rw [cJ] at e; exact (no _ e).elim
        | some g => rw [cJ] at e; exact ih _ _ _ _ _ _ _ _ _ (pi_join I c0 cJ).2.2.2 e
end BG
theorem stl_nil {nn : Nat} : ∀ W r L, r ≤ 7 → opn W = 0 → sh r W → (stl 0 W L).1 = [] := by
  intro W
  induction W with
  | nil => intro r L _ _ _; rfl
  | cons s W ih =>
    intro r L hr ho h
    rcases h with ⟨a, b, c⟩ | ⟨a, b, c⟩ | ⟨a, c⟩
    · omega
    · obtain ⟨k1, k2, k3, k4, k5, -⟩ := rk_9 a
      unfold stl
      rw [if_neg (fun q => by rcases q with q | q; exact k4 q; omega)]
      exact ih (rk s) (s :: L) (by omega) (by rw [show opn (s :: W) = opn W from if_neg k4] at ho; exact ho) c
    · rw [a] at ho; exact absurd ho (by show ¬ opn W + 1 = 0; omega)
/-- the codes of a good text -/
theorem good_c {b : Nat → Int32} {z ky A r : Nat} {W L : List Int32} (hz : z ≤ 96) (g : GOOD b z ky W L A r) : opn W = 0 ∧ sh 7 W ∧ W.length + L.length ≤ 93 ∧ (stl 0 W L).1 = [] ∧ (stl 0 W L).2.length ≤ 93 ∧ wfl (nnk ky) (stl 0 W L).2 ∧ dpl (stl 0 W L).2 = 1 := by
  obtain ⟨hk, e, e1⟩ := g
  have h3 : 3 ≤ tn b z 0 := by
    rcases kyv_c (b := b) (st := ts b z 0) (fr := tf b z 0) (to := tn b z 0) with e2 | ⟨ky2, hk2, e2, -, e3⟩
    · rw [e] at e2; exact absurd e2 (nI_NN (by omega))
    · have : 3 ≤ sle ky2 := by rcases (show ky2 = 0 ∨ ky2 = 1 ∨ ky2 = 2 by omega) with rfl | rfl | rfl <;> decide
      omega
  obtain ⟨o, p2, i1, i2, i3, i4, i5, i6, i7⟩ := prs_pi hk _ _ _ _ _ _ _ _ _ _ (pi_0 h3 (tn_le (by omega))) e1
  have sn := stl_nil (nn := 0) W 7 L (by omega) o i1
  obtain ⟨s1, s2, s3, s4, s5⟩ := stl_7 0 (by omega) W 7 L (by omega) i1 i5 i6
  have l1 := stl_len 0 W L
  rw [sn] at l1 s5
  have l0 : ([] : List Int32).length = 0 := rfl
  exact ⟨o, i1, by omega, sn, by omega, s4, s5⟩
def lr : List Int32 → Nat → Int32
  | [] => fun _ => 0
  | s :: L => upd (lr L) L.length s
theorem lr_s : ∀ L, SRe id (lr L) L := by
  intro L
  induction L with
  | nil => trivial
  | cons s L ih => exact SRe_push ih rfl
theorem txT_ext {T : Nat → Nat → Int32} {t ky A u : Nat} {c1 c2 : Nat → Int32} (h : ∀ k, k < u → c1 k = c2 k) : txT T t ky A u c1 = txT T t ky A u c2 := by
  have e : cqr c1 (T 13) (96 * t) u = cqr c2 (T 13) (96 * t) u := by
    funext k
    unfold cqr
    by_cases q : 96 * t ≤ k ∧ k < 96 * t + u
    · rw [if_pos q, if_pos q]; exact h _ (by omega)
    · rw [if_neg q, if_neg q]
  funext a k
  unfold txT
  split
  · rfl
  · rfl
  · rfl
  · rw [e]
  · rfl
