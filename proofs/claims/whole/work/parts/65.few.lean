/-! ===== 65: fewest ===== -/
theorem i_ao (a b c : Int32) : (a ||| b) &&& c = (a &&& c) ||| (b &&& c) := Int32.toBitVec_inj.1 BitVec.and_or_distrib_right
theorem sh_ne : ∀ j, j < 12 → ∀ k, k < 12 → j ≠ k → xshl 1 (nI k) &&& xshl 1 (nI j) = 0 := by decide +kernel
theorem sh_n0 : ∀ j, j < 12 → ¬ xshl 1 (nI j) = 0 := by decide +kernel
theorem sh_all : ∀ c, c ≤ 10 → ∀ j, j < c → xshl 1 (nI j) &&& (xshl 1 (nI c) - 1) = xshl 1 (nI j) := by decide +kernel
section FEW0
variable {n : Nat → Nat} {T : Nat → Nat → Int32} {x y : Int32}
theorem hdb_hi : ∀ k j, k ≤ j → j < 12 → hdb n T x k &&& xshl 1 (nI j) = 0 := by
  intro k
  induction k with
  | zero => intro j _ _; exact Int32.zero_and
  | succ k ih =>
    intro j hj h12
    show (if rgs n T k &&& x = 0 then hdb n T x k else hdb n T x k ||| xshl 1 (nI k)) &&& xshl 1 (nI j) = 0
    by_cases e : rgs n T k &&& x = 0
    · rw [if_pos e]; exact ih j (by omega) h12
    · rw [if_neg e, i_ao, ih j (by omega) h12, sh_ne j h12 k (by omega) (by omega)]; rfl
theorem hdb_lo : ∀ k j, j < k → k ≤ 12 → (hdb n T x k &&& xshl 1 (nI j) = 0 ↔ rgs n T j &&& x = 0) := by
  intro k
  induction k with
  | zero => intro j h _; omega
  | succ k ih =>
    intro j hj h12
    rw [show hdb n T x (k + 1) = if rgs n T k &&& x = 0 then hdb n T x k else hdb n T x k ||| xshl 1 (nI k) from rfl]
    by_cases ej : j = k
    · subst ej
      by_cases e : rgs n T j &&& x = 0
      · rw [if_pos e, hdb_hi j j (Nat.le_refl _) (by omega)]; exact ⟨fun _ => e, fun _ => rfl⟩
      · rw [if_neg e, i_ao, hdb_hi j j (Nat.le_refl _) (by omega), Int32.zero_or, Int32.and_self]
        exact ⟨fun q => absurd q (sh_n0 j (by omega)), fun q => absurd q e⟩
    · by_cases e : rgs n T k &&& x = 0
      · rw [if_pos e]; exact ih j (by omega) (by omega)
      · rw [if_neg e, i_ao, sh_ne j (by omega) k (by omega) ej, Int32.or_zero]; exact ih j (by omega) (by omega)
theorem hdb_eq : ∀ k, k ≤ 12 → (hdb n T x k = hdb n T y k ↔ ∀ j, j < k → (rgs n T j &&& x = 0 ↔ rgs n T j &&& y = 0)) := by
  intro k hk
  constructor
  · intro e j hj
    rw [← hdb_lo k j hj hk, ← hdb_lo k j hj hk, e]
  · intro H
    induction k with
    | zero => rfl
    | succ k ih =>
      have h1 := ih (by omega) (fun j hj => H j (by omega))
      have h2 := H k (by omega)
      show (if rgs n T k &&& x = 0 then hdb n T x k else hdb n T x k ||| xshl 1 (nI k)) = (if rgs n T k &&& y = 0 then hdb n T y k else hdb n T y k ||| xshl 1 (nI k))
      rw [h1]
      by_cases e : rgs n T k &&& x = 0
      · rw [if_pos e, if_pos (h2.mp e)]
      · rw [if_neg e, if_neg (fun q => e (h2.mpr q))]
theorem orb_all (h10 : n 0 ≤ 10) {j : Nat} {s : Int32} (hs : s &&& (xshl 1 (nI (n 0)) - 1) = s) : orb n T j s &&& (xshl 1 (nI (n 0)) - 1) = orb n T j s := by
  unfold orb
  cases e : isI (T 7 j) (n 0) with
  | false => rw [if_neg (by decide)]; exact hs
  | true =>
    obtain ⟨i, hi, e2⟩ := isI_t e (by omega)
    rw [if_pos rfl, e2, i_ao, hs, sh_all (n 0) h10 i hi]
theorem rgs_all (h10 : n 0 ≤ 10) {j : Nat} : rgs n T j &&& (xshl 1 (nI (n 0)) - 1) = rgs n T j := orb_all h10 (orb_all h10 Int32.zero_and)
def gdr (n : Nat → Nat) (T : Nat → Nat → Int32) (x : Int32) : Nat → Nat → Bool
  | 0, _ => true
  | k + 1, i => if rgs n T i = 0 then gdr n T x k (i + 1) else if rgs n T i &&& x = 0 then false else gdr n T x k (i + 1)
theorem gdr_iff : ∀ k i, (gdr n T x k i = true ↔ ∀ j, i ≤ j → j < i + k → (rgs n T j &&& x = 0 → rgs n T j = 0)) := by
  intro k
  induction k with
  | zero => intro i; exact ⟨fun _ j h1 h2 => by omega, fun _ => rfl⟩
  | succ k ih =>
    intro i
    have rest : (∀ j, i ≤ j → j < i + (k + 1) → (rgs n T j &&& x = 0 → rgs n T j = 0)) ↔ (rgs n T i &&& x = 0 → rgs n T i = 0) ∧ ∀ j, i + 1 ≤ j → j < i + 1 + k → (rgs n T j &&& x = 0 → rgs n T j = 0) := by
      constructor
      · intro H; exact ⟨H i (by omega) (by omega), fun j h1 h2 => H j (by omega) (by omega)⟩
      · intro H j h1 h2
        by_cases e : j = i
        · subst e; exact H.1
        · exact H.2 j (by omega) (by omega)
    rw [rest, ← ih (i + 1), show gdr n T x (k + 1) i = if rgs n T i = 0 then gdr n T x k (i + 1) else if rgs n T i &&& x = 0 then false else gdr n T x k (i + 1) from rfl]
    by_cases e : rgs n T i = 0
    · rw [if_pos e]; exact ⟨fun q => ⟨fun _ => e, q⟩, fun q => q.2⟩
    · rw [if_neg e]
      by_cases e2 : rgs n T i &&& x = 0
      · rw [if_pos e2]; exact ⟨fun q => absurd q (by decide), fun q => absurd (q.1 e2) e⟩
      · rw [if_neg e2]; exact ⟨fun q => ⟨fun q2 => absurd q2 e2, q⟩, fun q => q.2⟩
theorem gdr_hdb (h10 : n 0 ≤ 10) (h12 : n 1 ≤ 12) : hdb n T x (n 1) = hdb n T (xshl 1 (nI (n 0)) - 1) (n 1) ↔ gdr n T x (n 1) 0 = true := by
  rw [hdb_eq (n 1) h12, gdr_iff]
  constructor
  · intro H j _ hj e
    rw [← rgs_all h10 (T := T) (j := j)]
    exact (H j (by omega)).mp e
  · intro H j hj
    rw [rgs_all h10]
    refine ⟨fun e => H j (by omega) (by omega) e, fun e => ?_⟩
    rw [e]; exact Int32.zero_and
/-- the search, from above -/
def fwf (n : Nat → Nat) (T : Nat → Nat → Int32) : Nat → Nat → Nat
  | 0, b => b
  | k + 1, b => if bcF (nI b) < bcF (nI k) then fwf n T k b else if gdr n T (nI k) (n 1) 0 = true then fwf n T k k else fwf n T k b
end FEW0
