/-! ===== 22: what a call leaves ===== -/
/-- Dy: where the made things begin; P: which of the fixed cells may change -/
def FR (Dy : Nat) (P : Nat → Prop) (h h' : xH) : Prop := h'.1 = h.1 ∧ h'.2.1 = h.2.1 ∧ h'.2.2.2 = h.2.2.2 ∧ (∀ a, a < Dy → ¬ P a → h'.2.2.1 a = h.2.2.1 a) ∧ (∀ a k hm, Dy ≤ a → thf h.2.2.1 a k hm → thf h'.2.2.1 a k hm) ∧ (∀ a ky tm us cd, Dy ≤ a → txt h.2.2.1 a ky tm us cd → txt h'.2.2.1 a ky tm us cd) ∧ ∀ a, h.1 ≤ a → h.2.2.1 a = .inr (99, []) → h'.2.2.1 a = .inr (99, [])
abbrev P0 : Nat → Prop := fun _ => False
section FR1
variable {Dy : Nat} {P P2 : Nat → Prop} {h h1 h2 : xH}
theorem FR.refl : FR Dy P h h := ⟨rfl, rfl, rfl, fun _ _ _ => rfl, fun _ _ _ _ q => q, fun _ _ _ _ _ _ q => q, fun _ _ q => q⟩
theorem FR.trans (a : FR Dy P h h1) (b : FR Dy P h1 h2) : FR Dy P h h2 :=
  ⟨b.1.trans a.1, b.2.1.trans a.2.1, b.2.2.1.trans a.2.2.1, fun x hx hp => (b.2.2.2.1 x hx hp).trans (a.2.2.2.1 x hx hp), fun x k hm hx q => b.2.2.2.2.1 x k hm hx (a.2.2.2.2.1 x k hm hx q), fun x ky tm us cd hx q => b.2.2.2.2.2.1 x ky tm us cd hx (a.2.2.2.2.2.1 x ky tm us cd hx q), fun x hx q => b.2.2.2.2.2.2 x (by rw [a.1]; exact hx) (a.2.2.2.2.2.2 x hx q)⟩
theorem FR.wide (a : FR Dy P h h1) (hp : ∀ x, P x → P2 x) : FR Dy P2 h h1 := ⟨a.1, a.2.1, a.2.2.1, fun x hx hq => a.2.2.2.1 x hx (fun q => hq (hp x q)), a.2.2.2.2⟩
theorem FR.at (a : FR Dy P h h1) {x : Nat} (hx : x < Dy) (hp : ¬ P x) : h1.2.2.1 x = h.2.2.1 x := a.2.2.2.1 x hx hp
/-- a fixed cell is written -/
theorem FR.set {a : Nat} {e : va_E} (ha : a < Dy) (hp : P a) (he : ¬ h.1 ≤ a) : FR Dy P h (xset h a e) := by
  refine ⟨rfl, rfl, rfl, fun x hx hq => xset_ne (fun q => hq (by rw [q]; exact hp)), fun x k hm hx q => ?_, fun x ky tm us cd hx q => ?_, fun x hx q => ?_⟩
  · obtain ⟨kn, q1, q2, q3⟩ := q
    exact ⟨kn, q1, q2, by rw [xset_ne (by omega)]; exact q3⟩
  · obtain ⟨u, q1, q2, q3, ⟨f, q4, q5⟩, g, q6⟩ := q
    exact ⟨u, q1, q2, by rw [xset_ne (by omega)]; exact q3, ⟨f, by rw [xset_ne (by omega)]; exact q4, q5⟩, g, by rw [xset_ne (by omega)]; exact q6⟩
  · rw [xset_ne (by omega)]; exact q
/-- a text's stack is written -/
theorem FR.stk {a u : Nat} {ky tm us : Int32} {cd : Nat → Int32} {f g g2 : Nat → Int32} (ha : Dy ≤ a) (h0 : h.2.2.1 a = .inr (8, [.int ky, .int tm, .ref (a + 1), .ref (a + 2)])) (h1 : h.2.2.1 (a + 1) = .inl (0, xis u f)) (h2 : h.2.2.1 (a + 2) = .inl (0, xis u g)) : FR Dy P h (xset h (a + 2) (.inl (0, xis u g2))) := by
  refine ⟨rfl, rfl, rfl, fun x hx hq => xset_ne (by omega), fun x k hm hx q => ?_, fun x ky tm us cd hx q => ?_, fun x hx q => ?_⟩
  · obtain ⟨kn, q1, q2, q3⟩ := q
    refine ⟨kn, q1, q2, ?_⟩
    rw [xset_ne (fun e => ?_)]; exact q3
    rw [e, h2] at q3; cases q3
  · obtain ⟨v, q1, q2, q3, ⟨f2, q4, q5⟩, g3, q6⟩ := q
    have n0 : x ≠ a + 2 := fun e => by rw [e, h2] at q3; cases q3
    have n1 : x + 1 ≠ a + 2 := fun e => by
      have : x = a + 1 := by omega
      rw [this, h1] at q3; cases q3
    refine ⟨v, q1, q2, by rw [xset_ne n0]; exact q3, ⟨f2, by rw [xset_ne n1]; exact q4, q5⟩, ?_⟩
    by_cases n2 : x + 2 = a + 2
    · rw [n2, xset_self]
      rw [n2, h2] at q6
      cases q6
      exact ⟨g2, rfl⟩
    · exact ⟨g3, by rw [xset_ne n2]; exact q6⟩
  · by_cases e : x = a + 2
    · rw [e, h2] at q; cases q
    · rw [xset_ne e]; exact q
variable {t : Nat} {n : Nat → Nat} {T : Nat → Nat → Int32} {p : Nat → Nat → Option Nat} {s : Nat → Nat → Int32}
/-- a town that isn't touched -/
theorem RT.fr (R : RT Dy h.2.2.1 t n T p s) (F : FR Dy P h h1) (ht : t + 12 < Dy) (hp : ∀ k, k ≤ 12 → ¬ P (t + k)) : RT Dy h1.2.2.1 t n T p s := by
  have e : ∀ k, k ≤ 12 → h1.2.2.1 (t + k) = h.2.2.1 (t + k) := fun k hk => F.at (by omega) (hp k hk)
  refine ⟨(e 0 (by omega)).trans R.o, (e 1 (by omega)).trans R.aw, (e 2 (by omega)).trans R.ca, (e 3 (by omega)).trans R.ag, (e 4 (by omega)).trans R.ow, (e 5 (by omega)).trans R.wo, (e 6 (by omega)).trans R.no, (e 7 (by omega)).trans R.be, (e 8 (by omega)).trans R.ba, (e 9 (by omega)).trans R.la, (e 10 (by omega)).trans R.co, (e 11 (by omega)).trans R.mi, (e 12 (by omega)).trans R.ga, R.nn, fun i hi => ?_, fun i hi => ?_, R.tn⟩
  · obtain ⟨a, q1, q2, q3⟩ := R.th i hi
    exact ⟨a, q1, q2, F.2.2.2.2.1 _ _ _ q2 q3⟩
  · obtain ⟨a, q1, q2, q3⟩ := R.tx i hi
    exact ⟨a, q1, q2, F.2.2.2.2.2.1 _ _ _ _ _ q2 q3⟩
theorem RT.fr0 (R : RT Dy h.2.2.1 t n T p s) (F : FR Dy P0 h h1) (ht : t + 12 < Dy) : RT Dy h1.2.2.1 t n T p s := R.fr F ht (fun _ _ q => q)
end FR1
