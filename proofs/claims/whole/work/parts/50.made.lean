/-! ===== 50: a thing is made ===== -/
/-- what a call leaves, where things may be made -/
def FW (Dy : Nat) (P : Nat → Prop) (h h' : xH) : Prop := (∀ a, a < Dy → ¬ P a → h'.2.2.1 a = h.2.2.1 a) ∧ (∀ a k hm, Dy ≤ a → thf h.2.2.1 a k hm → thf h'.2.2.1 a k hm) ∧ ∀ a ky tm us cd, Dy ≤ a → txt h.2.2.1 a ky tm us cd → txt h'.2.2.1 a ky tm us cd
section MADE
variable {Dy : Nat} {P P2 : Nat → Prop} {h h1 h2 : xH}
theorem FW.at (a : FW Dy P h h1) {x : Nat} (hx : x < Dy) (hp : ¬ P x) : h1.2.2.1 x = h.2.2.1 x := a.1 x hx hp
theorem FR.fw (F : FR Dy P h h1) : FW Dy P h h1 := ⟨F.2.2.2.1, F.2.2.2.2.1, F.2.2.2.2.2.1⟩
theorem FW.trans (a : FW Dy P h h1) (b : FW Dy P h1 h2) : FW Dy P h h2 := ⟨fun x hx hp => (b.1 x hx hp).trans (a.1 x hx hp), fun x k hm hx q => b.2.1 x k hm hx (a.2.1 x k hm hx q), fun x ky tm us cd hx q => b.2.2 x ky tm us cd hx (a.2.2 x ky tm us cd hx q)⟩
theorem FW.wide (a : FW Dy P h h1) (hp : ∀ x, P x → P2 x) : FW Dy P2 h h1 := ⟨fun x hx hq => a.1 x hx (fun q => hq (hp x q)), a.2⟩
theorem xnew_at {N : Nat} {e : va_E} : (xnew h N e).2.2.1 h.1 = e := if_pos rfl
theorem xnew_ne {N a : Nat} {e : va_E} (ha : a ≠ h.1) : (xnew h N e).2.2.1 a = h.2.2.1 a := if_neg ha
/-- a new cell -/
theorem FW.new {N : Nat} {e : va_E} (hD : Dy ≤ h.1) (hz : h.2.2.1 h.1 = .inr (99, [])) : FW Dy P h (xnew h N e) := by
  refine ⟨fun a ha _ => xnew_ne (by omega), fun a k hm ha q => ?_, fun a ky tm us cd ha q => ?_⟩
  · obtain ⟨kn, q1, q2, q3⟩ := q
    refine ⟨kn, q1, q2, ?_⟩
    rw [xnew_ne (fun e => ?_)]; exact q3
    rw [e, hz] at q3
    have q4 := (Prod.mk.inj (Sum.inr.inj q3)).2
    cases q4
  · obtain ⟨u, q1, q2, q3, ⟨f, q4, q5⟩, g, q6⟩ := q
    refine ⟨u, q1, q2, ?_, ⟨f, ?_, q5⟩, g, ?_⟩
    · rw [xnew_ne (fun e => ?_)]; exact q3
      rw [e, hz] at q3; cases q3
    · rw [xnew_ne (fun e => ?_)]; exact q4
      rw [e, hz] at q4; cases q4
    · rw [xnew_ne (fun e => ?_)]; exact q6
      rw [e, hz] at q6; cases q6
/-- a cell that is no thief's and no text's is written -/
theorem FW.put {a : Nat} {e : va_E} (h0 : ∀ k hm, ¬ thf h.2.2.1 a k hm) (ha : Dy ≤ a) (h1 : ∀ x ky tm us cd, txt h.2.2.1 x ky tm us cd → x ≠ a ∧ x + 1 ≠ a ∧ x + 2 ≠ a) : FW Dy P h (xset h a e) := by
  refine ⟨fun x hx _ => xset_ne (by omega), fun x k hm hx q => ?_, fun x ky tm us cd hx q => ?_⟩
  · have hne : x ≠ a := fun e => h0 k hm (by rw [← e]; exact q)
    obtain ⟨kn, q1, q2, q3⟩ := q
    exact ⟨kn, q1, q2, by rw [xset_ne hne]; exact q3⟩
  · obtain ⟨n0, n1, n2⟩ := h1 x ky tm us cd q
    obtain ⟨u, q1, q2, q3, ⟨f, q4, q5⟩, g, q6⟩ := q
    exact ⟨u, q1, q2, by rw [xset_ne n0]; exact q3, ⟨f, by rw [xset_ne n1]; exact q4, q5⟩, g, by rw [xset_ne n2]; exact q6⟩
variable {t : Nat} {n : Nat → Nat} {T : Nat → Nat → Int32} {p : Nat → Nat → Option Nat} {s : Nat → Nat → Int32}
theorem RT.fw (R : RT Dy h.2.2.1 t n T p s) (F : FW Dy P h h1) (ht : t + 12 < Dy) (hp : ∀ k, k ≤ 12 → ¬ P (t + k)) : RT Dy h1.2.2.1 t n T p s := by
  have e : ∀ k, k ≤ 12 → h1.2.2.1 (t + k) = h.2.2.1 (t + k) := fun k hk => FW.at F (by omega) (hp k hk)
  refine ⟨(e 0 (by omega)).trans R.o, (e 1 (by omega)).trans R.aw, (e 2 (by omega)).trans R.ca, (e 3 (by omega)).trans R.ag, (e 4 (by omega)).trans R.ow, (e 5 (by omega)).trans R.wo, (e 6 (by omega)).trans R.no, (e 7 (by omega)).trans R.be, (e 8 (by omega)).trans R.ba, (e 9 (by omega)).trans R.la, (e 10 (by omega)).trans R.co, (e 11 (by omega)).trans R.mi, (e 12 (by omega)).trans R.ga, R.nn, fun i hi => ?_, fun i hi => ?_, R.tn⟩
  · obtain ⟨a, q1, q2, q3⟩ := R.th i hi
    exact ⟨a, q1, q2, F.2.1 _ _ _ q2 q3⟩
  · obtain ⟨a, q1, q2, q3⟩ := R.tx i hi
    exact ⟨a, q1, q2, F.2.2 _ _ _ _ _ q2 q3⟩
end MADE
section MADE2
variable {B d : Nat} {h h1 : xH} {q : RS} {m : Nat → Int32} {P : Nat → Prop}
theorem RX.fw (X : RX B h.2.2.1 q m) (F : FW (B + 79) P h h1) (hp : ∀ a, P a → Pt (B + 1) a ∨ Pn (B + 58) a) : RX B h1.2.2.1 q m := by
  have e0 : h1.2.2.1 B = h.2.2.1 B := FW.at F (by omega) (fun p => by rcases hp _ p with p | p | p | p <;> omega)
  have e : ∀ a, B + 14 ≤ a → a < B + 79 → a ≠ B + 59 → a ≠ B + 68 → a ≠ B + 69 → h1.2.2.1 a = h.2.2.1 a := fun a a1 a2 a3 a4 a5 => FW.at F a2 (fun p => by rcases hp _ p with p | p | p | p <;> omega)
  obtain ⟨⟨⟨c1, c2, c3, c4, c5, c6, c7, c8, c9, c10, c11⟩, cs, cl⟩, ⟨RI, II⟩, ⟨r1, r2, r3, r4, r5, r6, r7, r8, r9, r10, r11, r12, r13, r14, r15, r16, r17⟩, ⟨m0, m1, m2⟩⟩ := X
  refine ⟨⟨⟨e0.trans c1, c2, (e _ (by omega) (by omega) (by omega) (by omega) (by omega)).trans c3, c4, (e _ (by omega) (by omega) (by omega) (by omega) (by omega)).trans c5, (e _ (by omega) (by omega) (by omega) (by omega) (by omega)).trans c6, (e _ (by omega) (by omega) (by omega) (by omega) (by omega)).trans c7, (e _ (by omega) (by omega) (by omega) (by omega) (by omega)).trans c8, (e _ (by omega) (by omega) (by omega) (by omega) (by omega)).trans c9, (e _ (by omega) (by omega) (by omega) (by omega) (by omega)).trans c10, (e _ (by omega) (by omega) (by omega) (by omega) (by omega)).trans c11⟩, fun i hi => ?_, fun i hi => ?_⟩, ⟨RI.fw F (by omega) (fun k hk p => by rcases hp _ p with p | p | p | p <;> omega), II⟩, ⟨(e _ (by omega) (by omega) (by omega) (by omega) (by omega)).trans r1, (e _ (by omega) (by omega) (by omega) (by omega) (by omega)).trans r2, (e _ (by omega) (by omega) (by omega) (by omega) (by omega)).trans r3, (e _ (by omega) (by omega) (by omega) (by omega) (by omega)).trans r4, (e _ (by omega) (by omega) (by omega) (by omega) (by omega)).trans r5, (e _ (by omega) (by omega) (by omega) (by omega) (by omega)).trans r6, (e _ (by omega) (by omega) (by omega) (by omega) (by omega)).trans r7, (e _ (by omega) (by omega) (by omega) (by omega) (by omega)).trans r8, (e _ (by omega) (by omega) (by omega) (by omega) (by omega)).trans r9, (e _ (by omega) (by omega) (by omega) (by omega) (by omega)).trans r10, (e _ (by omega) (by omega) (by omega) (by omega) (by omega)).trans r11, (e _ (by omega) (by omega) (by omega) (by omega) (by omega)).trans r12, (e _ (by omega) (by omega) (by omega) (by omega) (by omega)).trans r13, (e _ (by omega) (by omega) (by omega) (by omega) (by omega)).trans r14, (e _ (by omega) (by omega) (by omega) (by omega) (by omega)).trans r15, (e _ (by omega) (by omega) (by omega) (by omega) (by omega)).trans r16, (e _ (by omega) (by omega) (by omega) (by omega) (by omega)).trans r17⟩, m0, m1, fun i hi => ?_⟩
  · obtain ⟨a1, a2, a3⟩ := cs i hi
    exact ⟨(e _ (by omega) (by omega) (by omega) (by omega) (by omega)).trans a1, (e _ (by omega) (by omega) (by omega) (by omega) (by omega)).trans a2, a3⟩
  · obtain ⟨a1, a2, a3, a4⟩ := cl i hi
    exact ⟨(e _ (by omega) (by omega) (by omega) (by omega) (by omega)).trans a1, (e _ (by omega) (by omega) (by omega) (by omega) (by omega)).trans a2, (e _ (by omega) (by omega) (by omega) (by omega) (by omega)).trans a3, a4⟩
  · obtain ⟨a1, a2, a3, a4⟩ := m2 i hi
    refine ⟨a1, fun ho => ?_, a3, a4⟩
    obtain ⟨a, kn, hm, b1, b2, b3, b4, b5⟩ := a2 ho
    exact ⟨a, kn, hm, b1, b2, b3, F.2.1 _ _ _ b2 b4, b5⟩
/-- the reference's town isn't touched -/
theorem RM.fw {Dy r : Nat} {f w g : Nat → Int32} (R : RM h.2.2.1 r m f w g) (F : FW Dy P h h1) (hr : r + 20 < Dy) (hp : ∀ a, P a → a < r) : RM h1.2.2.1 r m f w g :=
  ⟨(FW.at F (by omega) (fun p => by have := hp _ p; omega)).trans R.1, (FW.at F (by omega) (fun p => by have := hp _ p; omega)).trans R.2.1, (FW.at F (by omega) (fun p => by have := hp _ p; omega)).trans R.2.2.1, (FW.at F (by omega) (fun p => by have := hp _ p; omega)).trans R.2.2.2⟩
end MADE2
