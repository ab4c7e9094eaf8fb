/-! ===== 41: the whole state, and the step of a method that touches only the town ===== -/
/-- what else there is beside the town: kept, waiting, the tape's size; the image; sheets; slots; rows of the class (xu: 0 the tape's numbers, 1 bytes, 2 code, 3 open, 4 waits, 5 rung) and of the reference (xv, by number) -/
abbrev RS : Type := Bool × (Nat → Nat → Nat) × (Nat → Nat → Int32) × (Nat → Nat → Option Nat) × (Nat → Nat → Int32) × (Nat → Option Nat) × (Nat → Nat → Nat → Int32)
abbrev RS.xkp (q : RS) : Bool := q.1
abbrev RS.xnw (q : RS) : Nat := q.2.1 0 0
abbrev RS.xtz (q : RS) : Nat := q.2.1 0 1
abbrev RS.xni (q : RS) : Nat → Nat := q.2.1 1
abbrev RS.xsz (q : RS) : Nat → Nat := q.2.1 2
abbrev RS.xhz (q : RS) : Nat → Nat := q.2.1 3
abbrev RS.xTi (q : RS) : Nat → Nat → Int32 := q.2.2.1
abbrev RS.xpi (q : RS) : Nat → Nat → Option Nat := q.2.2.2.1
abbrev RS.xsi (q : RS) : Nat → Nat → Int32 := q.2.2.2.2.1
abbrev RS.xtv (q : RS) : Nat → Option Nat := q.2.2.2.2.2.1
abbrev RS.xu (q : RS) : Nat → Nat → Int32 := q.2.2.2.2.2.2 0
abbrev RS.xv (q : RS) : Nat → Nat → Int32 := q.2.2.2.2.2.2 1
abbrev RS.xpl (q : RS) : Nat → Nat → Int32 := q.2.2.2.2.2.2 2
abbrev RS.xhp (q : RS) : Nat → Nat → Int32 := q.2.2.2.2.2.2 3
abbrev RS.xso (q : RS) : Nat → Int32 := q.2.2.2.2.2.2 4 0
abbrev RS.xho (q : RS) : Nat → Int32 := q.2.2.2.2.2.2 4 1
abbrev RS.xnu (q : RS) : Nat → Int32 := q.2.2.2.2.2.2 4 2
abbrev RS.xhs (q : RS) : Nat → Int32 := q.2.2.2.2.2.2 4 3
def objF (B : Nat) (k w : Int32) : List Value := [.ref (B + 1), .ref (B + 14), .int k, .ref (B + 27), .ref (B + 31), .int w, .ref (B + 32), .ref (B + 33), .ref (B + 34)]
def tapF (B : Nat) (z : Int32) (y : Nat → Int32) : List Value := [.int z, .ref (B + 28), .int (y 2), .int (y 3), .int (y 4), .int (y 5), .int (y 6), .ref (B + 29), .int (y 8), .ref (B + 30), .int (y 10), .int (y 11), .int (y 12), .int (y 13)]
def keyR : Nat → Int32 := fun i => [99, 111, 109, 101, 103, 97, 105, 110, 109, 97, 121].getD i 0
def keyA : Nat → Int32 := fun i => [0, 4, 8, 11].getD i 0
def shF (B : Nat) : Nat → Option Nat := fun i => if i < 4 then some (B + 35 + 2 * i) else none
def slF (B : Nat) : Nat → Option Nat := fun i => if i < 5 then some (B + 43 + 3 * i) else none
theorem shF_at {B i : Nat} (h : i < 4) : shF B i = some (B + 35 + 2 * i) := if_pos h
theorem slF_at {B i : Nat} (h : i < 5) : slF B i = some (B + 43 + 3 * i) := if_pos h
/-- the class's cells beside the town -/
def RXc (B : Nat) (c : Nat → va_E) (q : RS) : Prop :=
  (c B = .inr (11, objF B (bI q.xkp) (nI q.xnw)) ∧ q.xnw ≤ 60 ∧ c (B + 27) = .inr (7, tapF B (nI q.xtz) (q.xu 0)) ∧ q.xtz ≤ 96 ∧ c (B + 28) = .inl (0, xis 96 (q.xu 1)) ∧ c (B + 29) = .inl (0, xis 96 (q.xu 2)) ∧ c (B + 30) = .inl (0, xis 96 (q.xu 3)) ∧ c (B + 31) = .inl (0, xis 60 (q.xu 4)) ∧
    c (B + 32) = .inl (3, xrs 4 (shF B)) ∧ c (B + 33) = .inl (4, xrs 5 (slF B)) ∧ c (B + 34) = .inl (0, xis 12 (q.xu 5))) ∧
  (∀ i, i < 4 → c (B + 35 + 2 * i) = .inr (5, [.int (q.xso i), .int (nI (q.xsz i)), .ref (B + 36 + 2 * i)]) ∧ c (B + 36 + 2 * i) = .inl (0, xis 24 (q.xpl i)) ∧ (q.xso i = -1 ∨ q.xso i = 0 ∨ q.xso i = 1) ∧ q.xsz i ≤ 24) ∧
  (∀ i, i < 5 → c (B + 43 + 3 * i) = .inr (6, [.int (q.xho i), va_rf (q.xtv i), .ref (B + 44 + 3 * i), .int (q.xnu i)]) ∧ c (B + 44 + 3 * i) = .inr (5, [.int (q.xhs i), .int (nI (q.xhz i)), .ref (B + 45 + 3 * i)]) ∧ c (B + 45 + 3 * i) = .inl (0, xis 24 (q.xhp i)) ∧ (q.xho i = 0 ∨ q.xho i = 1 ∨ q.xho i = 2 ∨ q.xho i = 3) ∧ q.xhz i ≤ 24 ∧ (¬ q.xho i = 1 → q.xtv i = none))
/-- the reference's cells beside its town -/
def RXr (B : Nat) (c : Nat → va_E) (q : RS) : Prop :=
  c (B + 60) = .inl (0, xis 1482 (q.xv 2)) ∧ c (B + 61) = .inl (0, xis 1482 (q.xv 3)) ∧ c (B + 62) = .inl (0, xis 96 (q.xv 4)) ∧ c (B + 63) = .inl (2, xis 11 keyR) ∧ c (B + 64) = .inl (0, xis 4 keyA) ∧ c (B + 65) = .inl (0, xis 96 (q.xv 7)) ∧ c (B + 66) = .inl (0, xis 96 (q.xv 8)) ∧ c (B + 67) = .inl (1, xis 10 (q.xv 9)) ∧
  c (B + 70) = .inl (0, xis 4 (q.xv 12)) ∧ c (B + 71) = .inl (0, xis 4 (q.xv 13)) ∧ c (B + 72) = .inl (0, xis 96 (q.xv 14)) ∧ c (B + 73) = .inl (0, xis 5 (q.xv 15)) ∧ c (B + 74) = .inl (0, xis 5 (q.xv 16)) ∧ c (B + 75) = .inl (0, xis 5 (q.xv 17)) ∧ c (B + 76) = .inl (0, xis 120 (q.xv 18)) ∧ c (B + 77) = .inl (0, xis 24 (q.xv 19)) ∧ c (B + 78) = .inl (0, xis 60 (q.xv 20))
/-- how the two hang together; the thieves that slots hold -/
def RXm (Dy : Nat) (c : Nat → va_E) (q : RS) (m : Nat → Int32) : Prop :=
  (m 3 = bI q.xkp ∧ (q.xkp = true → MR q.xni q.xTi (q.xv 2)) ∧ m 5 = nI q.xtz ∧ (∀ k, k < q.xtz → q.xv 4 k = q.xu 1 k) ∧ m 31 = nI q.xnw ∧ ∀ k, k < q.xnw → q.xv 20 k = q.xu 4 k) ∧
  (∀ i, i < 4 → q.xv 12 i = q.xso i ∧ q.xv 13 i = nI (q.xsz i) ∧ (¬ q.xso i = -1 → ∀ k, k < 24 → q.xv 14 (24 * i + k) = q.xpl i k)) ∧
  (∀ i, i < 5 → q.xv 15 i = q.xho i ∧ (q.xho i = 1 → ∃ a kn hm, q.xtv i = some a ∧ Dy ≤ a ∧ kn ≤ 5 ∧ thf c a (nI kn) hm ∧ q.xv 16 i = nI kn ∧ q.xv 17 i = wth kn hm) ∧ (q.xho i = 2 → q.xv 16 i = nI (q.xhz i) ∧ ∀ k, k < 24 → q.xv 18 (24 * i + k) = q.xhp i k) ∧ (q.xho i = 3 → q.xv 16 i = q.xnu i))
def RX (B : Nat) (c : Nat → va_E) (q : RS) (m : Nat → Int32) : Prop := RXc B c q ∧ (RT (B + 79) c (B + 14) q.xni q.xTi q.xpi q.xsi ∧ IV q.xni q.xTi) ∧ RXr B c q ∧ RXm (B + 79) c q m
/-- all that holds between two calls -/
def REP (B : Nat) (E : Nat → va_E) (g0 : Nat → Value) (h : xH) : Prop := (∃ n T p s m f w g q, RT (B + 79) h.2.2.1 (B + 1) n T p s ∧ IV n T ∧ RM h.2.2.1 (B + 58) m f w g ∧ MR n T f ∧ RX B h.2.2.1 q m) ∧ (∀ a, a < B → h.2.2.1 a = E a) ∧ h.2.2.2 = g0 ∧ B + 79 ≤ h.1 ∧ ∀ a, h.1 ≤ a → h.2.2.1 a = .inr (99, [])
/-- the step of a method: one answer on both sides, and all holds again -/
def OK (B : Nat) (E : Nat → va_E) (g0 : Nat → Value) (d : Nat) (h : xH) (mc mr : Nat) (as : List Value) : Prop := ∃ (v : Int32) (H1 : xH → Prop), (∀ Q : Option Value → xH → Prop, (∀ h1, H1 h1 → Q (some (.int v)) h1) → XC (d + 12) mc (.ref B :: as) h Q) ∧ ∀ h1, H1 h1 → (∀ a, a < B → h1.2.2.1 a = E a) ∧ (∃ l, h1.2.2.1 (B + 58) = .inr (12, l)) ∧ ∀ Q : Option Value → xH → Prop, (∀ h2, REP B E g0 h2 → h2.1 ≤ h.1 + 3 → h2.2.1 ≤ h.2.1 + 200 → Q (some (.int v)) h2) → XC (d + 12) mr (.ref (B + 58) :: as) h1 Q
section REPs
variable {B d : Nat} {E : Nat → va_E} {g0 : Nat → Value} {h h1 : xH} {q : RS} {m : Nat → Int32} {P : Nat → Prop}
/-- what isn't touched: all but the town and the reference's town -/
theorem RX.fr (X : RX B h.2.2.1 q m) (F : FR (B + 79) P h h1) (hp : ∀ a, P a → Pt (B + 1) a ∨ Pn (B + 58) a) : RX B h1.2.2.1 q m := by
  have e0 : h1.2.2.1 B = h.2.2.1 B := F.at (by omega) (fun p => by rcases hp _ p with p | p | p | p <;> omega)
  have e : ∀ a, B + 14 ≤ a → a < B + 79 → a ≠ B + 59 → a ≠ B + 68 → a ≠ B + 69 → h1.2.2.1 a = h.2.2.1 a := fun a a1 a2 a3 a4 a5 => F.at a2 (fun p => by rcases hp _ p with p | p | p | p <;> omega)
  obtain ⟨⟨⟨c1, c2, c3, c4, c5, c6, c7, c8, c9, c10, c11⟩, cs, cl⟩, ⟨RI, II⟩, ⟨r1, r2, r3, r4, r5, r6, r7, r8, r9, r10, r11, r12, r13, r14, r15, r16, r17⟩, ⟨m0, m1, m2⟩⟩ := X
  refine ⟨⟨⟨e0.trans c1, c2, (e _ (by omega) (by omega) (by omega) (by omega) (by omega)).trans c3, c4, (e _ (by omega) (by omega) (by omega) (by omega) (by omega)).trans c5, (e _ (by omega) (by omega) (by omega) (by omega) (by omega)).trans c6, (e _ (by omega) (by omega) (by omega) (by omega) (by omega)).trans c7, (e _ (by omega) (by omega) (by omega) (by omega) (by omega)).trans c8, (e _ (by omega) (by omega) (by omega) (by omega) (by omega)).trans c9, (e _ (by omega) (by omega) (by omega) (by omega) (by omega)).trans c10, (e _ (by omega) (by omega) (by omega) (by omega) (by omega)).trans c11⟩, fun i hi => ?_, fun i hi => ?_⟩, ⟨RI.fr F (by omega) (fun k hk p => by rcases hp _ p with p | p | p | p <;> omega), II⟩, ⟨(e _ (by omega) (by omega) (by omega) (by omega) (by omega)).trans r1, (e _ (by omega) (by omega) (by omega) (by omega) (by omega)).trans r2, (e _ (by omega) (by omega) (by omega) (by omega) (by omega)).trans r3, (e _ (by omega) (by omega) (by omega) (by omega) (by omega)).trans r4, (e _ (by omega) (by omega) (by omega) (by omega) (by omega)).trans r5, (e _ (by omega) (by omega) (by omega) (by omega) (by omega)).trans r6, (e _ (by omega) (by omega) (by omega) (by omega) (by omega)).trans r7, (e _ (by omega) (by omega) (by omega) (by omega) (by omega)).trans r8, (e _ (by omega) (by omega) (by omega) (by omega) (by omega)).trans r9, (e _ (by omega) (by omega) (by omega) (by omega) (by omega)).trans r10, (e _ (by omega) (by omega) (by omega) (by omega) (by omega)).trans r11, (e _ (by omega) (by omega) (by omega) (by omega) (by omega)).trans r12, (e _ (by omega) (by omega) (by omega) (by omega) (by omega)).trans r13, (e _ (by omega) (by omega) (by omega) (by omega) (by omega)).trans r14, (e _ (by omega) (by omega) (by omega) (by omega) (by omega)).trans r15, (e _ (by omega) (by omega) (by omega) (by omega) (by omega)).trans r16, (e _ (by omega) (by omega) (by omega) (by omega) (by omega)).trans r17⟩, m0, m1, fun i hi => ?_⟩
  · obtain ⟨a1, a2, a3⟩ := cs i hi
    exact ⟨(e _ (by omega) (by omega) (by omega) (by omega) (by omega)).trans a1, (e _ (by omega) (by omega) (by omega) (by omega) (by omega)).trans a2, a3⟩
  · obtain ⟨a1, a2, a3, a4⟩ := cl i hi
    exact ⟨(e _ (by omega) (by omega) (by omega) (by omega) (by omega)).trans a1, (e _ (by omega) (by omega) (by omega) (by omega) (by omega)).trans a2, (e _ (by omega) (by omega) (by omega) (by omega) (by omega)).trans a3, a4⟩
  · obtain ⟨a1, a2, a3, a4⟩ := m2 i hi
    refine ⟨a1, fun ho => ?_, a3, a4⟩
    obtain ⟨a, kn, hm, b1, b2, b3, b4, b5⟩ := a2 ho
    exact ⟨a, kn, hm, b1, b2, b3, F.2.2.2.2.1 _ _ _ b2 b4, b5⟩
/-- the reference's town isn't touched -/
theorem RM.fr {Dy r : Nat} {f w g : Nat → Int32} (R : RM h.2.2.1 r m f w g) (F : FR Dy P h h1) (hr : r + 20 < Dy) (hp : ∀ a, P a → a < r) : RM h1.2.2.1 r m f w g :=
  ⟨(F.at (by omega) (fun p => by have := hp _ p; omega)).trans R.1, (F.at (by omega) (fun p => by have := hp _ p; omega)).trans R.2.1, (F.at (by omega) (fun p => by have := hp _ p; omega)).trans R.2.2.1, (F.at (by omega) (fun p => by have := hp _ p; omega)).trans R.2.2.2⟩
theorem rep_m (S : REP B E g0 h) : ∃ l, h.2.2.1 (B + 58) = .inr (12, l) := by
  obtain ⟨⟨n, T, p, s, m, f, w, g, q, R, I, RR, M, X⟩, -⟩ := S
  exact ⟨_, RR.1⟩
/-- every method of which 33 to 40 speak -/
theorem ok_pm (S : REP B E g0 h) {mc mr : Nat} {as : List Value} (hpm : ∀ n T p s, ST (B + 79) B (B + 1) (B + 58) h n T p s → PM (B + 79) d B (B + 1) (B + 58) h n T p mc mr as) : OK B E g0 d h mc mr as := by
  obtain ⟨⟨n, T, p, s, m, f, w, g, q, R, I, RR, M, X⟩, hE, hg, hD, hz⟩ := S
  obtain ⟨v, n2, T2, I2, cc, cr⟩ := hpm n T p s ⟨⟨_, X.1.1.1⟩, by omega, by omega, hD, R, I, by omega⟩
  refine ⟨v, fun h1 => ∃ s2, FR (B + 79) (Pt (B + 1)) h h1 ∧ RT (B + 79) h1.2.2.1 (B + 1) n2 T2 p s2, fun Q K => cc Q (fun h1 s2 F1 R1 => K h1 ⟨s2, F1, R1⟩), fun h1 hh => ?_⟩
  obtain ⟨s2, F1, R1⟩ := hh
  have hE1 : ∀ a, a < B → h1.2.2.1 a = E a := fun a ha => (F1.at (by omega) (by omega)).trans (hE a ha)
  refine ⟨hE1, ⟨_, (RR.fr F1 (by omega) (fun a p => by omega)).1⟩, fun Q K => ?_⟩
  have RR1 : RM h1.2.2.1 (B + 58) m f w g := RR.fr F1 (by omega) (fun a p => by omega)
  refine cr h1 m f w g (by rw [F1.1]; exact hD) RR1 M Q (fun h2 f2 w2 g2 F2 R2 M2 => ?_)
  refine K h2 ⟨⟨n2, T2, p, s2, m, f2, w2, g2, q, R1.fr F2 (by omega) (fun k hk p => by rcases p with p | p | p <;> omega), I2, R2, M2, (X.fr F1 (fun a p => Or.inl p)).fr F2 (fun a p => Or.inr p)⟩, fun a ha => (F2.at (by omega) (fun p => by rcases p with p | p | p <;> omega)).trans (hE1 a ha), by rw [F2.2.2.1, F1.2.2.1]; exact hg, by rw [F2.1, F1.1]; exact hD, fun a ha => ?_⟩ (by rw [F2.1, F1.1]; omega) (by rw [F2.2.1, F1.2.1]; omega)
  rw [F2.1, F1.1] at ha
  exact F2.2.2.2.2.2.2 a (by rw [F1.1]; exact ha) (F1.2.2.2.2.2.2 a ha (hz a ha))
variable {x y z : Int32}
theorem ok_house (S : REP B E g0 h) : OK B E g0 d h 78 146 [.int x, .int y] := ok_pm S (fun _ _ _ _ => pm_house)
theorem ok_houseTold (S : REP B E g0 h) : OK B E g0 d h 79 149 [.int x, .int y] := ok_pm S (fun _ _ _ _ => pm_houseTold)
theorem ok_change (S : REP B E g0 h) : OK B E g0 d h 80 150 [.int x, .int y, .int z] := ok_pm S (fun _ _ _ _ => pm_change)
theorem ok_agree (S : REP B E g0 h) : OK B E g0 d h 81 152 [.int x, .int y, .int z] := ok_pm S (fun _ _ _ _ => pm_agree)
theorem ok_patience (S : REP B E g0 h) : OK B E g0 d h 82 153 [.int x] := ok_pm S (fun _ _ _ _ => pm_patience)
theorem ok_deal (S : REP B E g0 h) : OK B E g0 d h 83 154 [.int x] := ok_pm S (fun _ _ _ _ => pm_deal)
theorem ok_door (S : REP B E g0 h) : OK B E g0 d h 84 155 [.int x, .int y] := ok_pm S (fun _ _ _ _ => pm_door)
theorem ok_doorTold (S : REP B E g0 h) : OK B E g0 d h 85 158 [.int x, .int y] := ok_pm S (fun _ _ _ _ => pm_doorTold)
theorem ok_set (S : REP B E g0 h) : OK B E g0 d h 86 159 [.int x, .int y, .int z] := ok_pm S (fun _ _ _ _ => pm_set)
theorem ok_wire (S : REP B E g0 h) : OK B E g0 d h 87 160 [.int x, .int y, .int z] := ok_pm S (fun _ _ _ _ => pm_wire)
theorem ok_told (S : REP B E g0 h) : OK B E g0 d h 89 163 [.int x, .int y] := ok_pm S (fun _ _ _ _ => pm_told)
theorem ok_as (S : REP B E g0 h) : OK B E g0 d h 90 165 [.int x, .int y] := ok_pm S (fun _ _ _ _ => pm_as)
theorem ok_at (S : REP B E g0 h) : OK B E g0 d h 92 171 [.int x, .int y, .int z] := ok_pm S (fun _ _ _ _ => pm_at)
theorem ok_heed (S : REP B E g0 h) : OK B E g0 d h 93 172 [.int x, .int y] := ok_pm S (fun _ _ _ _ => pm_heed)
theorem ok_choice (S : REP B E g0 h) : OK B E g0 d h 94 175 [.int x] := ok_pm S (fun _ _ _ _ => pm_choice)
theorem ok_nights (S : REP B E g0 h) : OK B E g0 d h 95 177 [.int x] := ok_pm S (fun _ _ _ _ => pm_nights)
theorem ok_seed (S : REP B E g0 h) : OK B E g0 d h 96 178 [.int x] := ok_pm S (fun _ _ _ _ => pm_seed)
theorem ok_pair (S : REP B E g0 h) : OK B E g0 d h 97 180 [.int x] := ok_pm S (fun _ _ _ _ => pm_pair)
theorem ok_wiring (S : REP B E g0 h) : OK B E g0 d h 98 182 [] := ok_pm S (fun _ _ _ _ => pm_wiring)
theorem ok_unlawful (S : REP B E g0 h) : OK B E g0 d h 99 183 [.int x] := ok_pm S (fun _ _ _ _ => pm_unlawful)
theorem ok_worst (S : REP B E g0 h) : OK B E g0 d h 100 184 [.int x] := ok_pm S (fun _ _ _ _ => pm_worst)
theorem ok_heard (S : REP B E g0 h) : OK B E g0 d h 101 187 [.int x] := ok_pm S (fun _ _ _ _ => pm_heard)
theorem ok_alike (S : REP B E g0 h) : OK B E g0 d h 103 190 [] := ok_pm S (fun _ _ _ _ => pm_alike)
theorem ok_textTold (S : REP B E g0 h) : OK B E g0 d h 107 205 [.int x, .int y] := ok_pm S (fun _ _ _ _ => pm_textTold)
theorem ok_why (S : REP B E g0 h) : OK B E g0 d h 108 207 [.int x] := ok_pm S (fun _ _ _ _ => pm_why)
end REPs
