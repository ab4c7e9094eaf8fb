/-! ===== 44: one cell of the rest written ===== -/
def RS.sG (q : RS) (k : Nat) (F : Nat → Nat → Int32) : RS := (q.1, q.2.1, q.2.2.1, q.2.2.2.1, q.2.2.2.2.1, q.2.2.2.2.2.1, rup q.2.2.2.2.2.2 k F)
def RS.sN (q : RS) (k : Nat) (F : Nat → Nat) : RS := (q.1, rup q.2.1 k F, q.2.2.1, q.2.2.2.1, q.2.2.2.2.1, q.2.2.2.2.2.1, q.2.2.2.2.2.2)
def RS.sK (q : RS) (k : Bool) : RS := (k, q.2)
def RS.sP (q : RS) (t : Nat → Option Nat) : RS := (q.1, q.2.1, q.2.2.1, q.2.2.2.1, q.2.2.2.2.1, t, q.2.2.2.2.2.2)
abbrev RS.sU (q : RS) (k : Nat) (f : Nat → Int32) : RS := q.sG 0 (rup q.xu k f)
abbrev RS.sV (q : RS) (k : Nat) (f : Nat → Int32) : RS := q.sG 1 (rup q.xv k f)
abbrev RS.sW (q : RS) (k : Nat) : RS := q.sN 0 (rup (q.2.1 0) 0 k)
abbrev RS.sZ (q : RS) (k : Nat) (y : Nat → Int32) : RS := (q.sN 0 (rup (q.2.1 0) 1 k)).sG 0 (rup q.xu 0 y)
abbrev RS.sS (q : RS) (j : Nat) (v : Int32) (k : Nat) : RS := (q.sN 2 (rup q.xsz j k)).sG 4 (rup (q.2.2.2.2.2.2 4) 0 (upd q.xso j v))
abbrev RS.sL (q : RS) (j : Nat) (f : Nat → Int32) : RS := q.sG 2 (rup q.xpl j f)
abbrev RS.sH (q : RS) (j : Nat) (v : Int32) (k : Nat) : RS := (q.sN 3 (rup q.xhz j k)).sG 4 (rup (q.2.2.2.2.2.2 4) 3 (upd q.xhs j v))
abbrev RS.sM (q : RS) (j : Nat) (f : Nat → Int32) : RS := q.sG 3 (rup q.xhp j f)
abbrev RS.sA (q : RS) (j : Nat) (v : Int32) (t : Option Nat) (k : Int32) : RS := (q.sP (rup q.xtv j t)).sG 4 (rup (rup (q.2.2.2.2.2.2 4) 1 (upd q.xho j v)) 2 (upd q.xnu j k))
theorem rup_at {α : Type} {s : Nat → α} {k : Nat} {f : α} : rup s k f k = f := if_pos rfl
theorem rup_ne {α : Type} {s : Nat → α} {k j : Nat} {f : α} (h : j ≠ k) : rup s k f j = s j := if_neg h
abbrev PX (B : Nat) : Nat → Prop := fun a => a = B ∨ (B + 27 ≤ a ∧ a ≤ B + 78)
section RXs
variable {B d : Nat} {E : Nat → va_E} {g0 : Nat → Value} {h h2 : xH} {q q2 : RS} {m m2 f w g : Nat → Int32} {n : Nat → Nat} {T : Nat → Nat → Int32} {p : Nat → Nat → Option Nat} {s : Nat → Nat → Int32}
theorem FR.px {a : Nat} {e : va_E} (hD : B + 79 ≤ h.1) (ha : PX B a) : FR (B + 79) (PX B) h (xset h a e) := FR.set (by omega) ha (by omega)
theorem rep_px (R : RT (B + 79) h.2.2.1 (B + 1) n T p s) (I : IV n T) (hE : ∀ a, a < B → h.2.2.1 a = E a) (hg : h.2.2.2 = g0) (hD : B + 79 ≤ h.1) (hz : ∀ a, h.1 ≤ a → h.2.2.1 a = .inr (99, [])) (F : FR (B + 79) (PX B) h h2) (RR : RM h2.2.2.1 (B + 58) m2 f w g) (M : MR n T f) (Xc : RXc B h2.2.2.1 q2) (RI : RT (B + 79) h.2.2.1 (B + 14) q2.xni q2.xTi q2.xpi q2.xsi) (II : IV q2.xni q2.xTi) (Xr : RXr B h2.2.2.1 q2) (Xm : RXm (B + 79) h2.2.2.1 q2 m2) : REP B E g0 h2 := by
  refine ⟨⟨n, T, p, s, m2, f, w, g, q2, R.fr F (by omega) (fun k hk p => by omega), I, RR, M, Xc, ⟨RI.fr F (by omega) (fun k hk p => by omega), II⟩, Xr, Xm⟩, fun a ha => (F.at (by omega) (by omega)).trans (hE a ha), by rw [F.2.2.1]; exact hg, by rw [F.1]; exact hD, fun a ha => ?_⟩
  rw [F.1] at ha
  exact F.2.2.2.2.2.2 a ha (hz a ha)
/-- what slots hold stays -/
theorem rxm_fr {P : Nat → Prop} (X : RXm (B + 79) h.2.2.1 q m) (F : FR (B + 79) P h h2) : RXm (B + 79) h2.2.2.1 q m := by
  obtain ⟨m0, m1, m3⟩ := X
  refine ⟨m0, m1, fun i hi => ?_⟩
  obtain ⟨a1, a2, a3, a4⟩ := m3 i hi
  refine ⟨a1, fun ho => ?_, a3, a4⟩
  obtain ⟨a, kn, hm, b1, b2, b3, b4, b5⟩ := a2 ho
  exact ⟨a, kn, hm, b1, b2, b3, F.2.2.2.2.1 _ _ _ b2 b4, b5⟩
theorem xc_o (X : RXc B h.2.2.1 q) {a : Nat} {e : va_E} (ha : B + 58 ≤ a) : RXc B (xset h (a) (e)).2.2.1 (q) := by
  obtain ⟨⟨c1, c2, c3, c4, c5, c6, c7, c8, c9, c10, c11⟩, cs, cl⟩ := X
  refine ⟨⟨by rw [xset_ne (by omega)]; exact c1, c2, by rw [xset_ne (by omega)]; exact c3, c4, by rw [xset_ne (by omega)]; exact c5, by rw [xset_ne (by omega)]; exact c6, by rw [xset_ne (by omega)]; exact c7, by rw [xset_ne (by omega)]; exact c8, by rw [xset_ne (by omega)]; exact c9, by rw [xset_ne (by omega)]; exact c10, by rw [xset_ne (by omega)]; exact c11⟩, fun i hi => ?_, fun i hi => ?_⟩
  · obtain ⟨a1, a2, a3⟩ := cs i hi
    exact ⟨by rw [xset_ne (by omega)]; exact a1, by rw [xset_ne (by omega)]; exact a2, a3⟩
  · obtain ⟨a1, a2, a3, a4⟩ := cl i hi
    exact ⟨by rw [xset_ne (by omega)]; exact a1, by rw [xset_ne (by omega)]; exact a2, by rw [xset_ne (by omega)]; exact a3, a4⟩
theorem xc_obj (X : RXc B h.2.2.1 q) {k : Bool} {v : Nat} (hv : v ≤ 60) : RXc B (xset h (B) (.inr (11, objF B (bI k) (nI v)))).2.2.1 ((q.sK k).sW v) := by
  obtain ⟨⟨c1, c2, c3, c4, c5, c6, c7, c8, c9, c10, c11⟩, cs, cl⟩ := X
  refine ⟨⟨xset_self, hv, by rw [xset_ne (by omega)]; exact c3, c4, by rw [xset_ne (by omega)]; exact c5, by rw [xset_ne (by omega)]; exact c6, by rw [xset_ne (by omega)]; exact c7, by rw [xset_ne (by omega)]; exact c8, by rw [xset_ne (by omega)]; exact c9, by rw [xset_ne (by omega)]; exact c10, by rw [xset_ne (by omega)]; exact c11⟩, fun i hi => ?_, fun i hi => ?_⟩
  · obtain ⟨a1, a2, a3⟩ := cs i hi
    exact ⟨by rw [xset_ne (by omega)]; exact a1, by rw [xset_ne (by omega)]; exact a2, a3⟩
  · obtain ⟨a1, a2, a3, a4⟩ := cl i hi
    exact ⟨by rw [xset_ne (by omega)]; exact a1, by rw [xset_ne (by omega)]; exact a2, by rw [xset_ne (by omega)]; exact a3, a4⟩
theorem xc_tap (X : RXc B h.2.2.1 q) {v : Nat} {y : Nat → Int32} (hv : v ≤ 96) : RXc B (xset h (B + 27) (.inr (7, tapF B (nI v) y))).2.2.1 (q.sZ v y) := by
  obtain ⟨⟨c1, c2, c3, c4, c5, c6, c7, c8, c9, c10, c11⟩, cs, cl⟩ := X
  refine ⟨⟨by rw [xset_ne (by omega)]; exact c1, c2, xset_self, hv, by rw [xset_ne (by omega)]; exact c5, by rw [xset_ne (by omega)]; exact c6, by rw [xset_ne (by omega)]; exact c7, by rw [xset_ne (by omega)]; exact c8, by rw [xset_ne (by omega)]; exact c9, by rw [xset_ne (by omega)]; exact c10, by rw [xset_ne (by omega)]; exact c11⟩, fun i hi => ?_, fun i hi => ?_⟩
  · obtain ⟨a1, a2, a3⟩ := cs i hi
    exact ⟨by rw [xset_ne (by omega)]; exact a1, by rw [xset_ne (by omega)]; exact a2, a3⟩
  · obtain ⟨a1, a2, a3, a4⟩ := cl i hi
    exact ⟨by rw [xset_ne (by omega)]; exact a1, by rw [xset_ne (by omega)]; exact a2, by rw [xset_ne (by omega)]; exact a3, a4⟩
theorem xc_u1 (X : RXc B h.2.2.1 q) {f : Nat → Int32} : RXc B (xset h (B + 28) (.inl (0, xis 96 f))).2.2.1 (q.sU 1 f) := by
  obtain ⟨⟨c1, c2, c3, c4, c5, c6, c7, c8, c9, c10, c11⟩, cs, cl⟩ := X
  refine ⟨⟨by rw [xset_ne (by omega)]; exact c1, c2, by rw [xset_ne (by omega)]; exact c3, c4, xset_self, by rw [xset_ne (by omega)]; exact c6, by rw [xset_ne (by omega)]; exact c7, by rw [xset_ne (by omega)]; exact c8, by rw [xset_ne (by omega)]; exact c9, by rw [xset_ne (by omega)]; exact c10, by rw [xset_ne (by omega)]; exact c11⟩, fun i hi => ?_, fun i hi => ?_⟩
  · obtain ⟨a1, a2, a3⟩ := cs i hi
    exact ⟨by rw [xset_ne (by omega)]; exact a1, by rw [xset_ne (by omega)]; exact a2, a3⟩
  · obtain ⟨a1, a2, a3, a4⟩ := cl i hi
    exact ⟨by rw [xset_ne (by omega)]; exact a1, by rw [xset_ne (by omega)]; exact a2, by rw [xset_ne (by omega)]; exact a3, a4⟩
theorem xc_u2 (X : RXc B h.2.2.1 q) {f : Nat → Int32} : RXc B (xset h (B + 29) (.inl (0, xis 96 f))).2.2.1 (q.sU 2 f) := by
  obtain ⟨⟨c1, c2, c3, c4, c5, c6, c7, c8, c9, c10, c11⟩, cs, cl⟩ := X
  refine ⟨⟨by rw [xset_ne (by omega)]; exact c1, c2, by rw [xset_ne (by omega)]; exact c3, c4, by rw [xset_ne (by omega)]; exact c5, xset_self, by rw [xset_ne (by omega)]; exact c7, by rw [xset_ne (by omega)]; exact c8, by rw [xset_ne (by omega)]; exact c9, by rw [xset_ne (by omega)]; exact c10, by rw [xset_ne (by omega)]; exact c11⟩, fun i hi => ?_, fun i hi => ?_⟩
  · obtain ⟨a1, a2, a3⟩ := cs i hi
    exact ⟨by rw [xset_ne (by omega)]; exact a1, by rw [xset_ne (by omega)]; exact a2, a3⟩
  · obtain ⟨a1, a2, a3, a4⟩ := cl i hi
    exact ⟨by rw [xset_ne (by omega)]; exact a1, by rw [xset_ne (by omega)]; exact a2, by rw [xset_ne (by omega)]; exact a3, a4⟩
theorem xc_u3 (X : RXc B h.2.2.1 q) {f : Nat → Int32} : RXc B (xset h (B + 30) (.inl (0, xis 96 f))).2.2.1 (q.sU 3 f) := by
  obtain ⟨⟨c1, c2, c3, c4, c5, c6, c7, c8, c9, c10, c11⟩, cs, cl⟩ := X
  refine ⟨⟨by rw [xset_ne (by omega)]; exact c1, c2, by rw [xset_ne (by omega)]; exact c3, c4, by rw [xset_ne (by omega)]; exact c5, by rw [xset_ne (by omega)]; exact c6, xset_self, by rw [xset_ne (by omega)]; exact c8, by rw [xset_ne (by omega)]; exact c9, by rw [xset_ne (by omega)]; exact c10, by rw [xset_ne (by omega)]; exact c11⟩, fun i hi => ?_, fun i hi => ?_⟩
  · obtain ⟨a1, a2, a3⟩ := cs i hi
    exact ⟨by rw [xset_ne (by omega)]; exact a1, by rw [xset_ne (by omega)]; exact a2, a3⟩
  · obtain ⟨a1, a2, a3, a4⟩ := cl i hi
    exact ⟨by rw [xset_ne (by omega)]; exact a1, by rw [xset_ne (by omega)]; exact a2, by rw [xset_ne (by omega)]; exact a3, a4⟩
theorem xc_u4 (X : RXc B h.2.2.1 q) {f : Nat → Int32} : RXc B (xset h (B + 31) (.inl (0, xis 60 f))).2.2.1 (q.sU 4 f) := by
  obtain ⟨⟨c1, c2, c3, c4, c5, c6, c7, c8, c9, c10, c11⟩, cs, cl⟩ := X
  refine ⟨⟨by rw [xset_ne (by omega)]; exact c1, c2, by rw [xset_ne (by omega)]; exact c3, c4, by rw [xset_ne (by omega)]; exact c5, by rw [xset_ne (by omega)]; exact c6, by rw [xset_ne (by omega)]; exact c7, xset_self, by rw [xset_ne (by omega)]; exact c9, by rw [xset_ne (by omega)]; exact c10, by rw [xset_ne (by omega)]; exact c11⟩, fun i hi => ?_, fun i hi => ?_⟩
  · obtain ⟨a1, a2, a3⟩ := cs i hi
    exact ⟨by rw [xset_ne (by omega)]; exact a1, by rw [xset_ne (by omega)]; exact a2, a3⟩
  · obtain ⟨a1, a2, a3, a4⟩ := cl i hi
    exact ⟨by rw [xset_ne (by omega)]; exact a1, by rw [xset_ne (by omega)]; exact a2, by rw [xset_ne (by omega)]; exact a3, a4⟩
theorem xc_u5 (X : RXc B h.2.2.1 q) {f : Nat → Int32} : RXc B (xset h (B + 34) (.inl (0, xis 12 f))).2.2.1 (q.sU 5 f) := by
  obtain ⟨⟨c1, c2, c3, c4, c5, c6, c7, c8, c9, c10, c11⟩, cs, cl⟩ := X
  refine ⟨⟨by rw [xset_ne (by omega)]; exact c1, c2, by rw [xset_ne (by omega)]; exact c3, c4, by rw [xset_ne (by omega)]; exact c5, by rw [xset_ne (by omega)]; exact c6, by rw [xset_ne (by omega)]; exact c7, by rw [xset_ne (by omega)]; exact c8, by rw [xset_ne (by omega)]; exact c9, by rw [xset_ne (by omega)]; exact c10, xset_self⟩, fun i hi => ?_, fun i hi => ?_⟩
  · obtain ⟨a1, a2, a3⟩ := cs i hi
    exact ⟨by rw [xset_ne (by omega)]; exact a1, by rw [xset_ne (by omega)]; exact a2, a3⟩
  · obtain ⟨a1, a2, a3, a4⟩ := cl i hi
    exact ⟨by rw [xset_ne (by omega)]; exact a1, by rw [xset_ne (by omega)]; exact a2, by rw [xset_ne (by omega)]; exact a3, a4⟩
theorem xc_sh (X : RXc B h.2.2.1 q) {j k : Nat} {v : Int32} (hj : j < 4) (hk : k ≤ 24) (hv : v = -1 ∨ v = 0 ∨ v = 1) : RXc B (xset h (B + 35 + 2 * j) (.inr (5, [.int v, .int (nI k), .ref (B + 36 + 2 * j)]))).2.2.1 (q.sS j v k) := by
  obtain ⟨⟨c1, c2, c3, c4, c5, c6, c7, c8, c9, c10, c11⟩, cs, cl⟩ := X
  refine ⟨⟨by rw [xset_ne (by omega)]; exact c1, c2, by rw [xset_ne (by omega)]; exact c3, c4, by rw [xset_ne (by omega)]; exact c5, by rw [xset_ne (by omega)]; exact c6, by rw [xset_ne (by omega)]; exact c7, by rw [xset_ne (by omega)]; exact c8, by rw [xset_ne (by omega)]; exact c9, by rw [xset_ne (by omega)]; exact c10, by rw [xset_ne (by omega)]; exact c11⟩, fun i hi => ?_, fun i hi => ?_⟩
  · obtain ⟨a1, a2, a3, a4⟩ := cs i hi
    show _ ∧ _ ∧ (upd q.xso j v i = -1 ∨ upd q.xso j v i = 0 ∨ upd q.xso j v i = 1) ∧ rup q.xsz j k i ≤ 24
    by_cases e : i = j
    · subst e
      refine ⟨?_, by rw [xset_ne (by omega)]; exact a2, by rw [upd_at]; exact hv, by rw [rup_at]; exact hk⟩
      show _ = Sum.inr (5, [Value.int (upd q.xso i v i), Value.int (nI (rup q.xsz i k i)), Value.ref (B + 36 + 2 * i)])
      rw [xset_self, upd_at, rup_at]
    · refine ⟨?_, by rw [xset_ne (by omega)]; exact a2, by rw [upd_ne e]; exact a3, by rw [rup_ne e]; exact a4⟩
      show _ = Sum.inr (5, [Value.int (upd q.xso j v i), Value.int (nI (rup q.xsz j k i)), Value.ref (B + 36 + 2 * i)])
      rw [xset_ne (by omega), upd_ne e, rup_ne e]; exact a1
  · obtain ⟨a1, a2, a3, a4⟩ := cl i hi
    exact ⟨by rw [xset_ne (by omega)]; exact a1, by rw [xset_ne (by omega)]; exact a2, by rw [xset_ne (by omega)]; exact a3, a4⟩
theorem xc_pl (X : RXc B h.2.2.1 q) {j : Nat} {f : Nat → Int32} (hj : j < 4) : RXc B (xset h (B + 36 + 2 * j) (.inl (0, xis 24 f))).2.2.1 (q.sL j f) := by
  obtain ⟨⟨c1, c2, c3, c4, c5, c6, c7, c8, c9, c10, c11⟩, cs, cl⟩ := X
  refine ⟨⟨by rw [xset_ne (by omega)]; exact c1, c2, by rw [xset_ne (by omega)]; exact c3, c4, by rw [xset_ne (by omega)]; exact c5, by rw [xset_ne (by omega)]; exact c6, by rw [xset_ne (by omega)]; exact c7, by rw [xset_ne (by omega)]; exact c8, by rw [xset_ne (by omega)]; exact c9, by rw [xset_ne (by omega)]; exact c10, by rw [xset_ne (by omega)]; exact c11⟩, fun i hi => ?_, fun i hi => ?_⟩
  · obtain ⟨a1, a2, a3⟩ := cs i hi
    refine ⟨by rw [xset_ne (by omega)]; exact a1, ?_, a3⟩
    show _ = Sum.inl (0, xis 24 (rup q.xpl j f i))
    by_cases e : i = j
    · subst e; rw [xset_self, rup_at]
    · rw [xset_ne (by omega), rup_ne e]; exact a2
  · obtain ⟨a1, a2, a3, a4⟩ := cl i hi
    exact ⟨by rw [xset_ne (by omega)]; exact a1, by rw [xset_ne (by omega)]; exact a2, by rw [xset_ne (by omega)]; exact a3, a4⟩
theorem xc_sl (X : RXc B h.2.2.1 q) {j : Nat} {v k : Int32} {t : Option Nat} (hj : j < 5) (hv : v = 0 ∨ v = 1 ∨ v = 2 ∨ v = 3) (ht : ¬ v = 1 → t = none) : RXc B (xset h (B + 43 + 3 * j) (.inr (6, [.int v, va_rf t, .ref (B + 44 + 3 * j), .int k]))).2.2.1 (q.sA j v t k) := by
  obtain ⟨⟨c1, c2, c3, c4, c5, c6, c7, c8, c9, c10, c11⟩, cs, cl⟩ := X
  refine ⟨⟨by rw [xset_ne (by omega)]; exact c1, c2, by rw [xset_ne (by omega)]; exact c3, c4, by rw [xset_ne (by omega)]; exact c5, by rw [xset_ne (by omega)]; exact c6, by rw [xset_ne (by omega)]; exact c7, by rw [xset_ne (by omega)]; exact c8, by rw [xset_ne (by omega)]; exact c9, by rw [xset_ne (by omega)]; exact c10, by rw [xset_ne (by omega)]; exact c11⟩, fun i hi => ?_, fun i hi => ?_⟩
  · obtain ⟨a1, a2, a3⟩ := cs i hi
    exact ⟨by rw [xset_ne (by omega)]; exact a1, by rw [xset_ne (by omega)]; exact a2, a3⟩
  · obtain ⟨a1, a2, a3, a4, a5, a6⟩ := cl i hi
    show _ ∧ _ ∧ _ ∧ (upd q.xho j v i = 0 ∨ upd q.xho j v i = 1 ∨ upd q.xho j v i = 2 ∨ upd q.xho j v i = 3) ∧ _ ∧ (¬ upd q.xho j v i = 1 → rup q.xtv j t i = none)
    by_cases e : i = j
    · subst e
      refine ⟨?_, by rw [xset_ne (by omega)]; exact a2, by rw [xset_ne (by omega)]; exact a3, by rw [upd_at]; exact hv, a5, by rw [upd_at, rup_at]; exact ht⟩
      show _ = Sum.inr (6, [Value.int (upd q.xho i v i), va_rf (rup q.xtv i t i), Value.ref (B + 44 + 3 * i), Value.int (upd q.xnu i k i)])
      rw [xset_self, upd_at, upd_at, rup_at]
    · refine ⟨?_, by rw [xset_ne (by omega)]; exact a2, by rw [xset_ne (by omega)]; exact a3, by rw [upd_ne e]; exact a4, a5, by rw [upd_ne e, rup_ne e]; exact a6⟩
      show _ = Sum.inr (6, [Value.int (upd q.xho j v i), va_rf (rup q.xtv j t i), Value.ref (B + 44 + 3 * i), Value.int (upd q.xnu j k i)])
      rw [xset_ne (by omega), upd_ne e, upd_ne e, rup_ne e]; exact a1
theorem xc_hs (X : RXc B h.2.2.1 q) {j k : Nat} {v : Int32} (hj : j < 5) (hk : k ≤ 24) : RXc B (xset h (B + 44 + 3 * j) (.inr (5, [.int v, .int (nI k), .ref (B + 45 + 3 * j)]))).2.2.1 (q.sH j v k) := by
  obtain ⟨⟨c1, c2, c3, c4, c5, c6, c7, c8, c9, c10, c11⟩, cs, cl⟩ := X
  refine ⟨⟨by rw [xset_ne (by omega)]; exact c1, c2, by rw [xset_ne (by omega)]; exact c3, c4, by rw [xset_ne (by omega)]; exact c5, by rw [xset_ne (by omega)]; exact c6, by rw [xset_ne (by omega)]; exact c7, by rw [xset_ne (by omega)]; exact c8, by rw [xset_ne (by omega)]; exact c9, by rw [xset_ne (by omega)]; exact c10, by rw [xset_ne (by omega)]; exact c11⟩, fun i hi => ?_, fun i hi => ?_⟩
  · obtain ⟨a1, a2, a3⟩ := cs i hi
    exact ⟨by rw [xset_ne (by omega)]; exact a1, by rw [xset_ne (by omega)]; exact a2, a3⟩
  · obtain ⟨a1, a2, a3, a4, a5, a6⟩ := cl i hi
    show _ ∧ _ ∧ _ ∧ _ ∧ rup q.xhz j k i ≤ 24 ∧ _
    by_cases e : i = j
    · subst e
      refine ⟨by rw [xset_ne (by omega)]; exact a1, ?_, by rw [xset_ne (by omega)]; exact a3, a4, by rw [rup_at]; exact hk, a6⟩
      show _ = Sum.inr (5, [Value.int (upd q.xhs i v i), Value.int (nI (rup q.xhz i k i)), Value.ref (B + 45 + 3 * i)])
      rw [xset_self, upd_at, rup_at]
    · refine ⟨by rw [xset_ne (by omega)]; exact a1, ?_, by rw [xset_ne (by omega)]; exact a3, a4, by rw [rup_ne e]; exact a5, a6⟩
      show _ = Sum.inr (5, [Value.int (upd q.xhs j v i), Value.int (nI (rup q.xhz j k i)), Value.ref (B + 45 + 3 * i)])
      rw [xset_ne (by omega), upd_ne e, rup_ne e]; exact a2
theorem xc_hp (X : RXc B h.2.2.1 q) {j : Nat} {f : Nat → Int32} (hj : j < 5) : RXc B (xset h (B + 45 + 3 * j) (.inl (0, xis 24 f))).2.2.1 (q.sM j f) := by
  obtain ⟨⟨c1, c2, c3, c4, c5, c6, c7, c8, c9, c10, c11⟩, cs, cl⟩ := X
  refine ⟨⟨by rw [xset_ne (by omega)]; exact c1, c2, by rw [xset_ne (by omega)]; exact c3, c4, by rw [xset_ne (by omega)]; exact c5, by rw [xset_ne (by omega)]; exact c6, by rw [xset_ne (by omega)]; exact c7, by rw [xset_ne (by omega)]; exact c8, by rw [xset_ne (by omega)]; exact c9, by rw [xset_ne (by omega)]; exact c10, by rw [xset_ne (by omega)]; exact c11⟩, fun i hi => ?_, fun i hi => ?_⟩
  · obtain ⟨a1, a2, a3⟩ := cs i hi
    exact ⟨by rw [xset_ne (by omega)]; exact a1, by rw [xset_ne (by omega)]; exact a2, a3⟩
  · obtain ⟨a1, a2, a3, a4⟩ := cl i hi
    refine ⟨by rw [xset_ne (by omega)]; exact a1, by rw [xset_ne (by omega)]; exact a2, ?_, a4⟩
    show _ = Sum.inl (0, xis 24 (rup q.xhp j f i))
    by_cases e : i = j
    · subst e; rw [xset_self, rup_at]
    · rw [xset_ne (by omega), rup_ne e]; exact a3
theorem xr_o (X : RXr B h.2.2.1 q) {a : Nat} {e : va_E} (ha : a < B + 60 ∨ a = B + 68 ∨ a = B + 69) : RXr B (xset h a e).2.2.1 q := by
  obtain ⟨r1, r2, r3, r4, r5, r6, r7, r8, r9, r10, r11, r12, r13, r14, r15, r16, r17⟩ := X
  exact ⟨by rw [xset_ne (by omega)]; exact r1, by rw [xset_ne (by omega)]; exact r2, by rw [xset_ne (by omega)]; exact r3, by rw [xset_ne (by omega)]; exact r4, by rw [xset_ne (by omega)]; exact r5, by rw [xset_ne (by omega)]; exact r6, by rw [xset_ne (by omega)]; exact r7, by rw [xset_ne (by omega)]; exact r8, by rw [xset_ne (by omega)]; exact r9, by rw [xset_ne (by omega)]; exact r10, by rw [xset_ne (by omega)]; exact r11, by rw [xset_ne (by omega)]; exact r12, by rw [xset_ne (by omega)]; exact r13, by rw [xset_ne (by omega)]; exact r14, by rw [xset_ne (by omega)]; exact r15, by rw [xset_ne (by omega)]; exact r16, by rw [xset_ne (by omega)]; exact r17⟩
theorem xr_2 (X : RXr B h.2.2.1 q) {f : Nat → Int32} : RXr B (xset h (B + 58 + 2) (.inl (0, xis 1482 f))).2.2.1 (q.sV 2 f) := by
  obtain ⟨r1, r2, r3, r4, r5, r6, r7, r8, r9, r10, r11, r12, r13, r14, r15, r16, r17⟩ := X
  exact ⟨xset_self, by rw [xset_ne (by omega)]; exact r2, by rw [xset_ne (by omega)]; exact r3, by rw [xset_ne (by omega)]; exact r4, by rw [xset_ne (by omega)]; exact r5, by rw [xset_ne (by omega)]; exact r6, by rw [xset_ne (by omega)]; exact r7, by rw [xset_ne (by omega)]; exact r8, by rw [xset_ne (by omega)]; exact r9, by rw [xset_ne (by omega)]; exact r10, by rw [xset_ne (by omega)]; exact r11, by rw [xset_ne (by omega)]; exact r12, by rw [xset_ne (by omega)]; exact r13, by rw [xset_ne (by omega)]; exact r14, by rw [xset_ne (by omega)]; exact r15, by rw [xset_ne (by omega)]; exact r16, by rw [xset_ne (by omega)]; exact r17⟩
theorem xr_3 (X : RXr B h.2.2.1 q) {f : Nat → Int32} : RXr B (xset h (B + 58 + 3) (.inl (0, xis 1482 f))).2.2.1 (q.sV 3 f) := by
  obtain ⟨r1, r2, r3, r4, r5, r6, r7, r8, r9, r10, r11, r12, r13, r14, r15, r16, r17⟩ := X
  exact ⟨by rw [xset_ne (by omega)]; exact r1, xset_self, by rw [xset_ne (by omega)]; exact r3, by rw [xset_ne (by omega)]; exact r4, by rw [xset_ne (by omega)]; exact r5, by rw [xset_ne (by omega)]; exact r6, by rw [xset_ne (by omega)]; exact r7, by rw [xset_ne (by omega)]; exact r8, by rw [xset_ne (by omega)]; exact r9, by rw [xset_ne (by omega)]; exact r10, by rw [xset_ne (by omega)]; exact r11, by rw [xset_ne (by omega)]; exact r12, by rw [xset_ne (by omega)]; exact r13, by rw [xset_ne (by omega)]; exact r14, by rw [xset_ne (by omega)]; exact r15, by rw [xset_ne (by omega)]; exact r16, by rw [xset_ne (by omega)]; exact r17⟩
theorem xr_4 (X : RXr B h.2.2.1 q) {f : Nat → Int32} : RXr B (xset h (B + 58 + 4) (.inl (0, xis 96 f))).2.2.1 (q.sV 4 f) := by
  obtain ⟨r1, r2, r3, r4, r5, r6, r7, r8, r9, r10, r11, r12, r13, r14, r15, r16, r17⟩ := X
  exact ⟨by rw [xset_ne (by omega)]; exact r1, by rw [xset_ne (by omega)]; exact r2, xset_self, by rw [xset_ne (by omega)]; exact r4, by rw [xset_ne (by omega)]; exact r5, by rw [xset_ne (by omega)]; exact r6, by rw [xset_ne (by omega)]; exact r7, by rw [xset_ne (by omega)]; exact r8, by rw [xset_ne (by omega)]; exact r9, by rw [xset_ne (by omega)]; exact r10, by rw [xset_ne (by omega)]; exact r11, by rw [xset_ne (by omega)]; exact r12, by rw [xset_ne (by omega)]; exact r13, by rw [xset_ne (by omega)]; exact r14, by rw [xset_ne (by omega)]; exact r15, by rw [xset_ne (by omega)]; exact r16, by rw [xset_ne (by omega)]; exact r17⟩
theorem xr_7 (X : RXr B h.2.2.1 q) {f : Nat → Int32} : RXr B (xset h (B + 58 + 7) (.inl (0, xis 96 f))).2.2.1 (q.sV 7 f) := by
  obtain ⟨r1, r2, r3, r4, r5, r6, r7, r8, r9, r10, r11, r12, r13, r14, r15, r16, r17⟩ := X
  exact ⟨by rw [xset_ne (by omega)]; exact r1, by rw [xset_ne (by omega)]; exact r2, by rw [xset_ne (by omega)]; exact r3, by rw [xset_ne (by omega)]; exact r4, by rw [xset_ne (by omega)]; exact r5, xset_self, by rw [xset_ne (by omega)]; exact r7, by rw [xset_ne (by omega)]; exact r8, by rw [xset_ne (by omega)]; exact r9, by rw [xset_ne (by omega)]; exact r10, by rw [xset_ne (by omega)]; exact r11, by rw [xset_ne (by omega)]; exact r12, by rw [xset_ne (by omega)]; exact r13, by rw [xset_ne (by omega)]; exact r14, by rw [xset_ne (by omega)]; exact r15, by rw [xset_ne (by omega)]; exact r16, by rw [xset_ne (by omega)]; exact r17⟩
theorem xr_8 (X : RXr B h.2.2.1 q) {f : Nat → Int32} : RXr B (xset h (B + 58 + 8) (.inl (0, xis 96 f))).2.2.1 (q.sV 8 f) := by
  obtain ⟨r1, r2, r3, r4, r5, r6, r7, r8, r9, r10, r11, r12, r13, r14, r15, r16, r17⟩ := X
  exact ⟨by rw [xset_ne (by omega)]; exact r1, by rw [xset_ne (by omega)]; exact r2, by rw [xset_ne (by omega)]; exact r3, by rw [xset_ne (by omega)]; exact r4, by rw [xset_ne (by omega)]; exact r5, by rw [xset_ne (by omega)]; exact r6, xset_self, by rw [xset_ne (by omega)]; exact r8, by rw [xset_ne (by omega)]; exact r9, by rw [xset_ne (by omega)]; exact r10, by rw [xset_ne (by omega)]; exact r11, by rw [xset_ne (by omega)]; exact r12, by rw [xset_ne (by omega)]; exact r13, by rw [xset_ne (by omega)]; exact r14, by rw [xset_ne (by omega)]; exact r15, by rw [xset_ne (by omega)]; exact r16, by rw [xset_ne (by omega)]; exact r17⟩
theorem xr_9 (X : RXr B h.2.2.1 q) {f : Nat → Int32} : RXr B (xset h (B + 58 + 9) (.inl (1, xis 10 f))).2.2.1 (q.sV 9 f) := by
  obtain ⟨r1, r2, r3, r4, r5, r6, r7, r8, r9, r10, r11, r12, r13, r14, r15, r16, r17⟩ := X
  exact ⟨by rw [xset_ne (by omega)]; exact r1, by rw [xset_ne (by omega)]; exact r2, by rw [xset_ne (by omega)]; exact r3, by rw [xset_ne (by omega)]; exact r4, by rw [xset_ne (by omega)]; exact r5, by rw [xset_ne (by omega)]; exact r6, by rw [xset_ne (by omega)]; exact r7, xset_self, by rw [xset_ne (by omega)]; exact r9, by rw [xset_ne (by omega)]; exact r10, by rw [xset_ne (by omega)]; exact r11, by rw [xset_ne (by omega)]; exact r12, by rw [xset_ne (by omega)]; exact r13, by rw [xset_ne (by omega)]; exact r14, by rw [xset_ne (by omega)]; exact r15, by rw [xset_ne (by omega)]; exact r16, by rw [xset_ne (by omega)]; exact r17⟩
theorem xr_12 (X : RXr B h.2.2.1 q) {f : Nat → Int32} : RXr B (xset h (B + 58 + 12) (.inl (0, xis 4 f))).2.2.1 (q.sV 12 f) := by
  obtain ⟨r1, r2, r3, r4, r5, r6, r7, r8, r9, r10, r11, r12, r13, r14, r15, r16, r17⟩ := X
  exact ⟨by rw [xset_ne (by omega)]; exact r1, by rw [xset_ne (by omega)]; exact r2, by rw [xset_ne (by omega)]; exact r3, by rw [xset_ne (by omega)]; exact r4, by rw [xset_ne (by omega)]; exact r5, by rw [xset_ne (by omega)]; exact r6, by rw [xset_ne (by omega)]; exact r7, by rw [xset_ne (by omega)]; exact r8, xset_self, by rw [xset_ne (by omega)]; exact r10, by rw [xset_ne (by omega)]; exact r11, by rw [xset_ne (by omega)]; exact r12, by rw [xset_ne (by omega)]; exact r13, by rw [xset_ne (by omega)]; exact r14, by rw [xset_ne (by omega)]; exact r15, by rw [xset_ne (by omega)]; exact r16, by rw [xset_ne (by omega)]; exact r17⟩
theorem xr_13 (X : RXr B h.2.2.1 q) {f : Nat → Int32} : RXr B (xset h (B + 58 + 13) (.inl (0, xis 4 f))).2.2.1 (q.sV 13 f) := by
  obtain ⟨r1, r2, r3, r4, r5, r6, r7, r8, r9, r10, r11, r12, r13, r14, r15, r16, r17⟩ := X
  exact ⟨by rw [xset_ne (by omega)]; exact r1, by rw [xset_ne (by omega)]; exact r2, by rw [xset_ne (by omega)]; exact r3, by rw [xset_ne (by omega)]; exact r4, by rw [xset_ne (by omega)]; exact r5, by rw [xset_ne (by omega)]; exact r6, by rw [xset_ne (by omega)]; exact r7, by rw [xset_ne (by omega)]; exact r8, by rw [xset_ne (by omega)]; exact r9, xset_self, by rw [xset_ne (by omega)]; exact r11, by rw [xset_ne (by omega)]; exact r12, by rw [xset_ne (by omega)]; exact r13, by rw [xset_ne (by omega)]; exact r14, by rw [xset_ne (by omega)]; exact r15, by rw [xset_ne (by omega)]; exact r16, by rw [xset_ne (by omega)]; exact r17⟩
theorem xr_14 (X : RXr B h.2.2.1 q) {f : Nat → Int32} : RXr B (xset h (B + 58 + 14) (.inl (0, xis 96 f))).2.2.1 (q.sV 14 f) := by
  obtain ⟨r1, r2, r3, r4, r5, r6, r7, r8, r9, r10, r11, r12, r13, r14, r15, r16, r17⟩ := X
  exact ⟨by rw [xset_ne (by omega)]; exact r1, by rw [xset_ne (by omega)]; exact r2, by rw [xset_ne (by omega)]; exact r3, by rw [xset_ne (by omega)]; exact r4, by rw [xset_ne (by omega)]; exact r5, by rw [xset_ne (by omega)]; exact r6, by rw [xset_ne (by omega)]; exact r7, by rw [xset_ne (by omega)]; exact r8, by rw [xset_ne (by omega)]; exact r9, by rw [xset_ne (by omega)]; exact r10, xset_self, by rw [xset_ne (by omega)]; exact r12, by rw [xset_ne (by omega)]; exact r13, by rw [xset_ne (by omega)]; exact r14, by rw [xset_ne (by omega)]; exact r15, by rw [xset_ne (by omega)]; exact r16, by rw [xset_ne (by omega)]; exact r17⟩
theorem xr_15 (X : RXr B h.2.2.1 q) {f : Nat → Int32} : RXr B (xset h (B + 58 + 15) (.inl (0, xis 5 f))).2.2.1 (q.sV 15 f) := by
  obtain ⟨r1, r2, r3, r4, r5, r6, r7, r8, r9, r10, r11, r12, r13, r14, r15, r16, r17⟩ := X
  exact ⟨by rw [xset_ne (by omega)]; exact r1, by rw [xset_ne (by omega)]; exact r2, by rw [xset_ne (by omega)]; exact r3, by rw [xset_ne (by omega)]; exact r4, by rw [xset_ne (by omega)]; exact r5, by rw [xset_ne (by omega)]; exact r6, by rw [xset_ne (by omega)]; exact r7, by rw [xset_ne (by omega)]; exact r8, by rw [xset_ne (by omega)]; exact r9, by rw [xset_ne (by omega)]; exact r10, by rw [xset_ne (by omega)]; exact r11, xset_self, by rw [xset_ne (by omega)]; exact r13, by rw [xset_ne (by omega)]; exact r14, by rw [xset_ne (by omega)]; exact r15, by rw [xset_ne (by omega)]; exact r16, by rw [xset_ne (by omega)]; exact r17⟩
theorem xr_16 (X : RXr B h.2.2.1 q) {f : Nat → Int32} : RXr B (xset h (B + 58 + 16) (.inl (0, xis 5 f))).2.2.1 (q.sV 16 f) := by
  obtain ⟨r1, r2, r3, r4, r5, r6, r7, r8, r9, r10, r11, r12, r13, r14, r15, r16, r17⟩ := X
  exact ⟨by rw [xset_ne (by omega)]; exact r1, by rw [xset_ne (by omega)]; exact r2, by rw [xset_ne (by omega)]; exact r3, by rw [xset_ne (by omega)]; exact r4, by rw [xset_ne (by omega)]; exact r5, by rw [xset_ne (by omega)]; exact r6, by rw [xset_ne (by omega)]; exact r7, by rw [xset_ne (by omega)]; exact r8, by rw [xset_ne (by omega)]; exact r9, by rw [xset_ne (by omega)]; exact r10, by rw [xset_ne (by omega)]; exact r11, by rw [xset_ne (by omega)]; exact r12, xset_self, by rw [xset_ne (by omega)]; exact r14, by rw [xset_ne (by omega)]; exact r15, by rw [xset_ne (by omega)]; exact r16, by rw [xset_ne (by omega)]; exact r17⟩
theorem xr_17 (X : RXr B h.2.2.1 q) {f : Nat → Int32} : RXr B (xset h (B + 58 + 17) (.inl (0, xis 5 f))).2.2.1 (q.sV 17 f) := by
  obtain ⟨r1, r2, r3, r4, r5, r6, r7, r8, r9, r10, r11, r12, r13, r14, r15, r16, r17⟩ := X
  exact ⟨by rw [xset_ne (by omega)]; exact r1, by rw [xset_ne (by omega)]; exact r2, by rw [xset_ne (by omega)]; exact r3, by rw [xset_ne (by omega)]; exact r4, by rw [xset_ne (by omega)]; exact r5, by rw [xset_ne (by omega)]; exact r6, by rw [xset_ne (by omega)]; exact r7, by rw [xset_ne (by omega)]; exact r8, by rw [xset_ne (by omega)]; exact r9, by rw [xset_ne (by omega)]; exact r10, by rw [xset_ne (by omega)]; exact r11, by rw [xset_ne (by omega)]; exact r12, by rw [xset_ne (by omega)]; exact r13, xset_self, by rw [xset_ne (by omega)]; exact r15, by rw [xset_ne (by omega)]; exact r16, by rw [xset_ne (by omega)]; exact r17⟩
theorem xr_18 (X : RXr B h.2.2.1 q) {f : Nat → Int32} : RXr B (xset h (B + 58 + 18) (.inl (0, xis 120 f))).2.2.1 (q.sV 18 f) := by
  obtain ⟨r1, r2, r3, r4, r5, r6, r7, r8, r9, r10, r11, r12, r13, r14, r15, r16, r17⟩ := X
  exact ⟨by rw [xset_ne (by omega)]; exact r1, by rw [xset_ne (by omega)]; exact r2, by rw [xset_ne (by omega)]; exact r3, by rw [xset_ne (by omega)]; exact r4, by rw [xset_ne (by omega)]; exact r5, by rw [xset_ne (by omega)]; exact r6, by rw [xset_ne (by omega)]; exact r7, by rw [xset_ne (by omega)]; exact r8, by rw [xset_ne (by omega)]; exact r9, by rw [xset_ne (by omega)]; exact r10, by rw [xset_ne (by omega)]; exact r11, by rw [xset_ne (by omega)]; exact r12, by rw [xset_ne (by omega)]; exact r13, by rw [xset_ne (by omega)]; exact r14, xset_self, by rw [xset_ne (by omega)]; exact r16, by rw [xset_ne (by omega)]; exact r17⟩
theorem xr_19 (X : RXr B h.2.2.1 q) {f : Nat → Int32} : RXr B (xset h (B + 58 + 19) (.inl (0, xis 24 f))).2.2.1 (q.sV 19 f) := by
  obtain ⟨r1, r2, r3, r4, r5, r6, r7, r8, r9, r10, r11, r12, r13, r14, r15, r16, r17⟩ := X
  exact ⟨by rw [xset_ne (by omega)]; exact r1, by rw [xset_ne (by omega)]; exact r2, by rw [xset_ne (by omega)]; exact r3, by rw [xset_ne (by omega)]; exact r4, by rw [xset_ne (by omega)]; exact r5, by rw [xset_ne (by omega)]; exact r6, by rw [xset_ne (by omega)]; exact r7, by rw [xset_ne (by omega)]; exact r8, by rw [xset_ne (by omega)]; exact r9, by rw [xset_ne (by omega)]; exact r10, by rw [xset_ne (by omega)]; exact r11, by rw [xset_ne (by omega)]; exact r12, by rw [xset_ne (by omega)]; exact r13, by rw [xset_ne (by omega)]; exact r14, by rw [xset_ne (by omega)]; exact r15, xset_self, by rw [xset_ne (by omega)]; exact r17⟩
theorem xr_20 (X : RXr B h.2.2.1 q) {f : Nat → Int32} : RXr B (xset h (B + 58 + 20) (.inl (0, xis 60 f))).2.2.1 (q.sV 20 f) := by
  obtain ⟨r1, r2, r3, r4, r5, r6, r7, r8, r9, r10, r11, r12, r13, r14, r15, r16, r17⟩ := X
  exact ⟨by rw [xset_ne (by omega)]; exact r1, by rw [xset_ne (by omega)]; exact r2, by rw [xset_ne (by omega)]; exact r3, by rw [xset_ne (by omega)]; exact r4, by rw [xset_ne (by omega)]; exact r5, by rw [xset_ne (by omega)]; exact r6, by rw [xset_ne (by omega)]; exact r7, by rw [xset_ne (by omega)]; exact r8, by rw [xset_ne (by omega)]; exact r9, by rw [xset_ne (by omega)]; exact r10, by rw [xset_ne (by omega)]; exact r11, by rw [xset_ne (by omega)]; exact r12, by rw [xset_ne (by omega)]; exact r13, by rw [xset_ne (by omega)]; exact r14, by rw [xset_ne (by omega)]; exact r15, by rw [xset_ne (by omega)]; exact r16, xset_self⟩
end RXs
