/-! ===== 59: lay, where no sheet is laid ===== -/
theorem l4s0 {a b c e v : Value} : ([a, b, c, e] : List Value).set 0 v = [v, b, c, e] := rfl
theorem l4s1 {a b c e v : Value} : ([a, b, c, e] : List Value).set 1 v = [a, v, c, e] := rfl
theorem l4s3 {a b c e v : Value} : ([a, b, c, e] : List Value).set 3 v = [a, b, c, v] := rfl
theorem l4L {a b c e : Value} : ([a, b, c, e] : List Value).length = 4 := rfl
section LAY1
variable {B d : Nat} {E : Nat → va_E} {g0 : Nat → Value} {h h1 : xH} {q : RS} {m f w g : Nat → Int32} {n : Nat → Nat} {T : Nat → Nat → Int32} {p : Nat → Nat → Option Nat} {s : Nat → Nat → Int32} {Q : Option Value → xH → Prop} {x y z : Int32}
theorem rxm_of2 {c : Nat → va_E} {Dy : Nat} {q2 : RS} (X : RXm Dy c q m) (e0 : q2.xkp = q.xkp) (e1 : q2.xni = q.xni) (e2 : q2.xTi = q.xTi) (e3 : q2.xtz = q.xtz) (e4 : q2.xnw = q.xnw) (u1 : q2.xu 1 = q.xu 1) (u4 : q2.xu 4 = q.xu 4) (v2 : q2.xv 2 = q.xv 2) (v4 : q2.xv 4 = q.xv 4) (v20 : q2.xv 20 = q.xv 20) (v12 : q2.xv 12 = q.xv 12) (v13 : q2.xv 13 = q.xv 13) (v14 : q2.xv 14 = q.xv 14) (f1 : q2.xso = q.xso) (f2 : q2.xsz = q.xsz) (f3 : q2.xpl = q.xpl) (K : ∀ i, i < 5 → q2.xv 15 i = q2.xho i ∧ (q2.xho i = 1 → ∃ a kn hm, q2.xtv i = some a ∧ Dy ≤ a ∧ kn ≤ 5 ∧ thf c a (nI kn) hm ∧ q2.xv 16 i = nI kn ∧ q2.xv 17 i = wth kn hm) ∧ (q2.xho i = 2 → q2.xv 16 i = nI (q2.xhz i) ∧ ∀ k, k < 24 → q2.xv 18 (24 * i + k) = q2.xhp i k) ∧ (q2.xho i = 3 → q2.xv 16 i = q2.xnu i)) : RXm Dy c q2 m := by
  obtain ⟨k0, km, -⟩ := X
  refine ⟨?_, ?_, K⟩
  · rw [e0, e1, e2, e3, e4, u1, u4, v2, v4, v20]; exact k0
  · rw [v12, v13, v14, f1, f2, f3]; exact km
abbrev layE (h : xH) (B : Nat) (q : RS) (j : Nat) (y A V : Int32) : xH := xset (xset (xset h (B + 58 + 15) (.inl (0, xis 5 (upd (q.xv 15) j y)))) (B + 58 + 16) (.inl (0, xis 5 (upd (q.xv 16) j A)))) (B + 58 + 17) (.inl (0, xis 5 (upd (q.xv 17) j V)))
/-- the end of lay on both sides, where no sheet is laid -/
theorem layFin (R : RT (B + 79) h.2.2.1 (B + 1) n T p s) (I : IV n T) (hE : ∀ a, a < B → h.2.2.1 a = E a) (hg : h.2.2.2 = g0) (hD : B + 79 ≤ h.1) (hz : ∀ a, h.1 ≤ a → h.2.2.1 a = .inr (99, [])) (M : MR n T f) (X : RX B h.2.2.1 q m) {j : Nat} (hj : j < 5) {A V : Int32} {t : Option Nat} (hy : y = 0 ∨ y = 1 ∨ y = 2 ∨ y = 3) (hy2 : ¬ y = 2) (ht : ¬ y = 1 → t = none) (h1' : y = 1 → ∃ a kn hm, t = some a ∧ B + 79 ≤ a ∧ kn ≤ 5 ∧ thf h.2.2.1 a (nI kn) hm ∧ A = nI kn ∧ V = wth kn hm) (h3' : y = 3 → A = z) (F1 : FR (B + 79) (PX B) h h1) (X1 : RXc B h1.2.2.1 (q.sA j y t z)) (Y1 : RXr B h1.2.2.1 q) (R1 : RM h1.2.2.1 (B + 58) m f w g) : REP B E g0 (layE h1 B q j y A V) ∧ (layE h1 B q j y A V).1 ≤ h.1 + 3 ∧ (layE h1 B q j y A V).2.1 ≤ h.2.1 + 200 := by
  have hD1 : B + 79 ≤ h1.1 := by rw [F1.1]; exact hD
  have F15 := F1.trans (FR.px (a := B + 58 + 15) (e := .inl (0, xis 5 (upd (q.xv 15) j y))) hD1 (Or.inr ⟨by omega, by omega⟩))
  have F16 := F15.trans (FR.px (a := B + 58 + 16) (e := .inl (0, xis 5 (upd (q.xv 16) j A))) hD1 (Or.inr ⟨by omega, by omega⟩))
  have F : FR (B + 79) (PX B) h (layE h1 B q j y A V) := F16.trans (FR.px (a := B + 58 + 17) (e := .inl (0, xis 5 (upd (q.xv 17) j V))) hD1 (Or.inr ⟨by omega, by omega⟩))
  have X2 := xc_o (xc_o (xc_o X1 (a := B + 58 + 15) (e := .inl (0, xis 5 (upd (q.xv 15) j y))) (by omega)) (a := B + 58 + 16) (e := .inl (0, xis 5 (upd (q.xv 16) j A))) (by omega)) (a := B + 58 + 17) (e := .inl (0, xis 5 (upd (q.xv 17) j V))) (by omega)
  have Y2 := xr_17 (xr_16 (xr_15 Y1 (f := upd (q.xv 15) j y)) (f := upd (q.xv 16) j A)) (f := upd (q.xv 17) j V)
  have R2 := rm_o (rm_o (rm_o R1 (a := B + 58 + 15) (e := .inl (0, xis 5 (upd (q.xv 15) j y))) (by omega) (by omega) (by omega) (by omega)) (a := B + 58 + 16) (e := .inl (0, xis 5 (upd (q.xv 16) j A))) (by omega) (by omega) (by omega) (by omega)) (a := B + 58 + 17) (e := .inl (0, xis 5 (upd (q.xv 17) j V))) (by omega) (by omega) (by omega) (by omega)
  obtain ⟨-, ⟨RI, II⟩, -, Xm⟩ := X
  have kn := Xm.2.2
  have X3 := rxc_v (k := 17) (F := upd (q.xv 17) j V) (rxc_v (k := 16) (F := upd (q.xv 16) j A) (rxc_v (k := 15) (F := upd (q.xv 15) j y) X2))
  have Y3 := rxr_of (q2 := (((q.sA j y t z).sV 15 (upd (q.xv 15) j y)).sV 16 (upd (q.xv 16) j A)).sV 17 (upd (q.xv 17) j V)) Y2 rfl
  refine ⟨rep_px R I hE hg hD hz F R2 M X3 RI II Y3 (rxm_fr (h := h) (rxm_of2 Xm rfl rfl rfl rfl rfl rfl rfl rfl rfl rfl rfl rfl rfl rfl rfl rfl ?_) F), by rw [F.1]; omega, by rw [F.2.1]; omega⟩
  intro i hi
  obtain ⟨c1, c2, c3, c4⟩ := kn i hi
  show upd (q.xv 15) j y i = upd q.xho j y i ∧ (upd q.xho j y i = 1 → ∃ a kn hm, rup q.xtv j t i = some a ∧ B + 79 ≤ a ∧ kn ≤ 5 ∧ thf h.2.2.1 a (nI kn) hm ∧ upd (q.xv 16) j A i = nI kn ∧ upd (q.xv 17) j V i = wth kn hm) ∧ (upd q.xho j y i = 2 → upd (q.xv 16) j A i = nI (q.xhz i) ∧ ∀ k, k < 24 → q.xv 18 (24 * i + k) = q.xhp i k) ∧ (upd q.xho j y i = 3 → upd (q.xv 16) j A i = upd q.xnu j z i)
  by_cases e : i = j
  · subst e
    rw [upd_at, upd_at, upd_at, upd_at, upd_at, rup_at]
    exact ⟨rfl, h1', fun e => absurd e hy2, h3'⟩
  · rw [upd_ne e, upd_ne e, upd_ne e, upd_ne e, upd_ne e, rup_ne e]
    exact ⟨c1, c2, c3, c4⟩
end LAY1
