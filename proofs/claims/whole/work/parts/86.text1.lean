/-! ===== 86: a text is taken up: numbers ===== -/
theorem SRe_ext {e : Int32 → Int32} {w g : Nat → Int32} : ∀ L : List Int32, (∀ k, k < L.length → g k = w k) → SRe e w L → SRe e g L := by
  intro L
  induction L with
  | nil => intro _ _; trivial
  | cons s L ih =>
    intro h hs
    exact ⟨(h L.length (Nat.lt_succ_self _)).trans hs.1, ih (fun k hk => h k (Nat.lt_succ_of_lt hk)) hs.2⟩
theorem dpt_ext {cd g : Nat → Int32} : ∀ u, (∀ k, k < u → g k = cd k) → dpt g u = dpt cd u := by
  intro u
  induction u with
  | zero => intro _; rfl
  | succ u ih =>
    intro h
    show (if ¬ g u < 0 then dpt g u + 1 else if g u = -10 then dpt g u else dpt g u - 1) = (if ¬ cd u < 0 then dpt cd u + 1 else if cd u = -10 then dpt cd u else dpt cd u - 1)
    rw [h u (Nat.lt_succ_self _), ih (fun k hk => h k (Nat.lt_succ_of_lt hk))]
theorem wfc_ext {cd g : Nat → Int32} {nn u : Nat} (h : ∀ k, k < u → g k = cd k) (hw : wfc cd nn u) : wfc g nn u := by
  refine ⟨fun k hk => ?_, by rw [dpt_ext u h]; exact hw.2⟩
  have := hw.1 k hk
  unfold wfk at this ⊢
  rw [h k hk, dpt_ext k (fun j hj => h j (by omega))]
  exact this
/-- the numbers with one text more -/
def txT (T : Nat → Nat → Int32) (t ky A u : Nat) (cd : Nat → Int32) : Nat → Nat → Int32
  | 10 => upd (T 10) t (nI ky)
  | 11 => upd (T 11) t (nI A)
  | 12 => upd (T 12) t (nI u)
  | 13 => cqr cd (T 13) (96 * t) u
  | k => T k
def txf (f : Nat → Int32) (t ky A u : Nat) (cd : Nat → Int32) : Nat → Int32 := upd (cqr cd (upd (upd f (110 + 2 * t) (1000 * nI ky + nI u)) (110 + 2 * t + 1) (nI A)) (138 + 96 * t) u) 7 (nI (t + 1))
section TXP
variable {n : Nat → Nat} {T : Nat → Nat → Int32} {f cd : Nat → Int32} {ky A u : Nat}
theorem tx13 {k i : Nat} (hi : i < n 3) (hk : k < 96) : txT T (n 3) ky A u cd 13 (96 * i + k) = T 13 (96 * i + k) := if_neg (by omega)
theorem tx13t {k t : Nat} (hk : k < u) : txT T t ky A u cd 13 (96 * t + k) = cd k := by
  show (if 96 * t ≤ 96 * t + k ∧ 96 * t + k < 96 * t + u then cd (96 * t + k - 96 * t) else T 13 (96 * t + k)) = cd k
  rw [if_pos ⟨by omega, by omega⟩, show 96 * t + k - 96 * t = k by omega]
theorem mr_text (M : MR n T f) (I : IV n T) (h14 : n 3 < 14) (hu : u ≤ 95) : MR (va_up n 3 (n 3 + 1)) (txT T (n 3) ky A u cd) (txf f (n 3) ky A u cd) := by
  have hn := I.nn
  have hx : ∀ j, j ≠ 7 → j < 138 → j ≠ 110 + 2 * n 3 → j ≠ 110 + 2 * n 3 + 1 → txf f (n 3) ky A u cd j = f j := fun j a1 a2 a3 a4 => by
    unfold txf
    rw [upd_ne a1, show cqr cd (upd (upd f (110 + 2 * n 3) (1000 * nI ky + nI u)) (110 + 2 * n 3 + 1) (nI A)) (138 + 96 * n 3) u j = upd (upd f (110 + 2 * n 3) (1000 * nI ky + nI u)) (110 + 2 * n 3 + 1) (nI A) j from if_neg (by omega), upd_ne a4, upd_ne a3]
  obtain ⟨⟨a0, a1, a2, a3, a4, a5, a6, a7⟩, b, c, e, k, l⟩ := M
  refine ⟨⟨(hx 0 (by omega) (by omega) (by omega) (by omega)).trans a0, (hx 1 (by omega) (by omega) (by omega) (by omega)).trans a1, (hx 2 (by omega) (by omega) (by omega) (by omega)).trans a2, (hx 3 (by omega) (by omega) (by omega) (by omega)).trans a3, (hx 4 (by omega) (by omega) (by omega) (by omega)).trans a4, (hx 5 (by omega) (by omega) (by omega) (by omega)).trans a5, (hx 6 (by omega) (by omega) (by omega) (by omega)).trans a6, upd_at⟩, fun i hi => ?_, fun i hi => ?_, fun i hi => ?_, fun i hi => ?_, fun j hj => ?_⟩
  · rw [hx _ (by omega) (by omega) (by omega) (by omega), hx _ (by omega) (by omega) (by omega) (by omega), hx _ (by omega) (by omega) (by omega) (by omega)]; exact b i hi
  · rw [hx _ (by omega) (by omega) (by omega) (by omega), hx _ (by omega) (by omega) (by omega) (by omega), hx _ (by omega) (by omega) (by omega) (by omega), hx _ (by omega) (by omega) (by omega) (by omega), hx _ (by omega) (by omega) (by omega) (by omega)]; exact c i hi
  · have hi2 : i < n 2 := hi
    rw [hx _ (by omega) (by omega) (by omega) (by omega), hx _ (by omega) (by omega) (by omega) (by omega)]; exact e i hi
  · have hi2 : i < n 3 + 1 := hi
    show txf f (n 3) ky A u cd (110 + 2 * i) = 1000 * upd (T 10) (n 3) (nI ky) i + upd (T 12) (n 3) (nI u) i ∧ txf f (n 3) ky A u cd (110 + 2 * i + 1) = upd (T 11) (n 3) (nI A) i
    by_cases q : i = n 3
    · subst q
      rw [upd_at, upd_at, upd_at]
      unfold txf
      refine ⟨?_, ?_⟩
      · rw [upd_ne (by omega), show cqr cd (upd (upd f (110 + 2 * n 3) (1000 * nI ky + nI u)) (110 + 2 * n 3 + 1) (nI A)) (138 + 96 * n 3) u (110 + 2 * n 3) = upd (upd f (110 + 2 * n 3) (1000 * nI ky + nI u)) (110 + 2 * n 3 + 1) (nI A) (110 + 2 * n 3) from if_neg (by omega), upd_ne (by omega), upd_at]
      · rw [upd_ne (by omega), show cqr cd (upd (upd f (110 + 2 * n 3) (1000 * nI ky + nI u)) (110 + 2 * n 3 + 1) (nI A)) (138 + 96 * n 3) u (110 + 2 * n 3 + 1) = upd (upd f (110 + 2 * n 3) (1000 * nI ky + nI u)) (110 + 2 * n 3 + 1) (nI A) (110 + 2 * n 3 + 1) from if_neg (by omega), upd_at]
    · rw [upd_ne q, upd_ne q, upd_ne q, hx _ (by omega) (by omega) (by omega) (by omega), hx _ (by omega) (by omega) (by omega) (by omega)]
      exact k i (by omega)
  · unfold txf
    rw [upd_ne (by omega)]
    show cqr cd _ (138 + 96 * n 3) u (138 + j) = cqr cd (T 13) (96 * n 3) u j
    unfold cqr
    by_cases q : 96 * n 3 ≤ j ∧ j < 96 * n 3 + u
    · rw [if_pos q, if_pos ⟨by omega, by omega⟩, show 138 + j - (138 + 96 * n 3) = j - 96 * n 3 by omega]
    · rw [if_neg q, if_neg (by omega), upd_ne (by omega), upd_ne (by omega)]
      exact l j hj
theorem iv_text (I : IV n T) (h14 : n 3 < 14) (hk : ky < 3) (hu : u ≤ 95) (hw : wfc cd (nnk ky) u) : IV (va_up n 3 (n 3 + 1)) (txT T (n 3) ky A u cd) := by
  have hn := I.nn
  refine ⟨⟨hn.1, hn.2.1, hn.2.2.1, by show n 3 + 1 ≤ 14; omega⟩, I.pt, I.ow, I.wo, I.be, I.th, I.sy, I.hi, fun i hi => ?_⟩
  have hi2 : i < n 3 + 1 := hi
  by_cases q : i = n 3
  · subst q
    refine ⟨ky, u, hk, upd_at, upd_at, hu, wfc_ext (fun k hk => ?_) hw⟩
    exact tx13t hk
  · obtain ⟨k1, u1, c1, c2, c3, c4, c5⟩ := I.tx i (by omega)
    exact ⟨k1, u1, c1, (upd_ne q).trans c2, (upd_ne q).trans c3, c4, wfc_ext (fun k hk => tx13 (by omega) (by omega)) c5⟩
end TXP
theorem rxc_eq {B : Nat} {c c2 : Nat → va_E} {q : RS} (X : RXc B c q) (e0 : c2 B = c B) (e : ∀ a, B + 27 ≤ a → a < B + 58 → c2 a = c a) : RXc B c2 q := by
  obtain ⟨⟨c1, c2, c3, c4, c5, c6, c7, c8, c9, c10, c11⟩, cs, cl⟩ := X
  refine ⟨⟨e0.trans c1, c2, (e _ (by omega) (by omega)).trans c3, c4, (e _ (by omega) (by omega)).trans c5, (e _ (by omega) (by omega)).trans c6, (e _ (by omega) (by omega)).trans c7, (e _ (by omega) (by omega)).trans c8, (e _ (by omega) (by omega)).trans c9, (e _ (by omega) (by omega)).trans c10, (e _ (by omega) (by omega)).trans c11⟩, fun i hi => ?_, fun i hi => ?_⟩
  · obtain ⟨a1, a2, a3⟩ := cs i hi
    exact ⟨(e _ (by omega) (by omega)).trans a1, (e _ (by omega) (by omega)).trans a2, a3⟩
  · obtain ⟨a1, a2, a3, a4⟩ := cl i hi
    exact ⟨(e _ (by omega) (by omega)).trans a1, (e _ (by omega) (by omega)).trans a2, (e _ (by omega) (by omega)).trans a3, a4⟩
theorem rxr_eq {B : Nat} {c c2 : Nat → va_E} {q : RS} (X : RXr B c q) (e : ∀ a, B + 60 ≤ a → a < B + 79 → c2 a = c a) : RXr B c2 q := by
  obtain ⟨r1, r2, r3, r4, r5, r6, r7, r8, r9, r10, r11, r12, r13, r14, r15, r16, r17⟩ := X
  exact ⟨(e _ (by omega) (by omega)).trans r1, (e _ (by omega) (by omega)).trans r2, (e _ (by omega) (by omega)).trans r3, (e _ (by omega) (by omega)).trans r4, (e _ (by omega) (by omega)).trans r5, (e _ (by omega) (by omega)).trans r6, (e _ (by omega) (by omega)).trans r7, (e _ (by omega) (by omega)).trans r8, (e _ (by omega) (by omega)).trans r9, (e _ (by omega) (by omega)).trans r10, (e _ (by omega) (by omega)).trans r11, (e _ (by omega) (by omega)).trans r12, (e _ (by omega) (by omega)).trans r13, (e _ (by omega) (by omega)).trans r14, (e _ (by omega) (by omega)).trans r15, (e _ (by omega) (by omega)).trans r16, (e _ (by omega) (by omega)).trans r17⟩
section TX3
variable {B Dy t : Nat} {h h1 : xH} {q : RS} {m f w g : Nat → Int32} {P : Nat → Prop}
theorem FW.mk2 (hz : ∀ a, h.1 ≤ a → h.2.2.1 a = .inr (99, [])) (hp : ∀ a, a < Dy → ¬ P a → h1.2.2.1 a = h.2.2.1 a) (hs : ∀ a, Dy ≤ a → a < h.1 → h1.2.2.1 a = h.2.2.1 a) : FW Dy P h h1 := by
  have nz : ∀ a (e : va_E), h.2.2.1 a = e → ¬ e = .inr (99, []) → a < h.1 := fun a e he hn => by
    by_cases q : a < h.1
    · exact q
    · exact absurd (he.symm.trans (hz a (by omega))) hn
  refine ⟨hp, fun a kk hm ha q => ?_, fun a ky tm us cd ha q => ?_⟩
  · obtain ⟨kn, q1, q2, q3⟩ := q
    have := nz a _ q3 (fun e => by
      have q4 := (Prod.mk.inj (Sum.inr.inj e)).2
      cases q4)
    exact ⟨kn, q1, q2, (hs a ha this).trans q3⟩
  · obtain ⟨u, q1, q2, q3, ⟨f, q4, q5⟩, g, q6⟩ := q
    have a0 := nz a _ q3 (fun e => by
      have q4 := (Prod.mk.inj (Sum.inr.inj e)).2
      cases q4)
    have a1 := nz (a + 1) _ q4 (fun e => by cases e)
    have a2 := nz (a + 2) _ q6 (fun e => by cases e)
    exact ⟨u, q1, q2, (hs a ha a0).trans q3, ⟨f, (hs _ (by omega) a1).trans q4, q5⟩, g, (hs _ (by omega) a2).trans q6⟩
theorem rxm_fw (X : RXm (B + 79) h.2.2.1 q m) (F : FW (B + 79) P h h1) : RXm (B + 79) h1.2.2.1 q m := by
  obtain ⟨m0, m1, m3⟩ := X
  refine ⟨m0, m1, fun i hi => ?_⟩
  obtain ⟨a1, a2, a3, a4⟩ := m3 i hi
  refine ⟨a1, fun ho => ?_, a3, a4⟩
  obtain ⟨a, kn, hm, b1, b2, b3, b4, b5⟩ := a2 ho
  exact ⟨a, kn, hm, b1, b2, b3, F.2.1 _ _ _ b2 b4, b5⟩
theorem rm_eq {r : Nat} (R : RM h.2.2.1 r m f w g) (e0 : h1.2.2.1 r = h.2.2.1 r) (e1 : h1.2.2.1 (r + 1) = h.2.2.1 (r + 1)) (e2 : h1.2.2.1 (r + 10) = h.2.2.1 (r + 10)) (e3 : h1.2.2.1 (r + 11) = h.2.2.1 (r + 11)) : RM h1.2.2.1 r m f w g := ⟨e0.trans R.1, e1.trans R.2.1, e2.trans R.2.2.1, e3.trans R.2.2.2⟩
/-- the reference's cells, where a text has been read -/
theorem ms_all {a b c e f2 g2 i j l : Int32} {m2 C W T : Nat → Int32} (hD : B + 79 ≤ h.1) (Xc : RXc B h.2.2.1 q) (Xr : RXr B h.2.2.1 q) (R : RM h.2.2.1 (B + 58) m f w g) : RXc B (MS h (B + 58) m2 a b c e f2 g2 i j l C W T).2.2.1 q ∧ RXr B (MS h (B + 58) m2 a b c e f2 g2 i j l C W T).2.2.1 (((q.sV 7 C).sV 8 W).sV 9 T) ∧ RM (MS h (B + 58) m2 a b c e f2 g2 i j l C W T).2.2.1 (B + 58) (modM m2 a b c e f2 g2 i j l) f w g ∧ FR (B + 79) (PX B) h (MS h (B + 58) m2 a b c e f2 g2 i j l C W T) := by
  refine ⟨xc_o (xc_o (xc_o (xc_o Xc (by omega)) (by omega)) (by omega)) (by omega), xr_o (xr_9 (xr_8 (xr_7 Xr))) (by omega), ?_, ?_⟩
  · have R1 := rm_o (rm_o (rm_o R (a := B + 58 + 7) (e := .inl (0, xis 96 C)) (by omega) (by omega) (by omega) (by omega)) (a := B + 58 + 8) (e := .inl (0, xis 96 W)) (by omega) (by omega) (by omega) (by omega)) (a := B + 58 + 9) (e := .inl (1, xis 10 T)) (by omega) (by omega) (by omega) (by omega)
    exact rm_m (m2 := modM m2 a b c e f2 g2 i j l) R1
  · have F1 : FR (B + 79) (PX B) h (xset h (B + 58 + 7) (.inl (0, xis 96 C))) := FR.px hD (Or.inr ⟨by omega, by omega⟩)
    have F2 := F1.trans (FR.px (a := B + 58 + 8) (e := .inl (0, xis 96 W)) hD (Or.inr ⟨by omega, by omega⟩))
    have F3 := F2.trans (FR.px (a := B + 58 + 9) (e := .inl (1, xis 10 T)) hD (Or.inr ⟨by omega, by omega⟩))
    exact F3.trans (FR.px (a := B + 58) (e := .inr (12, modG (B + 58) m2 a b c e f2 g2 i j l)) hD (Or.inr ⟨by omega, by omega⟩))
def tapY (f t s k m u c o n w : Int32) : Nat → Int32 := fun i => [0, 0, f, t, s, k, m, 0, u, 0, c, o, n, w].getD i 0
theorem tapY_F {z f t s k m u c o n w : Int32} : tapG B z f t s k m u c o n w = tapF B z (tapY f t s k m u c o n w) := rfl
/-- the class's cells, where a text has been read -/
theorem ts_all {f2 t s k m2 u c o n w2 : Int32} {G O : Nat → Int32} (hD : B + 79 ≤ h.1) (Xc : RXc B h.2.2.1 q) (Xr : RXr B h.2.2.1 q) (R : RM h.2.2.1 (B + 58) m f w g) : RXc B (TS h B 0 f2 t s k m2 u c o n w2 G O).2.2.1 (((q.sU 2 G).sU 3 O).sZ 0 (tapY f2 t s k m2 u c o n w2)) ∧ RXr B (TS h B 0 f2 t s k m2 u c o n w2 G O).2.2.1 q ∧ RM (TS h B 0 f2 t s k m2 u c o n w2 G O).2.2.1 (B + 58) m f w g ∧ FR (B + 79) (PX B) h (TS h B 0 f2 t s k m2 u c o n w2 G O) := by
  refine ⟨xc_tap (xc_u3 (xc_u2 Xc)) (v := 0) (y := tapY f2 t s k m2 u c o n w2) (by omega), xr_o (xr_o (xr_o Xr (by omega)) (by omega)) (by omega), rm_o (rm_o (rm_o R (by omega) (by omega) (by omega) (by omega)) (by omega) (by omega) (by omega) (by omega)) (by omega) (by omega) (by omega) (by omega), ?_⟩
  have F1 : FR (B + 79) (PX B) h (xset h (B + 29) (.inl (0, xis 96 G))) := FR.px hD (Or.inr ⟨by omega, by omega⟩)
  have F2 := F1.trans (FR.px (a := B + 30) (e := .inl (0, xis 96 O)) hD (Or.inr ⟨by omega, by omega⟩))
  exact F2.trans (FR.px (a := B + 27) (e := .inr (7, tapG B 0 f2 t s k m2 u c o n w2)) hD (Or.inr ⟨by omega, by omega⟩))
end TX3
