/-! ===== 88: text ===== -/
section TXT
variable {B d : Nat} {E : Nat → va_E} {g0 : Nat → Value} {h : xH} {q : RS} {m f w g : Nat → Int32} {n : Nat → Nat} {T : Nat → Nat → Int32} {p : Nat → Nat → Option Nat} {s : Nat → Nat → Int32} {Q : Option Value → xH → Prop} {adK adV : Nat → Nat} {e1 e2 e3 : va_E}
theorem t_B {a : Nat} (h1 : a ≠ B + 27) (h2 : a ≠ B + 29) (h3 : a ≠ B + 30) : (xset (xset (xset h (B + 29) e1) (B + 30) e2) (B + 27) e3).2.2.1 a = h.2.2.1 a := by rw [xset_ne h1, xset_ne h3, xset_ne h2]
/-- the class's side up to what follows a good text -/
theorem c_text (X : RXc B h.2.2.1 q) (SH : STH h adK adV) (ha : ∀ i, i < 6 → adV i < B) (K1 : ∀ r, BADq (q.xu 1) q.xtz r → ∀ f t s k m u c o n w G O, Q (some (.int (-100 - nI r))) (TS h B 0 f t s k m u c o n w G O)) (K2 : ∀ ky W L A r, GOOD (q.xu 1) q.xtz ky W L A r → ∀ f t s o n w G O, SRe asc O W → SRe cenc G L → XE (d + 11) 106 27 [.val (.ref B), .val (.int (-1000000005))] [] (TS h B 0 f t s (nI ky) (nI A) (nI L.length) (nI W.length) o n w G O) Q) : XC (d + 12) 106 [.ref B] h Q := by
  have hO := X.1.1
  have hz : q.xtz ≤ 96 := X.1.2.2.2.1
  have hb : h.2.2.1 (B + 28) = .inl (0, xis 96 (q.xu 1)) := X.1.2.2.2.2.1
  have h27 : h.2.2.1 (B + 27) = .inr (7, tapG B (nI q.xtz) (q.xu 0 2) (q.xu 0 3) (q.xu 0 4) (q.xu 0 5) (q.xu 0 6) (q.xu 0 8) (q.xu 0 10) (q.xu 0 11) (q.xu 0 12) (q.xu 0 13)) := X.1.2.2.1
  have h29 : h.2.2.1 (B + 29) = .inl (0, xis 96 (q.xu 2)) := X.1.2.2.2.2.2.1
  have h30 : h.2.2.1 (B + 30) = .inl (0, xis 96 (q.xu 3)) := X.1.2.2.2.2.2.2.1
  have hTS : TS h B (nI q.xtz) (q.xu 0 2) (q.xu 0 3) (q.xu 0 4) (q.xu 0 5) (q.xu 0 6) (q.xu 0 8) (q.xu 0 10) (q.xu 0 11) (q.xu 0 12) (q.xu 0 13) (q.xu 2) (q.xu 3) = h := by
    show xset (xset (xset h (B + 29) (.inl (0, xis 96 (q.xu 2)))) (B + 30) (.inl (0, xis 96 (q.xu 3)))) (B + 27) (.inr (7, tapG B (nI q.xtz) (q.xu 0 2) (q.xu 0 3) (q.xu 0 4) (q.xu 0 5) (q.xu 0 6) (q.xu 0 8) (q.xu 0 10) (q.xu 0 11) (q.xu 0 12) (q.xu 0 13))) = h
    rw [← h29, xset_id, ← h30, xset_id, ← h27, xset_id]
  have oB : ∀ e1 e2 e3, (xset (xset (xset h (B + 29) e1) (B + 30) e2) (B + 27) e3).2.2.1 B = .inr (11, objF B (bI q.xkp) (nI q.xnw)) := fun e1 e2 e3 => by rw [t_B (by omega) (by omega) (by omega)]; exact hO
  have hl := tf_le (b := q.xu 1) (z := q.xtz) (p := 0) (by omega)
  have bad : ∀ r, r ≤ 96 → BADq (q.xu 1) q.xtz r → ∀ f t s k m u c o n w G O, XE (d + 11) 106 7 [.val (.ref B), .unset] [.int (nI r)] (TS h B (nI q.xtz) f t s k m u c o n w G O) Q := fun r hr hbd f t s k m u c o n w G O => by
    have hn : (nI r = -1000000005) = False := eq_false (nI_NN (by omega))
    simp only [s106_7, s106_8, s106_9, s106_12, s106_13, s106_16, s106_17, s106_19, s106_22, s106_24, s106_25, s106_26, oB, ob3, xset_self, tp_0, xset_twice, hn, XG_1, XO_some, XV_1, xo_n, xo_i8, xo_r8, xo_i7, xo_r7, xo_i6, xo_r6, xo_i5, xo_r5, xo_i4, xo_r4, xo_i3, xo_r3, xo_i2, xo_r2, Option.toList_some, Option.toList_none, List.cons_append, List.nil_append, bI_t, bI_f, bI_0, bI_n0, if_true, if_false, true_and, and_true, ne_eq, not_true_eq_false, not_false_eq_true, one_ne0, reduceCtorEq]
    exact K1 r hbd _ _ _ _ _ _ _ _ _ _ _ _
  rw [← hTS, e106]
  simp only [s106_0, s106_1, s106_4, oB, ob3, xset_self, XG_1, XO_some, XV_1, xo_n, xo_i8, xo_r8, xo_i7, xo_r7, xo_i6, xo_r6, xo_i5, xo_r5, xo_i4, xo_r4, xo_i3, xo_r3, xo_i2, xo_r2, Option.toList_some, Option.toList_none, List.cons_append, List.nil_append, bI_t, bI_f, bI_0, bI_n0, if_true, if_false, true_and, and_true, ne_eq, not_true_eq_false, not_false_eq_true, one_ne0, reduceCtorEq]
  refine c_fault hb hz SH ha (fun e f t s k m u c o n w G O => ?_) (fun ky hk e r pr f t s k m u c o n w G O => ?_) (fun ky hk e W2 L2 A2 r pr f t s o n w G O hO2 hG2 => ?_)
  · exact bad _ (by omega) (Or.inl ⟨e, rfl⟩) _ _ _ _ _ _ _ _ _ _ _ _
  · have hr : r ≤ q.xtz := by
      have := prs_le (b := q.xu 1) (z := q.xtz) (ky := ky) (q.xtz + 1) (tn (q.xu 1) q.xtz 0) [] [] 0 true (tn_le (by omega))
      rw [pr] at this
      exact this
    exact bad r (by omega) (Or.inr ⟨ky, hk, e, pr⟩) _ _ _ _ _ _ _ _ _ _ _ _
  · show XE (d + 11) 106 7 [.val (.ref B), .unset] [.int (-1000000005)] (TS h B (nI q.xtz) f t s (nI ky) (nI A2) (nI L2.length) (nI W2.length) o n w G O) Q
    simp only [s106_7, s106_8, s106_9, s106_12, s106_13, s106_16, s106_17, s106_19, s106_22, s106_24, s106_25, s106_26, oB, ob3, xset_self, tp_0, xset_twice, XG_1, XO_some, XV_1, xo_n, xo_i8, xo_r8, xo_i7, xo_r7, xo_i6, xo_r6, xo_i5, xo_r5, xo_i4, xo_r4, xo_i3, xo_r3, xo_i2, xo_r2, Option.toList_some, Option.toList_none, List.cons_append, List.nil_append, bI_t, bI_f, bI_0, bI_n0, if_true, if_false, true_and, and_true, ne_eq, not_true_eq_false, not_false_eq_true, one_ne0, reduceCtorEq]
    exact K2 ky W2 L2 A2 r ⟨hk, e, pr⟩ _ _ _ _ _ _ _ _ hO2 hG2
/-- the reference's side up to what follows a good text -/
theorem r_text (RR : RM h.2.2.1 (B + 58) m f w g) (Y : RXr B h.2.2.1 q) {bb : Nat → Int32} {z : Nat} (hm : m 5 = nI z) (hz : z ≤ 96) (hy : ∀ k, k < z → q.xv 4 k = bb k) (K1 : ∀ r, BADq bb z r → ∀ a c e f g i j l C W T, Q (some (.int (-100 - nI r))) (MS h (B + 58) (upd m 5 0) a (nI r) c e f g i j l C W T)) (K2 : ∀ ky W2 C2 A2 r, GOOD bb z ky W2 C2 A2 r → ∀ a b c e f l C W T, SRe id C (stl 0 W2 C2).2 → XE (d + 11) 204 51 [.val (.ref (B + 58)), .val (.int 1), .unset, .unset] [] (MS h (B + 58) (upd m 5 0) a b c e f (nI ky) (nI (stl 0 W2 C2).2.length) (nI A2) l C W T) Q) : XC (d + 12) 204 [.ref (B + 58)] h Q := by
  have r7 : h.2.2.1 (B + 58 + 7) = .inl (0, xis 96 (q.xv 7)) := Y.2.2.2.2.2.1
  have r8 : h.2.2.1 (B + 58 + 8) = .inl (0, xis 96 (q.xv 8)) := Y.2.2.2.2.2.2.1
  have r9 : h.2.2.1 (B + 58 + 9) = .inl (1, xis 10 (q.xv 9)) := Y.2.2.2.2.2.2.2.1
  have r0 : h.2.2.1 (B + 58) = .inr (12, modG (B + 58) m (m 6) (m 7) (m 8) (m 9) (m 10) (m 11) (m 15) (m 16) (m 18)) := RR.1
  have hMS : MS h (B + 58) m (m 6) (m 7) (m 8) (m 9) (m 10) (m 11) (m 15) (m 16) (m 18) (q.xv 7) (q.xv 8) (q.xv 9) = h := by
    show xset (xset (xset (xset h (B + 58 + 7) (.inl (0, xis 96 (q.xv 7)))) (B + 58 + 8) (.inl (0, xis 96 (q.xv 8)))) (B + 58 + 9) (.inl (1, xis 10 (q.xv 9)))) (B + 58) (.inr (12, modG (B + 58) m (m 6) (m 7) (m 8) (m 9) (m 10) (m 11) (m 15) (m 16) (m 18))) = h
    rw [← r7, xset_id, ← r8, xset_id, ← r9, xset_id, ← r0, xset_id]
  rw [← hMS, e204]
  exact l_text ⟨hm, hz, q.xv 4, Y.2.2.1, hy⟩ ⟨Y.2.2.2.1, Y.2.2.2.2.1⟩ (fun r hb => K1 r hb) (fun ky hk e W2 C2 A2 r pr => K2 ky W2 C2 A2 r ⟨hk, e, pr⟩)
/-- all holds again where no text was made -/
theorem rep_rd (R : RT (B + 79) h.2.2.1 (B + 1) n T p s) (I : IV n T) (hE : ∀ a, a < B → h.2.2.1 a = E a) (hg : h.2.2.2 = g0) (hD : B + 79 ≤ h.1) (hz : ∀ a, h.1 ≤ a → h.2.2.1 a = .inr (99, [])) (RR : RM h.2.2.1 (B + 58) m f w g) (M : MR n T f) (X : RX B h.2.2.1 q m) {f1 t1 s1 k1 m1 u1 c1 o1 n1 w1 a b c e f2 g2 i j l : Int32} {G O C W T2 : Nat → Int32} : REP B E g0 (MS (TS h B 0 f1 t1 s1 k1 m1 u1 c1 o1 n1 w1 G O) (B + 58) (upd m 5 0) a b c e f2 g2 i j l C W T2) ∧ (MS (TS h B 0 f1 t1 s1 k1 m1 u1 c1 o1 n1 w1 G O) (B + 58) (upd m 5 0) a b c e f2 g2 i j l C W T2).1 ≤ h.1 + 3 ∧ (MS (TS h B 0 f1 t1 s1 k1 m1 u1 c1 o1 n1 w1 G O) (B + 58) (upd m 5 0) a b c e f2 g2 i j l C W T2).2.1 ≤ h.2.1 + 200 := by
  obtain ⟨Xc, ⟨RI, II⟩, Xr, Xm⟩ := X
  obtain ⟨A1, A2, A3, A4⟩ := ts_all (f2 := f1) (t := t1) (s := s1) (k := k1) (m2 := m1) (u := u1) (c := c1) (o := o1) (n := n1) (w2 := w1) (G := G) (O := O) hD Xc Xr RR
  have hD1 : B + 79 ≤ (TS h B 0 f1 t1 s1 k1 m1 u1 c1 o1 n1 w1 G O).1 := hD
  obtain ⟨B1, B2, B3, B4⟩ := ms_all (a := a) (b := b) (c := c) (e := e) (f2 := f2) (g2 := g2) (i := i) (j := j) (l := l) (m2 := upd m 5 0) (C := C) (W := W) (T := T2) hD1 A1 (rxr_of (q2 := ((q.sU 2 G).sU 3 O).sZ 0 (tapY f1 t1 s1 k1 m1 u1 c1 o1 n1 w1)) A2 rfl) A3
  have F := A4.trans B4
  obtain ⟨⟨k1', k2, k3, k4, k5, k6⟩, km, kn⟩ := Xm
  have Xm2 : RXm (B + 79) h.2.2.1 (((((q.sU 2 G).sU 3 O).sZ 0 (tapY f1 t1 s1 k1 m1 u1 c1 o1 n1 w1)).sV 7 C).sV 8 W |>.sV 9 T2) (modM (upd m 5 0) a b c e f2 g2 i j l) := ⟨⟨k1', k2, rfl, fun k hk => absurd hk (Nat.not_lt_zero k), k5, k6⟩, km, kn⟩
  refine ⟨rep_px R I hE hg hD hz F B3 M (rxc_v (k := 9) (F := T2) (rxc_v (k := 8) (F := W) (rxc_v (k := 7) (F := C) B1))) RI II B2 (rxm_fr (h := h) Xm2 F), by show h.1 ≤ _; omega, by show h.2.1 ≤ _; omega⟩
end TXT
