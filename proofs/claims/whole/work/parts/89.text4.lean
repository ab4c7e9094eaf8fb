/-! ===== 89: text, all cases ===== -/
section TX4
variable {B d : Nat} {E : Nat → va_E} {g0 : Nat → Value} {h h1 : xH} {q : RS} {m f w g : Nat → Int32} {n : Nat → Nat} {T : Nat → Nat → Int32} {p : Nat → Nat → Option Nat} {s : Nat → Nat → Int32} {Q : Option Value → xH → Prop} {adK adV : Nat → Nat} {e1 e2 e3 e4 : va_E}
theorem u_1 {r : Nat} : (xset (xset (xset (xset h (r + 7) e1) (r + 8) e2) (r + 9) e3) r e4).2.2.1 (r + 1) = h.2.2.1 (r + 1) := by rw [xset_ne (by omega), xset_ne (by omega), xset_ne (by omega), xset_ne (by omega)]
/-- a text stands behind the others -/
theorem rt_text (R : RT (B + 79) h.2.2.1 (B + 1) n T p s) (F : FW (B + 79) (fun a => Pt (B + 1) a ∨ a = B + 27 ∨ a = B + 29 ∨ a = B + 30) h h1) (hD : B + 79 ≤ h.1) (h14 : n 3 < 14) {ky A : Nat} {L : List Int32} {G : Nat → Int32} (hL : L.length ≤ 93) (hG : SRe cenc G L) (o0 : h1.2.2.1 (B + 1) = .inr (10, townF (B + 1) (va_up n 3 (n 3 + 1)) T)) (o9 : h1.2.2.1 (B + 1 + 9) = .inl (5, xrs 14 (va_up (p 1) (n 3) (some h.1)))) (ok : ∀ k, k ≤ 12 → k ≠ 0 → k ≠ 9 → h1.2.2.1 (B + 1 + k) = h.2.2.1 (B + 1 + k)) (x0 : h1.2.2.1 h.1 = .inr (8, [.int (nI ky), .int (nI A), .ref (h.1 + 1), .ref (h.1 + 2)])) (x1 : h1.2.2.1 (h.1 + 1) = .inl (0, xis L.length (cpf G (fun _ => 0) L.length))) (x2 : h1.2.2.1 (h.1 + 2) = .inl (0, xis L.length (fun _ => 0))) : RT (B + 79) h1.2.2.1 (B + 1) (va_up n 3 (n 3 + 1)) (txT T (n 3) ky A L.length (lr L)) (rup p 1 (va_up (p 1) (n 3) (some h.1))) s := by
  have hn := R.nn
  refine ⟨o0, (ok 1 (by omega) (by omega) (by omega)).trans R.aw, (ok 2 (by omega) (by omega) (by omega)).trans R.ca, (ok 3 (by omega) (by omega) (by omega)).trans R.ag, (ok 4 (by omega) (by omega) (by omega)).trans R.ow, (ok 5 (by omega) (by omega) (by omega)).trans R.wo, (ok 6 (by omega) (by omega) (by omega)).trans R.no, (ok 7 (by omega) (by omega) (by omega)).trans R.be, (ok 8 (by omega) (by omega) (by omega)).trans R.ba, o9, (ok 10 (by omega) (by omega) (by omega)).trans R.co, (ok 11 (by omega) (by omega) (by omega)).trans R.mi, (ok 12 (by omega) (by omega) (by omega)).trans R.ga, ⟨hn.1, hn.2.1, hn.2.2.1, by show n 3 + 1 ≤ 14; omega⟩, fun i hi => ?_, fun i hi => ?_, fun i i1 i2 => R.tn.1 i i1 i2, fun i i1 i2 => ?_⟩
  · obtain ⟨a, q1, q2, q3⟩ := R.th i hi
    exact ⟨a, q1, q2, F.2.1 _ _ _ q2 q3⟩
  · have hi2 : i < n 3 + 1 := hi
    by_cases c : i = n 3
    · subst c
      refine ⟨h.1, vau_at, hD, L.length, ?_, by omega, ?_, ⟨cpf G (fun _ => 0) L.length, x1, fun k hk => ?_⟩, _, x2⟩
      · exact upd_at
      · show h1.2.2.1 h.1 = .inr (8, [.int (upd (T 10) (n 3) (nI ky) (n 3)), .int (upd (T 11) (n 3) (nI A) (n 3)), .ref (h.1 + 1), .ref (h.1 + 2)])
        rw [upd_at, upd_at]; exact x0
      · rw [show cpf G (fun _ => 0) L.length k = G k from if_pos hk, SRe_at L (lr_s L) hG k hk]
        show cenc (lr L k) = cenc (txT T (n 3) ky A L.length (lr L) 13 (96 * n 3 + k))
        rw [tx13t hk]
    · obtain ⟨a, q1, q2, q3⟩ := R.tx i (by omega)
      obtain ⟨u, z1, z2, z3, ⟨fr, z4, z5⟩, z6⟩ := F.2.2 _ _ _ _ _ q2 q3
      refine ⟨a, by rw [← q1]; exact vau_ne c, q2, u, ?_, z2, ?_, ⟨fr, z4, fun k hk => ?_⟩, z6⟩
      · rw [← z1]; exact upd_ne c
      · rw [z3]
        show _ = Sum.inr (8, [Value.int (upd (T 10) (n 3) (nI ky) i), Value.int (upd (T 11) (n 3) (nI A) i), Value.ref (a + 1), Value.ref (a + 2)])
        rw [upd_ne c, upd_ne c]
      · rw [z5 k hk]
        show cenc (T 13 (96 * i + k)) = cenc (txT T (n 3) ky A L.length (lr L) 13 (96 * i + k))
        rw [tx13 (n := n) (by omega) (by omega)]
  · have i1' : n 3 + 1 ≤ i := i1
    rw [← R.tn.2 i (by omega) i2]
    exact vau_ne (by omega)
theorem l_wrT {t U : Nat} (ht : t < 14) (hU : U ≤ 96) {HM : xH} {F C mm : Nat → Int32} {r : Nat} {a b c e f g j l : Int32} (hM : HM.2.2.1 r = .inr (12, modG r mm a b c e f g (nI U) j l)) (h7 : HM.2.2.1 (r + 7) = .inl (0, xis 96 C)) {c1 : Slot} : ∀ cc k, k + cc = U → (XE (d + 11) 204 117 [.val (.ref r), c1, .val (.int (nI t)), .val (.int (nI k))] [] (xset HM (r + 1) (.inl (0, xis 1482 (cqr C F (138 + 96 * t) k)))) Q ↔ XE (d + 11) 204 152 [.val (.ref r), c1, .val (.int (nI t)), .val (.int (nI U))] [] (xset HM (r + 1) (.inl (0, xis 1482 (cqr C F (138 + 96 * t) U)))) Q) := by
  have eM : ∀ e2, (xset HM (r + 1) e2).2.2.1 r = .inr (12, modG r mm a b c e f g (nI U) j l) := fun e2 => by rw [xset_ne (by omega)]; exact hM
  have e7 : ∀ e2, (xset HM (r + 1) e2).2.2.1 (r + 7) = .inl (0, xis 96 C) := fun e2 => by rw [xset_ne (by omega)]; exact h7
  have m96 : (96 : Int32) * nI t = nI (96 * t) := pk_mul 96 t
  intro cc
  induction cc with
  | zero =>
    intro k hk
    have hlt : ¬ nI k < nI U := nI_nlt (by omega) (by omega)
    rw [s204_117]
    simp only [s204_118, s204_119, s204_122, s204_125, s204_126, s204_129, s204_132, s204_134, s204_135, s204_136, s204_137, s204_138, s204_139, s204_140, s204_143, s204_144, s204_145, s204_146, s204_149, eM, mg_15, hlt, XG_1, XO_some, XV_1, xo_n, xo_i8, xo_r8, xo_i7, xo_r7, xo_i6, xo_r6, xo_i5, xo_r5, xo_i4, xo_r4, xo_i3, xo_r3, xo_i2, xo_r2, Option.toList_some, Option.toList_none, List.cons_append, List.nil_append, bI_t, bI_f, bI_0, bI_n0, if_true, if_false, true_and, and_true, ne_eq, not_true_eq_false, not_false_eq_true, one_ne0, reduceCtorEq]
    rw [show k = U by omega]
  | succ cc ih =>
    intro k hk
    have hlt : nI k < nI U := nI_lt (by omega) (by omega)
    have hb : 138 + 96 * t + k < 1482 := by omega
    rw [s204_117]
    simp only [s204_118, s204_119, s204_122, s204_125, s204_126, s204_129, s204_132, s204_134, s204_135, s204_136, s204_137, s204_138, s204_139, s204_140, s204_143, s204_144, s204_145, s204_146, s204_149, eM, e7, mg_0, mg_14, mg_15, hlt, m96, i138, lA, XA96 (show k < 96 by omega), xset_self, XSm hb, xset_twice, cqr_s, nI_1, XG_1, XO_some, XV_1, xo_n, xo_i8, xo_r8, xo_i7, xo_r7, xo_i6, xo_r6, xo_i5, xo_r5, xo_i4, xo_r4, xo_i3, xo_r3, xo_i2, xo_r2, Option.toList_some, Option.toList_none, List.cons_append, List.nil_append, bI_t, bI_f, bI_0, bI_n0, if_true, if_false, true_and, and_true, ne_eq, not_true_eq_false, not_false_eq_true, one_ne0, reduceCtorEq]
    exact ih (k + 1) (by omega)
theorem ok_text (S : REP B E g0 h) (St : STR B E g0 adK adV) : OK B E g0 d h 106 204 [] := by
  obtain ⟨⟨n, T, p, s, m, f, w, g, q, R, I, RR, M, X⟩, hE, hg, hD, hz⟩ := S
  have SH : STH h adK adV := sth_of St hg hE
  have ha : ∀ i, i < 6 → adV i < B := fun i hi => (St.2.2 i hi).2.2.2.2.1
  have Xc := X.1
  have Xr := X.2.2.1
  have Xm := X.2.2.2
  have z96 : q.xtz ≤ 96 := Xc.1.2.2.2.1
  have k3 : m 5 = nI q.xtz := Xm.1.2.2.1
  have k4 : ∀ k, k < q.xtz → q.xv 4 k = q.xu 1 k := Xm.1.2.2.2.1
  have hn := I.nn
  have oB : ∀ e1 e2 e3, (xset (xset (xset h (B + 29) e1) (B + 30) e2) (B + 27) e3).2.2.1 B = .inr (11, objF B (bI q.xkp) (nI q.xnw)) := fun e1 e2 e3 => by rw [t_B (by omega) (by omega) (by omega)]; exact Xc.1.1
  have oN : ∀ e1 e2 e3, (xset (xset (xset h (B + 29) e1) (B + 30) e2) (B + 27) e3).2.2.1 (B + 1) = .inr (10, townF (B + 1) n T) := fun e1 e2 e3 => by rw [t_B (by omega) (by omega) (by omega)]; exact R.o
  have f7 : f 7 = nI (n 3) := M.1.2.2.2.2.2.2.2
  rcases bg_or (b := q.xu 1) (z := q.xtz) with ⟨r, hb⟩ | ⟨ky, W2, L2, A2, r, gd⟩
  · refine ⟨-100 - nI r, fun h1 => ∃ f t s k m u c o n w G O, h1 = TS h B 0 f t s k m u c o n w G O, fun Q K => c_text Xc SH ha (fun r2 hb2 f t s k m u c o n w G O => by rw [bb_u hb2 hb]; exact K _ ⟨f, t, s, k, m, u, c, o, n, w, G, O, rfl⟩) (fun ky W L A r2 gd => (bg_n hb gd).elim), fun h1 hh => ?_⟩
    obtain ⟨f1, t1, s1, k1, m1, u1, c1, o1, n1, w1, G, O, rfl⟩ := hh
    obtain ⟨A1, A2, A3, A4⟩ := ts_all (f2 := f1) (t := t1) (s := s1) (k := k1) (m2 := m1) (u := u1) (c := c1) (o := o1) (n := n1) (w2 := w1) (G := G) (O := O) hD Xc Xr RR
    refine ⟨fun a ha => (A4.at (by omega) (by omega)).trans (hE a ha), ⟨_, A3.1⟩, fun Q K => ?_⟩
    refine r_text A3 A2 k3 z96 k4 (fun r2 hb2 a c e f2 g2 i j l C W T2 => ?_) (fun ky W L A r2 gd => (bg_n hb gd).elim)
    rw [bb_u hb2 hb]
    obtain ⟨z1, z2, z3⟩ := rep_rd (f1 := f1) (t1 := t1) (s1 := s1) (k1 := k1) (m1 := m1) (u1 := u1) (c1 := c1) (o1 := o1) (n1 := n1) (w1 := w1) (G := G) (O := O) (a := a) (b := nI r) (c := c) (e := e) (f2 := f2) (g2 := g2) (i := i) (j := j) (l := l) (C := C) (W := W) (T2 := T2) R I hE hg hD hz RR M X
    exact K _ z1 z2 z3
  obtain ⟨w0, w7, wlen, wnil, wL, wwf, wdp⟩ := good_c z96 gd
  have hky : ky < 3 := gd.1
  by_cases h14 : n 3 = 14
  · have l14 : ¬ nI (n 3) < 14 := by rw [h14]; decide
    have e14 : (nI (n 3) = 14) = True := eq_true (by rw [h14]; rfl)
    refine ⟨-1000000003, fun h1 => ∃ f t s k m u c o n w G O, h1 = TS h B 0 f t s k m u c o n w G O, fun Q K => c_text Xc SH ha (fun r2 hb2 => (bg_n hb2 gd).elim) (fun ky2 W L A r2 gd2 f t s o n w G O _ _ => ?_), fun h1 hh => ?_⟩
    · simp only [s106_27, s106_28, s106_31, s106_34, s106_36, s106_39, s106_41, oB, oN, ob0, tf3, l14, XG_1, XO_some, XV_1, xo_n, xo_i8, xo_r8, xo_i7, xo_r7, xo_i6, xo_r6, xo_i5, xo_r5, xo_i4, xo_r4, xo_i3, xo_r3, xo_i2, xo_r2, Option.toList_some, Option.toList_none, List.cons_append, List.nil_append, bI_t, bI_f, bI_0, bI_n0, if_true, if_false, true_and, and_true, ne_eq, not_true_eq_false, not_false_eq_true, one_ne0, reduceCtorEq]
      exact K _ ⟨_, _, _, _, _, _, _, _, _, _, _, _, rfl⟩
    · obtain ⟨f1, t1, s1, k1, m1, u1, c1, o1, n1, w1, G, O, rfl⟩ := hh
      obtain ⟨A1, A2', A3, A4⟩ := ts_all (f2 := f1) (t := t1) (s := s1) (k := k1) (m2 := m1) (u := u1) (c := c1) (o := o1) (n := n1) (w2 := w1) (G := G) (O := O) hD Xc Xr RR
      refine ⟨fun a ha => (A4.at (by omega) (by omega)).trans (hE a ha), ⟨_, A3.1⟩, fun Q K => ?_⟩
      refine r_text A3 A2' k3 z96 k4 (fun r2 hb2 => (bg_n hb2 gd).elim) (fun ky2 W3 C2 A r2 gd2 a b c e f2 l C W T2 _ => ?_)
      have nr : (TS h B 0 f1 t1 s1 k1 m1 u1 c1 o1 n1 w1 G O).2.2.1 (B + 58 + 1) = .inl (0, xis 1482 f) := A3.2.1
      simp only [s204_51, s204_52, s204_55, s204_57, s204_58, s204_60, s204_63, s204_65, xset_self, mg_0, u_1, nr, A7, f7, e14, XG_1, XO_some, XV_1, xo_n, xo_i8, xo_r8, xo_i7, xo_r7, xo_i6, xo_r6, xo_i5, xo_r5, xo_i4, xo_r4, xo_i3, xo_r3, xo_i2, xo_r2, Option.toList_some, Option.toList_none, List.cons_append, List.nil_append, bI_t, bI_f, bI_0, bI_n0, if_true, if_false, true_and, and_true, ne_eq, not_true_eq_false, not_false_eq_true, one_ne0, reduceCtorEq]
      obtain ⟨z1, z2, z3⟩ := rep_rd (f1 := f1) (t1 := t1) (s1 := s1) (k1 := k1) (m1 := m1) (u1 := u1) (c1 := c1) (o1 := o1) (n1 := n1) (w1 := w1) (G := G) (O := O) (a := a) (b := b) (c := c) (e := e) (f2 := f2) (g2 := nI ky2) (i := nI (stl 0 W3 C2).2.length) (j := nI A) (l := l) (C := C) (W := W) (T2 := T2) R I hE hg hD hz RR M X
      exact K _ z1 z2 z3
  have ht : n 3 < 14 := by omega
  have l14 : nI (n 3) < 14 := nI_lt (b := 14) ht (by decide)
  have e14 : (nI (n 3) = 14) = False := eq_false (fun c => h14 ((nI_eq (b := 14) (by omega) (by decide)).mp c))
  refine ⟨nI (n 3), fun h1 => ∃ (h2 : xH) (f t s c o n2 w : Int32) (G O : Nat → Int32), h1 = xset (xset h2 (B + 1 + 9) (.inl (5, xrs 14 (va_up (p 1) (n 3) (some h.1))))) (B + 1) (.inr (10, townF (B + 1) (va_up n 3 (n 3 + 1)) T)) ∧ h2.1 = h.1 + 3 ∧ h2.2.1 = h.2.1 + 4 + (stl 0 W2 L2).2.length + (stl 0 W2 L2).2.length ∧ h2.2.2.2 = h.2.2.2 ∧ (∀ a, a < h.1 → h2.2.2.1 a = (TS h B 0 f t s (nI ky) (nI A2) (nI (stl 0 W2 L2).2.length) c o n2 w G O).2.2.1 a) ∧ (∀ a, h.1 + 3 ≤ a → h2.2.2.1 a = h.2.2.1 a) ∧ h2.2.2.1 h.1 = .inr (8, [.int (nI ky), .int (nI A2), .ref (h.1 + 1), .ref (h.1 + 2)]) ∧ h2.2.2.1 (h.1 + 1) = .inl (0, xis (stl 0 W2 L2).2.length (cpf G (fun _ => 0) (stl 0 W2 L2).2.length)) ∧ h2.2.2.1 (h.1 + 2) = .inl (0, xis (stl 0 W2 L2).2.length (fun _ => 0)) ∧ SRe cenc G (stl 0 W2 L2).2, fun Q K => c_text Xc SH ha (fun r2 hb2 => (bg_n hb2 gd).elim) (fun ky2 W L A r2 gd2 f t s o n2 w G O hO hG => ?_), fun h1 hh => ?_⟩
  · obtain ⟨rfl, rfl, rfl, rfl⟩ := gg_u gd gd2
    simp only [s106_27, s106_28, s106_31, s106_34, s106_36, s106_39, s106_41, s106_42, s106_43, s106_46, s106_49, s106_50, s106_53, s106_56, s106_57, s106_60, oB, oN, ob0, ob3, tf3, tf16, l14, xset_self, XG_1, XO_some, XV_1, xo_n, xo_i8, xo_r8, xo_i7, xo_r7, xo_i6, xo_r6, xo_i5, xo_r5, xo_i4, xo_r4, xo_i3, xo_r3, xo_i2, xo_r2, Option.toList_some, Option.toList_none, List.cons_append, List.nil_append, bI_t, bI_f, bI_0, bI_n0, if_true, if_false, true_and, and_true, ne_eq, not_true_eq_false, not_false_eq_true, one_ne0, reduceCtorEq]
    rw [e23]
    refine l_asT (d := d + 9) W2 L2 G 7 (by omega) w0 hO hG w7 (by omega) (fun G2 _ hG2 => ?_)
    refine l_mkT (d := d + 9) (U := (stl 0 W2 L2).2.length) (by omega) hD (fun h2 y1 y2 y3 y4 y5 y6 y7 y8 => ?_)
    show XE (d + 11) 106 63 [.val (.ref B), .val (.int (-1000000005))] [.ref h.1, .int (nI (n 3)), .ref (B + 1 + 9)] h2 Q
    have b9 : h2.2.2.1 (B + 1 + 9) = .inl (5, xrs 14 (p 1)) := by rw [y4 _ (by omega), t_B (by omega) (by omega) (by omega)]; exact R.la
    have bB : ∀ e, (xset h2 (B + 1 + 9) e).2.2.1 B = .inr (11, objF B (bI q.xkp) (nI q.xnw)) := fun e => by rw [xset_ne (by omega), y4 _ (by omega)]; exact oB _ _ _
    have bN : ∀ e, (xset h2 (B + 1 + 9) e).2.2.1 (B + 1) = .inr (10, townF (B + 1) n T) := fun e => by rw [xset_ne (by omega), y4 _ (by omega)]; exact oN _ _ _
    have bB2 : ∀ e e2, (xset (xset h2 (B + 1 + 9) e) (B + 1) e2).2.2.1 B = .inr (11, objF B (bI q.xkp) (nI q.xnw)) := fun e e2 => by rw [xset_ne (by omega)]; exact bB e
    simp only [s106_63, s106_63n, s106_64, s106_65, s106_68, s106_68r, s106_69, s106_72, s106_73, s106_74, s106_77, s106_78, s106_81, s106_84, s106_85, s106_86, b9, y6, XSr_5 (show 8 ∈ [8] from List.mem_cons_self) ht, bB, bN, bB2, ob0, tf3, XP_1 (show 3 < (townF (B + 1) n T).length by rw [tfL]; decide), nI_1, ts3, xset_self, show va_up n 3 (n 3 + 1) 3 = n 3 + 1 from rfl, nI_p1, XG_1, XO_some, XV_1, xo_n, xo_i8, xo_r8, xo_i7, xo_r7, xo_i6, xo_r6, xo_i5, xo_r5, xo_i4, xo_r4, xo_i3, xo_r3, xo_i2, xo_r2, Option.toList_some, Option.toList_none, List.cons_append, List.nil_append, bI_t, bI_f, bI_0, bI_n0, if_true, if_false, true_and, and_true, ne_eq, not_true_eq_false, not_false_eq_true, one_ne0, reduceCtorEq]
    exact K _ ⟨h2, _, _, _, _, _, _, _, G2, O, rfl, y1, y2, y3, y4, y5, y6, y7, y8, hG2⟩
  · obtain ⟨h2, f1, t1, s1, c1, o1, n1, w1, G, O, eh, y1, y2, y3, y4, y5, y6, y7, y8, hG⟩ := hh
    obtain ⟨A1, A2', A3, A4⟩ := ts_all (f2 := f1) (t := t1) (s := s1) (k := nI ky) (m2 := nI A2) (u := nI (stl 0 W2 L2).2.length) (c := c1) (o := o1) (n := n1) (w2 := w1) (G := G) (O := O) hD Xc Xr RR
    have x1 : ∀ a, a ≠ B + 1 → a ≠ B + 1 + 9 → h1.2.2.1 a = h2.2.2.1 a := fun a a1 a2 => by rw [eh, xset_ne a1, xset_ne a2]
    have xt : ∀ a, a < h.1 → a ≠ B + 1 → a ≠ B + 1 + 9 → h1.2.2.1 a = (TS h B 0 f1 t1 s1 (nI ky) (nI A2) (nI (stl 0 W2 L2).2.length) c1 o1 n1 w1 G O).2.2.1 a := fun a a0 a1 a2 => (x1 a a1 a2).trans (y4 a a0)
    have xh : ∀ a, a < h.1 → a ≠ B + 1 → a ≠ B + 1 + 9 → a ≠ B + 27 → a ≠ B + 29 → a ≠ B + 30 → h1.2.2.1 a = h.2.2.1 a := fun a a0 a1 a2 a3 a4 a5 => (xt a a0 a1 a2).trans (t_B a3 a4 a5)
    have F : FW (B + 79) (fun a => Pt (B + 1) a ∨ a = B + 27 ∨ a = B + 29 ∨ a = B + 30) h h1 := FW.mk2 hz (fun a ha hp => xh a (by omega) (fun q => hp (Or.inl ⟨by omega, by omega⟩)) (fun q => hp (Or.inl ⟨by omega, by omega⟩)) (fun q => hp (Or.inr (Or.inl q))) (fun q => hp (Or.inr (Or.inr (Or.inl q)))) (fun q => hp (Or.inr (Or.inr (Or.inr q))))) (fun a a1 a2 => xh a a2 (by omega) (by omega) (by omega) (by omega) (by omega))
    have R1 := rt_text (ky := ky) (A := A2) R F hD ht wL hG (by rw [eh]; exact xset_self) (by rw [eh, xset_ne (by omega), xset_self]) (fun k a1 a2 a3 => xh _ (by omega) (by omega) (by omega) (by omega) (by omega) (by omega)) ((x1 _ (by omega) (by omega)).trans y6) ((x1 _ (by omega) (by omega)).trans y7) ((x1 _ (by omega) (by omega)).trans y8)
    have Xc1 := rxc_eq A1 (xt B (by omega) (by omega) (by omega)) (fun a a1 a2 => xt a (by omega) (by omega) (by omega))
    have Xr1 := rxr_eq A2' (fun a a1 a2 => xt a (by omega) (by omega) (by omega))
    have RM1 := rm_eq A3 (xt _ (by omega) (by omega) (by omega)) (xt _ (by omega) (by omega) (by omega)) (xt _ (by omega) (by omega) (by omega)) (xt _ (by omega) (by omega) (by omega))
    have RI1 := X.2.1.1.fw F (by omega) (fun k hk p => by rcases p with p | p | p | p <;> omega)
    have hE1 : ∀ a, a < B → h1.2.2.1 a = E a := fun a ha => (xh a (by omega) (by omega) (by omega) (by omega) (by omega) (by omega)).trans (hE a ha)
    have h11 : h1.1 = h.1 + 3 := by rw [eh]; exact y1
    have h12 : h1.2.1 = h.2.1 + 4 + (stl 0 W2 L2).2.length + (stl 0 W2 L2).2.length := by rw [eh]; exact y2
    have h13 : h1.2.2.2 = h.2.2.2 := by rw [eh]; exact y3
    have hz1 : ∀ a, h1.1 ≤ a → h1.2.2.1 a = .inr (99, []) := fun a ha => ((x1 a (by omega) (by omega)).trans (y5 a (by omega))).trans (hz a (by omega))
    refine ⟨hE1, ⟨_, RM1.1⟩, fun Q K => ?_⟩
    have hD1 : B + 79 ≤ h1.1 := by omega
    refine r_text RM1 Xr1 k3 z96 k4 (fun r2 hb2 => (bg_n hb2 gd).elim) (fun ky2 W3 C3 A3' r2 gd2 a b c e f2 l C W T2 hC => ?_)
    obtain ⟨rfl, rfl, rfl, rfl⟩ := gg_u gd gd2
    obtain ⟨B1, B2, B3, B4⟩ := ms_all (a := a) (b := b) (c := c) (e := e) (f2 := f2) (g2 := nI ky) (i := nI (stl 0 W2 L2).2.length) (j := nI A2) (l := l) (m2 := upd m 5 0) (C := C) (W := W) (T := T2) hD1 Xc1 (rxr_of (q2 := ((q.sU 2 G).sU 3 O).sZ 0 (tapY f1 t1 s1 (nI ky) (nI A2) (nI (stl 0 W2 L2).2.length) c1 o1 n1 w1)) Xr1 rfl) RM1
    have nr : (MS h1 (B + 58) (upd m 5 0) a b c e f2 (nI ky) (nI (stl 0 W2 L2).2.length) (nI A2) l C W T2).2.2.1 (B + 58 + 1) = .inl (0, xis 1482 f) := B3.2.1
    have nm : (MS h1 (B + 58) (upd m 5 0) a b c e f2 (nI ky) (nI (stl 0 W2 L2).2.length) (nI A2) l C W T2).2.2.1 (B + 58) = .inr (12, modG (B + 58) (upd m 5 0) a b c e f2 (nI ky) (nI (stl 0 W2 L2).2.length) (nI A2) l) := xset_self
    have n7 : (MS h1 (B + 58) (upd m 5 0) a b c e f2 (nI ky) (nI (stl 0 W2 L2).2.length) (nI A2) l C W T2).2.2.1 (B + 58 + 7) = .inl (0, xis 96 C) := u_7
    generalize hHM : MS h1 (B + 58) (upd m 5 0) a b c e f2 (nI ky) (nI (stl 0 W2 L2).2.length) (nI A2) l C W T2 = HM at B1 B2 B3 B4 nr nm n7 ⊢
    have eM : ∀ e9, (xset HM (B + 58 + 1) e9).2.2.1 (B + 58) = .inr (12, modG (B + 58) (upd m 5 0) a b c e f2 (nI ky) (nI (stl 0 W2 L2).2.length) (nI A2) l) := fun e9 => by rw [xset_ne (by omega)]; exact nm
    have j0 : 110 + 2 * n 3 < 1482 := by omega
    have j1 : 110 + 2 * n 3 + 1 < 1482 := by omega
    have c7 : cqr C (upd (upd f (110 + 2 * n 3) (1000 * nI ky + nI (stl 0 W2 L2).2.length)) (110 + 2 * n 3 + 1) (nI A2)) (138 + 96 * n 3) (stl 0 W2 L2).2.length 7 = nI (n 3) := by
      rw [show cqr C (upd (upd f (110 + 2 * n 3) (1000 * nI ky + nI (stl 0 W2 L2).2.length)) (110 + 2 * n 3 + 1) (nI A2)) (138 + 96 * n 3) (stl 0 W2 L2).2.length 7 = upd (upd f (110 + 2 * n 3) (1000 * nI ky + nI (stl 0 W2 L2).2.length)) (110 + 2 * n 3 + 1) (nI A2) 7 from if_neg (by omega), upd_ne (by omega), upd_ne (by omega)]
      exact f7
    have LW := l_wrT (d := d) (Q := Q) (HM := HM) (F := upd (upd f (110 + 2 * n 3) (1000 * nI ky + nI (stl 0 W2 L2).2.length)) (110 + 2 * n 3 + 1) (nI A2)) (c1 := .val (.int 1)) ht (show (stl 0 W2 L2).2.length ≤ 96 by omega) nm n7 (stl 0 W2 L2).2.length 0 (by omega)
    rw [cqr_0] at LW
    simp only [s204_51, s204_52, s204_55, s204_57, s204_58, s204_60, s204_63, s204_65, s204_66, s204_67, s204_70, s204_72, s204_73, s204_74, s204_75, s204_78, s204_80, s204_81, s204_82, s204_83, s204_84, s204_87, s204_88, s204_91, s204_92, s204_93, s204_96, s204_97, s204_98, s204_99, s204_102, s204_104, s204_105, s204_106, s204_107, s204_108, s204_109, s204_110, s204_111, s204_114, s204_115, s204_116, nm, eM, nr, mg_0, mg_11, mg_15, mg_16, A7, f7, e14, l2m, i110, nI_1, XSm j0, XSm j1, xset_self, xset_twice, XG_1, XO_some, XV_1, xo_n, xo_i8, xo_r8, xo_i7, xo_r7, xo_i6, xo_r6, xo_i5, xo_r5, xo_i4, xo_r4, xo_i3, xo_r3, xo_i2, xo_r2, Option.toList_some, Option.toList_none, List.cons_append, List.nil_append, bI_t, bI_f, bI_0, bI_n0, if_true, if_false, true_and, and_true, ne_eq, not_true_eq_false, not_false_eq_true, one_ne0, reduceCtorEq]
    refine LW.mpr ?_
    simp only [s204_152, s204_153, s204_156, s204_158, s204_159, s204_160, s204_161, s204_162, s204_163, s204_164, eM, mg_0, xset_self, A7, S7, c7, nI_1, xset_twice, XG_1, XO_some, XV_1, xo_n, xo_i8, xo_r8, xo_i7, xo_r7, xo_i6, xo_r6, xo_i5, xo_r5, xo_i4, xo_r4, xo_i3, xo_r3, xo_i2, xo_r2, Option.toList_some, Option.toList_none, List.cons_append, List.nil_append, bI_t, bI_f, bI_0, bI_n0, if_true, if_false, true_and, and_true, ne_eq, not_true_eq_false, not_false_eq_true, one_ne0, reduceCtorEq]
    have MR2 := mr_text (ky := ky) (A := A2) (cd := C) M I ht (show (stl 0 W2 L2).2.length ≤ 95 by omega)
    rw [txT_ext (fun k hk => SRe_at (e := id) _ (lr_s _) hC k hk)] at MR2
    have IV2 := iv_text (A := A2) (cd := lr (stl 0 W2 L2).2) I ht hky (show (stl 0 W2 L2).2.length ≤ 95 by omega) ⟨wfc_l _ (lr_s _) wwf, (dpt_l _ (lr_s _)).trans wdp⟩
    have hDM : B + 79 ≤ HM.1 := by rw [B4.1]; exact hD1
    have F3 := B4.trans (FR.px (a := B + 58 + 1) (e := .inl (0, xis 1482 (txf f (n 3) ky A2 (stl 0 W2 L2).2.length C))) hDM (Or.inr ⟨by omega, by omega⟩))
    obtain ⟨⟨k1', k2, -, -, k5, k6⟩, km, kn⟩ := Xm
    have Xm2 : RXm (B + 79) h.2.2.1 (((((q.sU 2 G).sU 3 O).sZ 0 (tapY f1 t1 s1 (nI ky) (nI A2) (nI (stl 0 W2 L2).2.length) c1 o1 n1 w1)).sV 7 C).sV 8 W |>.sV 9 T2) (modM (upd m 5 0) a b c e f2 (nI ky) (nI (stl 0 W2 L2).2.length) (nI A2) l) := ⟨⟨k1', k2, rfl, fun k hk => absurd hk (Nat.not_lt_zero k), k5, k6⟩, km, kn⟩
    refine K _ (rep_of (h := h1) hE1 (h13.trans hg) hD1 hz1 F3 (fun a p => by omega) (R1.fr F3 (by omega) (fun k hk p => by omega)) IV2 (rm_f B3) MR2 ⟨rxc_v (k := 9) (F := T2) (rxc_v (k := 8) (F := W) (rxc_v (k := 7) (F := C) (xc_o B1 (by omega)))), ⟨RI1.fr F3 (by omega) (fun k hk p => by omega), X.2.1.2⟩, xr_o B2 (by omega), rxm_fr (h := h1) (rxm_fw Xm2 F) F3⟩) (by show HM.1 ≤ _; rw [B4.1]; omega) (by show HM.2.1 ≤ _; rw [B4.2.1]; omega)
end TX4
