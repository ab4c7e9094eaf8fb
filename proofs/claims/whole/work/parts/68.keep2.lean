/-! ===== 68: keep, back ===== -/
def RS.sI (q : RS) (n : Nat → Nat) (T : Nat → Nat → Int32) (p : Nat → Nat → Option Nat) : RS := (q.1, rup q.2.1 1 n, T, p, q.2.2.2.2.1, q.2.2.2.2.2)
section KB
variable {B d r : Nat} {E : Nat → va_E} {g0 : Nat → Value} {h h1 h2 : xH} {q : RS} {m f w g f2 : Nat → Int32} {n : Nat → Nat} {T : Nat → Nat → Int32} {p : Nat → Nat → Option Nat} {s : Nat → Nat → Int32} {Q : Option Value → xH → Prop} {P : Nat → Prop}
theorem rxc_fr (X : RXc B h.2.2.1 q) (F : FR (B + 79) P h h1) (hp : ∀ a, P a → a ≠ B ∧ (a < B + 27 ∨ B + 58 ≤ a)) : RXc B h1.2.2.1 q := by
  have e0 : h1.2.2.1 B = h.2.2.1 B := F.at (by omega) (fun p => (hp _ p).1 rfl)
  have e : ∀ a, B + 27 ≤ a → a < B + 58 → h1.2.2.1 a = h.2.2.1 a := fun a a1 a2 => F.at (by omega) (fun p => by have := (hp _ p).2; omega)
  obtain ⟨⟨c1, c2, c3, c4, c5, c6, c7, c8, c9, c10, c11⟩, cs, cl⟩ := X
  refine ⟨⟨e0.trans c1, c2, (e _ (by omega) (by omega)).trans c3, c4, (e _ (by omega) (by omega)).trans c5, (e _ (by omega) (by omega)).trans c6, (e _ (by omega) (by omega)).trans c7, (e _ (by omega) (by omega)).trans c8, (e _ (by omega) (by omega)).trans c9, (e _ (by omega) (by omega)).trans c10, (e _ (by omega) (by omega)).trans c11⟩, fun i hi => ?_, fun i hi => ?_⟩
  · obtain ⟨a1, a2, a3⟩ := cs i hi
    exact ⟨(e _ (by omega) (by omega)).trans a1, (e _ (by omega) (by omega)).trans a2, a3⟩
  · obtain ⟨a1, a2, a3, a4⟩ := cl i hi
    exact ⟨(e _ (by omega) (by omega)).trans a1, (e _ (by omega) (by omega)).trans a2, (e _ (by omega) (by omega)).trans a3, a4⟩
theorem rxr_fr (X : RXr B h.2.2.1 q) (F : FR (B + 79) P h h1) (hp : ∀ a, P a → a < B + 60 ∨ a = B + 68 ∨ a = B + 69) : RXr B h1.2.2.1 q := by
  have e : ∀ a, B + 60 ≤ a → a < B + 79 → a ≠ B + 68 → a ≠ B + 69 → h1.2.2.1 a = h.2.2.1 a := fun a a1 a2 a3 a4 => F.at a2 (fun p => by have := hp _ p; omega)
  obtain ⟨r1, r2, r3, r4, r5, r6, r7, r8, r9, r10, r11, r12, r13, r14, r15, r16, r17⟩ := X
  exact ⟨(e _ (by omega) (by omega) (by omega) (by omega)).trans r1, (e _ (by omega) (by omega) (by omega) (by omega)).trans r2, (e _ (by omega) (by omega) (by omega) (by omega)).trans r3, (e _ (by omega) (by omega) (by omega) (by omega)).trans r4, (e _ (by omega) (by omega) (by omega) (by omega)).trans r5, (e _ (by omega) (by omega) (by omega) (by omega)).trans r6, (e _ (by omega) (by omega) (by omega) (by omega)).trans r7, (e _ (by omega) (by omega) (by omega) (by omega)).trans r8, (e _ (by omega) (by omega) (by omega) (by omega)).trans r9, (e _ (by omega) (by omega) (by omega) (by omega)).trans r10, (e _ (by omega) (by omega) (by omega) (by omega)).trans r11, (e _ (by omega) (by omega) (by omega) (by omega)).trans r12, (e _ (by omega) (by omega) (by omega) (by omega)).trans r13, (e _ (by omega) (by omega) (by omega) (by omega)).trans r14, (e _ (by omega) (by omega) (by omega) (by omega)).trans r15, (e _ (by omega) (by omega) (by omega) (by omega)).trans r16, (e _ (by omega) (by omega) (by omega) (by omega)).trans r17⟩
theorem rxc_i {c : Nat → va_E} {n2 : Nat → Nat} {T2 : Nat → Nat → Int32} {p2 : Nat → Nat → Option Nat} (X : RXc B c q) : RXc B c (q.sI n2 T2 p2) := X
theorem rm_f (R : RM h.2.2.1 r m f w g) : RM (xset h (r + 1) (.inl (0, xis 1482 f2))).2.2.1 r m f2 w g :=
  ⟨by rw [xset_ne (by omega)]; exact R.1, xset_self, by rw [xset_ne (by omega)]; exact R.2.2.1, by rw [xset_ne (by omega)]; exact R.2.2.2⟩
theorem rep_of (hE : ∀ a, a < B → h.2.2.1 a = E a) (hg : h.2.2.2 = g0) (hD : B + 79 ≤ h.1) (hz : ∀ a, h.1 ≤ a → h.2.2.1 a = .inr (99, [])) (F : FR (B + 79) P h h2) (hp : ∀ a, P a → B ≤ a) (R : RT (B + 79) h2.2.2.1 (B + 1) n T p s) (I : IV n T) (RR : RM h2.2.2.1 (B + 58) m f w g) (M : MR n T f) (X : RX B h2.2.2.1 q m) : REP B E g0 h2 := by
  refine ⟨⟨n, T, p, s, m, f, w, g, q, R, I, RR, M, X⟩, fun a ha => (F.at (by omega) (fun p => by have := hp _ p; omega)).trans (hE a ha), by rw [F.2.2.1]; exact hg, by rw [F.1]; exact hD, fun a ha => ?_⟩
  rw [F.1] at ha
  exact F.2.2.2.2.2.2 a ha (hz a ha)
theorem s223_8x {a b : Nat} {ls : List Slot} {st : List Value} : XE d 223 8 ls (.ref b :: .ref a :: st) h Q ↔ (xvo 8 st = true ∧ XC d 134 [.ref a, .ref b] h (fun v h' => XE d 223 11 ls (v.toList ++ st) h' Q)) := h_s2 rfl rfl
theorem s224_19x {a b : Nat} {ls : List Slot} {st : List Value} : XE d 224 19 ls (.ref b :: .ref a :: st) h Q ↔ (xvo 8 st = true ∧ XC d 134 [.ref a, .ref b] h (fun v h' => XE d 224 22 ls (v.toList ++ st) h' Q)) := h_s2 rfl rfl
abbrev PK (B : Nat) : Nat → Prop := fun a => a = B ∨ (B + 14 ≤ a ∧ a ≤ B + 78)
theorem ok_keep (S : REP B E g0 h) : OK B E g0 d h 120 223 [] := by
  obtain ⟨⟨n, T, p, s, m, f, w, g, q, R, I, RR, M, X⟩, hE, hg, hD, hz⟩ := S
  obtain ⟨Xc, ⟨RI, II⟩, Xr, Xm⟩ := X
  have hO := Xc.1.1
  refine ⟨nI (n 1), fun h1 => ∃ h2, FR (B + 79) (Pt (B + 14)) h h2 ∧ RT (B + 79) h2.2.2.1 (B + 14) n (bcT T q.xTi) (bcP p q.xpi) q.xsi ∧ h1 = xset h2 B (.inr (11, objF B (bI true) (nI q.xnw))), fun Q K => ?_, fun h1 hh => ?_⟩
  · rw [e120]
    simp only [s120_0, s120_1, s120_4, s120_5, s120_8, hO, ob0, ob1, RI.o, XG_1, XO_some, XV_1, xo_n, xo_i8, xo_r8, xo_i7, xo_r7, xo_i6, xo_r6, xo_i5, xo_r5, xo_i4, xo_r4, xo_i3, xo_r3, xo_i2, xo_r2, Option.toList_some, Option.toList_none, List.cons_append, List.nil_append, bI_t, bI_f, bI_0, bI_n0, if_true, if_false, true_and, and_true, ne_eq, not_true_eq_false, not_false_eq_true, one_ne0, reduceCtorEq]
    refine c_become51 RI R (by omega) (by omega) (by omega) hD (fun h2 F2 R2 => ?_)
    have O2 : h2.2.2.1 B = .inr (11, objF B (bI q.xkp) (nI q.xnw)) := (F2.at (by omega) (by omega)).trans hO
    have N2 : ∀ e, (xset h2 B e).2.2.1 (B + 1) = .inr (10, townF (B + 1) n T) := fun e => by rw [xset_ne (by omega)]; exact (F2.at (by omega) (by omega)).trans R.o
    simp only [s120_11, s120_12, s120_13, s120_16, s120_17, s120_20, s120_23, O2, ob0, XP_1 (show 2 < (objF B (bI q.xkp) (nI q.xnw)).length by rw [obL]; decide), os2, xset_self, N2, tf1, or_true, XG_1, XO_some, XV_1, xo_n, xo_i8, xo_r8, xo_i7, xo_r7, xo_i6, xo_r6, xo_i5, xo_r5, xo_i4, xo_r4, xo_i3, xo_r3, xo_i2, xo_r2, Option.toList_some, Option.toList_none, List.cons_append, List.nil_append, bI_t, bI_f, bI_0, bI_n0, if_true, if_false, true_and, and_true, ne_eq, not_true_eq_false, not_false_eq_true, one_ne0, reduceCtorEq]
    exact K _ ⟨h2, F2, R2, rfl⟩
  · obtain ⟨h2, F2, R2, rfl⟩ := hh
    have hD2 : B + 79 ≤ h2.1 := by rw [F2.1]; exact hD
    have G2 : FR (B + 79) (PK B) h h2 := F2.wide (fun a p => by omega)
    have G3 : FR (B + 79) (PK B) h2 (xset h2 B (.inr (11, objF B (bI true) (nI q.xnw)))) := FR.set (by omega) (by omega) (by omega)
    have G4 : FR (B + 79) (PX B) h2 (xset h2 B (.inr (11, objF B (bI true) (nI q.xnw)))) := FR.px hD2 (Or.inl rfl)
    have hE1 : ∀ a, a < B → (xset h2 B (.inr (11, objF B (bI true) (nI q.xnw)))).2.2.1 a = E a := fun a ha => ((G2.trans G3).at (by omega) (by omega)).trans (hE a ha)
    refine ⟨hE1, ⟨_, by rw [xset_ne (by omega)]; exact (RR.fr F2 (by omega) (fun a p => by omega)).1⟩, fun Q K => ?_⟩
    have RM1 := rm_o (RR.fr F2 (by omega) (fun a p => by omega)) (a := B) (e := .inr (11, objF B (bI true) (nI q.xnw))) (by omega) (by omega) (by omega) (by omega)
    have Xc1 := xc_obj (rxc_fr Xc F2 (fun a p => by omega)) (k := true) (v := q.xnw) Xc.1.2.1
    have Xr1 := xr_o (rxr_fr Xr F2 (fun a p => by omega)) (a := B) (e := .inr (11, objF B (bI true) (nI q.xnw))) (by omega)
    generalize hh1 : xset h2 B (.inr (11, objF B (bI true) (nI q.xnw))) = h1 at G3 G4 hE1 RM1 Xc1 Xr1
    have hD1 : B + 79 ≤ h1.1 := by rw [G3.1]; exact hD2
    have G5 : FR (B + 79) (PX B) h2 (xset h1 (B + 58 + 2) (.inl (0, xis 1482 (cpf f (q.xv 2) 1482)))) := G4.trans (FR.px hD1 (Or.inr ⟨by omega, by omega⟩))
    have G6 : FR (B + 79) (PX B) h2 (xset (xset h1 (B + 58 + 2) (.inl (0, xis 1482 (cpf f (q.xv 2) 1482)))) (B + 58) (.inr (12, modelF (B + 58) (upd m 3 1)))) := G5.trans (FR.px hD1 (Or.inr ⟨by omega, by omega⟩))
    have G7 := G2.trans (G6.wide (P2 := PK B) (fun a p => by omega))
    have RM2 := rm_m (m2 := upd m 3 1) (rm_o RM1 (a := B + 58 + 2) (e := .inl (0, xis 1482 (cpf f (q.xv 2) 1482))) (by omega) (by omega) (by omega) (by omega))
    have Xc2 := xc_o (xc_o Xc1 (a := B + 58 + 2) (e := .inl (0, xis 1482 (cpf f (q.xv 2) 1482))) (by omega)) (a := B + 58) (e := .inr (12, modelF (B + 58) (upd m 3 1))) (by omega)
    have Xr2 := xr_o (xr_2 Xr1 (f := cpf f (q.xv 2) 1482)) (a := B + 58) (e := .inr (12, modelF (B + 58) (upd m 3 1))) (by omega)
    have Xc3 := rxc_v (k := 2) (F := cpf f (q.xv 2) 1482) (rxc_i (n2 := n) (T2 := bcT T q.xTi) (p2 := bcP p q.xpi) Xc2)
    have Xr3 := rxr_of (q2 := ((((q.sK true).sW q.xnw).sI n (bcT T q.xTi) (bcP p q.xpi)).sV 2 (cpf f (q.xv 2) 1482))) Xr2 rfl
    obtain ⟨⟨k1, k2, k3, k4, k5, k6⟩, km, kn⟩ := Xm
    have Xm3 : RXm (B + 79) h.2.2.1 ((((q.sK true).sW q.xnw).sI n (bcT T q.xTi) (bcP p q.xpi)).sV 2 (cpf f (q.xv 2) 1482)) (upd m 3 1) := ⟨⟨upd_at, fun _ => mr_bc I M, (upd_ne (by decide)).trans k3, k4, (upd_ne (by decide)).trans k5, k6⟩, km, kn⟩
    have M1 : ∀ e, (xset h1 (B + 58 + 2) e).2.2.1 (B + 58) = .inr (12, modelF (B + 58) m) := fun e => by rw [xset_ne (by omega)]; exact RM1.1
    have r1 : ∀ e e2, (xset (xset h1 (B + 58 + 2) e) (B + 58) e2).2.2.1 (B + 58 + 1) = .inl (0, xis 1482 f) := fun e e2 => by rw [xset_ne (by omega), xset_ne (by omega)]; exact RM1.2.1
    have f2e : f 2 = nI (n 1) := M.1.2.2.1
    rw [e223]
    simp only [s223_0, s223_1, s223_4, s223_5, RM1.1, mf0, mf1, XG_1, XO_some, XV_1, xo_n, xo_i8, xo_r8, xo_i7, xo_r7, xo_i6, xo_r6, xo_i5, xo_r5, xo_i4, xo_r4, xo_i3, xo_r3, xo_i2, xo_r2, Option.toList_some, Option.toList_none, List.cons_append, List.nil_append, bI_t, bI_f, bI_0, bI_n0, if_true, if_false, true_and, and_true, ne_eq, not_true_eq_false, not_false_eq_true, one_ne0, reduceCtorEq]
    rw [s223_8x]
    refine ⟨rfl, (c_copyAll (by omega) RM1.2.1 Xr1.1).mpr ?_⟩
    simp only [s223_11, s223_12, s223_13, s223_16, s223_17, s223_20, s223_21, s223_22, M1, mf0, XP_1 (show 3 < (modelF (B + 58) m).length by rw [mfL]; decide), ms3, xset_self, r1, A2, f2e, or_true, XG_1, XO_some, XV_1, xo_n, xo_i8, xo_r8, xo_i7, xo_r7, xo_i6, xo_r6, xo_i5, xo_r5, xo_i4, xo_r4, xo_i3, xo_r3, xo_i2, xo_r2, Option.toList_some, Option.toList_none, List.cons_append, List.nil_append, bI_t, bI_f, bI_0, bI_n0, if_true, if_false, true_and, and_true, ne_eq, not_true_eq_false, not_false_eq_true, one_ne0, reduceCtorEq]
    refine K _ (rep_of hE hg hD hz G7 (fun a p => by omega) (R.fr G7 (by omega) (fun k hk p => by omega)) I RM2 M ⟨Xc3, ⟨R2.fr G6 (by omega) (fun k hk p => by omega), iv_bc I⟩, Xr3, rxm_fr (h := h) Xm3 G7⟩) (by rw [G7.1]; omega) (by rw [G7.2.1]; omega)
theorem ok_back (S : REP B E g0 h) : OK B E g0 d h 121 224 [] := by
  have S0 := S
  obtain ⟨⟨n, T, p, s, m, f, w, g, q, R, I, RR, M, X⟩, hE, hg, hD, hz⟩ := S
  have Xc := X.1
  have RI := X.2.1.1
  have II := X.2.1.2
  have Xr := X.2.2.1
  have Xm := X.2.2.2
  have hO := Xc.1.1
  have k1 : m 3 = bI q.xkp := Xm.1.1
  cases hk : q.xkp with
  | false =>
    refine ok_ro S0 (-1000000002) (fun Q K => ?_) (fun Q K => ?_)
    · rw [e121]; simp only [s121_0, s121_1, s121_4, s121_7, s121_10, s121_11, s121_12, s121_15, s121_16, s121_19, s121_22, s121_23, s121_26, s121_29, hO, ob2, hk, XG_1, XO_some, XV_1, xo_n, xo_i8, xo_r8, xo_i7, xo_r7, xo_i6, xo_r6, xo_i5, xo_r5, xo_i4, xo_r4, xo_i3, xo_r3, xo_i2, xo_r2, Option.toList_some, Option.toList_none, List.cons_append, List.nil_append, bI_t, bI_f, bI_0, bI_n0, if_true, if_false, true_and, and_true, ne_eq, not_true_eq_false, not_false_eq_true, one_ne0, reduceCtorEq]; exact K
    · rw [e224]; simp only [s224_0, s224_1, s224_4, s224_7, s224_10, s224_11, s224_12, s224_15, s224_16, s224_22, s224_23, s224_26, s224_27, s224_28, RR.1, mf3, k1, hk, XG_1, XO_some, XV_1, xo_n, xo_i8, xo_r8, xo_i7, xo_r7, xo_i6, xo_r6, xo_i5, xo_r5, xo_i4, xo_r4, xo_i3, xo_r3, xo_i2, xo_r2, Option.toList_some, Option.toList_none, List.cons_append, List.nil_append, bI_t, bI_f, bI_0, bI_n0, if_true, if_false, true_and, and_true, ne_eq, not_true_eq_false, not_false_eq_true, one_ne0, reduceCtorEq]; exact K
  | true =>
  have M2 := Xm.1.2.1 hk
  refine ⟨nI (q.xni 1), fun h1 => FR (B + 79) (Pt (B + 1)) h h1 ∧ RT (B + 79) h1.2.2.1 (B + 1) q.xni (bcT q.xTi T) (bcP q.xpi p) s, fun Q K => ?_, fun h1 hh => ?_⟩
  · rw [e121]
    simp only [s121_0, s121_1, s121_4, s121_7, s121_10, s121_11, s121_12, s121_15, s121_16, s121_19, hO, ob0, ob1, ob2, hk, R.o, XG_1, XO_some, XV_1, xo_n, xo_i8, xo_r8, xo_i7, xo_r7, xo_i6, xo_r6, xo_i5, xo_r5, xo_i4, xo_r4, xo_i3, xo_r3, xo_i2, xo_r2, Option.toList_some, Option.toList_none, List.cons_append, List.nil_append, bI_t, bI_f, bI_0, bI_n0, if_true, if_false, true_and, and_true, ne_eq, not_true_eq_false, not_false_eq_true, one_ne0, reduceCtorEq]
    refine c_become51 R RI (by omega) (by omega) (by omega) hD (fun h2 F2 R2 => ?_)
    have O2 : h2.2.2.1 B = .inr (11, objF B (bI q.xkp) (nI q.xnw)) := (F2.at (by omega) (by omega)).trans hO
    simp only [s121_22, s121_23, s121_26, s121_29, O2, ob0, R2.o, tf1, XG_1, XO_some, XV_1, xo_n, xo_i8, xo_r8, xo_i7, xo_r7, xo_i6, xo_r6, xo_i5, xo_r5, xo_i4, xo_r4, xo_i3, xo_r3, xo_i2, xo_r2, Option.toList_some, Option.toList_none, List.cons_append, List.nil_append, bI_t, bI_f, bI_0, bI_n0, if_true, if_false, true_and, and_true, ne_eq, not_true_eq_false, not_false_eq_true, one_ne0, reduceCtorEq]
    exact K _ ⟨F2, R2⟩
  · obtain ⟨F2, R2⟩ := hh
    have hE1 : ∀ a, a < B → h1.2.2.1 a = E a := fun a ha => (F2.at (by omega) (by omega)).trans (hE a ha)
    refine ⟨hE1, ⟨_, (RR.fr F2 (by omega) (fun a p => by omega)).1⟩, fun Q K => ?_⟩
    have RM1 := RR.fr F2 (by omega) (fun a p => by omega)
    have X1 := X.fr F2 (fun a p => Or.inl p)
    have hD1 : B + 79 ≤ h1.1 := by rw [F2.1]; exact hD
    have G2 : FR (B + 79) (fun a => Pt (B + 1) a ∨ Pn (B + 58) a) h h1 := F2.wide (fun a p => Or.inl p)
    have G3 : FR (B + 79) (Pn (B + 58)) h1 (xset h1 (B + 58 + 1) (.inl (0, xis 1482 (cpf (q.xv 2) f 1482)))) := FR.set (by omega) (Or.inl rfl) (by omega)
    have G4 := G2.trans (G3.wide (P2 := fun a => Pt (B + 1) a ∨ Pn (B + 58) a) (fun a p => Or.inr p))
    have RM2 := rm_f RM1 (f2 := cpf (q.xv 2) f 1482)
    have X2 := X1.fr G3 (fun a p => Or.inr p)
    have M3 : MR q.xni (bcT q.xTi T) (cpf (q.xv 2) f 1482) := mr_bc II M2
    have f2e : cpf (q.xv 2) f 1482 2 = nI (q.xni 1) := M3.1.2.2.1
    have r60 : h1.2.2.1 (B + 58 + 2) = .inl (0, xis 1482 (q.xv 2)) := X1.2.2.1.1
    rw [e224]
    simp only [s224_0, s224_1, s224_4, s224_7, s224_10, s224_11, s224_12, s224_15, s224_16, RM1.1, mf0, mf1, mf3, k1, hk, XG_1, XO_some, XV_1, xo_n, xo_i8, xo_r8, xo_i7, xo_r7, xo_i6, xo_r6, xo_i5, xo_r5, xo_i4, xo_r4, xo_i3, xo_r3, xo_i2, xo_r2, Option.toList_some, Option.toList_none, List.cons_append, List.nil_append, bI_t, bI_f, bI_0, bI_n0, if_true, if_false, true_and, and_true, ne_eq, not_true_eq_false, not_false_eq_true, one_ne0, reduceCtorEq]
    rw [s224_19x]
    refine ⟨rfl, (c_copyAll (by omega) r60 RM1.2.1).mpr ?_⟩
    simp only [s224_22, s224_23, s224_26, s224_27, s224_28, RM2.1, mf0, xset_self, A2, f2e, XG_1, XO_some, XV_1, xo_n, xo_i8, xo_r8, xo_i7, xo_r7, xo_i6, xo_r6, xo_i5, xo_r5, xo_i4, xo_r4, xo_i3, xo_r3, xo_i2, xo_r2, Option.toList_some, Option.toList_none, List.cons_append, List.nil_append, bI_t, bI_f, bI_0, bI_n0, if_true, if_false, true_and, and_true, ne_eq, not_true_eq_false, not_false_eq_true, one_ne0, reduceCtorEq]
    refine K _ (rep_of hE hg hD hz G4 (fun a p => by rcases p with p | p | p | p <;> omega) (R2.fr G3 (by omega) (fun k hk p => by rcases p with p | p | p <;> omega)) (iv_bc II) RM2 M3 X2) (by rw [G4.1]; omega) (by rw [G4.2.1]; omega)
end KB
