/-! ===== 45: tell, trim, mark ===== -/
theorem os5 {B : Nat} {k w v : Int32} : (objF B k w).set 5 (.int v) = objF B k v := rfl
theorem os2 {B : Nat} {k w v : Int32} : (objF B k w).set 2 (.int v) = objF B v w := rfl
theorem obL {B : Nat} {k w : Int32} : (objF B k w).length = 9 := rfl
theorem ps0 {B : Nat} {z v : Int32} {y : Nat → Int32} : (tapF B z y).set 0 (.int v) = tapF B v y := rfl
theorem tpL {B : Nat} {z : Int32} {y : Nat → Int32} : (tapF B z y).length = 14 := rfl
section TEL
variable {B d r : Nat} {E : Nat → va_E} {g0 : Nat → Value} {h h1 h2 : xH} {q : RS} {m m2 f w g : Nat → Int32} {n : Nat → Nat} {T : Nat → Nat → Int32} {p : Nat → Nat → Option Nat} {s : Nat → Nat → Int32} {Q : Option Value → xH → Prop} {x y z : Int32} {mc mr : Nat} {as : List Value}
theorem ok_w (v : Int32) (hc : ∀ Q : Option Value → xH → Prop, Q (some (.int v)) h1 → XC (d + 12) mc (.ref B :: as) h Q) (hr : ∀ Q : Option Value → xH → Prop, Q (some (.int v)) h2 → XC (d + 12) mr (.ref (B + 58) :: as) h1 Q) (hE1 : ∀ a, a < B → h1.2.2.1 a = E a) (hM1 : ∃ l, h1.2.2.1 (B + 58) = .inr (12, l)) (S2 : REP B E g0 h2) (k1 : h2.1 ≤ h.1 + 3) (k2 : h2.2.1 ≤ h.2.1 + 200) : OK B E g0 d h mc mr as :=
  ⟨v, fun h' => h' = h1, fun Q K => hc Q (K h1 rfl), fun h' e => by rw [e]; exact ⟨hE1, hM1, fun Q K => hr Q (K _ S2 k1 k2)⟩⟩
theorem rm_o (R : RM h.2.2.1 r m f w g) {a : Nat} {e : va_E} (h0 : a ≠ r) (h1 : a ≠ r + 1) (h2 : a ≠ r + 10) (h3 : a ≠ r + 11) : RM (xset h a e).2.2.1 r m f w g :=
  ⟨by rw [xset_ne (Ne.symm h0)]; exact R.1, by rw [xset_ne (Ne.symm h1)]; exact R.2.1, by rw [xset_ne (Ne.symm h2)]; exact R.2.2.1, by rw [xset_ne (Ne.symm h3)]; exact R.2.2.2⟩
theorem rm_m (R : RM h.2.2.1 r m f w g) : RM (xset h r (.inr (12, modelF r m2))).2.2.1 r m2 f w g :=
  ⟨xset_self, by rw [xset_ne (by omega)]; exact R.2.1, by rw [xset_ne (by omega)]; exact R.2.2.1, by rw [xset_ne (by omega)]; exact R.2.2.2⟩
theorem ok_tell (S : REP B E g0 h) : OK B E g0 d h 118 221 [.int x] := by
  have S0 := S
  obtain ⟨⟨n, T, p, s, m, f, w, g, q, R, I, RR, M, X⟩, hE, hg, hD, hz⟩ := S
  obtain ⟨Xc, ⟨RI, II⟩, Xr, Xm⟩ := X
  obtain ⟨⟨k1, k2, k3, k4, k5, k6⟩, km, kn⟩ := Xm
  have hO := Xc.1.1
  have hnw := Xc.1.2.1
  have r20 : h.2.2.1 (B + 58 + 20) = .inl (0, xis 60 (q.xv 20)) := Xr.2.2.2.2.2.2.2.2.2.2.2.2.2.2.2.2
  have w31 : h.2.2.1 (B + 31) = .inl (0, xis 60 (q.xu 4)) := Xc.1.2.2.2.2.2.2.2.1
  by_cases h60 : q.xnw = 60
  · refine ok_ro S0 (-1000000003) (fun Q K => ?_) (fun Q K => ?_)
    · rw [e118]; simp only [s118_0, s118_1, s118_4, s118_6, s118_9, s118_11, s118_12, s118_13, s118_16, s118_17, s118_20, s118_21, s118_22, s118_23, s118_23r, s118_24, s118_27, s118_28, s118_29, s118_32, s118_33, s118_36, hO, ob5, h60, show ((nI 60 : Int32) < 60) = False from eq_false (by decide), XG_1, XO_some, XV_1, xo_n, xo_i8, xo_r8, xo_i7, xo_r7, xo_i6, xo_r6, xo_i5, xo_r5, xo_i4, xo_r4, xo_i3, xo_r3, xo_i2, xo_r2, Option.toList_some, Option.toList_none, List.cons_append, List.nil_append, bI_t, bI_f, bI_0, bI_n0, if_true, if_false, true_and, and_true, ne_eq, not_true_eq_false, not_false_eq_true, one_ne0, reduceCtorEq]; exact K
    · rw [e221]; simp only [s221_0, s221_1, s221_4, s221_6, s221_9, s221_11, s221_12, s221_13, s221_16, s221_17, s221_20, s221_21, s221_22, s221_23, s221_23r, s221_24, s221_27, s221_28, s221_29, s221_32, s221_33, s221_36, RR.1, mf31, k5, h60, show ((nI 60 : Int32) = 60) = True from eq_true rfl, XG_1, XO_some, XV_1, xo_n, xo_i8, xo_r8, xo_i7, xo_r7, xo_i6, xo_r6, xo_i5, xo_r5, xo_i4, xo_r4, xo_i3, xo_r3, xo_i2, xo_r2, Option.toList_some, Option.toList_none, List.cons_append, List.nil_append, bI_t, bI_f, bI_0, bI_n0, if_true, if_false, true_and, and_true, ne_eq, not_true_eq_false, not_false_eq_true, one_ne0, reduceCtorEq]; exact K
  have hlt : q.xnw < 60 := by omega
  have l60 : nI q.xnw < 60 := nI_lt (b := 60) hlt (by decide)
  have n60 : ¬ nI q.xnw = 60 := by rw [show (60 : Int32) = nI 60 from rfl, nI_eq (by omega) (by decide)]; exact h60
  have eB : ∀ e, (xset h (B + 31) e).2.2.1 B = .inr (11, objF B (bI q.xkp) (nI q.xnw)) := fun e => by rw [xset_ne (by omega)]; exact hO
  have F1 : FR (B + 79) (PX B) h (xset h (B + 31) (.inl (0, xis 60 (upd (q.xu 4) q.xnw x)))) := FR.px hD (Or.inr ⟨by omega, by omega⟩)
  have F2 := F1.trans (FR.px (a := B) (e := .inr (11, objF B (bI q.xkp) (nI (q.xnw + 1)))) hD (Or.inl rfl))
  have X2 := xc_obj (xc_u4 Xc (f := upd (q.xu 4) q.xnw x)) (k := q.xkp) (v := q.xnw + 1) (by omega)
  have Y2 := xr_o (xr_o Xr (a := B + 31) (e := .inl (0, xis 60 (upd (q.xu 4) q.xnw x))) (by omega)) (a := B) (e := .inr (11, objF B (bI q.xkp) (nI (q.xnw + 1)))) (by omega)
  have R2 := rm_o (rm_o RR (a := B + 31) (e := .inl (0, xis 60 (upd (q.xu 4) q.xnw x))) (by omega) (by omega) (by omega) (by omega)) (a := B) (e := .inr (11, objF B (bI q.xkp) (nI (q.xnw + 1)))) (by omega) (by omega) (by omega) (by omega)
  generalize hh1 : xset (xset h (B + 31) (.inl (0, xis 60 (upd (q.xu 4) q.xnw x)))) B (.inr (11, objF B (bI q.xkp) (nI (q.xnw + 1)))) = h1 at F2 X2 Y2 R2
  have hD1 : B + 79 ≤ h1.1 := by rw [F2.1]; exact hD
  have F3 := F2.trans (FR.px (a := B + 58 + 20) (e := .inl (0, xis 60 (upd (q.xv 20) q.xnw x))) hD1 (Or.inr ⟨by omega, by omega⟩))
  have F4 := F3.trans (FR.px (a := B + 58) (e := .inr (12, modelF (B + 58) (upd m 31 (nI (q.xnw + 1))))) hD1 (Or.inr ⟨by omega, by omega⟩))
  have X4 := xc_o (xc_o X2 (a := B + 58 + 20) (e := .inl (0, xis 60 (upd (q.xv 20) q.xnw x))) (by omega)) (a := B + 58) (e := .inr (12, modelF (B + 58) (upd m 31 (nI (q.xnw + 1))))) (by omega)
  have Y4 := xr_o (xr_20 Y2 (f := upd (q.xv 20) q.xnw x)) (a := B + 58) (e := .inr (12, modelF (B + 58) (upd m 31 (nI (q.xnw + 1))))) (by omega)
  have R4 := rm_m (m2 := upd m 31 (nI (q.xnw + 1))) (rm_o R2 (a := B + 58 + 20) (e := .inl (0, xis 60 (upd (q.xv 20) q.xnw x))) (by omega) (by omega) (by omega) (by omega))
  have r20' : h1.2.2.1 (B + 58 + 20) = .inl (0, xis 60 (q.xv 20)) := Y2.2.2.2.2.2.2.2.2.2.2.2.2.2.2.2.2
  have e1 : ∀ e, (xset h1 (B + 58 + 20) e).2.2.1 (B + 58) = .inr (12, modelF (B + 58) m) := fun e => by rw [xset_ne (by omega)]; exact R2.1
  refine ok_w (nI (q.xnw + 1)) (fun Q K => ?_) (fun Q K => ?_) (fun a ha => (F2.at (by omega) (by omega)).trans (hE a ha)) ⟨_, R2.1⟩ (rep_px R I hE hg hD hz F4 R4 M (q2 := (((q.sU 4 (upd (q.xu 4) q.xnw x)).sK q.xkp).sW (q.xnw + 1)).sV 20 (upd (q.xv 20) q.xnw x)) X4 RI II Y4 (rxm_fr (h := h) ?_ F4)) (by rw [F4.1]; omega) (by rw [F4.2.1]; omega)
  · rw [← hh1] at K
    rw [e118]; simp only [s118_0, s118_1, s118_4, s118_6, s118_9, s118_11, s118_12, s118_13, s118_16, s118_17, s118_20, s118_21, s118_22, s118_23, s118_23r, s118_24, s118_27, s118_28, s118_29, s118_32, s118_33, s118_36, hO, ob4, ob5, w31, eB, xset_self, l60, XS60 hlt, XP_1 (show 5 < (objF B (bI q.xkp) (nI q.xnw)).length by rw [obL]; decide), os5, nI_1, XG_1, XO_some, XV_1, xo_n, xo_i8, xo_r8, xo_i7, xo_r7, xo_i6, xo_r6, xo_i5, xo_r5, xo_i4, xo_r4, xo_i3, xo_r3, xo_i2, xo_r2, Option.toList_some, Option.toList_none, List.cons_append, List.nil_append, bI_t, bI_f, bI_0, bI_n0, if_true, if_false, true_and, and_true, ne_eq, not_true_eq_false, not_false_eq_true, one_ne0, reduceCtorEq]
    exact K
  · rw [e221]; simp only [s221_0, s221_1, s221_4, s221_6, s221_9, s221_11, s221_12, s221_13, s221_16, s221_17, s221_20, s221_21, s221_22, s221_23, s221_23r, s221_24, s221_27, s221_28, s221_29, s221_32, s221_33, s221_36, R2.1, mf30, mf31, k5, n60, r20', e1, xset_self, XS60 hlt, XP_1 (show 31 < (modelF (B + 58) m).length by rw [mfL]; decide), ms31, nI_1, upd_at, XG_1, XO_some, XV_1, xo_n, xo_i8, xo_r8, xo_i7, xo_r7, xo_i6, xo_r6, xo_i5, xo_r5, xo_i4, xo_r4, xo_i3, xo_r3, xo_i2, xo_r2, Option.toList_some, Option.toList_none, List.cons_append, List.nil_append, bI_t, bI_f, bI_0, bI_n0, if_true, if_false, true_and, and_true, ne_eq, not_true_eq_false, not_false_eq_true, one_ne0, reduceCtorEq]
    exact K
  · refine ⟨⟨k1, k2, k3, k4, upd_at, fun k hk => ?_⟩, km, kn⟩
    have hk' : k < q.xnw + 1 := hk
    show upd (q.xv 20) q.xnw x k = upd (q.xu 4) q.xnw x k
    by_cases e : k = q.xnw
    · rw [e, upd_at, upd_at]
    · rw [upd_ne e, upd_ne e]; exact k6 k (by omega)
theorem ok_trim (S : REP B E g0 h) : OK B E g0 d h 105 192 [.int x] := by
  have S0 := S
  obtain ⟨⟨n, T, p, s, m, f, w, g, q, R, I, RR, M, X⟩, hE, hg, hD, hz⟩ := S
  obtain ⟨Xc, ⟨RI, II⟩, Xr, Xm⟩ := X
  obtain ⟨⟨k1, k2, k3, k4, k5, k6⟩, km, kn⟩ := Xm
  have hO := Xc.1.1
  have h27 := Xc.1.2.2.1
  have h96 := Xc.1.2.2.2.1
  cases hx : wiB x 0 (nI q.xtz) with
  | false =>
    refine ok_ro S0 BAD (fun Q K => ?_) (fun Q K => ?_)
    · rw [e105]; simp only [s105_0, s105_1, s105_2, s105_3, s105_6, s105_9, s105_12, s105_15, s105_17, s105_18, s105_19, s105_22, s105_23, s105_26, s105_27, hO, ob3, h27, tp0, c_within, hx, XG_1, XO_some, XV_1, xo_n, xo_i8, xo_r8, xo_i7, xo_r7, xo_i6, xo_r6, xo_i5, xo_r5, xo_i4, xo_r4, xo_i3, xo_r3, xo_i2, xo_r2, Option.toList_some, Option.toList_none, List.cons_append, List.nil_append, bI_t, bI_f, bI_0, bI_n0, if_true, if_false, true_and, and_true, ne_eq, not_true_eq_false, not_false_eq_true, one_ne0, reduceCtorEq]; exact K
    · rw [e192]; simp only [s192_0, s192_1, s192_2, s192_3, s192_6, s192_9, s192_12, s192_14, s192_15, s192_16, s192_17, s192_20, s192_21, RR.1, mf5, k3, c_in, hx, XG_1, XO_some, XV_1, xo_n, xo_i8, xo_r8, xo_i7, xo_r7, xo_i6, xo_r6, xo_i5, xo_r5, xo_i4, xo_r4, xo_i3, xo_r3, xo_i2, xo_r2, Option.toList_some, Option.toList_none, List.cons_append, List.nil_append, bI_t, bI_f, bI_0, bI_n0, if_true, if_false, true_and, and_true, ne_eq, not_true_eq_false, not_false_eq_true, one_ne0, reduceCtorEq]; exact K
  | true =>
  obtain ⟨j, hj, rfl⟩ := wiB_t hx (by omega)
  have F1 : FR (B + 79) (PX B) h (xset h (B + 27) (.inr (7, tapF B (nI j) (q.xu 0)))) := FR.px hD (Or.inr ⟨by omega, by omega⟩)
  have X1 := xc_tap Xc (v := j) (y := q.xu 0) (by omega)
  have Y1 := xr_o Xr (a := B + 27) (e := .inr (7, tapF B (nI j) (q.xu 0))) (by omega)
  have R1 := rm_o RR (a := B + 27) (e := .inr (7, tapF B (nI j) (q.xu 0))) (by omega) (by omega) (by omega) (by omega)
  have F2 := F1.trans (FR.px (a := B + 58) (e := .inr (12, modelF (B + 58) (upd m 5 (nI j)))) hD (Or.inr ⟨by omega, by omega⟩))
  have X2 := xc_o X1 (a := B + 58) (e := .inr (12, modelF (B + 58) (upd m 5 (nI j)))) (by omega)
  have Y2 := xr_o Y1 (a := B + 58) (e := .inr (12, modelF (B + 58) (upd m 5 (nI j)))) (by omega)
  have R2 := rm_m (m2 := upd m 5 (nI j)) R1
  refine ok_w (nI j) (fun Q K => ?_) (fun Q K => ?_) (fun a ha => (F1.at (by omega) (by omega)).trans (hE a ha)) ⟨_, R1.1⟩ (rep_px R I hE hg hD hz F2 R2 M (q2 := q.sZ j (q.xu 0)) X2 RI II Y2 (rxm_fr (h := h) ?_ F2)) (by rw [F2.1]; omega) (by rw [F2.2.1]; omega)
  · rw [e105]; simp only [s105_0, s105_1, s105_2, s105_3, s105_6, s105_9, s105_12, s105_15, s105_17, s105_18, s105_19, s105_22, s105_23, s105_26, s105_27, hO, ob3, h27, tp0, c_within, hx, XP_1 (show 0 < (tapF B (nI q.xtz) (q.xu 0)).length by rw [tpL]; decide), ps0, XG_1, XO_some, XV_1, xo_n, xo_i8, xo_r8, xo_i7, xo_r7, xo_i6, xo_r6, xo_i5, xo_r5, xo_i4, xo_r4, xo_i3, xo_r3, xo_i2, xo_r2, Option.toList_some, Option.toList_none, List.cons_append, List.nil_append, bI_t, bI_f, bI_0, bI_n0, if_true, if_false, true_and, and_true, ne_eq, not_true_eq_false, not_false_eq_true, one_ne0, reduceCtorEq]
    exact K
  · rw [e192]; simp only [s192_0, s192_1, s192_2, s192_3, s192_6, s192_9, s192_12, s192_14, s192_15, s192_16, s192_17, s192_20, s192_21, R1.1, mf5, k3, c_in, hx, XP_1 (show 5 < (modelF (B + 58) m).length by rw [mfL]; decide), ms5, XG_1, XO_some, XV_1, xo_n, xo_i8, xo_r8, xo_i7, xo_r7, xo_i6, xo_r6, xo_i5, xo_r5, xo_i4, xo_r4, xo_i3, xo_r3, xo_i2, xo_r2, Option.toList_some, Option.toList_none, List.cons_append, List.nil_append, bI_t, bI_f, bI_0, bI_n0, if_true, if_false, true_and, and_true, ne_eq, not_true_eq_false, not_false_eq_true, one_ne0, reduceCtorEq]
    exact K
  · exact ⟨⟨k1, k2, upd_at, fun k hk => k4 k (Nat.lt_of_lt_of_le hk hj), k5, k6⟩, km, kn⟩
end TEL
