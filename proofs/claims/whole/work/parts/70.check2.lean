/-! ===== 70: check, both sides ===== -/
section CHK2
variable {B d : Nat} {E : Nat → va_E} {g0 : Nat → Value} {h h1 : xH} {q : RS} {m f w g : Nat → Int32} {n : Nat → Nat} {T : Nat → Nat → Int32} {p : Nat → Nat → Option Nat} {s : Nat → Nat → Int32} {Q : Option Value → xH → Prop} {x y z v : Int32}
theorem s222_42x {a b : Nat} {ls : List Slot} {st : List Value} : XE d 222 42 ls (.ref b :: .ref a :: st) h Q ↔ (xvo 8 st = true ∧ XC d 134 [.ref a, .ref b] h (fun v h' => XE d 222 45 ls (v.toList ++ st) h' Q)) := h_s2 rfl rfl
theorem s222_53x {a b : Nat} {ls : List Slot} {st : List Value} : XE d 222 53 ls (.ref b :: .ref a :: st) h Q ↔ (xvo 8 st = true ∧ XC d 134 [.ref a, .ref b] h (fun v h' => XE d 222 56 ls (v.toList ++ st) h' Q)) := h_s2 rfl rfl
theorem s222_159x {a b : Nat} {ls : List Slot} {st : List Value} : XE d 222 159 ls (.ref b :: .ref a :: st) h Q ↔ (xvo 8 st = true ∧ XC d 134 [.ref a, .ref b] h (fun v h' => XE d 222 162 ls (v.toList ++ st) h' Q)) := h_s2 rfl rfl
theorem ok_check (S : REP B E g0 h) : OK B E g0 d h 119 222 [.int x] := by
  have S0 := S
  obtain ⟨⟨n, T, p, s, m, f, w, g, q, R, I, RR, M, X⟩, hE, hg, hD, hz⟩ := S
  obtain ⟨Xc, ⟨RI, II⟩, Xr, Xm⟩ := X
  have hO := Xc.1.1
  have hnw := Xc.1.2.1
  have k1 : m 3 = bI q.xkp := Xm.1.1
  have k5 : m 31 = nI q.xnw := Xm.1.2.2.2.2.1
  have F1 : FR (B + 79) (PX B) h (xset h B (.inr (11, objF B (bI q.xkp) 0))) := FR.px hD (Or.inl rfl)
  have X1 : RXc B (xset h B (.inr (11, objF B (bI q.xkp) 0))).2.2.1 ((q.sK q.xkp).sW 0) := xc_obj Xc (k := q.xkp) (v := 0) (by omega)
  have Y1 := xr_o Xr (a := B) (e := .inr (11, objF B (bI q.xkp) 0)) (by omega)
  have R1 := rm_o RR (a := B) (e := .inr (11, objF B (bI q.xkp) 0)) (by omega) (by omega) (by omega) (by omega)
  have L5 : 5 < (objF B (bI q.xkp) (nI q.xnw)).length := by rw [obL]; decide
  have L31 : 31 < (modelF (B + 58) m).length := by rw [mfL]; decide
  have O1 : (xset h B (.inr (11, objF B (bI q.xkp) 0))).2.2.1 B = .inr (11, objF B (bI q.xkp) 0) := xset_self
  obtain ⟨⟨-, k2, k3, k4, -, k6⟩, km, kn⟩ := Xm
  have Xm0 : RXm (B + 79) h.2.2.1 ((q.sK q.xkp).sW 0) (upd m 31 0) := ⟨⟨(upd_ne (by decide)).trans k1, k2, (upd_ne (by decide)).trans k3, k4, upd_at, fun k hk => absurd hk (Nat.not_lt_zero k)⟩, km, kn⟩
  have early : ∀ c : Int32, (∀ Q : Option Value → xH → Prop, Q (some (.int c)) (xset h B (.inr (11, objF B (bI q.xkp) 0))) → XC (d + 12) 119 [.ref B, .int x] h Q) → (∀ Q : Option Value → xH → Prop, Q (some (.int c)) (xset (xset h B (.inr (11, objF B (bI q.xkp) 0))) (B + 58) (.inr (12, modelF (B + 58) (upd m 31 0)))) → XC (d + 12) 222 [.ref (B + 58), .int x] (xset h B (.inr (11, objF B (bI q.xkp) 0))) Q) → OK B E g0 d h 119 222 [.int x] := by
    intro c hc hr
    have F2 := F1.trans (FR.px (a := B + 58) (e := .inr (12, modelF (B + 58) (upd m 31 0))) hD (Or.inr ⟨by omega, by omega⟩))
    have X2 := xc_o X1 (a := B + 58) (e := .inr (12, modelF (B + 58) (upd m 31 0))) (by omega)
    have Y2 := xr_o Y1 (a := B + 58) (e := .inr (12, modelF (B + 58) (upd m 31 0))) (by omega)
    have R2 := rm_m (m2 := upd m 31 0) R1
    exact ok_w c hc hr (fun a ha => (F1.at (by omega) (by omega)).trans (hE a ha)) ⟨_, R1.1⟩ (rep_px R I hE hg hD hz F2 R2 M X2 RI II (rxr_of (q2 := (q.sK q.xkp).sW 0) Y2 rfl) (rxm_fr (h := h) Xm0 F2)) (by rw [F2.1]; omega) (by rw [F2.2.1]; omega)
  cases hx : wiB x 1 30 with
  | false =>
    refine early BAD (fun Q K => ?_) (fun Q K => ?_)
    · rw [e119]; simp only [s119_0, s119_1, s119_4, s119_5, s119_6, s119_7, s119_10, s119_11, s119_12, s119_14, s119_17, s119_20, s119_22, s119_23, s119_24, s119_27, s119_30, s119_33, s119_34, s119_35, s119_36, s119_37, s119_40, s119_41, s119_42, s119_43, s119_44, s119_45, s119_48, s119_49, s119_50, s119_51, s119_52, s119_55, s119_56, s119_59, s119_60, s119_61, s119_62, hO, ob5, XP_1 L5, os5, c_within, hx, XG_1, XO_some, XV_1, xo_n, xo_i8, xo_r8, xo_i7, xo_r7, xo_i6, xo_r6, xo_i5, xo_r5, xo_i4, xo_r4, xo_i3, xo_r3, xo_i2, xo_r2, Option.toList_some, Option.toList_none, List.cons_append, List.nil_append, bI_t, bI_f, bI_0, bI_n0, if_true, if_false, true_and, and_true, ne_eq, not_true_eq_false, not_false_eq_true, one_ne0, reduceCtorEq]; exact K
    · rw [e222]; simp only [s222_0, s222_1, s222_4, s222_5, s222_6, s222_7, s222_10, s222_11, s222_12, s222_14, s222_17, s222_20, s222_22, s222_23, s222_24, s222_27, s222_30, s222_33, s222_34, s222_35, s222_38, s222_39, s222_45, s222_46, s222_49, s222_50, s222_56, s222_57, s222_58, s222_59, s222_63, s222_64, s222_67, s222_68, s222_69, s222_71, s222_72, s222_75, s222_76, s222_79, s222_80, s222_81, s222_82, s222_85, s222_86, s222_89, s222_90, s222_91, s222_92, s222_95, s222_96, s222_97, s222_100, s222_101, s222_104, s222_105, s222_106, s222_107, s222_108, s222_109, s222_110, s222_112, s222_113, s222_114, s222_115, s222_118, s222_119, s222_120, s222_123, s222_124, s222_127, s222_128, s222_129, s222_130, s222_133, s222_134, s222_135, s222_138, s222_139, s222_142, s222_143, s222_144, s222_145, s222_148, s222_152, s222_155, s222_156, s222_162, s222_163, s222_164, s222_167, s222_168, s222_169, s222_170, s222_171, s222_174, s222_175, s222_178, s222_179, s222_180, s222_181, R1.1, mf31, k5, XP_1 L31, ms31, c_in, hx, XG_1, XO_some, XV_1, xo_n, xo_i8, xo_r8, xo_i7, xo_r7, xo_i6, xo_r6, xo_i5, xo_r5, xo_i4, xo_r4, xo_i3, xo_r3, xo_i2, xo_r2, Option.toList_some, Option.toList_none, List.cons_append, List.nil_append, bI_t, bI_f, bI_0, bI_n0, if_true, if_false, true_and, and_true, ne_eq, not_true_eq_false, not_false_eq_true, one_ne0, reduceCtorEq]; exact K
  | true =>
  cases hk : q.xkp with
  | false =>
    have m3 : upd m 31 0 3 = 0 := by rw [upd_ne (by decide), k1, hk]; rfl
    refine early (-1000000002) (fun Q K => ?_) (fun Q K => ?_)
    · rw [e119]; simp only [s119_0, s119_1, s119_4, s119_5, s119_6, s119_7, s119_10, s119_11, s119_12, s119_14, s119_17, s119_20, s119_22, s119_23, s119_24, s119_27, s119_30, s119_33, hO, ob2, ob5, xset_self, XP_1 L5, os5, c_within, hx, XG_1, XO_some, XV_1, xo_n, xo_i8, xo_r8, xo_i7, xo_r7, xo_i6, xo_r6, xo_i5, xo_r5, xo_i4, xo_r4, xo_i3, xo_r3, xo_i2, xo_r2, Option.toList_some, Option.toList_none, List.cons_append, List.nil_append, bI_t, bI_f, bI_0, bI_n0, if_true, if_false, true_and, and_true, ne_eq, not_true_eq_false, not_false_eq_true, one_ne0, reduceCtorEq, Bool.true_eq_false]
      rw [if_pos hk]; exact K
    · rw [e222]; simp only [s222_0, s222_1, s222_4, s222_5, s222_6, s222_7, s222_10, s222_11, s222_12, s222_14, s222_17, s222_20, s222_22, s222_23, s222_24, s222_27, s222_30, s222_33, s222_34, s222_35, s222_38, s222_39, s222_45, s222_46, s222_49, s222_50, s222_56, s222_57, s222_58, s222_59, s222_63, s222_64, s222_67, s222_68, s222_69, s222_71, s222_72, s222_75, s222_76, s222_79, s222_80, s222_81, s222_82, s222_85, s222_86, s222_89, s222_90, s222_91, s222_92, s222_95, s222_96, s222_97, s222_100, s222_101, s222_104, s222_105, s222_106, s222_107, s222_108, s222_109, s222_110, s222_112, s222_113, s222_114, s222_115, s222_118, s222_119, s222_120, s222_123, s222_124, s222_127, s222_128, s222_129, s222_130, s222_133, s222_134, s222_135, s222_138, s222_139, s222_142, s222_143, s222_144, s222_145, s222_148, s222_152, s222_155, s222_156, s222_162, s222_163, s222_164, s222_167, s222_168, s222_169, s222_170, s222_171, s222_174, s222_175, s222_178, s222_179, s222_180, s222_181, R1.1, mf3, mf31, k5, xset_self, XP_1 L31, ms31, c_in, hx, m3, XG_1, XO_some, XV_1, xo_n, xo_i8, xo_r8, xo_i7, xo_r7, xo_i6, xo_r6, xo_i5, xo_r5, xo_i4, xo_r4, xo_i3, xo_r3, xo_i2, xo_r2, Option.toList_some, Option.toList_none, List.cons_append, List.nil_append, bI_t, bI_f, bI_0, bI_n0, if_true, if_false, true_and, and_true, ne_eq, not_true_eq_false, not_false_eq_true, one_ne0, reduceCtorEq, Bool.true_eq_false]; exact K
  | true =>
  obtain ⟨X0, hX, rfl⟩ := wiB_t1 (k := 30) hx (by decide)
  have MI := k2 hk
  have m2 : (2 : Int32) * nI X0 = nI (2 * X0) := pk_mul 2 X0
  have w31 : h.2.2.1 (B + 31) = .inl (0, xis 60 (q.xu 4)) := Xc.1.2.2.2.2.2.2.2.1
  have RI1 : RT (B + 79) (xset h B (.inr (11, objF B (bI q.xkp) 0))).2.2.1 (B + 14) q.xni q.xTi q.xpi q.xsi := RI.fr F1 (by omega) (fun k hk p => by omega)
  have w311 : (xset h B (.inr (11, objF B (bI q.xkp) 0))).2.2.1 (B + 31) = .inl (0, xis 60 (q.xu 4)) := by rw [xset_ne (by omega)]; exact w31
  have hD1 : B + 79 ≤ (xset h B (.inr (11, objF B (bI q.xkp) 0))).1 := hD
  have hr := chk_le (n := q.xni) (T := q.xTi) (q0 := (q.xTi 0 7, q.xTi 0 5, q.xTi 0 6)) (W := q.xu 4) (nw := q.xnw) X0 0 0 (by omega)
  generalize hR : chk q.xni q.xTi (q.xTi 0 7, q.xTi 0 5, q.xTi 0 6) (q.xu 4) q.xnw X0 0 0 = r at hr
  have eqR : (nI r = nI (2 * X0)) = (r = 2 * X0) := propext (nI_eq (by omega) (by omega))
  have eqN : (nI q.xnw = nI (2 * X0)) = (q.xnw = 2 * X0) := propext (nI_eq (by omega) (by omega))
  have eqW : (nI r = nI q.xnw) = (r = q.xnw) := propext (nI_eq (by omega) (by omega))
  refine ⟨if r = 2 * X0 ∧ q.xnw = 2 * X0 then 0 else 1 + nI r, fun h2 => ∃ s2, FR (B + 79) (Pw (B + 14)) (xset h B (.inr (11, objF B (bI q.xkp) 0))) h2 ∧ RT (B + 79) h2.2.2.1 (B + 14) q.xni q.xTi q.xpi s2, fun Q K => ?_, fun h2 hh => ?_⟩
  · rw [e119]; simp only [s119_0, s119_1, s119_4, s119_5, s119_6, s119_7, s119_10, s119_11, s119_12, s119_14, s119_17, s119_20, s119_22, s119_23, s119_24, s119_27, s119_30, s119_33, s119_34, s119_35, s119_36, s119_37, hO, ob2, ob5, xset_self, XP_1 L5, os5, c_within, hx, XG_1, XO_some, XV_1, xo_n, xo_i8, xo_r8, xo_i7, xo_r7, xo_i6, xo_r6, xo_i5, xo_r5, xo_i4, xo_r4, xo_i3, xo_r3, xo_i2, xo_r2, Option.toList_some, Option.toList_none, List.cons_append, List.nil_append, bI_t, bI_f, bI_0, bI_n0, if_true, if_false, true_and, and_true, ne_eq, not_true_eq_false, not_false_eq_true, one_ne0, reduceCtorEq, Bool.true_eq_false]
    rw [if_neg (by rw [hk]; decide)]
    refine c_hmr II hD1 RI1 O1 w311 hnw hX (fun h2 s2 F2 R2 => ?_)
    rw [hR]
    simp only [s119_40, s119_41, s119_42, s119_43, s119_44, s119_45, s119_48, s119_49, s119_50, s119_51, s119_52, s119_55, s119_56, s119_59, s119_60, s119_61, s119_62, m2, eqR, eqN, XG_1, XO_some, XV_1, xo_n, xo_i8, xo_r8, xo_i7, xo_r7, xo_i6, xo_r6, xo_i5, xo_r5, xo_i4, xo_r4, xo_i3, xo_r3, xo_i2, xo_r2, Option.toList_some, Option.toList_none, List.cons_append, List.nil_append, bI_t, bI_f, bI_0, bI_n0, if_true, if_false, true_and, and_true, ne_eq, not_true_eq_false, not_false_eq_true, one_ne0, reduceCtorEq]
    have K1 := K h2 ⟨s2, F2, R2⟩
    by_cases e1 : r = 2 * X0
    · by_cases e2 : q.xnw = 2 * X0
      · rw [if_pos ⟨e1, e2⟩] at K1
        simp only [e1, e2, if_true]; exact K1
      · rw [if_neg (fun q => e2 q.2)] at K1
        simp only [e1, e2, if_true, if_false]; rw [e1] at K1; exact K1
    · rw [if_neg (fun q => e1 q.1)] at K1
      simp only [e1, if_false]; exact K1
  · obtain ⟨s2, F2, R2⟩ := hh
    have G1 : FR (B + 79) (PK B) h (xset h B (.inr (11, objF B (bI q.xkp) 0))) := F1.wide (fun a p => by omega)
    have G2 := G1.trans (F2.wide (P2 := PK B) (fun a p => by omega))
    have hE2 : ∀ a, a < B → h2.2.2.1 a = E a := fun a ha => (G2.at (by omega) (by omega)).trans (hE a ha)
    refine ⟨hE2, ⟨_, (R1.fr F2 (by omega) (fun a p => by omega)).1⟩, fun Q K => ?_⟩
    have hD2 : B + 79 ≤ h2.1 := by rw [G2.1]; exact hD
    have RM2 := R1.fr F2 (by omega) (fun a p => by omega)
    have Xc2 := rxc_fr X1 F2 (fun a p => by omega)
    have Xr2 := rxr_fr Y1 F2 (fun a p => by omega)
    -- the reference's rows
    have RM3 := rm_m (m2 := upd m 31 0) RM2
    have Xr3 := xr_o Xr2 (a := B + 58) (e := .inr (12, modelF (B + 58) (upd m 31 0))) (by omega)
    have G3 : FR (B + 79) (PX B) h2 (xset h2 (B + 58) (.inr (12, modelF (B + 58) (upd m 31 0)))) := FR.px hD2 (Or.inr ⟨by omega, by omega⟩)
    have r61 : (xset h2 (B + 58) (.inr (12, modelF (B + 58) (upd m 31 0)))).2.2.1 (B + 58 + 3) = .inl (0, xis 1482 (q.xv 3)) := Xr3.2.1
    generalize hh3 : xset h2 (B + 58) (.inr (12, modelF (B + 58) (upd m 31 0))) = h3 at RM3 Xr3 G3 r61
    have hD3 : B + 79 ≤ h3.1 := by rw [G3.1]; exact hD2
    have RM4 := rm_o RM3 (a := B + 58 + 3) (e := .inl (0, xis 1482 (cpf f (q.xv 3) 1482))) (by omega) (by omega) (by omega) (by omega)
    have Xr4 := xr_3 Xr3 (f := cpf f (q.xv 3) 1482)
    have G4 := G3.trans (FR.px (a := B + 58 + 3) (e := .inl (0, xis 1482 (cpf f (q.xv 3) 1482))) hD3 (Or.inr ⟨by omega, by omega⟩))
    have r60 : (xset h3 (B + 58 + 3) (.inl (0, xis 1482 (cpf f (q.xv 3) 1482)))).2.2.1 (B + 58 + 2) = .inl (0, xis 1482 (q.xv 2)) := Xr4.1
    have a61 : (xset h3 (B + 58 + 3) (.inl (0, xis 1482 (cpf f (q.xv 3) 1482)))).2.2.1 (B + 58 + 3) = .inl (0, xis 1482 (cpf f (q.xv 3) 1482)) := xset_self
    have C4 := fun (Q : Option Value → xH → Prop) => c_copyAll (d := d + 10) (Q := Q) (a := B + 58 + 1) (b := B + 58 + 3) (by omega) RM3.2.1 r61
    generalize hh4 : xset h3 (B + 58 + 3) (.inl (0, xis 1482 (cpf f (q.xv 3) 1482))) = h4 at RM4 Xr4 G4 r60 a61 C4
    have hD4 : B + 79 ≤ h4.1 := by rw [G4.1]; exact hD2
    have RM5 := rm_f RM4 (f2 := cpf (q.xv 2) f 1482)
    have Xr5 := xr_o Xr4 (a := B + 58 + 1) (e := .inl (0, xis 1482 (cpf (q.xv 2) f 1482))) (by omega)
    have G5 := G4.trans (FR.px (a := B + 58 + 1) (e := .inl (0, xis 1482 (cpf (q.xv 2) f 1482))) hD4 (Or.inr ⟨by omega, by omega⟩))
    have b61 : (xset h4 (B + 58 + 1) (.inl (0, xis 1482 (cpf (q.xv 2) f 1482)))).2.2.1 (B + 58 + 3) = .inl (0, xis 1482 (cpf f (q.xv 3) 1482)) := by rw [xset_ne (by omega)]; exact a61
    have r20 : (xset h4 (B + 58 + 1) (.inl (0, xis 1482 (cpf (q.xv 2) f 1482)))).2.2.1 (B + 58 + 20) = .inl (0, xis 60 (q.xv 20)) := Xr5.2.2.2.2.2.2.2.2.2.2.2.2.2.2.2.2
    have C5 := fun (Q : Option Value → xH → Prop) => c_copyAll (d := d + 10) (Q := Q) (a := B + 58 + 2) (b := B + 58 + 1) (by omega) r60 RM4.2.1
    generalize hh5 : xset h4 (B + 58 + 1) (.inl (0, xis 1482 (cpf (q.xv 2) f 1482))) = h5 at RM5 Xr5 G5 b61 r20 C5
    have hD5 : B + 79 ≤ h5.1 := by rw [G5.1]; exact hD2
    have M5 : MR q.xni (setS q.xTi (ngs q.xni q.xTi (q.xTi 0 7, q.xTi 0 5, q.xTi 0 6) 0)) (cpf (q.xv 2) f 1482) := by
      rw [show ngs q.xni q.xTi (q.xTi 0 7, q.xTi 0 5, q.xTi 0 6) 0 = (q.xTi 0 7, q.xTi 0 5, q.xTi 0 6) from rfl, setS_id]
      exact mr_cp II MI
    rw [e222]
    simp only [s222_0, s222_1, s222_4, s222_5, s222_6, s222_7, s222_10, s222_11, s222_12, s222_14, s222_17, s222_20, s222_22, s222_23, s222_24, s222_27, s222_30, s222_33, s222_34, s222_35, s222_38, s222_39, RM2.1, hh3, RM3.1, mf0, mf2, mf3, mf31, k5, show upd m 31 0 3 = 1 from (upd_ne (by decide)).trans (by rw [k1, hk]; rfl), XP_1 L31, ms31, c_in, hx, one_ne0, XG_1, XO_some, XV_1, xo_n, xo_i8, xo_r8, xo_i7, xo_r7, xo_i6, xo_r6, xo_i5, xo_r5, xo_i4, xo_r4, xo_i3, xo_r3, xo_i2, xo_r2, Option.toList_some, Option.toList_none, List.cons_append, List.nil_append, bI_t, bI_f, bI_0, bI_n0, if_true, if_false, true_and, and_true, ne_eq, not_true_eq_false, not_false_eq_true, one_ne0, reduceCtorEq, Bool.true_eq_false]
    rw [s222_42x]
    refine ⟨rfl, (C4 _).mpr ?_⟩
    simp only [s222_45, s222_46, s222_49, s222_50, RM4.1, mf0, mf1, XG_1, XO_some, XV_1, xo_n, xo_i8, xo_r8, xo_i7, xo_r7, xo_i6, xo_r6, xo_i5, xo_r5, xo_i4, xo_r4, xo_i3, xo_r3, xo_i2, xo_r2, Option.toList_some, Option.toList_none, List.cons_append, List.nil_append, bI_t, bI_f, bI_0, bI_n0, if_true, if_false, true_and, and_true, ne_eq, not_true_eq_false, not_false_eq_true, one_ne0, reduceCtorEq]
    rw [s222_53x]
    refine ⟨rfl, (C5 _).mpr ?_⟩
    simp only [s222_56, s222_57, s222_58, s222_59, XG_1, XO_some, XV_1, xo_n, xo_i8, xo_r8, xo_i7, xo_r7, xo_i6, xo_r6, xo_i5, xo_r5, xo_i4, xo_r4, xo_i3, xo_r3, xo_i2, xo_r2, Option.toList_some, Option.toList_none, List.cons_append, List.nil_append, bI_t, bI_f, bI_0, bI_n0, if_true, if_false, true_and, and_true, ne_eq, not_true_eq_false, not_false_eq_true, one_ne0, reduceCtorEq]
    refine l_rchk II hnw k6 hX X0 0 0 h5 _ _ _ (by omega) (by omega) hD5 r20 RM5 M5 (fun h6 f6 w6 g6 c4 F6 RM6 => ?_)
    rw [hR]
    have hD6 : B + 79 ≤ h6.1 := by rw [F6.1]; exact hD5
    have c61 : h6.2.2.1 (B + 58 + 3) = .inl (0, xis 1482 (cpf f (q.xv 3) 1482)) := (F6.at (by omega) (fun p => by rcases p with p | p | p <;> omega)).trans b61
    have G6 := G5.trans (F6.wide (P2 := PX B) (fun a p => by rcases p with p | p | p <;> omega))
    have G7 := G6.trans (FR.px (a := B + 58 + 1) (e := .inl (0, xis 1482 (cpf (cpf f (q.xv 3) 1482) f6 1482))) hD6 (Or.inr ⟨by omega, by omega⟩))
    have RM7 := rm_f RM6 (f2 := cpf (cpf f (q.xv 3) 1482) f6 1482)
    have Xr6 := rxr_fr Xr5 F6 (fun a p => by rcases p with p | p | p <;> omega)
    have Xr7 := xr_o Xr6 (a := B + 58 + 1) (e := .inl (0, xis 1482 (cpf (cpf f (q.xv 3) 1482) f6 1482))) (by omega)
    have M7 : MR n T (cpf (cpf f (q.xv 3) 1482) f6 1482) := mr_cp I (mr_cp I M)
    have C7 := fun (Q : Option Value → xH → Prop) => c_copyAll (d := d + 10) (Q := Q) (a := B + 58 + 3) (b := B + 58 + 1) (by omega) c61 RM6.2.1
    have H5 : FR (B + 79) (fun a => B + 58 ≤ a) h2 h5 := by
      rw [← hh5, ← hh4, ← hh3]
      have a1 : FR (B + 79) (fun a => B + 58 ≤ a) h2 (xset h2 (B + 58) (.inr (12, modelF (B + 58) (upd m 31 0)))) := FR.set (by omega) (by omega) (by omega)
      have a2 := a1.trans (FR.set (a := B + 58 + 3) (e := .inl (0, xis 1482 (cpf f (q.xv 3) 1482))) (by omega) (by omega) (by rw [a1.1]; omega))
      exact a2.trans (FR.set (a := B + 58 + 1) (e := .inl (0, xis 1482 (cpf (q.xv 2) f 1482))) (by omega) (by omega) (by rw [a2.1]; omega))
    have H6 := H5.trans (F6.wide (P2 := fun a => B + 58 ≤ a) (fun a p => by rcases p with p | p | p <;> omega))
    have H7 := H6.trans (FR.set (a := B + 58 + 1) (e := .inl (0, xis 1482 (cpf (cpf f (q.xv 3) 1482) f6 1482))) (by omega) (by omega) (by rw [H6.1]; omega))
    have Xc7 := rxc_fr Xc2 H7 (fun a p => by omega)
    have G8 := G2.trans (G7.wide (P2 := PK B) (fun a p => by omega))
    have S7 : REP B E g0 (xset h6 (B + 58 + 1) (.inl (0, xis 1482 (cpf (cpf f (q.xv 3) 1482) f6 1482)))) := rep_of hE hg hD hz G8 (fun a p => by omega) (R.fr G8 (by omega) (fun k hk p => by omega)) I RM7 M7 ⟨rxc_v (k := 3) (F := cpf f (q.xv 3) 1482) (rxc_j (s2 := s2) Xc7), ⟨R2.fr H7 (by omega) (fun k hk p => by omega), II⟩, rxr_of (q2 := ((((q.sK q.xkp).sW 0).sJ s2).sV 3 (cpf f (q.xv 3) 1482))) Xr7 rfl, rxm_fr (h := h) ⟨⟨(upd_ne (by decide)).trans k1, k2, (upd_ne (by decide)).trans k3, k4, upd_at, fun k hk => absurd hk (Nat.not_lt_zero k)⟩, km, kn⟩ G8⟩
    have K7 := K _ S7 (by rw [G8.1]; omega) (by rw [G8.2.1]; omega)
    simp only [s222_151, s222_152, s222_155, s222_156, RM6.1, mf0, mf2, XG_1, XO_some, XV_1, xo_n, xo_i8, xo_r8, xo_i7, xo_r7, xo_i6, xo_r6, xo_i5, xo_r5, xo_i4, xo_r4, xo_i3, xo_r3, xo_i2, xo_r2, Option.toList_some, Option.toList_none, List.cons_append, List.nil_append, bI_t, bI_f, bI_0, bI_n0, if_true, if_false, true_and, and_true, ne_eq, not_true_eq_false, not_false_eq_true, one_ne0, reduceCtorEq]
    rw [s222_159x]
    refine ⟨rfl, (C7 _).mpr ?_⟩
    simp only [s222_162, s222_163, s222_164, s222_167, s222_168, s222_169, s222_170, s222_171, s222_174, s222_175, s222_178, s222_179, s222_180, s222_181, m2, eqR, eqW, XG_1, XO_some, XV_1, xo_n, xo_i8, xo_r8, xo_i7, xo_r7, xo_i6, xo_r6, xo_i5, xo_r5, xo_i4, xo_r4, xo_i3, xo_r3, xo_i2, xo_r2, Option.toList_some, Option.toList_none, List.cons_append, List.nil_append, bI_t, bI_f, bI_0, bI_n0, if_true, if_false, true_and, and_true, ne_eq, not_true_eq_false, not_false_eq_true, one_ne0, reduceCtorEq]
    by_cases e1 : r = 2 * X0
    · by_cases e2 : q.xnw = 2 * X0
      · rw [if_pos ⟨e1, e2⟩] at K7
        simp only [e1, e2, if_true]; exact K7
      · rw [if_neg (fun q => e2 q.2)] at K7
        have e3 : ¬ 2 * X0 = q.xnw := fun q => e2 q.symm
        simp only [e1, e3, if_false]; rw [e1] at K7; exact K7
    · rw [if_neg (fun q => e1 q.1)] at K7
      by_cases e3 : r = q.xnw
      · rw [if_pos e3, if_neg e1]; exact K7
      · rw [if_neg e3]; exact K7
end CHK2
