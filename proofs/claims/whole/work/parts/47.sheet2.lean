/-! ===== 47: sheet ===== -/
section SH2
variable {B d r : Nat} {E : Nat → va_E} {g0 : Nat → Value} {h h1 h2 : xH} {q : RS} {m m2 f w g : Nat → Int32} {n : Nat → Nat} {T : Nat → Nat → Int32} {p : Nat → Nat → Option Nat} {s : Nat → Nat → Int32} {Q : Option Value → xH → Prop} {x y z : Int32}
abbrev shE (h : xH) (B : Nat) (q : RS) (j k : Nat) (y : Int32) : xH := xset (xset (xset h (B + 58 + 12) (.inl (0, xis 4 (upd (q.xv 12) j y)))) (B + 58 + 13) (.inl (0, xis 4 (upd (q.xv 13) j (nI k))))) (B + 58 + 14) (.inl (0, xis 96 (zfr (q.xv 14) (24 * j) 24)))
theorem l_shEnd (R1 : RM h.2.2.1 (B + 58) m f w g) (Y : RXr B h.2.2.1 q) {j k : Nat} (hj : j < 4) (hk : (if y < 0 then 0 else z) = nI k) {c4 : Slot} : XE (d + 11) 212 41 [.val (.ref (B + 58)), .val (.int (nI j)), .val (.int y), .val (.int z), c4] [] h Q ↔ Q (some (.int (nI k))) (shE h B q j k y) := by
  have r12 : h.2.2.1 (B + 58 + 12) = .inl (0, xis 4 (q.xv 12)) := Y.2.2.2.2.2.2.2.2.1
  have r13 : h.2.2.1 (B + 58 + 13) = .inl (0, xis 4 (q.xv 13)) := Y.2.2.2.2.2.2.2.2.2.1
  have r14 : h.2.2.1 (B + 58 + 14) = .inl (0, xis 96 (q.xv 14)) := Y.2.2.2.2.2.2.2.2.2.2.1
  have e0 : ∀ e, (xset h (B + 58 + 12) e).2.2.1 (B + 58) = .inr (12, modelF (B + 58) m) := fun e => by rw [xset_ne (by omega)]; exact R1.1
  have e1 : ∀ e, (xset h (B + 58 + 12) e).2.2.1 (B + 58 + 13) = .inl (0, xis 4 (q.xv 13)) := fun e => by rw [xset_ne (by omega)]; exact r13
  have hM : ∀ e e2, (xset (xset h (B + 58 + 12) e) (B + 58 + 13) e2).2.2.1 (B + 58) = .inr (12, modelF (B + 58) m) := fun e e2 => by rw [xset_ne (by omega)]; exact e0 e
  have h14 : ∀ e e2, (xset (xset h (B + 58 + 12) e) (B + 58 + 13) e2).2.2.1 (B + 58 + 14) = .inl (0, xis 96 (zfr (q.xv 14) (24 * j) 0)) := fun e e2 => by rw [xset_ne (by omega), xset_ne (by omega), zfr_0]; exact r14
  have hM3 : ∀ e e2 e3, (xset (xset (xset h (B + 58 + 12) e) (B + 58 + 13) e2) (B + 58 + 14) e3).2.2.1 (B + 58) = .inr (12, modelF (B + 58) m) := fun e e2 e3 => by rw [xset_ne (by omega)]; exact hM e e2
  have h13 : ∀ e e2 e3, (xset (xset (xset h (B + 58 + 12) e) (B + 58 + 13) e2) (B + 58 + 14) e3).2.2.1 (B + 58 + 13) = e2 := fun e e2 e3 => by rw [xset_ne (by omega), xset_self]
  have L := l_rfill (d := d) (Q := Q) (y := y) (z := z) (h := xset (xset h (B + 58 + 12) (.inl (0, xis 4 (upd (q.xv 12) j y)))) (B + 58 + 13) (.inl (0, xis 4 (upd (q.xv 13) j (nI k))))) hj (F := q.xv 14) (hM _ _) 24 0 (by omega)
  rw [← h14 (.inl (0, xis 4 (upd (q.xv 12) j y))) (.inl (0, xis 4 (upd (q.xv 13) j (nI k)))), xset_id] at L
  simp only [s212_41, s212_42, s212_45, s212_46, s212_47, s212_48, s212_49, s212_52, s212_53, s212_54, R1.1, mf22, mf23, r12, e0, XS4 hj, XG_1, XO_some, XV_1, xo_n, xo_i8, xo_r8, xo_i7, xo_r7, xo_i6, xo_r6, xo_i5, xo_r5, xo_i4, xo_r4, xo_i3, xo_r3, xo_i2, xo_r2, Option.toList_some, Option.toList_none, List.cons_append, List.nil_append, bI_t, bI_f, bI_0, bI_n0, if_true, if_false, true_and, and_true, ne_eq, not_true_eq_false, not_false_eq_true, one_ne0, reduceCtorEq]
  have L2 : XE (d + 11) 212 62 [.val (.ref (B + 58)), .val (.int (nI j)), .val (.int y), .val (.int z), c4] [.int (nI k), .int (nI j), .ref (B + 58 + 13)] (xset h (B + 58 + 12) (.inl (0, xis 4 (upd (q.xv 12) j y)))) Q ↔ Q (some (.int (nI k))) (shE h B q j k y) := by
    simp only [s212_62, s212_63, s212_64, e1, XS4 hj, XG_1, XO_some, XV_1, xo_n, xo_i8, xo_r8, xo_i7, xo_r7, xo_i6, xo_r6, xo_i5, xo_r5, xo_i4, xo_r4, xo_i3, xo_r3, xo_i2, xo_r2, Option.toList_some, Option.toList_none, List.cons_append, List.nil_append, bI_t, bI_f, bI_0, bI_n0, if_true, if_false, true_and, and_true, ne_eq, not_true_eq_false, not_false_eq_true, one_ne0, reduceCtorEq]
    refine L.trans ?_
    simp only [s212_92, s212_93, s212_96, s212_97, s212_98, hM3, h13, mf23, XA4 hj, upd_at, XG_1, XO_some, XV_1, xo_n, xo_i8, xo_r8, xo_i7, xo_r7, xo_i6, xo_r6, xo_i5, xo_r5, xo_i4, xo_r4, xo_i3, xo_r3, xo_i2, xo_r2, Option.toList_some, Option.toList_none, List.cons_append, List.nil_append, bI_t, bI_f, bI_0, bI_n0, if_true, if_false, true_and, and_true, ne_eq, not_true_eq_false, not_false_eq_true, one_ne0, reduceCtorEq]
  by_cases hy : y < 0
  · rw [if_pos hy] at hk
    rw [← hk] at L2 ⊢
    simp only [s212_57, s212_58, s212_61, hy, XG_1, XO_some, XV_1, xo_n, xo_i8, xo_r8, xo_i7, xo_r7, xo_i6, xo_r6, xo_i5, xo_r5, xo_i4, xo_r4, xo_i3, xo_r3, xo_i2, xo_r2, Option.toList_some, Option.toList_none, List.cons_append, List.nil_append, bI_t, bI_f, bI_0, bI_n0, if_true, if_false, true_and, and_true, ne_eq, not_true_eq_false, not_false_eq_true, one_ne0, reduceCtorEq]
    exact L2
  · rw [if_neg hy] at hk
    rw [← hk] at L2 ⊢
    simp only [s212_57, s212_58, s212_61, hy, XG_1, XO_some, XV_1, xo_n, xo_i8, xo_r8, xo_i7, xo_r7, xo_i6, xo_r6, xo_i5, xo_r5, xo_i4, xo_r4, xo_i3, xo_r3, xo_i2, xo_r2, Option.toList_some, Option.toList_none, List.cons_append, List.nil_append, bI_t, bI_f, bI_0, bI_n0, if_true, if_false, true_and, and_true, ne_eq, not_true_eq_false, not_false_eq_true, one_ne0, reduceCtorEq]
    exact L2
theorem rxc_v {c : Nat → va_E} {k : Nat} {F : Nat → Int32} (X : RXc B c q) : RXc B c (q.sV k F) := X
theorem rxr_of {c : Nat → va_E} {q2 : RS} (X : RXr B c q) (e : q2.xv = q.xv) : RXr B c q2 := by
  unfold RXr at X ⊢
  rw [e]
  exact X
theorem rxm_of {c : Nat → va_E} {Dy : Nat} {q2 : RS} (X : RXm Dy c q m) (e0 : q2.xkp = q.xkp) (e1 : q2.xni = q.xni) (e2 : q2.xTi = q.xTi) (e3 : q2.xtz = q.xtz) (e4 : q2.xnw = q.xnw) (u1 : q2.xu 1 = q.xu 1) (u4 : q2.xu 4 = q.xu 4) (v2 : q2.xv 2 = q.xv 2) (v4 : q2.xv 4 = q.xv 4) (v20 : q2.xv 20 = q.xv 20) (v15 : q2.xv 15 = q.xv 15) (v16 : q2.xv 16 = q.xv 16) (v17 : q2.xv 17 = q.xv 17) (v18 : q2.xv 18 = q.xv 18) (f1 : q2.xho = q.xho) (f2 : q2.xtv = q.xtv) (f3 : q2.xhz = q.xhz) (f4 : q2.xhp = q.xhp) (f5 : q2.xnu = q.xnu) (K : ∀ i, i < 4 → q2.xv 12 i = q2.xso i ∧ q2.xv 13 i = nI (q2.xsz i) ∧ (¬ q2.xso i = -1 → ∀ k, k < 24 → q2.xv 14 (24 * i + k) = q2.xpl i k)) : RXm Dy c q2 m := by
  obtain ⟨k0, -, kn⟩ := X
  refine ⟨?_, K, ?_⟩
  · rw [e0, e1, e2, e3, e4, u1, u4, v2, v4, v20]; exact k0
  · rw [v15, v16, v17, v18, f1, f2, f3, f4, f5]; exact kn
/-- the end of sheet, on both sides -/
theorem shFin (R : RT (B + 79) h.2.2.1 (B + 1) n T p s) (I : IV n T) (hE : ∀ a, a < B → h.2.2.1 a = E a) (hg : h.2.2.2 = g0) (hD : B + 79 ≤ h.1) (hz : ∀ a, h.1 ≤ a → h.2.2.1 a = .inr (99, [])) (M : MR n T f) (RI : RT (B + 79) h.2.2.1 (B + 14) q.xni q.xTi q.xpi q.xsi) (II : IV q.xni q.xTi) (Xm : RXm (B + 79) h.2.2.1 q m) {j k : Nat} (hj : j < 4) {P2 : Nat → Nat → Int32} (hP : ¬ y = -1 → ∀ k, k < 24 → P2 j k = 0) (hP2 : ∀ i, i ≠ j → P2 i = q.xpl i) (F1 : FR (B + 79) (PX B) h h1) (X1 : RXc B h1.2.2.1 ((q.sS j y k).sG 2 P2)) (Y1 : RXr B h1.2.2.1 q) (R1 : RM h1.2.2.1 (B + 58) m f w g) : REP B E g0 (shE h1 B q j k y) ∧ (shE h1 B q j k y).1 ≤ h.1 + 3 ∧ (shE h1 B q j k y).2.1 ≤ h.2.1 + 200 := by
  have hD1 : B + 79 ≤ h1.1 := by rw [F1.1]; exact hD
  have F12 := F1.trans (FR.px (a := B + 58 + 12) (e := .inl (0, xis 4 (upd (q.xv 12) j y))) hD1 (Or.inr ⟨by omega, by omega⟩))
  have F13 := F12.trans (FR.px (a := B + 58 + 13) (e := .inl (0, xis 4 (upd (q.xv 13) j (nI k)))) hD1 (Or.inr ⟨by omega, by omega⟩))
  have F : FR (B + 79) (PX B) h (shE h1 B q j k y) := F13.trans (FR.px (a := B + 58 + 14) (e := .inl (0, xis 96 (zfr (q.xv 14) (24 * j) 24))) hD1 (Or.inr ⟨by omega, by omega⟩))
  have X2 := xc_o (xc_o (xc_o X1 (a := B + 58 + 12) (e := .inl (0, xis 4 (upd (q.xv 12) j y))) (by omega)) (a := B + 58 + 13) (e := .inl (0, xis 4 (upd (q.xv 13) j (nI k)))) (by omega)) (a := B + 58 + 14) (e := .inl (0, xis 96 (zfr (q.xv 14) (24 * j) 24))) (by omega)
  have Y2 := xr_14 (xr_13 (xr_12 Y1 (f := upd (q.xv 12) j y)) (f := upd (q.xv 13) j (nI k))) (f := zfr (q.xv 14) (24 * j) 24)
  have R2 := rm_o (rm_o (rm_o R1 (a := B + 58 + 12) (e := .inl (0, xis 4 (upd (q.xv 12) j y))) (by omega) (by omega) (by omega) (by omega)) (a := B + 58 + 13) (e := .inl (0, xis 4 (upd (q.xv 13) j (nI k)))) (by omega) (by omega) (by omega) (by omega)) (a := B + 58 + 14) (e := .inl (0, xis 96 (zfr (q.xv 14) (24 * j) 24))) (by omega) (by omega) (by omega) (by omega)
  have km := Xm.2.1
  have X3 := rxc_v (k := 14) (F := zfr (q.xv 14) (24 * j) 24) (rxc_v (k := 13) (F := upd (q.xv 13) j (nI k)) (rxc_v (k := 12) (F := upd (q.xv 12) j y) X2))
  have Y3 := rxr_of (q2 := ((((q.sS j y k).sG 2 P2).sV 12 (upd (q.xv 12) j y)).sV 13 (upd (q.xv 13) j (nI k))).sV 14 (zfr (q.xv 14) (24 * j) 24)) Y2 rfl
  refine ⟨rep_px R I hE hg hD hz F R2 M X3 RI II Y3 (rxm_fr (h := h) (rxm_of Xm rfl rfl rfl rfl rfl rfl rfl rfl rfl rfl rfl rfl rfl rfl rfl rfl rfl rfl rfl ?_) F), by rw [F.1]; omega, by rw [F.2.1]; omega⟩
  intro i hi
  obtain ⟨c1, c2, c3⟩ := km i hi
  show upd (q.xv 12) j y i = upd q.xso j y i ∧ upd (q.xv 13) j (nI k) i = nI (rup q.xsz j k i) ∧ (¬ upd q.xso j y i = -1 → ∀ k2, k2 < 24 → zfr (q.xv 14) (24 * j) 24 (24 * i + k2) = P2 i k2)
  by_cases e : i = j
  · subst e
    rw [upd_at, upd_at, upd_at, rup_at]
    refine ⟨rfl, rfl, fun hy k2 hk2 => ?_⟩
    rw [hP hy k2 hk2]
    exact if_pos ⟨by omega, by omega⟩
  · rw [upd_ne e, upd_ne e, upd_ne e, rup_ne e]
    refine ⟨c1, c2, fun hy k2 hk2 => ?_⟩
    rw [hP2 i e, ← c3 hy k2 hk2]
    exact if_neg (by omega)
theorem ok_sheet (S : REP B E g0 h) : OK B E g0 d h 109 212 [.int x, .int y, .int z] := by
  have S0 := S
  obtain ⟨⟨n, T, p, s, m, f, w, g, q, R, I, RR, M, X⟩, hE, hg, hD, hz⟩ := S
  obtain ⟨Xc, ⟨RI, II⟩, Xr, Xm⟩ := X
  have hO := Xc.1.1
  cases hx : wiB x 0 3 with
  | false =>
    refine ok_ro S0 BAD (fun Q K => ?_) (fun Q K => ?_)
    · rw [e109]; simp only [s109_0, s109_1, s109_2, s109_5, s109_5n, s109_7, s109_7n, s109_9, s109_9n, s109_12, s109_13, s109_14, s109_15, s109_18, s109_21, s109_23, s109_24, s109_25, s109_26, s109_29, s109_29n, s109_31, s109_32, s109_35, s109_35n, s109_37, s109_38, s109_41, s109_42, s109_43, s109_44, s109_46, s109_49, s109_51, s109_52, s109_53, s109_56, s109_59, s109_60, s109_60n, s109_62, s109_63, s109_66, s109_66n, s109_68, s109_69, s109_72, s109_72n, s109_74, s109_77, s109_78, s109_81, s109_82, hO, c_sheetAt Xc, hx, Bool.false_eq_true, XG_1, XO_some, XV_1, xo_n, xo_i8, xo_r8, xo_i7, xo_r7, xo_i6, xo_r6, xo_i5, xo_r5, xo_i4, xo_r4, xo_i3, xo_r3, xo_i2, xo_r2, Option.toList_some, Option.toList_none, List.cons_append, List.nil_append, bI_t, bI_f, bI_0, bI_n0, if_true, if_false, true_and, and_true, ne_eq, not_true_eq_false, not_false_eq_true, one_ne0, reduceCtorEq]; exact K
    · rw [e212]; simp only [s212_0, s212_1, s212_4, s212_7, s212_8, s212_9, s212_10, s212_13, s212_16, s212_17, s212_20, s212_21, s212_23, s212_26, s212_28, s212_29, s212_30, s212_33, s212_34, s212_37, s212_40, s212_41, s212_42, s212_45, s212_46, s212_47, s212_48, s212_49, s212_52, s212_53, s212_54, s212_57, s212_58, s212_61, s212_62, s212_63, s212_64, s212_68, s212_70, s212_73, s212_74, s212_77, s212_79, s212_80, s212_81, s212_83, s212_84, s212_85, s212_86, s212_89, s212_92, s212_93, s212_96, s212_97, s212_98, c_isSheet, hx, XG_1, XO_some, XV_1, xo_n, xo_i8, xo_r8, xo_i7, xo_r7, xo_i6, xo_r6, xo_i5, xo_r5, xo_i4, xo_r4, xo_i3, xo_r3, xo_i2, xo_r2, Option.toList_some, Option.toList_none, List.cons_append, List.nil_append, bI_t, bI_f, bI_0, bI_n0, if_true, if_false, true_and, and_true, ne_eq, not_true_eq_false, not_false_eq_true, one_ne0, reduceCtorEq]; exact K
  | true =>
  obtain ⟨j, hj, rfl⟩ := wiB_t (k := 3) hx (by decide)
  have h4 : j < 4 := by omega
  have hcl : (nI j).toNatClampNeg = j := nI_clamp (by omega)
  obtain ⟨a1, a2, a3, a4⟩ := Xc.2.1 j h4
  cases hy : wiB y (-1) 1 with
  | false =>
    refine ok_ro S0 BAD (fun Q K => ?_) (fun Q K => ?_)
    · rw [e109]; simp only [s109_0, s109_1, s109_2, s109_5, s109_5n, s109_7, s109_7n, s109_9, s109_9n, s109_12, s109_13, s109_14, s109_15, s109_18, s109_21, s109_23, s109_24, s109_25, s109_26, s109_29, s109_29n, s109_31, s109_32, s109_35, s109_35n, s109_37, s109_38, s109_41, s109_42, s109_43, s109_44, s109_46, s109_49, s109_51, s109_52, s109_53, s109_56, s109_59, s109_60, s109_60n, s109_62, s109_63, s109_66, s109_66n, s109_68, s109_69, s109_72, s109_72n, s109_74, s109_77, s109_78, s109_81, s109_82, hO, c_sheetAt Xc, hx, hcl, c_within, hy, XG_1, XO_some, XV_1, xo_n, xo_i8, xo_r8, xo_i7, xo_r7, xo_i6, xo_r6, xo_i5, xo_r5, xo_i4, xo_r4, xo_i3, xo_r3, xo_i2, xo_r2, Option.toList_some, Option.toList_none, List.cons_append, List.nil_append, bI_t, bI_f, bI_0, bI_n0, if_true, if_false, true_and, and_true, ne_eq, not_true_eq_false, not_false_eq_true, one_ne0, reduceCtorEq]; exact K
    · rw [e212]; simp only [s212_0, s212_1, s212_4, s212_7, s212_8, s212_9, s212_10, s212_13, s212_16, s212_17, s212_20, s212_21, s212_23, s212_26, s212_28, s212_29, s212_30, s212_33, s212_34, s212_37, s212_40, s212_41, s212_42, s212_45, s212_46, s212_47, s212_48, s212_49, s212_52, s212_53, s212_54, s212_57, s212_58, s212_61, s212_62, s212_63, s212_64, s212_68, s212_70, s212_73, s212_74, s212_77, s212_79, s212_80, s212_81, s212_83, s212_84, s212_85, s212_86, s212_89, s212_92, s212_93, s212_96, s212_97, s212_98, c_isSheet, hx, c_in, hy, XG_1, XO_some, XV_1, xo_n, xo_i8, xo_r8, xo_i7, xo_r7, xo_i6, xo_r6, xo_i5, xo_r5, xo_i4, xo_r4, xo_i3, xo_r3, xo_i2, xo_r2, Option.toList_some, Option.toList_none, List.cons_append, List.nil_append, bI_t, bI_f, bI_0, bI_n0, if_true, if_false, true_and, and_true, ne_eq, not_true_eq_false, not_false_eq_true, one_ne0, reduceCtorEq, Bool.true_eq_false]; exact K
  | true =>
  have hy3 := wiB_m11 hy
  have L0 : ∀ v1 v2 v3 : Value, 0 < ([v1, v2, v3] : List Value).length := fun _ _ _ => by rw [ls3L]; decide
  have L1 : ∀ v1 v2 v3 : Value, 1 < ([v1, v2, v3] : List Value).length := fun _ _ _ => by rw [ls3L]; decide
  by_cases hm : y = -1
  · subst hm
    have F1 : FR (B + 79) (PX B) h (xset h (B + 35 + 2 * j) (.inr (5, [.int (-1), .int (nI 0), .ref (B + 36 + 2 * j)]))) := FR.px hD (Or.inr ⟨by omega, by omega⟩)
    have X1 := xc_sh Xc (v := -1) (k := 0) h4 (by omega) (Or.inl rfl)
    have Y1 := xr_o Xr (a := B + 35 + 2 * j) (e := .inr (5, [.int (-1), .int (nI 0), .ref (B + 36 + 2 * j)])) (by omega)
    have R1 := rm_o RR (a := B + 35 + 2 * j) (e := .inr (5, [.int (-1), .int (nI 0), .ref (B + 36 + 2 * j)])) (by omega) (by omega) (by omega) (by omega)
    obtain ⟨S2, g1, g2⟩ := shFin (y := -1) (k := 0) R I hE hg hD hz M RI II Xm h4 (P2 := q.xpl) (fun e => absurd rfl e) (fun _ _ => rfl) F1 X1 Y1 R1
    refine ok_w (nI 0) (fun Q K => ?_) (fun Q K => ?_) (fun a ha => (F1.at (by omega) (by omega)).trans (hE a ha)) ⟨_, R1.1⟩ S2 g1 g2
    · rw [e109]; simp only [s109_0, s109_1, s109_2, s109_5, s109_5n, s109_7, s109_7n, s109_9, s109_9n, s109_12, s109_13, s109_14, s109_15, s109_18, s109_21, s109_23, s109_24, s109_25, s109_26, s109_29, s109_29n, s109_31, s109_32, s109_35, s109_35n, s109_37, s109_38, s109_41, s109_42, s109_43, s109_44, s109_46, s109_49, s109_51, s109_52, s109_53, s109_56, s109_59, s109_60, s109_60n, s109_62, s109_63, s109_66, s109_66n, s109_68, s109_69, s109_72, s109_72n, s109_74, s109_77, s109_78, s109_81, s109_82, hO, c_sheetAt Xc, hx, hcl, c_within, hy, a1, XP_1 (L0 _ _ _), XP_1 (L1 _ _ _), ls0, ls1, xset_self, xset_twice, XG_1, XO_some, XV_1, xo_n, xo_i8, xo_r8, xo_i7, xo_r7, xo_i6, xo_r6, xo_i5, xo_r5, xo_i4, xo_r4, xo_i3, xo_r3, xo_i2, xo_r2, Option.toList_some, Option.toList_none, List.cons_append, List.nil_append, bI_t, bI_f, bI_0, bI_n0, if_true, if_false, true_and, and_true, ne_eq, not_true_eq_false, not_false_eq_true, one_ne0, reduceCtorEq]; exact K
    · rw [e212]; simp only [s212_0, s212_1, s212_4, s212_7, s212_8, s212_9, s212_10, s212_13, s212_16, s212_17, s212_20, s212_21, s212_23, s212_26, s212_28, s212_29, s212_30, s212_33, s212_34, s212_37, s212_40, c_isSheet, hx, c_in, hy, show ((-1 : Int32) < 0) = True from eq_true (by decide), XG_1, XO_some, XV_1, xo_n, xo_i8, xo_r8, xo_i7, xo_r7, xo_i6, xo_r6, xo_i5, xo_r5, xo_i4, xo_r4, xo_i3, xo_r3, xo_i2, xo_r2, Option.toList_some, Option.toList_none, List.cons_append, List.nil_append, bI_t, bI_f, bI_0, bI_n0, if_true, if_false, true_and, and_true, ne_eq, not_true_eq_false, not_false_eq_true, one_ne0, reduceCtorEq, Bool.true_eq_false]
      exact (l_shEnd R1 Y1 h4 (if_pos (by decide))).mpr K
  have hp : ¬ y < 0 := by rcases hy3 with e | e | e; exact absurd e hm; rw [e]; decide; rw [e]; decide
  by_cases hz1 : (24 : Int32) < z
  · refine ok_ro S0 BAD (fun Q K => ?_) (fun Q K => ?_)
    · rw [e109]; simp only [s109_0, s109_1, s109_2, s109_5, s109_5n, s109_7, s109_7n, s109_9, s109_9n, s109_12, s109_13, s109_14, s109_15, s109_18, s109_21, s109_23, s109_24, s109_25, s109_26, s109_29, s109_29n, s109_31, s109_32, s109_35, s109_35n, s109_37, s109_38, s109_41, s109_42, s109_43, s109_44, s109_46, s109_49, s109_51, s109_52, s109_53, s109_56, s109_59, s109_60, s109_60n, s109_62, s109_63, s109_66, s109_66n, s109_68, s109_69, s109_72, s109_72n, s109_74, s109_77, s109_78, s109_81, s109_82, hO, c_sheetAt Xc, hx, hcl, c_within, hy, hm, hz1, XG_1, XO_some, XV_1, xo_n, xo_i8, xo_r8, xo_i7, xo_r7, xo_i6, xo_r6, xo_i5, xo_r5, xo_i4, xo_r4, xo_i3, xo_r3, xo_i2, xo_r2, Option.toList_some, Option.toList_none, List.cons_append, List.nil_append, bI_t, bI_f, bI_0, bI_n0, if_true, if_false, true_and, and_true, ne_eq, not_true_eq_false, not_false_eq_true, one_ne0, reduceCtorEq]; exact K
    · rw [e212]; simp only [s212_0, s212_1, s212_4, s212_7, s212_8, s212_9, s212_10, s212_13, s212_16, s212_17, s212_20, s212_21, s212_23, s212_26, s212_28, s212_29, s212_30, s212_33, s212_34, s212_37, s212_40, s212_41, s212_42, s212_45, s212_46, s212_47, s212_48, s212_49, s212_52, s212_53, s212_54, s212_57, s212_58, s212_61, s212_62, s212_63, s212_64, s212_68, s212_70, s212_73, s212_74, s212_77, s212_79, s212_80, s212_81, s212_83, s212_84, s212_85, s212_86, s212_89, s212_92, s212_93, s212_96, s212_97, s212_98, c_isSheet, hx, c_in, hy, hp, hz1, XG_1, XO_some, XV_1, xo_n, xo_i8, xo_r8, xo_i7, xo_r7, xo_i6, xo_r6, xo_i5, xo_r5, xo_i4, xo_r4, xo_i3, xo_r3, xo_i2, xo_r2, Option.toList_some, Option.toList_none, List.cons_append, List.nil_append, bI_t, bI_f, bI_0, bI_n0, if_true, if_false, true_and, and_true, ne_eq, not_true_eq_false, not_false_eq_true, one_ne0, reduceCtorEq, Bool.true_eq_false]; exact K
  by_cases hz0 : z < 0
  · refine ok_ro S0 (-1000000014) (fun Q K => ?_) (fun Q K => ?_)
    · rw [e109]; simp only [s109_0, s109_1, s109_2, s109_5, s109_5n, s109_7, s109_7n, s109_9, s109_9n, s109_12, s109_13, s109_14, s109_15, s109_18, s109_21, s109_23, s109_24, s109_25, s109_26, s109_29, s109_29n, s109_31, s109_32, s109_35, s109_35n, s109_37, s109_38, s109_41, s109_42, s109_43, s109_44, s109_46, s109_49, s109_51, s109_52, s109_53, s109_56, s109_59, s109_60, s109_60n, s109_62, s109_63, s109_66, s109_66n, s109_68, s109_69, s109_72, s109_72n, s109_74, s109_77, s109_78, s109_81, s109_82, hO, c_sheetAt Xc, hx, hcl, c_within, hy, hm, hz1, hz0, XG_1, XO_some, XV_1, xo_n, xo_i8, xo_r8, xo_i7, xo_r7, xo_i6, xo_r6, xo_i5, xo_r5, xo_i4, xo_r4, xo_i3, xo_r3, xo_i2, xo_r2, Option.toList_some, Option.toList_none, List.cons_append, List.nil_append, bI_t, bI_f, bI_0, bI_n0, if_true, if_false, true_and, and_true, ne_eq, not_true_eq_false, not_false_eq_true, one_ne0, reduceCtorEq]; exact K
    · rw [e212]; simp only [s212_0, s212_1, s212_4, s212_7, s212_8, s212_9, s212_10, s212_13, s212_16, s212_17, s212_20, s212_21, s212_23, s212_26, s212_28, s212_29, s212_30, s212_33, s212_34, s212_37, s212_40, s212_41, s212_42, s212_45, s212_46, s212_47, s212_48, s212_49, s212_52, s212_53, s212_54, s212_57, s212_58, s212_61, s212_62, s212_63, s212_64, s212_68, s212_70, s212_73, s212_74, s212_77, s212_79, s212_80, s212_81, s212_83, s212_84, s212_85, s212_86, s212_89, s212_92, s212_93, s212_96, s212_97, s212_98, c_isSheet, hx, c_in, hy, hp, hz1, hz0, XG_1, XO_some, XV_1, xo_n, xo_i8, xo_r8, xo_i7, xo_r7, xo_i6, xo_r6, xo_i5, xo_r5, xo_i4, xo_r4, xo_i3, xo_r3, xo_i2, xo_r2, Option.toList_some, Option.toList_none, List.cons_append, List.nil_append, bI_t, bI_f, bI_0, bI_n0, if_true, if_false, true_and, and_true, ne_eq, not_true_eq_false, not_false_eq_true, one_ne0, reduceCtorEq, Bool.true_eq_false]; exact K
  obtain ⟨k, hk, rfl⟩ := wiB_t (x := z) (k := 24) (by unfold wiB; rw [decide_eq_true hz0, Bool.true_and]; exact decide_eq_true hz1) (by decide)
  have F0 : FR (B + 79) (PX B) h (xset h (B + 35 + 2 * j) (.inr (5, [.int y, .int (nI k), .ref (B + 36 + 2 * j)]))) := FR.px hD (Or.inr ⟨by omega, by omega⟩)
  have F1 := F0.trans (FR.px (a := B + 36 + 2 * j) (e := .inl (0, xis 24 (zfl (q.xpl j) 24))) hD (Or.inr ⟨by omega, by omega⟩))
  have X1 := xc_pl (xc_sh Xc (v := y) (k := k) h4 hk hy3) (f := zfl (q.xpl j) 24) h4
  have Y1 := xr_o (xr_o Xr (a := B + 35 + 2 * j) (e := .inr (5, [.int y, .int (nI k), .ref (B + 36 + 2 * j)])) (by omega)) (a := B + 36 + 2 * j) (e := .inl (0, xis 24 (zfl (q.xpl j) 24))) (by omega)
  have R1 := rm_o (rm_o RR (a := B + 35 + 2 * j) (e := .inr (5, [.int y, .int (nI k), .ref (B + 36 + 2 * j)])) (by omega) (by omega) (by omega) (by omega)) (a := B + 36 + 2 * j) (e := .inl (0, xis 24 (zfl (q.xpl j) 24))) (by omega) (by omega) (by omega) (by omega)
  obtain ⟨S2, g1, g2⟩ := shFin (y := y) (k := k) R I hE hg hD hz M RI II Xm h4 (P2 := rup q.xpl j (zfl (q.xpl j) 24)) (fun _ k2 hk2 => by rw [rup_at]; exact if_pos hk2) (fun i e => rup_ne e) F1 X1 Y1 R1
  refine ok_w (nI k) (fun Q K => ?_) (fun Q K => ?_) (fun a ha => (F1.at (by omega) (by omega)).trans (hE a ha)) ⟨_, R1.1⟩ S2 g1 g2
  · have hA : ∀ e, (xset h (B + 35 + 2 * j) e).2.2.1 (B + 36 + 2 * j) = .inl (0, xis 24 (q.xpl j)) := fun e => by rw [xset_ne (by omega)]; exact a2
    rw [e109]; simp only [s109_0, s109_1, s109_2, s109_5, s109_5n, s109_7, s109_7n, s109_9, s109_9n, s109_12, s109_13, s109_14, s109_15, s109_18, s109_21, s109_23, s109_24, s109_25, s109_26, s109_29, s109_29n, s109_31, s109_32, s109_35, s109_35n, s109_37, s109_38, s109_41, s109_42, s109_43, s109_44, s109_46, s109_49, s109_51, s109_52, s109_53, s109_56, s109_59, s109_60, s109_60n, s109_62, s109_63, s109_66, s109_66n, s109_68, s109_69, s109_72, s109_72n, s109_74, s109_77, s109_78, s109_81, s109_82, hO, c_sheetAt Xc, hx, hcl, c_within, hy, hm, hz1, hz0, a1, XP_1 (L0 _ _ _), XP_1 (L1 _ _ _), ls0, ls1, l3_2, xset_self, xset_twice, c_fill (hA _), XG_1, XO_some, XV_1, xo_n, xo_i8, xo_r8, xo_i7, xo_r7, xo_i6, xo_r6, xo_i5, xo_r5, xo_i4, xo_r4, xo_i3, xo_r3, xo_i2, xo_r2, Option.toList_some, Option.toList_none, List.cons_append, List.nil_append, bI_t, bI_f, bI_0, bI_n0, if_true, if_false, true_and, and_true, ne_eq, not_true_eq_false, not_false_eq_true, one_ne0, reduceCtorEq]; exact K
  · rw [e212]; simp only [s212_0, s212_1, s212_4, s212_7, s212_8, s212_9, s212_10, s212_13, s212_16, s212_17, s212_20, s212_21, s212_23, s212_26, s212_28, s212_29, s212_30, s212_33, s212_34, s212_37, s212_40, c_isSheet, hx, c_in, hy, hp, hz1, hz0, XG_1, XO_some, XV_1, xo_n, xo_i8, xo_r8, xo_i7, xo_r7, xo_i6, xo_r6, xo_i5, xo_r5, xo_i4, xo_r4, xo_i3, xo_r3, xo_i2, xo_r2, Option.toList_some, Option.toList_none, List.cons_append, List.nil_append, bI_t, bI_f, bI_0, bI_n0, if_true, if_false, true_and, and_true, ne_eq, not_true_eq_false, not_false_eq_true, one_ne0, reduceCtorEq, Bool.true_eq_false]
    exact (l_shEnd R1 Y1 h4 (if_neg hp)).mpr K
end SH2
