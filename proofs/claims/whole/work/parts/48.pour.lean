/-! ===== 48: pour ===== -/
def prH (n : Nat → Nat) (pl : Nat → Int32) (i : Nat) : Int32 := if isI (pl i) (n 0) = true then pl i else NONE
def prT (n : Nat → Nat) (T : Nat → Nat → Int32) (pl : Nat → Int32) : Nat → Nat → Nat → Int32
  | 0 => T
  | i + 1 => sup (prT n T pl i) 7 i (prH n pl i)
def prC (n : Nat → Nat) (T : Nat → Nat → Int32) (pl : Nat → Int32) : Nat → Int32
  | 0 => 0
  | i + 1 => if prT n T pl i 7 i = prH n pl i then prC n T pl i else prC n T pl i + 1
section POU
variable {B d r : Nat} {E : Nat → va_E} {g0 : Nat → Value} {h h1 h2 : xH} {q : RS} {m m2 f w g : Nat → Int32} {n n2 : Nat → Nat} {T T2 : Nat → Nat → Int32} {p : Nat → Nat → Option Nat} {s : Nat → Nat → Int32} {Q : Option Value → xH → Prop} {x y z v : Int32} {mc mr : Nat} {as : List Value}
theorem ok_pm2 (R : RT (B + 79) h.2.2.1 (B + 1) n T p s) (RR : RM h.2.2.1 (B + 58) m f w g) (X : RX B h.2.2.1 q m) (hE : ∀ a, a < B → h.2.2.1 a = E a) (hg : h.2.2.2 = g0) (hD : B + 79 ≤ h.1) (hz : ∀ a, h.1 ≤ a → h.2.2.1 a = .inr (99, [])) (I2 : IV n2 T2) (cc : CC (B + 79) d B (B + 1) h p mc as v n2 T2) (cr : ∀ h1, RX B h1.2.2.1 q m → B + 79 ≤ h1.1 → RM h1.2.2.1 (B + 58) m f w g → ∀ Q : Option Value → xH → Prop, (∀ h2 f2 w2 g2, FR (B + 79) (Pn (B + 58)) h1 h2 → RM h2.2.2.1 (B + 58) m f2 w2 g2 → MR n2 T2 f2 → Q (some (.int v)) h2) → XC (d + 12) mr (.ref (B + 58) :: as) h1 Q) : OK B E g0 d h mc mr as := by
  refine ⟨v, fun h1 => ∃ s2, FR (B + 79) (Pt (B + 1)) h h1 ∧ RT (B + 79) h1.2.2.1 (B + 1) n2 T2 p s2, fun Q K => cc Q (fun h1 s2 F1 R1 => K h1 ⟨s2, F1, R1⟩), fun h1 hh => ?_⟩
  obtain ⟨s2, F1, R1⟩ := hh
  have hE1 : ∀ a, a < B → h1.2.2.1 a = E a := fun a ha => (F1.at (by omega) (by omega)).trans (hE a ha)
  refine ⟨hE1, ⟨_, (RR.fr F1 (by omega) (fun a p => by omega)).1⟩, fun Q K => ?_⟩
  have RR1 : RM h1.2.2.1 (B + 58) m f w g := RR.fr F1 (by omega) (fun a p => by omega)
  have X1 := X.fr F1 (fun a p => Or.inl p)
  refine cr h1 X1 (by rw [F1.1]; exact hD) RR1 Q (fun h2 f2 w2 g2 F2 R2 M2 => ?_)
  refine K h2 ⟨⟨n2, T2, p, s2, m, f2, w2, g2, q, R1.fr F2 (by omega) (fun k hk p => by rcases p with p | p | p <;> omega), I2, R2, M2, X1.fr F2 (fun a p => Or.inr p)⟩, fun a ha => (F2.at (by omega) (fun p => by rcases p with p | p | p <;> omega)).trans (hE1 a ha), by rw [F2.2.2.1, F1.2.2.1]; exact hg, by rw [F2.1, F1.1]; exact hD, fun a ha => ?_⟩ (by rw [F2.1, F1.1]; omega) (by rw [F2.2.1, F1.2.1]; omega)
  rw [F2.1, F1.1] at ha
  exact F2.2.2.2.2.2.2 a (by rw [F1.1]; exact ha) (F1.2.2.2.2.2.2 a ha (hz a ha))
theorem prH_in (hn : n 0 ≤ 10) {pl : Nat → Int32} {i : Nat} : prH n pl i = NONE ∨ ∃ j, j < n 0 ∧ prH n pl i = nI j := by
  unfold prH
  split
  next hI => exact Or.inr (isI_t hI (by omega))
  next => exact Or.inl rfl
theorem iv_prT (I : IV n T) {pl : Nat → Int32} : ∀ i, IV n (prT n T pl i) := by
  intro i
  induction i with
  | zero => exact I
  | succ i ih => exact iv_wire ih (prH_in I.nn.1)
theorem l_pour (I : IV n T) {j N : Nat} (hj : j < 4) (hN : N ≤ q.xsz j) (hN2 : N ≤ 2 * n 1) (hN3 : N = q.xsz j ∨ N = 2 * n 1) : ∀ k i h c5, i + k = N → B + 79 ≤ h.1 → RXc B h.2.2.1 q → RT (B + 79) h.2.2.1 (B + 1) n (prT n T (q.xpl j) i) p s → (∀ h', FR (B + 79) (Pt (B + 1)) h h' → RT (B + 79) h'.2.2.1 (B + 1) n (prT n T (q.xpl j) N) p s → Q (some (.int (prC n T (q.xpl j) N))) h') → XE (d + 11) 111 30 [.val (.ref B), .val (.int x), .val (.ref (B + 35 + 2 * j)), .val (.int (prC n T (q.xpl j) i)), .val (.int (nI i)), c5] [] h Q := by
  have hn := I.nn
  intro k
  induction k with
  | zero =>
    intro i h c5 hi hD Xc R K
    obtain ⟨a1, a2, a3, a4⟩ := Xc.2.1 j hj
    rw [show i = N by omega] at R ⊢
    rw [s111_30]
    by_cases e : nI N < nI (q.xsz j)
    · have h2 : ¬ nI N < nI (2 * n 1) := by
        rcases hN3 with q1 | q1
        · rw [← q1] at e; exact absurd e Int32.lt_irrefl
        · rw [← q1]; exact Int32.lt_irrefl
      simp only [s111_0, s111_1, s111_2, s111_5, s111_5n, s111_6, s111_6n, s111_7, s111_7n, s111_10, s111_12, s111_13, s111_13n, s111_14, s111_17, s111_18, s111_21, s111_24, s111_25, s111_26, s111_27, s111_28, s111_32, s111_32n, s111_33, s111_36, s111_39, s111_41, s111_42, s111_43, s111_46, s111_49, s111_50, s111_53, s111_54, s111_57, s111_57n, s111_58, s111_61, s111_63, s111_64, s111_67, s111_70, s111_70n, s111_71, s111_74, s111_76, s111_77, s111_80, s111_82, s111_84, s111_85, s111_88, s111_91, s111_93, s111_94, s111_96, s111_99, s111_100, s111_103, s111_106, s111_108, s111_110, s111_111, s111_114, s111_117, s111_120, s111_121, a1, l3_1, e, Xc.1.1, ob0, R.o, tf1, l2m, h2, XG_1, XO_some, XV_1, xo_n, xo_i8, xo_r8, xo_i7, xo_r7, xo_i6, xo_r6, xo_i5, xo_r5, xo_i4, xo_r4, xo_i3, xo_r3, xo_i2, xo_r2, Option.toList_some, Option.toList_none, List.cons_append, List.nil_append, bI_t, bI_f, bI_0, bI_n0, if_true, if_false, true_and, and_true, ne_eq, not_true_eq_false, not_false_eq_true, one_ne0, reduceCtorEq]
      exact K h FR.refl R
    · simp only [s111_0, s111_1, s111_2, s111_5, s111_5n, s111_6, s111_6n, s111_7, s111_7n, s111_10, s111_12, s111_13, s111_13n, s111_14, s111_17, s111_18, s111_21, s111_24, s111_25, s111_26, s111_27, s111_28, s111_32, s111_32n, s111_33, s111_36, s111_39, s111_41, s111_42, s111_43, s111_46, s111_49, s111_50, s111_53, s111_54, s111_57, s111_57n, s111_58, s111_61, s111_63, s111_64, s111_67, s111_70, s111_70n, s111_71, s111_74, s111_76, s111_77, s111_80, s111_82, s111_84, s111_85, s111_88, s111_91, s111_93, s111_94, s111_96, s111_99, s111_100, s111_103, s111_106, s111_108, s111_110, s111_111, s111_114, s111_117, s111_120, s111_121, a1, l3_1, e, XG_1, XO_some, XV_1, xo_n, xo_i8, xo_r8, xo_i7, xo_r7, xo_i6, xo_r6, xo_i5, xo_r5, xo_i4, xo_r4, xo_i3, xo_r3, xo_i2, xo_r2, Option.toList_some, Option.toList_none, List.cons_append, List.nil_append, bI_t, bI_f, bI_0, bI_n0, if_true, if_false, true_and, and_true, ne_eq, not_true_eq_false, not_false_eq_true, one_ne0, reduceCtorEq]
      exact K h FR.refl R
  | succ k ih =>
    intro i h c5 hi hD Xc R K
    obtain ⟨a1, a2, a3, a4⟩ := Xc.2.1 j hj
    have e1 : nI i < nI (q.xsz j) := nI_lt (by omega) (by omega)
    have e2 : nI i < nI (2 * n 1) := nI_lt (by omega) (by omega)
    have h24 : i < 24 := by omega
    have ih1 := fun h' c5 (F : FR (B + 79) (Pt (B + 1)) h h') (R' : RT (B + 79) h'.2.2.1 (B + 1) n (prT n T (q.xpl j) (i + 1)) p s) (Xc' : RXc B h'.2.2.1 q) => ih (i + 1) h' c5 (by omega) (show B + 79 ≤ h'.1 by rw [F.1]; exact hD) Xc' R' (fun h2 F2 R2 => K h2 (F.trans F2) R2)
    rw [show prC n T (q.xpl j) (i + 1) = if prT n T (q.xpl j) i 7 i = prH n (q.xpl j) i then prC n T (q.xpl j) i else prC n T (q.xpl j) i + 1 from rfl] at ih1
    rw [s111_30]
    have mid : XE (d + 11) 111 84 [.val (.ref B), .val (.int x), .val (.ref (B + 35 + 2 * j)), .val (.int (prC n T (q.xpl j) i)), .val (.int (nI i)), .val (.int (prH n (q.xpl j) i))] [] h Q := by
      simp only [s111_84, s111_85, s111_88, s111_91, s111_93, s111_94, s111_96, s111_99, s111_100, s111_103, s111_106, s111_108, s111_110, s111_111, s111_114, s111_117, Xc.1.1, ob0, R.o, R.be, tf14, XA24 h24, XG_1, XO_some, XV_1, xo_n, xo_i8, xo_r8, xo_i7, xo_r7, xo_i6, xo_r6, xo_i5, xo_r5, xo_i4, xo_r4, xo_i3, xo_r3, xo_i2, xo_r2, Option.toList_some, Option.toList_none, List.cons_append, List.nil_append, bI_t, bI_f, bI_0, bI_n0, if_true, if_false, true_and, and_true, ne_eq, not_true_eq_false, not_false_eq_true, one_ne0, reduceCtorEq]
      by_cases hc : prT n T (q.xpl j) i 7 i = prH n (q.xpl j) i
      · simp only [hc, if_true, nI_1, XG_1, XO_some, XV_1, xo_n, xo_i8, xo_r8, xo_i7, xo_r7, xo_i6, xo_r6, xo_i5, xo_r5, xo_i4, xo_r4, xo_i3, xo_r3, xo_i2, xo_r2, Option.toList_some, Option.toList_none, List.cons_append, List.nil_append, bI_t, bI_f, bI_0, bI_n0, if_true, if_false, true_and, and_true, ne_eq, not_true_eq_false, not_false_eq_true, one_ne0, reduceCtorEq] at ih1 ⊢
        refine ih1 h _ FR.refl ?_ Xc
        show RT _ _ _ _ (sup (prT n T (q.xpl j) i) 7 i (prH n (q.xpl j) i)) _ _
        rw [← hc, sup_id]; exact R
      · obtain ⟨R2, F2⟩ := R.w24 (by omega) hD (i := i) (v := prH n (q.xpl j) i)
        have X2 : RXc B (xset h (B + 1 + 7) (.inl (0, xis 24 (upd (prT n T (q.xpl j) i 7) i (prH n (q.xpl j) i))))).2.2.1 q := by
          obtain ⟨⟨c1, c2, c3, c4, c5, c6, c7, c8, c9, c10, c11⟩, cs, cl⟩ := Xc
          refine ⟨⟨by rw [xset_ne (by omega)]; exact c1, c2, by rw [xset_ne (by omega)]; exact c3, c4, by rw [xset_ne (by omega)]; exact c5, by rw [xset_ne (by omega)]; exact c6, by rw [xset_ne (by omega)]; exact c7, by rw [xset_ne (by omega)]; exact c8, by rw [xset_ne (by omega)]; exact c9, by rw [xset_ne (by omega)]; exact c10, by rw [xset_ne (by omega)]; exact c11⟩, fun i hi => ?_, fun i hi => ?_⟩
          · obtain ⟨b1, b2, b3⟩ := cs i hi
            exact ⟨by rw [xset_ne (by omega)]; exact b1, by rw [xset_ne (by omega)]; exact b2, b3⟩
          · obtain ⟨b1, b2, b3, b4⟩ := cl i hi
            exact ⟨by rw [xset_ne (by omega)]; exact b1, by rw [xset_ne (by omega)]; exact b2, by rw [xset_ne (by omega)]; exact b3, b4⟩
        simp only [hc, if_false] at ih1
        simp only [s111_99, s111_100, s111_103, s111_106, s111_108, s111_110, s111_111, s111_114, s111_117, hc, if_false, Xc.1.1, ob0, R.o, R.be, tf14, XS24 h24, nI_1, XG_1, XO_some, XV_1, xo_n, xo_i8, xo_r8, xo_i7, xo_r7, xo_i6, xo_r6, xo_i5, xo_r5, xo_i4, xo_r4, xo_i3, xo_r3, xo_i2, xo_r2, Option.toList_some, Option.toList_none, List.cons_append, List.nil_append, bI_t, bI_f, bI_0, bI_n0, if_true, if_false, true_and, and_true, ne_eq, not_true_eq_false, not_false_eq_true, one_ne0, reduceCtorEq]
        exact ih1 _ _ F2 R2 X2
    simp only [s111_32, s111_32n, s111_33, s111_36, s111_39, s111_41, s111_42, s111_43, s111_46, s111_49, s111_50, s111_53, s111_54, s111_57, s111_57n, s111_58, s111_61, s111_63, s111_64, a1, a2, l3_1, l3_2, e1, e2, Xc.1.1, ob0, R.o, tf1, l2m, XA24 h24, c_isHouse R, XG_1, XO_some, XV_1, xo_n, xo_i8, xo_r8, xo_i7, xo_r7, xo_i6, xo_r6, xo_i5, xo_r5, xo_i4, xo_r4, xo_i3, xo_r3, xo_i2, xo_r2, Option.toList_some, Option.toList_none, List.cons_append, List.nil_append, bI_t, bI_f, bI_0, bI_n0, if_true, if_false, true_and, and_true, ne_eq, not_true_eq_false, not_false_eq_true, one_ne0, reduceCtorEq]
    unfold prH at mid
    cases hI : isI (q.xpl j i) (n 0) with
    | false => rw [hI] at mid; simp only [Bool.false_eq_true, if_false] at mid; simp only [s111_67, s111_70, s111_70n, s111_71, s111_74, s111_76, s111_77, s111_80, s111_82, XG_1, XO_some, XV_1, xo_n, xo_i8, xo_r8, xo_i7, xo_r7, xo_i6, xo_r6, xo_i5, xo_r5, xo_i4, xo_r4, xo_i3, xo_r3, xo_i2, xo_r2, Option.toList_some, Option.toList_none, List.cons_append, List.nil_append, bI_t, bI_f, bI_0, bI_n0, if_true, if_false, true_and, and_true, ne_eq, not_true_eq_false, not_false_eq_true, one_ne0, reduceCtorEq]; exact mid
    | true => rw [hI] at mid; simp only [if_true] at mid; simp only [s111_67, s111_70, s111_70n, s111_71, s111_74, s111_76, s111_77, s111_80, s111_82, a1, a2, l3_2, XA24 h24, XG_1, XO_some, XV_1, xo_n, xo_i8, xo_r8, xo_i7, xo_r7, xo_i6, xo_r6, xo_i5, xo_r5, xo_i4, xo_r4, xo_i3, xo_r3, xo_i2, xo_r2, Option.toList_some, Option.toList_none, List.cons_append, List.nil_append, bI_t, bI_f, bI_0, bI_n0, if_true, if_false, true_and, and_true, ne_eq, not_true_eq_false, not_false_eq_true, one_ne0, reduceCtorEq, Bool.true_eq_false]; exact mid
end POU
