/-! ===== 79: the class reads a text ===== -/
section FAU
variable {B d : Nat} {h : xH} {Q : Option Value → xH → Prop} {k m u c o n w v x : Int32} {y : Nat → Int32} {z ky : Nat} {adK adV : Nat → Nat}
theorem l_fault (hk : ky < 3) (hb : h.2.2.1 (B + 28) = .inl (0, xis 96 y)) (hz : z ≤ 96) (S : STH h adK adV) (ha : ∀ i, i < 6 → adV i < B) : ∀ fu p W L A wt G O f s i, z < fu + p → PI (nnk ky) z p W L A wt → SRe asc O W → SRe cenc G L → i ≤ p → (∀ r, prs y z ky fu p W L A wt = (none, r) → ∀ f t s m u c o n w G O, Q (some (.int (nI r))) (TS h B (nI z) f t s (nI ky) m u c o n w G O)) → (∀ W2 L2 A2 r, prs y z ky fu p W L A wt = (some (W2, L2, A2), r) → ∀ f t s o n w G O, SRe asc O W2 → SRe cenc G L2 → Q (some (.int (-1000000005))) (TS h B (nI z) f t s (nI ky) (nI A2) (nI L2.length) (nI W2.length) o n w G O)) → XE (d + 10) 22 63 [.val (.ref (B + 27)), .val (.int (nI i))] [] (TS h B (nI z) f (nI p) s (nI ky) (nI A) (nI L.length) (nI W.length) (nI (opn W)) (nI (cn W)) (bI wt) G O) Q := by
  intro fu
  induction fu with
  | zero =>
    intro p W L A wt G O f s i hfu I
    have := I.2.2.2.1
    omega
  | succ fu ih =>
    intro p W L A wt G O f s i hfu I hO hG hi K1 K2
    have hp : p ≤ z := I.2.2.2.1
    have hlen := I.2.2.1
    have hop := I.2.1
    have l96 : ¬ (96 : Int32) < nI i := nI_nlt (a := 96) (by omega) (by decide)
    have h4 := ts_lt (y := y) (z := z) (p := p)
    have cnl : cn W ≤ W.length := by
      have : ∀ W : List Int32, cn W ≤ W.length := by
        intro W
        induction W with
        | nil => exact Nat.le_refl _
        | cons s W ih =>
          show (if s = -10 then cn W + 1 else cn W) ≤ W.length + 1
          by_cases e : s = -10
          · rw [if_pos e]; omega
          · rw [if_neg e]; omega
      exact this W
    have hst : prs y z ky (fu + 1) p W L A wt = if ts y z p = 0 then (if wt = true ∨ ¬ opn W = 0 then (none, tf y z p) else (some (W, L, A), tf y z p))
      else if wt = true then
        (if ts y z p = 3 then
          (if y (tf y z p) = 40 ∧ opn W < 8 then prs y z ky fu (tn y z p) (-11 :: W) L A true
           else if y (tf y z p) = 33 ∧ cn W < 8 then prs y z ky fu (tn y z p) (-10 :: W) L A true
           else (none, tf y z p))
         else match trm y z ky p with
           | none => (none, tf y z p)
           | some v => prs y z ky fu (tn y z p) (stl 6 W (v :: L)).1 (stl 6 W (v :: L)).2 (A + 1) false)
      else if ts y z p = 3 ∧ y (tf y z p) = 41 then
        (if opn W = 0 then (none, tf y z p)
         else prs y z ky fu (tn y z p) (stl 6 (stl 0 W L).1.tail (stl 0 W L).2).1 (stl 6 (stl 0 W L).1.tail (stl 0 W L).2).2 A false)
      else match jn y z p W with
        | none => (none, tf y z p)
        | some g => prs y z ky fu (tn y z p) (g :: (stl (rk g) W L).1) (stl (rk g) W L).2 A true := rfl
    rw [s22_63]
    simp only [s22_64, s22_66, s22_69, s22_70, s22_73, s22_74, s22_77, l96, xset_self, tg_4, c_step hb hz hp, XG_1, XO_some, XV_1, xo_n, xo_i8, xo_r8, xo_i7, xo_r7, xo_i6, xo_r6, xo_i5, xo_r5, xo_i4, xo_r4, xo_i3, xo_r3, xo_i2, xo_r2, Option.toList_some, Option.toList_none, List.cons_append, List.nil_append, bI_t, bI_f, bI_0, bI_n0, if_true, if_false, true_and, and_true, ne_eq, not_true_eq_false, not_false_eq_true, one_ne0, reduceCtorEq]
    by_cases c0 : ts y z p = 0
    · rw [if_pos c0] at hst
      have e0 : nI (ts y z p) = 0 := by rw [c0]; rfl
      rw [if_pos e0]
      cases wt with
      | true =>
        rw [if_pos (Or.inl rfl)] at hst
        simp only [s22_80, s22_81, s22_84, s22_87, s22_88, s22_91, s22_94, s22_95, s22_98, s22_101, s22_103, xset_self, tg_2, tg_13, XG_1, XO_some, XV_1, xo_n, xo_i8, xo_r8, xo_i7, xo_r7, xo_i6, xo_r6, xo_i5, xo_r5, xo_i4, xo_r4, xo_i3, xo_r3, xo_i2, xo_r2, Option.toList_some, Option.toList_none, List.cons_append, List.nil_append, bI_t, bI_f, bI_0, bI_n0, if_true, if_false, true_and, and_true, ne_eq, not_true_eq_false, not_false_eq_true, one_ne0, reduceCtorEq, Bool.true_eq_false]
        exact K1 _ hst _ _ _ _ _ _ _ _ _ _ _
      | false =>
        by_cases co : opn W = 0
        · rw [if_neg (fun q => by rcases q with q | q; cases q; exact q co)] at hst
          have lo : ¬ (0 : Int32) < nI (opn W) := by rw [co]; decide
          simp only [s22_80, s22_81, s22_84, s22_87, s22_88, s22_91, s22_94, s22_95, s22_98, s22_101, s22_103, xset_self, tg_11, tg_13, lo, XG_1, XO_some, XV_1, xo_n, xo_i8, xo_r8, xo_i7, xo_r7, xo_i6, xo_r6, xo_i5, xo_r5, xo_i4, xo_r4, xo_i3, xo_r3, xo_i2, xo_r2, Option.toList_some, Option.toList_none, List.cons_append, List.nil_append, bI_t, bI_f, bI_0, bI_n0, if_true, if_false, true_and, and_true, ne_eq, not_true_eq_false, not_false_eq_true, one_ne0, reduceCtorEq]
          exact K2 W L A _ hst _ _ _ _ _ _ _ _ hO hG
        · rw [if_pos (Or.inr co)] at hst
          have lo : (0 : Int32) < nI (opn W) := nI_lt (a := 0) (by omega) (by omega)
          simp only [s22_80, s22_81, s22_84, s22_87, s22_88, s22_91, s22_94, s22_95, s22_98, s22_101, s22_103, xset_self, tg_2, tg_11, tg_13, lo, XG_1, XO_some, XV_1, xo_n, xo_i8, xo_r8, xo_i7, xo_r7, xo_i6, xo_r6, xo_i5, xo_r5, xo_i4, xo_r4, xo_i3, xo_r3, xo_i2, xo_r2, Option.toList_some, Option.toList_none, List.cons_append, List.nil_append, bI_t, bI_f, bI_0, bI_n0, if_true, if_false, true_and, and_true, ne_eq, not_true_eq_false, not_false_eq_true, one_ne0, reduceCtorEq]
          exact K1 _ hst _ _ _ _ _ _ _ _ _ _ _
    rw [if_neg c0] at hst
    obtain ⟨hf, hs⟩ := ts_n c0
    have hgt := tn_gt c0
    have hge := tf_ge (b := y) (z := z) (p := p)
    have e0 : ¬ nI (ts y z p) = 0 := fun q => c0 ((nI_eq (b := 0) (by omega) (by decide)).mp q)
    rw [if_neg e0]
    cases wt with
    | true =>
      rw [if_pos rfl] at hst
      simp only [s22_104, s22_105, s22_108, s22_111, s22_112, xset_self, tg_13, XG_1, XO_some, XV_1, xo_n, xo_i8, xo_r8, xo_i7, xo_r7, xo_i6, xo_r6, xo_i5, xo_r5, xo_i4, xo_r4, xo_i3, xo_r3, xo_i2, xo_r2, Option.toList_some, Option.toList_none, List.cons_append, List.nil_append, bI_t, bI_f, bI_0, bI_n0, if_true, if_false, true_and, and_true, ne_eq, not_true_eq_false, not_false_eq_true, one_ne0, reduceCtorEq, Bool.true_eq_false]
      by_cases c3 : ts y z p = 3
      · rw [if_pos c3] at hst
        rw [c3]
        by_cases cO : y (tf y z p) = 40 ∧ opn W < 8
        · rw [if_pos cO] at hst
          have IH := ih (tn y z p) (-11 :: W) L A true G (upd O W.length 40) (nI (tf y z p)) (nI 3) (i + 1) (by omega) (pi_open I c0 cO.2) (SRe_push hO (by decide)) hG (by omega) (fun r e => K1 r (hst.trans e)) (fun W2 L2 A2 r e => K2 W2 L2 A2 r (hst.trans e))
          simp only [c_pieceO hb hz hf cO.1 cO.2 (show W.length < 96 by omega), s22_115, s22_118, s22_121, s22_122, s22_125, s22_128, s22_129, s22_132, s22_133, s22_136, one_ne0, nI_1, XG_1, XO_some, XV_1, xo_n, xo_i8, xo_r8, xo_i7, xo_r7, xo_i6, xo_r6, xo_i5, xo_r5, xo_i4, xo_r4, xo_i3, xo_r3, xo_i2, xo_r2, Option.toList_some, Option.toList_none, List.cons_append, List.nil_append, bI_t, bI_f, bI_0, bI_n0, if_true, if_false, true_and, and_true, ne_eq, not_true_eq_false, not_false_eq_true, one_ne0, reduceCtorEq]
          exact IH
        · rw [if_neg cO] at hst
          by_cases cN : y (tf y z p) = 33 ∧ cn W < 8
          · rw [if_pos cN] at hst
            have IH := ih (tn y z p) (-10 :: W) L A true G (upd O W.length 33) (nI (tf y z p)) (nI 3) (i + 1) (by omega) (pi_not I c0) (SRe_push hO (by decide)) hG (by omega) (fun r e => K1 r (hst.trans e)) (fun W2 L2 A2 r e => K2 W2 L2 A2 r (hst.trans e))
            simp only [c_pieceN hb hz hf cN.1 cN.2 (show W.length < 96 by omega), s22_115, s22_118, s22_121, s22_122, s22_125, s22_128, s22_129, s22_132, s22_133, s22_136, one_ne0, nI_1, XG_1, XO_some, XV_1, xo_n, xo_i8, xo_r8, xo_i7, xo_r7, xo_i6, xo_r6, xo_i5, xo_r5, xo_i4, xo_r4, xo_i3, xo_r3, xo_i2, xo_r2, Option.toList_some, Option.toList_none, List.cons_append, List.nil_append, bI_t, bI_f, bI_0, bI_n0, if_true, if_false, true_and, and_true, ne_eq, not_true_eq_false, not_false_eq_true, one_ne0, reduceCtorEq]
            exact IH
          · rw [if_neg cN] at hst
            simp only [c_pieceX hb hz hf cO cN (show opn W < 2 ^ 31 by omega) (show cn W < 2 ^ 31 by omega), s22_115, s22_118, s22_121, s22_122, s22_125, s22_128, s22_129, s22_132, xset_self, tg_2, XG_1, XO_some, XV_1, xo_n, xo_i8, xo_r8, xo_i7, xo_r7, xo_i6, xo_r6, xo_i5, xo_r5, xo_i4, xo_r4, xo_i3, xo_r3, xo_i2, xo_r2, Option.toList_some, Option.toList_none, List.cons_append, List.nil_append, bI_t, bI_f, bI_0, bI_n0, if_true, if_false, true_and, and_true, ne_eq, not_true_eq_false, not_false_eq_true, one_ne0, reduceCtorEq]
            exact K1 _ hst _ _ _ _ _ _ _ _ _ _ _
      · rw [if_neg c3] at hst
        have e3 : (nI (ts y z p) = 3) = False := eq_false (fun q => c3 ((nI_eq (b := 3) (by omega) (by decide)).mp q))
        rw [e31]
        simp only [s31_0, s31_1, s31_4, s31_5, s31_8, s31_9, xset_self, tg_4, e3, XG_1, XO_some, XV_1, xo_n, xo_i8, xo_r8, xo_i7, xo_r7, xo_i6, xo_r6, xo_i5, xo_r5, xo_i4, xo_r4, xo_i3, xo_r3, xo_i2, xo_r2, Option.toList_some, Option.toList_none, List.cons_append, List.nil_append, bI_t, bI_f, bI_0, bI_n0, if_true, if_false, true_and, and_true, ne_eq, not_true_eq_false, not_false_eq_true, one_ne0, reduceCtorEq]
        cases cT : trm y z ky p with
        | none =>
          rw [cT] at hst
          simp only [c_termN hk hb hz S ha hp c0 c3 cT, s31_12, s31_12t, s31_12b, s22_115, s22_118, s22_121, s22_122, s22_125, s22_128, s22_129, s22_132, xset_self, tg_2, XG_1, XO_some, XV_1, xo_n, xo_i8, xo_r8, xo_i7, xo_r7, xo_i6, xo_r6, xo_i5, xo_r5, xo_i4, xo_r4, xo_i3, xo_r3, xo_i2, xo_r2, Option.toList_some, Option.toList_none, List.cons_append, List.nil_append, bI_t, bI_f, bI_0, bI_n0, if_true, if_false, true_and, and_true, ne_eq, not_true_eq_false, not_false_eq_true, one_ne0, reduceCtorEq]
          exact K1 _ hst _ _ _ _ _ _ _ _ _ _ _
        | some v =>
          rw [cT] at hst
          obtain ⟨I2, -, -⟩ := pi_term hk I c0 c3 cT
          refine c_term hk hb hz S ha I c0 c3 cT hO hG (fun G2 hO2 hG2 => ?_)
          have IH := ih (tn y z p) (stl 6 W (v :: L)).1 (stl 6 W (v :: L)).2 (A + 1) false G2 O (nI (tf y z p)) (nI (ts y z p)) (i + 1) (by omega) I2 hO2 hG2 (by omega) (fun r e => K1 r (hst.trans e)) (fun W2 L2 A2 r e => K2 W2 L2 A2 r (hst.trans e))
          obtain ⟨-, so6, -⟩ := stl_6 (nn := nnk ky) W (v :: L) I.1 (pi_term hk I c0 c3 cT).2.1 (pi_term hk I c0 c3 cT).2.2
          rw [so6] at IH
          simp only [s31_12, s31_12t, s31_12b, s22_115, s22_118, s22_121, s22_122, s22_125, s22_128, s22_129, s22_132, s22_133, s22_136, one_ne0, nI_1, XG_1, XO_some, XV_1, xo_n, xo_i8, xo_r8, xo_i7, xo_r7, xo_i6, xo_r6, xo_i5, xo_r5, xo_i4, xo_r4, xo_i3, xo_r3, xo_i2, xo_r2, Option.toList_some, Option.toList_none, List.cons_append, List.nil_append, bI_t, bI_f, bI_0, bI_n0, if_true, if_false, true_and, and_true, ne_eq, not_true_eq_false, not_false_eq_true, one_ne0, reduceCtorEq]
          exact IH
    | false =>
      rw [if_neg (by decide)] at hst
      simp only [s22_104, s22_105, s22_108, s22_121, s22_122, xset_self, tg_13, XG_1, XO_some, XV_1, xo_n, xo_i8, xo_r8, xo_i7, xo_r7, xo_i6, xo_r6, xo_i5, xo_r5, xo_i4, xo_r4, xo_i3, xo_r3, xo_i2, xo_r2, Option.toList_some, Option.toList_none, List.cons_append, List.nil_append, bI_t, bI_f, bI_0, bI_n0, if_true, if_false, true_and, and_true, ne_eq, not_true_eq_false, not_false_eq_true, one_ne0, reduceCtorEq]
      by_cases cE : ts y z p = 3 ∧ y (tf y z p) = 41
      · rw [if_pos cE] at hst
        rw [cE.1]
        by_cases co : opn W = 0
        · rw [if_pos co] at hst
          rw [co]
          simp only [c_joinE0 hb hz hf cE.2, s22_125, s22_128, s22_129, s22_132, xset_self, tg_2, XG_1, XO_some, XV_1, xo_n, xo_i8, xo_r8, xo_i7, xo_r7, xo_i6, xo_r6, xo_i5, xo_r5, xo_i4, xo_r4, xo_i3, xo_r3, xo_i2, xo_r2, Option.toList_some, Option.toList_none, List.cons_append, List.nil_append, bI_t, bI_f, bI_0, bI_n0, if_true, if_false, true_and, and_true, ne_eq, not_true_eq_false, not_false_eq_true, one_ne0, reduceCtorEq]
          exact K1 _ hst _ _ _ _ _ _ _ _ _ _ _
        · rw [if_neg co] at hst
          obtain ⟨W2, w1, w2, w3, w4, w5, w6, I2⟩ := pi_end I c0 co
          rw [w1] at hst
          refine c_joinE hb hz hf cE.2 ?_
          refine c_takesEnd hO hG I.1 (by omega) w1 w2 w3 hop w4 (fun G2 hO2 hG2 => ?_)
          have IH := ih (tn y z p) (stl 6 W2 (stl 0 W L).2).1 (stl 6 W2 (stl 0 W L).2).2 A false G2 O (nI (tf y z p)) (nI 3) (i + 1) (by omega) I2 hO2 hG2 (by omega) (fun r e => K1 r (hst.trans e)) (fun W2 L2 A2 r e => K2 W2 L2 A2 r (hst.trans e))
          obtain ⟨-, so6, -⟩ := stl_6 (nn := nnk ky) W2 (stl 0 W L).2 w2 w5 w6
          rw [so6] at IH
          simp only [s33_27, s33_27t, s33_27b, s22_125, s22_128, s22_129, s22_132, s22_133, s22_136, one_ne0, nI_1, XG_1, XO_some, XV_1, xo_n, xo_i8, xo_r8, xo_i7, xo_r7, xo_i6, xo_r6, xo_i5, xo_r5, xo_i4, xo_r4, xo_i3, xo_r3, xo_i2, xo_r2, Option.toList_some, Option.toList_none, List.cons_append, List.nil_append, bI_t, bI_f, bI_0, bI_n0, if_true, if_false, true_and, and_true, ne_eq, not_true_eq_false, not_false_eq_true, one_ne0, reduceCtorEq]
          exact IH
      · rw [if_neg cE] at hst
        cases cJ : jn y z p W with
        | none =>
          rw [cJ] at hst
          by_cases cT : ts y z p = 3 ∧ ¬ sgv (y (tf y z p)) = 0
          · have cT2 : rk (sgv (y (tf y z p))) = 3 ∧ tsg W = true := by
              unfold jn at cJ
              rw [if_pos cT] at cJ
              by_cases q : rk (sgv (y (tf y z p))) = 3 ∧ tsg W = true
              · exact q
              · rw [if_neg q] at cJ; cases cJ
            rw [cT.1]
            refine c_joinT hb hz hf cT.2 cT2.1 cT2.2 hO hG I.1 (by omega) (fun u c G2 => ?_)
            simp only [s22_125, s22_128, s22_129, s22_132, xset_self, tg_2, XG_1, XO_some, XV_1, xo_n, xo_i8, xo_r8, xo_i7, xo_r7, xo_i6, xo_r6, xo_i5, xo_r5, xo_i4, xo_r4, xo_i3, xo_r3, xo_i2, xo_r2, Option.toList_some, Option.toList_none, List.cons_append, List.nil_append, bI_t, bI_f, bI_0, bI_n0, if_true, if_false, true_and, and_true, ne_eq, not_true_eq_false, not_false_eq_true, one_ne0, reduceCtorEq]
            exact K1 _ hst _ _ _ _ _ _ _ _ _ _ _
          · have hx : ts y z p = 3 → sgv (y (tf y z p)) = 0 ∧ ¬ y (tf y z p) = 41 := fun q => by
              refine ⟨?_, fun q2 => cE ⟨q, q2⟩⟩
              by_cases q3 : sgv (y (tf y z p)) = 0
              · exact q3
              · exact absurd ⟨q, q3⟩ cT
            simp only [c_joinX (P := 0) hb hz hf h4 hx, s22_125, s22_128, s22_129, s22_132, xset_self, tg_2, XG_1, XO_some, XV_1, xo_n, xo_i8, xo_r8, xo_i7, xo_r7, xo_i6, xo_r6, xo_i5, xo_r5, xo_i4, xo_r4, xo_i3, xo_r3, xo_i2, xo_r2, Option.toList_some, Option.toList_none, List.cons_append, List.nil_append, bI_t, bI_f, bI_0, bI_n0, if_true, if_false, true_and, and_true, ne_eq, not_true_eq_false, not_false_eq_true, one_ne0, reduceCtorEq]
            exact K1 _ hst _ _ _ _ _ _ _ _ _ _ _
        | some g =>
          rw [cJ] at hst
          obtain ⟨j1, j2, j3, j4, j5⟩ := jn_ok cJ
          obtain ⟨q1, q2, q3, I2⟩ := pi_join I c0 cJ
          have hg0 : ¬ sgv (y (tf y z p)) = 0 := fun q => by rw [← j2] at q; rw [q] at j3; exact absurd (rk_9 j3).2.2.2.2.1 (by decide)
          rw [j1]
          refine c_joinS hb hz hf hg0 j2 j5 hO hG I.1 (by omega) q1 (fun G2 O2 hG2 hO2 => ?_)
          have IH := ih (tn y z p) (g :: (stl (rk g) W L).1) (stl (rk g) W L).2 A true G2 O2 (nI (tf y z p)) (nI 3) (i + 1) (by omega) I2 hO2 hG2 (by omega) (fun r e => K1 r (hst.trans e)) (fun W2 L2 A2 r e => K2 W2 L2 A2 r (hst.trans e))
          rw [show opn (g :: (stl (rk g) W L).1) = opn W by rw [← q2]; exact if_neg (rk_9 j3).2.2.2.1, show cn (g :: (stl (rk g) W L).1) = cn W by rw [← q3]; exact if_neg (rk_9 j3).2.2.1] at IH
          simp only [s22_125, s22_128, s22_129, s22_132, s22_133, s22_136, one_ne0, nI_1, XG_1, XO_some, XV_1, xo_n, xo_i8, xo_r8, xo_i7, xo_r7, xo_i6, xo_r6, xo_i5, xo_r5, xo_i4, xo_r4, xo_i3, xo_r3, xo_i2, xo_r2, Option.toList_some, Option.toList_none, List.cons_append, List.nil_append, bI_t, bI_f, bI_0, bI_n0, if_true, if_false, true_and, and_true, ne_eq, not_true_eq_false, not_false_eq_true, one_ne0, reduceCtorEq]
          exact IH
end FAU
