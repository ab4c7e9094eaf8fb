/-! ===== 78: the class's tape: pieces and signs ===== -/
theorem cenc_num {v : Nat} (h : v < 10000) : cenc (nI v) = nI v := (num_a h).2.2.1
theorem cenc_nam : ∀ i, i < 4 → cenc (nI (10000 + i)) = -1 - nI i := by decide
section PCE
variable {B d : Nat} {h : xH} {Q : Option Value → xH → Prop} {k m u c o n w v x : Int32} {G O y : Nat → Int32} {z p ky A : Nat} {adK adV : Nat → Nat} {W L : List Int32}
theorem l_cls0 {fr : Nat} {t s : Int32} {c1 : Slot} (hb : h.2.2.1 (B + 28) = .inl (0, xis 96 y)) (hz : z ≤ 96) (hf : fr < z) (hc : cls y fr = false) : XE (d + 6) 32 0 [.val (.ref (B + 27)), c1] [] (TS h B (nI z) (nI fr) t s k m u c o n w G O) Q ↔ XE (d + 6) 32 41 [.val (.ref (B + 27)), c1] [] (TS h B (nI z) (nI fr) t s k m u c o n w G O) Q := by
  by_cases h0 : fr = 0
  · have l0 : ¬ (0 : Int32) < nI fr := by rw [h0]; decide
    simp only [s32_0, s32_1, s32_4, s32_7, s32_8, s32_9, s32_12, s32_13, s32_14, s32_17, s32_19, s32_22, s32_23, s32_24, s32_27, s32_28, s32_29, s32_32, s32_35, s32_36, s32_39, s32_40, s32_40t, s32_40b, xset_self, tg_2, l0, XG_1, XO_some, XV_1, xo_n, xo_i8, xo_r8, xo_i7, xo_r7, xo_i6, xo_r6, xo_i5, xo_r5, xo_i4, xo_r4, xo_i3, xo_r3, xo_i2, xo_r2, Option.toList_some, Option.toList_none, List.cons_append, List.nil_append, bI_t, bI_f, bI_0, bI_n0, if_true, if_false, true_and, and_true, ne_eq, not_true_eq_false, not_false_eq_true, one_ne0, reduceCtorEq]
  · have l0 : (0 : Int32) < nI fr := nI_lt (a := 0) (by omega) (by omega)
    have m1 : nI fr - 1 = nI (fr - 1) := pk_sub (b := 1) (by omega)
    have s3 : so (y (fr - 1)) = 3 := by
      unfold cls at hc
      rw [decide_eq_true (show 0 < fr by omega), Bool.true_and, Bool.not_eq_false', decide_eq_true_eq] at hc
      exact hc
    by_cases e : y (fr - 1) = 32
    · simp only [s32_0, s32_1, s32_4, s32_7, s32_8, s32_9, s32_12, s32_13, s32_14, s32_17, s32_19, s32_22, s32_23, s32_24, s32_27, s32_28, s32_29, s32_32, s32_35, s32_36, s32_39, s32_40, s32_40t, s32_40b, xset_self, tg_2, l0, m1, c_byteAt hb hz (show fr - 1 < z by omega), e, XG_1, XO_some, XV_1, xo_n, xo_i8, xo_r8, xo_i7, xo_r7, xo_i6, xo_r6, xo_i5, xo_r5, xo_i4, xo_r4, xo_i3, xo_r3, xo_i2, xo_r2, Option.toList_some, Option.toList_none, List.cons_append, List.nil_append, bI_t, bI_f, bI_0, bI_n0, if_true, if_false, true_and, and_true, ne_eq, not_true_eq_false, not_false_eq_true, one_ne0, reduceCtorEq]
    · simp only [s32_0, s32_1, s32_4, s32_7, s32_8, s32_9, s32_12, s32_13, s32_14, s32_17, s32_19, s32_22, s32_23, s32_24, s32_27, s32_28, s32_29, s32_32, s32_35, s32_36, s32_39, s32_40, s32_40t, s32_40b, xset_self, tg_2, l0, m1, c_byteAt hb hz (show fr - 1 < z by omega), e, c_sortOf, s3, show (nI 3 : Int32) = 3 from rfl, XG_1, XO_some, XV_1, xo_n, xo_i8, xo_r8, xo_i7, xo_r7, xo_i6, xo_r6, xo_i5, xo_r5, xo_i4, xo_r4, xo_i3, xo_r3, xo_i2, xo_r2, Option.toList_some, Option.toList_none, List.cons_append, List.nil_append, bI_t, bI_f, bI_0, bI_n0, if_true, if_false, true_and, and_true, ne_eq, not_true_eq_false, not_false_eq_true, one_ne0, reduceCtorEq]
theorem l_cls1 {fr : Nat} {t s : Int32} {c1 : Slot} (hb : h.2.2.1 (B + 28) = .inl (0, xis 96 y)) (hz : z ≤ 96) (hf : fr < z) (hc : cls y fr = true) : XE (d + 6) 32 0 [.val (.ref (B + 27)), c1] [] (TS h B (nI z) (nI fr) t s k m u c o n w G O) Q ↔ Q (some (.int 0)) (TS h B (nI z) (nI fr) t s k m u c o n w G O) := by
  unfold cls at hc
  rw [Bool.and_eq_true, decide_eq_true_eq, Bool.not_eq_true', decide_eq_false_iff_not] at hc
  have l0 : (0 : Int32) < nI fr := nI_lt (a := 0) hc.1 (by omega)
  have m1 : nI fr - 1 = nI (fr - 1) := pk_sub (b := 1) (by omega)
  have e : ¬ y (fr - 1) = 32 := fun q => hc.2 (by rw [q]; exact so_32)
  have s3 : (nI (so (y (fr - 1))) = 3) = False := eq_false (fun q => hc.2 ((nI_eq (b := 3) (by have := so_n (y (fr - 1)); omega) (by decide)).mp q))
  simp only [s32_0, s32_1, s32_4, s32_7, s32_8, s32_9, s32_12, s32_13, s32_14, s32_17, s32_19, s32_22, s32_23, s32_24, s32_27, s32_28, s32_29, s32_32, s32_35, s32_36, s32_39, s32_40, s32_40t, s32_40b, xset_self, tg_2, l0, m1, c_byteAt hb hz (show fr - 1 < z by omega), e, c_sortOf, s3, XG_1, XO_some, XV_1, xo_n, xo_i8, xo_r8, xo_i7, xo_r7, xo_i6, xo_r6, xo_i5, xo_r5, xo_i4, xo_r4, xo_i3, xo_r3, xo_i2, xo_r2, Option.toList_some, Option.toList_none, List.cons_append, List.nil_append, bI_t, bI_f, bI_0, bI_n0, if_true, if_false, true_and, and_true, ne_eq, not_true_eq_false, not_false_eq_true, one_ne0, reduceCtorEq]
theorem ts_lt : ts y z p < 4 := by
  unfold ts
  by_cases e : tf y z p < z
  · rw [if_pos e]; exact so_n _
  · rw [if_neg e]; decide
theorem c_termN (hk : ky < 3) (hb : h.2.2.1 (B + 28) = .inl (0, xis 96 y)) (hz : z ≤ 96) (S : STH h adK adV) (ha : ∀ i, i < 6 → adV i < B) (hp : p ≤ z) (h0 : ¬ ts y z p = 0) (h3 : ¬ ts y z p = 3) (e : trm y z ky p = none) : XC (d + 7) 32 [.ref (B + 27)] (TS h B (nI z) (nI (tf y z p)) (nI (tn y z p)) (nI (ts y z p)) (nI ky) m u c o n w G O) Q ↔ Q (some (.int 0)) (TS h B (nI z) (nI (tf y z p)) (nI (tn y z p)) (nI (ts y z p)) (nI ky) m u c o n w G O) := by
  obtain ⟨hf, hs⟩ := ts_n h0
  have hg := tn_gt h0
  have hl := tn_le (b := y) hp
  have h4 := ts_lt (y := y) (z := z) (p := p)
  have sb : nI (tn y z p) - nI (tf y z p) = nI (tn y z p - tf y z p) := pk_sub (by omega)
  rw [e32]
  unfold trm at e
  cases c1 : cls y (tf y z p) with
  | true => exact l_cls1 hb hz hf c1
  | false =>
    refine (l_cls0 hb hz hf c1).trans ?_
    rw [c1, if_neg (by decide)] at e
    by_cases c2 : ts y z p = 2
    · rw [if_pos c2] at e
      by_cases c3 : 4 < tn y z p - tf y z p
      · have e2 : (nI (ts y z p) = 2) = True := eq_true (by rw [c2]; rfl)
        have l4 : (4 : Int32) < nI (tn y z p - tf y z p) := nI_lt (a := 4) c3 (by omega)
        simp only [s32_41, s32_42, s32_45, s32_46, s32_49, s32_50, s32_53, s32_54, s32_57, s32_58, s32_59, s32_62, s32_63, s32_63t, s32_63b, xset_self, tg_2, tg_3, tg_4, e2, sb, l4, XG_1, XO_some, XV_1, xo_n, xo_i8, xo_r8, xo_i7, xo_r7, xo_i6, xo_r6, xo_i5, xo_r5, xo_i4, xo_r4, xo_i3, xo_r3, xo_i2, xo_r2, Option.toList_some, Option.toList_none, List.cons_append, List.nil_append, bI_t, bI_f, bI_0, bI_n0, if_true, if_false, true_and, and_true, ne_eq, not_true_eq_false, not_false_eq_true, one_ne0, reduceCtorEq]
      · rw [if_neg c3] at e; cases e
    · have e2 : (nI (ts y z p) = 2) = False := eq_false (fun q => c2 ((nI_eq (b := 2) (by omega) (by decide)).mp q))
      have c1' : ts y z p = 1 := by omega
      have hL : isL (y (tf y z p)) = true := so_1.mp (by rw [← hs]; exact c1')
      rw [if_neg c2] at e
      have c3 : ¬ (tn y z p - tf y z p = 1 ∧ ¬ nmv ky (y (tf y z p)) < 0) := fun q => by rw [if_pos q] at e; cases e
      have lt : (if tn y z p - tf y z p = 1 then nmv ky (y (tf y z p)) else -1) < (0 : Int32) := by
        by_cases q : tn y z p - tf y z p = 1
        · rw [if_pos q]
          by_cases q2 : nmv ky (y (tf y z p)) < 0
          · exact q2
          · exact absurd ⟨q, q2⟩ c3
        · rw [if_neg q]; decide
      simp only [s32_41, s32_42, s32_45, s32_46, s32_75, s32_76, s32_79, s32_80, s32_81, s32_84, s32_85, s32_85t, s32_85b, xset_self, tg_4, e2, c_nameHere hk hb hz S ha hg hl hL, lt, XG_1, XO_some, XV_1, xo_n, xo_i8, xo_r8, xo_i7, xo_r7, xo_i6, xo_r6, xo_i5, xo_r5, xo_i4, xo_r4, xo_i3, xo_r3, xo_i2, xo_r2, Option.toList_some, Option.toList_none, List.cons_append, List.nil_append, bI_t, bI_f, bI_0, bI_n0, if_true, if_false, true_and, and_true, ne_eq, not_true_eq_false, not_false_eq_true, one_ne0, reduceCtorEq]
theorem c_term (hk : ky < 3) (hb : h.2.2.1 (B + 28) = .inl (0, xis 96 y)) (hz : z ≤ 96) (S : STH h adK adV) (ha : ∀ i, i < 6 → adV i < B) (I : PI (nnk ky) z p W L A true) (h0 : ¬ ts y z p = 0) (h3 : ¬ ts y z p = 3) (e : trm y z ky p = some v) (hO : SRe asc O W) (hG : SRe cenc G L) (K : ∀ G2, SRe asc O (stl 6 W (v :: L)).1 → SRe cenc G2 (stl 6 W (v :: L)).2 → Q (some (.int 1)) (TS h B (nI z) (nI (tf y z p)) (nI (tn y z p)) (nI (ts y z p)) (nI ky) (nI (A + 1)) (nI (stl 6 W (v :: L)).2.length) (nI (stl 6 W (v :: L)).1.length) o (nI (cn (stl 6 W (v :: L)).1)) 0 G2 O)) : XC (d + 7) 32 [.ref (B + 27)] (TS h B (nI z) (nI (tf y z p)) (nI (tn y z p)) (nI (ts y z p)) (nI ky) (nI A) (nI L.length) (nI W.length) o (nI (cn W)) w G O) Q := by
  have hp : p ≤ z := I.2.2.2.1
  have hlen := I.2.2.1
  obtain ⟨tv, tn0⟩ := trm_ok hk h0 h3 e
  obtain ⟨hf, hs⟩ := ts_n h0
  have hg := tn_gt h0
  have hl := tn_le (b := y) hp
  have h4 := ts_lt (y := y) (z := z) (p := p)
  have sb : nI (tn y z p) - nI (tf y z p) = nI (tn y z p - tf y z p) := pk_sub (by omega)
  have fin : ∀ {c1 : Slot}, XE (d + 6) 32 93 [.val (.ref (B + 27)), c1] [] (TS h B (nI z) (nI (tf y z p)) (nI (tn y z p)) (nI (ts y z p)) (nI ky) (nI A) (nI (L.length + 1)) (nI W.length) o (nI (cn W)) w (upd G L.length (cenc v)) O) Q := fun {c1} => by
    simp only [s32_93, s32_94, s32_94r, s32_95, s32_98, s32_99, s32_100, s32_103, s32_104, xset_self, tg_6, tp_6, xset_twice, nI_1, XG_1, XO_some, XV_1, xo_n, xo_i8, xo_r8, xo_i7, xo_r7, xo_i6, xo_r6, xo_i5, xo_r5, xo_i4, xo_r4, xo_i3, xo_r3, xo_i2, xo_r2, Option.toList_some, Option.toList_none, List.cons_append, List.nil_append, bI_t, bI_f, bI_0, bI_n0, if_true, if_false, true_and, and_true, ne_eq, not_true_eq_false, not_false_eq_true, one_ne0, reduceCtorEq]
    refine c_endP (L := v :: L) hO (SRe_push hG rfl) I.1 (by show W.length + (L.length + 1) ≤ 96; omega) (fun G2 hG2 => ?_)
    simp only [s32_107, s32_108, s32_108t, s32_108b, XG_1, XO_some, XV_1, xo_n, xo_i8, xo_r8, xo_i7, xo_r7, xo_i6, xo_r6, xo_i5, xo_r5, xo_i4, xo_r4, xo_i3, xo_r3, xo_i2, xo_r2, Option.toList_some, Option.toList_none, List.cons_append, List.nil_append, bI_t, bI_f, bI_0, bI_n0, if_true, if_false, true_and, and_true, ne_eq, not_true_eq_false, not_false_eq_true, one_ne0, reduceCtorEq]
    exact K G2 (SRt W _ hO) hG2
  rw [e32]
  unfold trm at e
  cases c1 : cls y (tf y z p) with
  | true => rw [c1, if_pos rfl] at e; cases e
  | false =>
    refine (l_cls0 hb hz hf c1).mpr ?_
    rw [c1, if_neg (by decide)] at e
    by_cases c2 : ts y z p = 2
    · rw [if_pos c2] at e
      by_cases c3 : 4 < tn y z p - tf y z p
      · rw [if_pos c3] at e; cases e
      · rw [if_neg c3] at e
        have e1 := Option.some.inj e
        have e2 : (nI (ts y z p) = 2) = True := eq_true (by rw [c2]; rfl)
        have l4 : ¬ (4 : Int32) < nI (tn y z p - tf y z p) := nI_nlt (a := 4) (by omega) (by decide)
        have ec : cenc v = v := by
          rcases tv with ⟨q, q1, q2⟩ | ⟨q, q1, q2⟩
          · rw [q2]; exact cenc_num q1
          · exfalso
            have hb2 : 0 * 10 ^ (tn y z p - tf y z p) + 10 ^ (tn y z p - tf y z p) ≤ 10000 := by
              have : 10 ^ (tn y z p - tf y z p) ≤ 10 ^ 4 := Nat.pow_le_pow_right (by decide) (by omega)
              omega
            obtain ⟨r1, r2, r3⟩ := nmb_n (b := y) (tn y z p - tf y z p) (tf y z p) 0 hb2 (fun j j1 j2 => by
              have := tn_in h0 (j := j) j1 (by omega)
              rw [c2] at this
              exact so_2.mp this)
            have h44 : nnk ky ≤ 4 := by rcases (show ky = 0 ∨ ky = 1 ∨ ky = 2 by omega) with rfl | rfl | rfl <;> decide
            have r4 : nmb y (tn y z p - tf y z p) (tf y z p) 0 = nI r1 := r3
            rw [e1, q2] at r4
            have := (nI_eq (by omega) (by omega)).mp r4
            omega
        rw [ec] at fin
        simp only [s32_41, s32_42, s32_45, s32_46, s32_49, s32_50, s32_53, s32_54, s32_57, s32_58, s32_59, s32_62, s32_63, s32_63t, s32_63b, s32_64, s32_65, s32_66, s32_69, s32_72, xset_self, tg_2, tg_3, tg_4, e2, sb, l4, c_numb hb hz (show tf y z p ≤ tn y z p by omega) hl, e1, c_emit (show L.length < 96 by omega), XG_1, XO_some, XV_1, xo_n, xo_i8, xo_r8, xo_i7, xo_r7, xo_i6, xo_r6, xo_i5, xo_r5, xo_i4, xo_r4, xo_i3, xo_r3, xo_i2, xo_r2, Option.toList_some, Option.toList_none, List.cons_append, List.nil_append, bI_t, bI_f, bI_0, bI_n0, if_true, if_false, true_and, and_true, ne_eq, not_true_eq_false, not_false_eq_true, one_ne0, reduceCtorEq]
        exact fin
    · have e2 : (nI (ts y z p) = 2) = False := eq_false (fun q => c2 ((nI_eq (b := 2) (by omega) (by decide)).mp q))
      have c1' : ts y z p = 1 := by clear tv; omega
      have hL : isL (y (tf y z p)) = true := so_1.mp (by rw [← hs]; exact c1')
      rw [if_neg c2] at e
      by_cases c3 : tn y z p - tf y z p = 1 ∧ ¬ nmv ky (y (tf y z p)) < 0
      · rw [if_pos c3] at e
        have e1 := Option.some.inj e
        obtain ⟨i, i1, i2⟩ := nmv_n hk c3.2
        have h44 : nnk ky ≤ 4 := by rcases (show ky = 0 ∨ ky = 1 ∨ ky = 2 by omega) with rfl | rfl | rfl <;> decide
        have ev : (if tn y z p - tf y z p = 1 then nmv ky (y (tf y z p)) else -1) = nI i := by rw [if_pos c3.1]; exact i2
        have ec : cenc v = -1 - nI i := by
          rw [← e1, i2, show (10000 : Int32) + nI i = nI (10000 + i) from nI_add 10000 i]
          exact cenc_nam i (by omega)
        have lt : ¬ nI i < 0 := nI_nlt (b := 0) (by omega) (by omega)
        rw [ec] at fin
        simp only [s32_41, s32_42, s32_45, s32_46, s32_75, s32_76, s32_79, s32_80, s32_81, s32_84, s32_85, s32_85t, s32_85b, s32_86, s32_87, s32_88, s32_89, s32_90, xset_self, tg_4, e2, c_nameHere hk hb hz S ha hg hl hL, ev, lt, c_emit (show L.length < 96 by omega), XG_1, XO_some, XV_1, xo_n, xo_i8, xo_r8, xo_i7, xo_r7, xo_i6, xo_r6, xo_i5, xo_r5, xo_i4, xo_r4, xo_i3, xo_r3, xo_i2, xo_r2, Option.toList_some, Option.toList_none, List.cons_append, List.nil_append, bI_t, bI_f, bI_0, bI_n0, if_true, if_false, true_and, and_true, ne_eq, not_true_eq_false, not_false_eq_true, one_ne0, reduceCtorEq]
        exact fin
      · rw [if_neg c3] at e; cases e
theorem c_pieceO {D P : Nat} {fr : Nat} {t n : Int32} (hb : h.2.2.1 (B + 28) = .inl (0, xis 96 y)) (hz : z ≤ 96) (hf : fr < z) (hy : y fr = 40) (hP : P < 8) (hD : D < 96) : XC (d + 8) 31 [.ref (B + 27)] (TS h B (nI z) (nI fr) t (nI 3) k m u (nI D) (nI P) n w G O) Q ↔ Q (some (.int 1)) (TS h B (nI z) (nI fr) t (nI 3) k m u (nI (D + 1)) (nI (P + 1)) n w G (upd O D 40)) := by
  have l8 : nI P < 8 := nI_lt (b := 8) hP (by decide)
  rw [e31]
  simp only [s31_0, s31_1, s31_4, s31_5, s31_8, s31_9, s31_12, s31_12t, s31_12b, s31_13, s31_14, s31_15, s31_18, s31_21, s31_22, s31_23, s31_25, s31_28, s31_29, s31_32, s31_34, s31_37, s31_38, s31_38r, s31_39, s31_42, s31_43, s31_44, s31_47, s31_48, s31_49, s31_52, s31_53, s31_53t, s31_53b, s31_54, s31_55, s31_57, s31_60, s31_61, s31_64, s31_66, s31_69, s31_70, s31_70r, s31_71, s31_74, s31_75, s31_76, s31_79, s31_80, s31_81, s31_84, s31_85, s31_85t, s31_85b, s31_86, s31_87, s31_87t, s31_87b, xset_self, tg_2, tg_4, tg_11, show ((nI 3 : Int32) = 3) = True from eq_true rfl, c_byteAt hb hz hf, hy, l8, tp_11, xset_twice, c_push hD, nI_1, XG_1, XO_some, XV_1, xo_n, xo_i8, xo_r8, xo_i7, xo_r7, xo_i6, xo_r6, xo_i5, xo_r5, xo_i4, xo_r4, xo_i3, xo_r3, xo_i2, xo_r2, Option.toList_some, Option.toList_none, List.cons_append, List.nil_append, bI_t, bI_f, bI_0, bI_n0, if_true, if_false, true_and, and_true, ne_eq, not_true_eq_false, not_false_eq_true, one_ne0, reduceCtorEq]
theorem c_pieceN {D P : Nat} {fr : Nat} {t : Int32} (hb : h.2.2.1 (B + 28) = .inl (0, xis 96 y)) (hz : z ≤ 96) (hf : fr < z) (hy : y fr = 33) (hP : P < 8) (hD : D < 96) : XC (d + 8) 31 [.ref (B + 27)] (TS h B (nI z) (nI fr) t (nI 3) k m u (nI D) o (nI P) w G O) Q ↔ Q (some (.int 1)) (TS h B (nI z) (nI fr) t (nI 3) k m u (nI (D + 1)) o (nI (P + 1)) w G (upd O D 33)) := by
  have l8 : nI P < 8 := nI_lt (b := 8) hP (by decide)
  rw [e31]
  simp only [s31_0, s31_1, s31_4, s31_5, s31_8, s31_9, s31_12, s31_12t, s31_12b, s31_13, s31_14, s31_15, s31_18, s31_21, s31_22, s31_23, s31_25, s31_28, s31_29, s31_32, s31_34, s31_37, s31_38, s31_38r, s31_39, s31_42, s31_43, s31_44, s31_47, s31_48, s31_49, s31_52, s31_53, s31_53t, s31_53b, s31_54, s31_55, s31_57, s31_60, s31_61, s31_64, s31_66, s31_69, s31_70, s31_70r, s31_71, s31_74, s31_75, s31_76, s31_79, s31_80, s31_81, s31_84, s31_85, s31_85t, s31_85b, s31_86, s31_87, s31_87t, s31_87b, xset_self, tg_2, tg_4, tg_11, tg_12, show ((nI 3 : Int32) = 3) = True from eq_true rfl, c_byteAt hb hz hf, hy, show ((33 : Int32) = 40) = False from eq_false (by decide), l8, tp_12, xset_twice, c_push hD, nI_1, XG_1, XO_some, XV_1, xo_n, xo_i8, xo_r8, xo_i7, xo_r7, xo_i6, xo_r6, xo_i5, xo_r5, xo_i4, xo_r4, xo_i3, xo_r3, xo_i2, xo_r2, Option.toList_some, Option.toList_none, List.cons_append, List.nil_append, bI_t, bI_f, bI_0, bI_n0, if_true, if_false, true_and, and_true, ne_eq, not_true_eq_false, not_false_eq_true, one_ne0, reduceCtorEq]
theorem c_pieceX {P N : Nat} {fr : Nat} {t : Int32} (hb : h.2.2.1 (B + 28) = .inl (0, xis 96 y)) (hz : z ≤ 96) (hf : fr < z) (h1 : ¬ (y fr = 40 ∧ P < 8)) (h2 : ¬ (y fr = 33 ∧ N < 8)) (hP : P < 2 ^ 31) (hN : N < 2 ^ 31) : XC (d + 8) 31 [.ref (B + 27)] (TS h B (nI z) (nI fr) t (nI 3) k m u c (nI P) (nI N) w G O) Q ↔ Q (some (.int 0)) (TS h B (nI z) (nI fr) t (nI 3) k m u c (nI P) (nI N) w G O) := by
  have e3 : ((nI 3 : Int32) = 3) = True := eq_true rfl
  rw [e31]
  by_cases c1 : y fr = 40
  · have l8 : ¬ nI P < 8 := nI_nlt (b := 8) (Nat.not_lt.mp (fun q => h1 ⟨c1, q⟩)) hP
    simp only [s31_0, s31_1, s31_4, s31_5, s31_8, s31_9, s31_12, s31_12t, s31_12b, s31_13, s31_14, s31_15, s31_18, s31_21, s31_22, s31_23, s31_25, s31_28, s31_29, s31_32, s31_34, s31_37, s31_38, s31_38r, s31_39, s31_42, s31_43, s31_44, s31_47, s31_48, s31_49, s31_52, s31_53, s31_53t, s31_53b, s31_54, s31_55, s31_57, s31_60, s31_61, s31_64, s31_66, s31_69, s31_70, s31_70r, s31_71, s31_74, s31_75, s31_76, s31_79, s31_80, s31_81, s31_84, s31_85, s31_85t, s31_85b, s31_86, s31_87, s31_87t, s31_87b, xset_self, tg_2, tg_4, tg_11, e3, c_byteAt hb hz hf, c1, show ((40 : Int32) = 33) = False from eq_false (by decide), l8, XG_1, XO_some, XV_1, xo_n, xo_i8, xo_r8, xo_i7, xo_r7, xo_i6, xo_r6, xo_i5, xo_r5, xo_i4, xo_r4, xo_i3, xo_r3, xo_i2, xo_r2, Option.toList_some, Option.toList_none, List.cons_append, List.nil_append, bI_t, bI_f, bI_0, bI_n0, if_true, if_false, true_and, and_true, ne_eq, not_true_eq_false, not_false_eq_true, one_ne0, reduceCtorEq]
  · by_cases c2 : y fr = 33
    · have l8 : ¬ nI N < 8 := nI_nlt (b := 8) (Nat.not_lt.mp (fun q => h2 ⟨c2, q⟩)) hN
      simp only [s31_0, s31_1, s31_4, s31_5, s31_8, s31_9, s31_12, s31_12t, s31_12b, s31_13, s31_14, s31_15, s31_18, s31_21, s31_22, s31_23, s31_25, s31_28, s31_29, s31_32, s31_34, s31_37, s31_38, s31_38r, s31_39, s31_42, s31_43, s31_44, s31_47, s31_48, s31_49, s31_52, s31_53, s31_53t, s31_53b, s31_54, s31_55, s31_57, s31_60, s31_61, s31_64, s31_66, s31_69, s31_70, s31_70r, s31_71, s31_74, s31_75, s31_76, s31_79, s31_80, s31_81, s31_84, s31_85, s31_85t, s31_85b, s31_86, s31_87, s31_87t, s31_87b, xset_self, tg_2, tg_4, tg_12, e3, c_byteAt hb hz hf, c2, show ((33 : Int32) = 40) = False from eq_false (by decide), l8, XG_1, XO_some, XV_1, xo_n, xo_i8, xo_r8, xo_i7, xo_r7, xo_i6, xo_r6, xo_i5, xo_r5, xo_i4, xo_r4, xo_i3, xo_r3, xo_i2, xo_r2, Option.toList_some, Option.toList_none, List.cons_append, List.nil_append, bI_t, bI_f, bI_0, bI_n0, if_true, if_false, true_and, and_true, ne_eq, not_true_eq_false, not_false_eq_true, one_ne0, reduceCtorEq]
    · simp only [s31_0, s31_1, s31_4, s31_5, s31_8, s31_9, s31_12, s31_12t, s31_12b, s31_13, s31_14, s31_15, s31_18, s31_21, s31_22, s31_23, s31_25, s31_28, s31_29, s31_32, s31_34, s31_37, s31_38, s31_38r, s31_39, s31_42, s31_43, s31_44, s31_47, s31_48, s31_49, s31_52, s31_53, s31_53t, s31_53b, s31_54, s31_55, s31_57, s31_60, s31_61, s31_64, s31_66, s31_69, s31_70, s31_70r, s31_71, s31_74, s31_75, s31_76, s31_79, s31_80, s31_81, s31_84, s31_85, s31_85t, s31_85b, s31_86, s31_87, s31_87t, s31_87b, xset_self, tg_2, tg_4, e3, c_byteAt hb hz hf, c1, c2, XG_1, XO_some, XV_1, xo_n, xo_i8, xo_r8, xo_i7, xo_r7, xo_i6, xo_r6, xo_i5, xo_r5, xo_i4, xo_r4, xo_i3, xo_r3, xo_i2, xo_r2, Option.toList_some, Option.toList_none, List.cons_append, List.nil_append, bI_t, bI_f, bI_0, bI_n0, if_true, if_false, true_and, and_true, ne_eq, not_true_eq_false, not_false_eq_true, one_ne0, reduceCtorEq]
theorem c_joinX {fr st P : Nat} {t : Int32} (hb : h.2.2.1 (B + 28) = .inl (0, xis 96 y)) (hz : z ≤ 96) (hf : fr < z) (hst : st < 4) (hx : st = 3 → sgv (y fr) = 0 ∧ ¬ y fr = 41) : XC (d + 4) 33 [.ref (B + 27)] (TS h B (nI z) (nI fr) t (nI st) k m u c o n w G O) Q ↔ Q (some (.int 0)) (TS h B (nI z) (nI fr) t (nI st) k m u c o n w G O) := by
  rw [e33]
  by_cases c1 : st = 3
  · obtain ⟨h1, h2⟩ := hx c1
    have e3 : (nI st = 3) = True := eq_true (by rw [c1]; rfl)
    simp only [s33_0, s33_1, s33_2, s33_5, s33_8, s33_9, s33_10, s33_13, s33_14, s33_17, s33_18, s33_20, s33_23, s33_24, s33_27, s33_27t, s33_27b, s33_28, s33_29, s33_32, s33_33, s33_36, s33_37, s33_40, s33_43, s33_44, s33_45, s33_46, s33_49, s33_50, s33_50t, s33_50b, xset_self, tg_2, tg_4, e3, c_byteAt hb hz hf, h2, c_rankOf, rkc_0 h1, show ((nI 0 : Int32) = 0) = True from eq_true rfl, XG_1, XO_some, XV_1, xo_n, xo_i8, xo_r8, xo_i7, xo_r7, xo_i6, xo_r6, xo_i5, xo_r5, xo_i4, xo_r4, xo_i3, xo_r3, xo_i2, xo_r2, Option.toList_some, Option.toList_none, List.cons_append, List.nil_append, bI_t, bI_f, bI_0, bI_n0, if_true, if_false, true_and, and_true, ne_eq, not_true_eq_false, not_false_eq_true, one_ne0, reduceCtorEq]
  · have e3 : (nI st = 3) = False := eq_false (fun q => c1 ((nI_eq (b := 3) (by omega) (by decide)).mp q))
    simp only [s33_0, s33_1, s33_2, s33_5, s33_8, s33_9, s33_10, s33_13, s33_14, s33_17, s33_18, s33_20, s33_23, s33_24, s33_27, s33_27t, s33_27b, s33_28, s33_29, s33_32, s33_33, s33_36, s33_37, s33_40, s33_43, s33_44, s33_45, s33_46, s33_49, s33_50, s33_50t, s33_50b, xset_self, tg_2, tg_4, e3, c_byteAt hb hz hf, XG_1, XO_some, XV_1, xo_n, xo_i8, xo_r8, xo_i7, xo_r7, xo_i6, xo_r6, xo_i5, xo_r5, xo_i4, xo_r4, xo_i3, xo_r3, xo_i2, xo_r2, Option.toList_some, Option.toList_none, List.cons_append, List.nil_append, bI_t, bI_f, bI_0, bI_n0, if_true, if_false, true_and, and_true, ne_eq, not_true_eq_false, not_false_eq_true, one_ne0, reduceCtorEq]
theorem c_joinE0 {fr : Nat} {t : Int32} (hb : h.2.2.1 (B + 28) = .inl (0, xis 96 y)) (hz : z ≤ 96) (hf : fr < z) (hy : y fr = 41) : XC (d + 4) 33 [.ref (B + 27)] (TS h B (nI z) (nI fr) t (nI 3) k m u c (nI 0) n w G O) Q ↔ Q (some (.int 0)) (TS h B (nI z) (nI fr) t (nI 3) k m u c (nI 0) n w G O) := by
  rw [e33]
  simp only [s33_0, s33_1, s33_2, s33_5, s33_8, s33_9, s33_10, s33_13, s33_14, s33_17, s33_18, s33_20, s33_23, s33_24, s33_27, s33_27t, s33_27b, xset_self, tg_2, tg_4, show ((nI 3 : Int32) = 3) = True from eq_true rfl, c_byteAt hb hz hf, hy, XG_1, XO_some, XV_1, xo_n, xo_i8, xo_r8, xo_i7, xo_r7, xo_i6, xo_r6, xo_i5, xo_r5, xo_i4, xo_r4, xo_i3, xo_r3, xo_i2, xo_r2, Option.toList_some, Option.toList_none, List.cons_append, List.nil_append, bI_t, bI_f, bI_0, bI_n0, if_true, if_false, true_and, and_true, ne_eq, not_true_eq_false, not_false_eq_true, one_ne0, reduceCtorEq]
  rw [e34]
  simp only [s34_0, s34_1, s34_4, s34_7, s34_8, s34_8t, s34_8b, xset_self, tg_11, show ((nI 0 : Int32) = 0) = True from eq_true rfl, s33_27, s33_27t, s33_27b, XG_1, XO_some, XV_1, xo_n, xo_i8, xo_r8, xo_i7, xo_r7, xo_i6, xo_r6, xo_i5, xo_r5, xo_i4, xo_r4, xo_i3, xo_r3, xo_i2, xo_r2, Option.toList_some, Option.toList_none, List.cons_append, List.nil_append, bI_t, bI_f, bI_0, bI_n0, if_true, if_false, true_and, and_true, ne_eq, not_true_eq_false, not_false_eq_true, one_ne0, reduceCtorEq]
theorem c_joinE {fr : Nat} {t : Int32} (hb : h.2.2.1 (B + 28) = .inl (0, xis 96 y)) (hz : z ≤ 96) (hf : fr < z) (hy : y fr = 41) (K : XC (d + 3) 34 [.ref (B + 27)] (TS h B (nI z) (nI fr) t (nI 3) k m u c o n w G O) (fun v h2 => XE (d + 3) 33 27 [.val (.ref (B + 27)), .val (.int 41), .unset, .unset] (v.toList ++ []) h2 Q)) : XC (d + 4) 33 [.ref (B + 27)] (TS h B (nI z) (nI fr) t (nI 3) k m u c o n w G O) Q := by
  rw [e33]
  simp only [s33_0, s33_1, s33_2, s33_5, s33_8, s33_9, s33_10, s33_13, s33_14, s33_17, s33_18, s33_20, s33_23, s33_24, xset_self, tg_2, tg_4, show ((nI 3 : Int32) = 3) = True from eq_true rfl, c_byteAt hb hz hf, hy, XG_1, XO_some, XV_1, xo_n, xo_i8, xo_r8, xo_i7, xo_r7, xo_i6, xo_r6, xo_i5, xo_r5, xo_i4, xo_r4, xo_i3, xo_r3, xo_i2, xo_r2, Option.toList_some, Option.toList_none, List.cons_append, List.nil_append, bI_t, bI_f, bI_0, bI_n0, if_true, if_false, true_and, and_true, ne_eq, not_true_eq_false, not_false_eq_true, one_ne0, reduceCtorEq]
  exact K
/-- a test where one stands already -/
theorem c_joinT {fr : Nat} {t : Int32} (hb : h.2.2.1 (B + 28) = .inl (0, xis 96 y)) (hz : z ≤ 96) (hf : fr < z) (hg : ¬ sgv (y fr) = 0) (h3 : rk (sgv (y fr)) = 3) (ht : tsg W = true) (hO : SRe asc O W) (hG : SRe cenc G L) (hs : sh 7 W) (hl : W.length + L.length ≤ 96) (K : ∀ u c G2, Q (some (.int 0)) (TS h B (nI z) (nI fr) t (nI 3) k m u c o n w G2 O)) : XC (d + 4) 33 [.ref (B + 27)] (TS h B (nI z) (nI fr) t (nI 3) k m (nI L.length) (nI W.length) o n w G O) Q := by
  obtain ⟨g1, g2⟩ := sgv_9 hg
  have r3 : rkc (y fr) = 3 := by rw [← g2, rkc_9 g1]; exact h3
  have n41 : ¬ y fr = 41 := fun q => hg (by rw [q]; decide)
  have e4 : (3 : Int32) + 1 = nI 4 := rfl
  rw [e33]
  simp only [s33_0, s33_1, s33_2, s33_5, s33_8, s33_9, s33_10, s33_13, s33_14, s33_17, s33_18, s33_20, s33_23, s33_24, s33_27, s33_27t, s33_27b, s33_28, s33_29, s33_32, s33_33, s33_36, s33_37, s33_40, s33_43, s33_44, s33_45, s33_46, s33_49, s33_50, s33_50t, s33_50b, s33_51, s33_52, s33_53, s33_56, s33_57, s33_58, s33_59, s33_62, s33_63, xset_self, tg_2, tg_4, show ((nI 3 : Int32) = 3) = True from eq_true rfl, c_byteAt hb hz hf, n41, c_rankOf, r3, show ((nI 3 : Int32) = 0) = False from eq_false (by decide), XG_1, XO_some, XV_1, xo_n, xo_i8, xo_r8, xo_i7, xo_r7, xo_i6, xo_r6, xo_i5, xo_r5, xo_i4, xo_r4, xo_i3, xo_r3, xo_i2, xo_r2, Option.toList_some, Option.toList_none, List.cons_append, List.nil_append, bI_t, bI_f, bI_0, bI_n0, if_true, if_false, true_and, and_true, ne_eq, not_true_eq_false, not_false_eq_true, one_ne0, reduceCtorEq]
  rw [show (nI 3 : Int32) + 1 = nI 4 from rfl]
  refine l_join (by decide) (by decide) W L G 7 (by omega) hO hG hs hl (fun G2 hG2 => ?_)
  obtain ⟨s1, W2, e1, a1, a2⟩ := stl_4t W 7 L (by omega) hs ht
  have hO2 := SRt (l := 4) W L hO
  have l1 := stl_len 4 W L
  rw [e1] at hO2 l1 ⊢
  have l2 : (s1 :: W2).length = W2.length + 1 := rfl
  have o1 : O W2.length = asc s1 := hO2.1
  rw [l2]
  simp only [s33_107, s33_108, s33_109, s33_112, s33_113, s33_116, s33_119, s33_120, s33_123, s33_124, s33_124t, s33_124b, show ((nI 3 : Int32) = 3) = True from eq_true rfl, xset_self, c_top (show W2.length + 1 ≤ 96 by omega), o1, c_rankOf, rkc_9 a1, a2, XG_1, XO_some, XV_1, xo_n, xo_i8, xo_r8, xo_i7, xo_r7, xo_i6, xo_r6, xo_i5, xo_r5, xo_i4, xo_r4, xo_i3, xo_r3, xo_i2, xo_r2, Option.toList_some, Option.toList_none, List.cons_append, List.nil_append, bI_t, bI_f, bI_0, bI_n0, if_true, if_false, true_and, and_true, ne_eq, not_true_eq_false, not_false_eq_true, one_ne0, reduceCtorEq]
  exact K _ _ _
theorem l_j125 {t f s c1 c2 : Int32} {D : Nat} {cc : Slot} (hD : D < 96) : XE (d + 3) 33 125 [.val (.ref (B + 27)), .val (.int c1), .val (.int c2), cc] [] (TS h B (nI z) f t s k m u (nI D) o n w G O) Q ↔ Q (some (.int 1)) (TS h B (nI z) f t s k m u (nI (D + 1)) o n 1 G (upd O D c1)) := by
  simp only [s33_125, s33_126, s33_127, s33_130, s33_131, s33_132, s33_135, s33_136, s33_136t, s33_136b, xset_self, c_push hD, tp_13, xset_twice, or_true, XG_1, XO_some, XV_1, xo_n, xo_i8, xo_r8, xo_i7, xo_r7, xo_i6, xo_r6, xo_i5, xo_r5, xo_i4, xo_r4, xo_i3, xo_r3, xo_i2, xo_r2, Option.toList_some, Option.toList_none, List.cons_append, List.nil_append, bI_t, bI_f, bI_0, bI_n0, if_true, if_false, true_and, and_true, ne_eq, not_true_eq_false, not_false_eq_true, one_ne0, reduceCtorEq]
theorem c_joinS {fr : Nat} {t g : Int32} (hb : h.2.2.1 (B + 28) = .inl (0, xis 96 y)) (hz : z ≤ 96) (hf : fr < z) (hg : ¬ sgv (y fr) = 0) (eg : g = sgv (y fr)) (ht : rk g = 3 → tsg W = false) (hO : SRe asc O W) (hG : SRe cenc G L) (hs : sh 7 W) (hl : W.length + L.length < 96) (h1 : sh (rk g) (stl (rk g) W L).1) (K : ∀ G2 O2, SRe cenc G2 (stl (rk g) W L).2 → SRe asc O2 (g :: (stl (rk g) W L).1) → Q (some (.int 1)) (TS h B (nI z) (nI fr) t (nI 3) k m (nI (stl (rk g) W L).2.length) (nI ((stl (rk g) W L).1.length + 1)) o n 1 G2 O2)) : XC (d + 4) 33 [.ref (B + 27)] (TS h B (nI z) (nI fr) t (nI 3) k m (nI L.length) (nI W.length) o n w G O) Q := by
  obtain ⟨g1, g2⟩ := sgv_9 hg
  rw [← eg] at g1 g2
  obtain ⟨k1, k2, k3, k4, k5, k6, k7, k8⟩ := rk_9 g1
  have rr : rkc (y fr) = rk g := by rw [← g2, rkc_9 g1]
  have n41 : ¬ y fr = 41 := fun q => hg (by rw [q]; decide)
  have n0 : (nI (rk g) = 0) = False := eq_false (fun q => by have := (nI_eq (b := 0) (by omega) (by decide)).mp q; omega)
  have l1 := stl_len (rk g) W L
  have hO2 := SRt (l := rk g) W L hO
  have Kf : ∀ G2, SRe cenc G2 (stl (rk g) W L).2 → Q (some (.int 1)) (TS h B (nI z) (nI fr) t (nI 3) k m (nI (stl (rk g) W L).2.length) (nI ((stl (rk g) W L).1.length + 1)) o n 1 G2 (upd O (stl (rk g) W L).1.length (y fr))) := fun G2 hG2 => K G2 _ hG2 (SRe_push hO2 g2.symm)
  rw [e33]
  by_cases c3 : rk g = 3
  · have e3 : (nI (rk g) = 3) = True := eq_true (by rw [c3]; rfl)
    have e34 := stl_34 W 7 L (by omega) hs (ht c3)
    simp only [s33_0, s33_1, s33_2, s33_5, s33_8, s33_9, s33_10, s33_13, s33_14, s33_17, s33_18, s33_20, s33_23, s33_24, s33_27, s33_27t, s33_27b, s33_28, s33_29, s33_32, s33_33, s33_36, s33_37, s33_40, s33_43, s33_44, s33_45, s33_46, s33_49, s33_50, s33_50t, s33_50b, s33_51, s33_52, s33_53, s33_56, s33_57, s33_58, s33_59, s33_62, s33_63, xset_self, tg_2, tg_4, show ((nI 3 : Int32) = 3) = True from eq_true rfl, c_byteAt hb hz hf, n41, c_rankOf, rr, n0, e3, XG_1, XO_some, XV_1, xo_n, xo_i8, xo_r8, xo_i7, xo_r7, xo_i6, xo_r6, xo_i5, xo_r5, xo_i4, xo_r4, xo_i3, xo_r3, xo_i2, xo_r2, Option.toList_some, Option.toList_none, List.cons_append, List.nil_append, bI_t, bI_f, bI_0, bI_n0, if_true, if_false, true_and, and_true, ne_eq, not_true_eq_false, not_false_eq_true, one_ne0, reduceCtorEq]
    rw [show nI (rk g) + 1 = nI 4 by rw [c3]; rfl]
    refine l_join (by decide) (by decide) W L G 7 (by omega) hO hG hs (by omega) (fun G2 hG2 => ?_)
    have e34' : stl 4 W L = stl (rk g) W L := by rw [c3]; exact e34
    rw [e34'] at hG2 ⊢
    have Kg := Kf G2 hG2
    generalize hW1 : (stl (rk g) W L).1 = W1 at *
    generalize hL1 : (stl (rk g) W L).2 = L1 at *
    have tk : XE (d + 3) 33 112 [.val (.ref (B + 27)), .val (.int (y fr)), .val (.int (nI (rk g))), .val (.int (nI 4))] [] (TS h B (nI z) (nI fr) t (nI 3) k m (nI L1.length) (nI W1.length) o n w G2 O) Q := by
      cases W1 with
      | nil =>
        show XE (d + 3) 33 112 [.val (.ref (B + 27)), .val (.int (y fr)), .val (.int (nI (rk g))), .val (.int (nI 4))] [] (TS h B (nI z) (nI fr) t (nI 3) k m (nI L1.length) (nI 0) o n w G2 O) Q
        simp only [s33_112, s33_113, s33_116, s33_119, s33_120, xset_self, c_top0, c_rankOf, show ((nI (rkc 0) : Int32) = 3) = False from eq_false (by decide), XG_1, XO_some, XV_1, xo_n, xo_i8, xo_r8, xo_i7, xo_r7, xo_i6, xo_r6, xo_i5, xo_r5, xo_i4, xo_r4, xo_i3, xo_r3, xo_i2, xo_r2, Option.toList_some, Option.toList_none, List.cons_append, List.nil_append, bI_t, bI_f, bI_0, bI_n0, if_true, if_false, true_and, and_true, ne_eq, not_true_eq_false, not_false_eq_true, one_ne0, reduceCtorEq]
        exact (l_j125 (by decide)).mpr Kg
      | cons s1 W2 =>
        have l2 : (s1 :: W2).length = W2.length + 1 := rfl
        have o1 : O W2.length = asc s1 := hO2.1
        have nr : (nI (rkc (asc s1)) = 3) = False := eq_false (fun q => by
          have q2 := (nI_eq (b := 3) (by have := rkc_lt (asc s1); omega) (by decide)).mp q
          rcases h1 with ⟨a, b, -⟩ | ⟨a, b, -⟩ | ⟨a, -⟩
          · omega
          · rw [rkc_9 a] at q2; omega
          · rw [a] at q2; revert q2; decide)
        rw [l2] at Kg l1 ⊢
        simp only [s33_112, s33_113, s33_116, s33_119, s33_120, xset_self, c_top (show W2.length + 1 ≤ 96 by omega), o1, c_rankOf, nr, XG_1, XO_some, XV_1, xo_n, xo_i8, xo_r8, xo_i7, xo_r7, xo_i6, xo_r6, xo_i5, xo_r5, xo_i4, xo_r4, xo_i3, xo_r3, xo_i2, xo_r2, Option.toList_some, Option.toList_none, List.cons_append, List.nil_append, bI_t, bI_f, bI_0, bI_n0, if_true, if_false, true_and, and_true, ne_eq, not_true_eq_false, not_false_eq_true, one_ne0, reduceCtorEq]
        exact (l_j125 (by omega)).mpr Kg
    simp only [s33_107, s33_108, s33_109, e3, XG_1, XO_some, XV_1, xo_n, xo_i8, xo_r8, xo_i7, xo_r7, xo_i6, xo_r6, xo_i5, xo_r5, xo_i4, xo_r4, xo_i3, xo_r3, xo_i2, xo_r2, Option.toList_some, Option.toList_none, List.cons_append, List.nil_append, bI_t, bI_f, bI_0, bI_n0, if_true, if_false, true_and, and_true, ne_eq, not_true_eq_false, not_false_eq_true, one_ne0, reduceCtorEq]
    exact tk
  · have e3 : (nI (rk g) = 3) = False := eq_false (fun q => c3 ((nI_eq (b := 3) (by omega) (by decide)).mp q))
    simp only [s33_0, s33_1, s33_2, s33_5, s33_8, s33_9, s33_10, s33_13, s33_14, s33_17, s33_18, s33_20, s33_23, s33_24, s33_27, s33_27t, s33_27b, s33_28, s33_29, s33_32, s33_33, s33_36, s33_37, s33_40, s33_43, s33_44, s33_45, s33_46, s33_49, s33_50, s33_50t, s33_50b, s33_51, s33_52, s33_53, s33_56, s33_57, s33_58, s33_59, s33_62, s33_63, xset_self, tg_2, tg_4, show ((nI 3 : Int32) = 3) = True from eq_true rfl, c_byteAt hb hz hf, n41, c_rankOf, rr, n0, e3, XG_1, XO_some, XV_1, xo_n, xo_i8, xo_r8, xo_i7, xo_r7, xo_i6, xo_r6, xo_i5, xo_r5, xo_i4, xo_r4, xo_i3, xo_r3, xo_i2, xo_r2, Option.toList_some, Option.toList_none, List.cons_append, List.nil_append, bI_t, bI_f, bI_0, bI_n0, if_true, if_false, true_and, and_true, ne_eq, not_true_eq_false, not_false_eq_true, one_ne0, reduceCtorEq]
    refine l_join k1 k2 W L G 7 (by omega) hO hG hs (by omega) (fun G2 hG2 => ?_)
    simp only [s33_107, s33_108, s33_109, e3, XG_1, XO_some, XV_1, xo_n, xo_i8, xo_r8, xo_i7, xo_r7, xo_i6, xo_r6, xo_i5, xo_r5, xo_i4, xo_r4, xo_i3, xo_r3, xo_i2, xo_r2, Option.toList_some, Option.toList_none, List.cons_append, List.nil_append, bI_t, bI_f, bI_0, bI_n0, if_true, if_false, true_and, and_true, ne_eq, not_true_eq_false, not_false_eq_true, one_ne0, reduceCtorEq]
    exact (l_j125 (by omega)).mpr (Kf G2 hG2)
end PCE
