/-! ===== 77: the class's tape: the yard ===== -/
def rkc (v : Int32) : Nat := if v = 38 then 2 else if v = 42 then 5 else if v = 43 then 4 else if v = 45 then 4 else if v = 47 then 5 else if v = 60 then 3 else if v = 61 then 3 else if v = 62 then 3 else if v = 124 then 1 else 0
theorem rkc_9 {s : Int32} (h : sgn9 s) : rkc (asc s) = rk s := by
  rcases h with rfl | rfl | rfl | rfl | rfl | rfl | rfl | rfl | rfl <;> decide
theorem rkc_0 {v : Int32} (h : sgv v = 0) : rkc v = 0 := by
  have key : ∀ w : Int32, ¬ sgv w = 0 → ¬ v = w := fun w hw e => hw (by rw [← e]; exact h)
  unfold rkc
  rw [if_neg (key 38 (by decide)), if_neg (key 42 (by decide)), if_neg (key 43 (by decide)), if_neg (key 45 (by decide)), if_neg (key 47 (by decide)), if_neg (key 60 (by decide)), if_neg (key 61 (by decide)), if_neg (key 62 (by decide)), if_neg (key 124 (by decide))]
theorem rkc_lt (v : Int32) : rkc v < 6 := by
  unfold rkc
  repeat (first | decide | split)
theorem nI_p1 {k : Nat} : nI (k + 1) - 1 = nI k := pk_sub (a := k + 1) (b := 1) (by omega)
section YRD
variable {B d : Nat} {h : xH} {Q : Option Value → xH → Prop} {z f t s k m u c o n w v x : Int32} {G O : Nat → Int32}
theorem c_rankOf : XC (d + 1) 36 [.int v] h Q ↔ Q (some (.int (nI (rkc v)))) h := by
  rw [e36]
  unfold rkc
  by_cases h1 : v = 38
  · simp only [s36_0, s36_1, s36_84, s36_85, s36_86, s36_87, s36_88, s36_89, s36_90, s36_91, s36_92, s36_93, s36_94, s36_95, xswi, h1, if_true]; exact Iff.rfl
  by_cases h2 : v = 42
  · simp only [s36_0, s36_1, s36_84, s36_85, s36_86, s36_87, s36_88, s36_89, s36_90, s36_91, s36_92, s36_93, s36_94, s36_95, xswi, h2, show ((42 : Int32) = 38) = False from eq_false (by decide), if_true, if_false]; exact Iff.rfl
  by_cases h3 : v = 43
  · simp only [s36_0, s36_1, s36_84, s36_85, s36_86, s36_87, s36_88, s36_89, s36_90, s36_91, s36_92, s36_93, s36_94, s36_95, xswi, h3, show ((43 : Int32) = 38) = False from eq_false (by decide), show ((43 : Int32) = 42) = False from eq_false (by decide), if_true, if_false]; exact Iff.rfl
  by_cases h4 : v = 45
  · simp only [s36_0, s36_1, s36_84, s36_85, s36_86, s36_87, s36_88, s36_89, s36_90, s36_91, s36_92, s36_93, s36_94, s36_95, xswi, h4, show ((45 : Int32) = 38) = False from eq_false (by decide), show ((45 : Int32) = 42) = False from eq_false (by decide), show ((45 : Int32) = 43) = False from eq_false (by decide), if_true, if_false]; exact Iff.rfl
  by_cases h5 : v = 47
  · simp only [s36_0, s36_1, s36_84, s36_85, s36_86, s36_87, s36_88, s36_89, s36_90, s36_91, s36_92, s36_93, s36_94, s36_95, xswi, h5, show ((47 : Int32) = 38) = False from eq_false (by decide), show ((47 : Int32) = 42) = False from eq_false (by decide), show ((47 : Int32) = 43) = False from eq_false (by decide), show ((47 : Int32) = 45) = False from eq_false (by decide), if_true, if_false]; exact Iff.rfl
  by_cases h6 : v = 60
  · simp only [s36_0, s36_1, s36_84, s36_85, s36_86, s36_87, s36_88, s36_89, s36_90, s36_91, s36_92, s36_93, s36_94, s36_95, xswi, h1, h2, h3, h4, h5, if_false]; rw [if_pos h6, if_pos h6]; exact Iff.rfl
  by_cases h7 : v = 61
  · simp only [s36_0, s36_1, s36_84, s36_85, s36_86, s36_87, s36_88, s36_89, s36_90, s36_91, s36_92, s36_93, s36_94, s36_95, xswi, h1, h2, h3, h4, h5, h6, if_false]; rw [if_pos h7, if_pos h7]; exact Iff.rfl
  by_cases h8 : v = 62
  · simp only [s36_0, s36_1, s36_84, s36_85, s36_86, s36_87, s36_88, s36_89, s36_90, s36_91, s36_92, s36_93, s36_94, s36_95, xswi, h1, h2, h3, h4, h5, h6, h7, if_false]; rw [if_pos h8, if_pos h8]; exact Iff.rfl
  by_cases h9 : v = 124
  · simp only [s36_0, s36_1, s36_84, s36_85, s36_86, s36_87, s36_88, s36_89, s36_90, s36_91, s36_92, s36_93, s36_94, s36_95, xswi, h1, h2, h3, h4, h5, h6, h7, h8, if_false]; rw [if_pos h9, if_pos h9]; exact Iff.rfl
  simp only [s36_0, s36_1, s36_84, s36_85, s36_86, s36_87, s36_88, s36_89, s36_90, s36_91, s36_92, s36_93, s36_94, s36_95, xswi, h1, h2, h3, h4, h5, h6, h7, h8, h9, if_false]; exact Iff.rfl
theorem c_top {D : Nat} (hD : D + 1 ≤ 96) : XC (d + 1) 37 [.ref (B + 27)] (TS h B z f t s k m u (nI (D + 1)) o n w G O) Q ↔ Q (some (.int (O D))) (TS h B z f t s k m u (nI (D + 1)) o n w G O) := by
  have l0 : (0 : Int32) < nI (D + 1) := nI_lt (a := 0) (by omega) (by omega)
  have l1 : ¬ (96 : Int32) < nI (D + 1) := nI_nlt (a := 96) (by omega) (by decide)
  rw [e37]
  simp only [s37_0, s37_1, s37_4, s37_7, s37_8, s37_11, s37_13, s37_16, s37_17, s37_20, s37_21, s37_24, s37_25, s37_26, s37_27, s37_30, s37_31, xset_self, tg_9, tg_10, l0, l1, nI_p1, t_30, XA96 (show D < 96 by omega), XG_1, XO_some, XV_1, xo_n, xo_i8, xo_r8, xo_i7, xo_r7, xo_i6, xo_r6, xo_i5, xo_r5, xo_i4, xo_r4, xo_i3, xo_r3, xo_i2, xo_r2, Option.toList_some, Option.toList_none, List.cons_append, List.nil_append, bI_t, bI_f, bI_0, bI_n0, if_true, if_false, true_and, and_true, ne_eq, not_true_eq_false, not_false_eq_true, one_ne0, reduceCtorEq]
theorem c_top0 : XC (d + 1) 37 [.ref (B + 27)] (TS h B z f t s k m u (nI 0) o n w G O) Q ↔ Q (some (.int 0)) (TS h B z f t s k m u (nI 0) o n w G O) := by
  have l0 : ¬ (0 : Int32) < nI 0 := by decide
  rw [e37]
  simp only [s37_0, s37_1, s37_4, s37_7, s37_8, s37_11, s37_13, s37_16, s37_17, s37_20, s37_21, s37_24, s37_25, s37_26, s37_27, s37_30, s37_31, xset_self, tg_10, l0, XG_1, XO_some, XV_1, xo_n, xo_i8, xo_r8, xo_i7, xo_r7, xo_i6, xo_r6, xo_i5, xo_r5, xo_i4, xo_r4, xo_i3, xo_r3, xo_i2, xo_r2, Option.toList_some, Option.toList_none, List.cons_append, List.nil_append, bI_t, bI_f, bI_0, bI_n0, if_true, if_false, true_and, and_true, ne_eq, not_true_eq_false, not_false_eq_true, one_ne0, reduceCtorEq]
theorem c_push {D : Nat} (hD : D < 96) : XC (d + 1) 38 [.ref (B + 27), .int v] (TS h B z f t s k m u (nI D) o n w G O) Q ↔ Q none (TS h B z f t s k m u (nI (D + 1)) o n w G (upd O D v)) := by
  have l0 : nI D < 96 := nI_lt (b := 96) hD (by decide)
  rw [e38]
  simp only [s38_0, s38_1, s38_4, s38_6, s38_9, s38_10, s38_13, s38_14, s38_17, s38_18, s38_19, s38_20, s38_20r, s38_21, s38_24, s38_25, s38_26, s38_29, xset_self, tg_9, tg_10, l0, t_30, XS96 hD, t_w30, tp_10, xset_twice, nI_1, XG_1, XO_some, XV_1, xo_n, xo_i8, xo_r8, xo_i7, xo_r7, xo_i6, xo_r6, xo_i5, xo_r5, xo_i4, xo_r4, xo_i3, xo_r3, xo_i2, xo_r2, Option.toList_some, Option.toList_none, List.cons_append, List.nil_append, bI_t, bI_f, bI_0, bI_n0, if_true, if_false, true_and, and_true, ne_eq, not_true_eq_false, not_false_eq_true, one_ne0, reduceCtorEq]
theorem c_emit {U : Nat} (hU : U < 96) : XC (d + 1) 39 [.ref (B + 27), .int v] (TS h B z f t s k m (nI U) c o n w G O) Q ↔ Q none (TS h B z f t s k m (nI (U + 1)) c o n w (upd G U v) O) := by
  have l0 : nI U < 96 := nI_lt (b := 96) hU (by decide)
  rw [e39]
  simp only [s39_0, s39_1, s39_4, s39_6, s39_9, s39_10, s39_13, s39_14, s39_17, s39_18, s39_19, s39_20, s39_20r, s39_21, s39_24, s39_25, s39_26, s39_29, xset_self, tg_7, tg_8, l0, t_29, XS96 hU, t_w29, tp_8, xset_twice, nI_1, XG_1, XO_some, XV_1, xo_n, xo_i8, xo_r8, xo_i7, xo_r7, xo_i6, xo_r6, xo_i5, xo_r5, xo_i4, xo_r4, xo_i3, xo_r3, xo_i2, xo_r2, Option.toList_some, Option.toList_none, List.cons_append, List.nil_append, bI_t, bI_f, bI_0, bI_n0, if_true, if_false, true_and, and_true, ne_eq, not_true_eq_false, not_false_eq_true, one_ne0, reduceCtorEq]
theorem l_end : ∀ W L G, SRe asc O W → SRe cenc G L → sh 8 W → W.length + L.length ≤ 96 → (∀ G2, SRe cenc G2 (stl 6 W L).2 → Q none (TS h B z f t s k m (nI (stl 6 W L).2.length) (nI (stl 6 W L).1.length) o (nI (cn (stl 6 W L).1)) 0 G2 O)) → XE (d + 1) 35 0 [.val (.ref (B + 27))] [] (TS h B z f t s k m (nI L.length) (nI W.length) o (nI (cn W)) w G O) Q := by
  intro W
  induction W with
  | nil =>
    intro L G hO hG hs hl K
    have l0 : ¬ (0 : Int32) < nI ([] : List Int32).length := by decide
    rw [s35_0]
    simp only [s35_1, s35_4, s35_7, s35_8, s35_11, s35_13, s35_16, s35_17, s35_20, s35_21, s35_24, s35_25, s35_28, s35_29, s35_29r, s35_30, s35_33, s35_34, s35_35, s35_38, s35_39, s35_39r, s35_40, s35_43, s35_44, s35_45, s35_48, s35_51, s35_52, s35_53, s35_56, xset_self, tg_10, l0, tp_13, xset_twice, true_or, XG_1, XO_some, XV_1, xo_n, xo_i8, xo_r8, xo_i7, xo_r7, xo_i6, xo_r6, xo_i5, xo_r5, xo_i4, xo_r4, xo_i3, xo_r3, xo_i2, xo_r2, Option.toList_some, Option.toList_none, List.cons_append, List.nil_append, bI_t, bI_f, bI_0, bI_n0, if_true, if_false, true_and, and_true, ne_eq, not_true_eq_false, not_false_eq_true, one_ne0, reduceCtorEq]
    exact K G hG
  | cons s1 W ih =>
    intro L G hO hG hs hl K
    have hl2 : W.length + 1 + L.length ≤ 96 := hl
    have e1 : O W.length = asc s1 := hO.1
    have l0 : (0 : Int32) < nI (W.length + 1) := nI_lt (a := 0) (by omega) (by omega)
    show XE (d + 1) 35 0 [.val (.ref (B + 27))] [] (TS h B z f t s k m (nI L.length) (nI (W.length + 1)) o (nI (cn (s1 :: W))) w G O) Q
    rw [s35_0]
    by_cases c1 : s1 = -10
    · subst c1
      have hW : sh 8 W := by
        rcases hs with ⟨-, -, q⟩ | ⟨q, -, -⟩ | ⟨q, -⟩
        · exact q
        · exact absurd rfl (rk_9 q).2.2.1
        · exact absurd q (by decide)
      have es : stl 6 (-10 :: W) L = stl 6 W (-10 :: L) := if_neg (by decide)
      rw [es] at K
      have a33 : O W.length = 33 := e1
      rw [show cn (-10 :: W) = cn W + 1 from rfl]
      simp only [s35_1, s35_4, s35_7, s35_8, s35_11, s35_13, s35_16, s35_17, s35_20, s35_21, s35_24, s35_25, s35_28, s35_29, s35_29r, s35_30, s35_33, s35_34, s35_35, s35_38, s35_39, s35_39r, s35_40, s35_43, s35_44, s35_45, s35_48, s35_51, s35_52, s35_53, s35_56, xset_self, tg_10, tg_12, l0, c_top (show W.length + 1 ≤ 96 by omega), a33, show ((-1000 : Int32) - 33) = -1033 from rfl, c_emit (show L.length < 96 by omega), tp_12, tp_10, xset_twice, nI_p1, XG_1, XO_some, XV_1, xo_n, xo_i8, xo_r8, xo_i7, xo_r7, xo_i6, xo_r6, xo_i5, xo_r5, xo_i4, xo_r4, xo_i3, xo_r3, xo_i2, xo_r2, Option.toList_some, Option.toList_none, List.cons_append, List.nil_append, bI_t, bI_f, bI_0, bI_n0, if_true, if_false, true_and, and_true, ne_eq, not_true_eq_false, not_false_eq_true, one_ne0, reduceCtorEq]
      exact ih (-10 :: L) (upd G L.length (-1033)) hO.2 (SRe_push hG (by decide)) hW (by show W.length + (L.length + 1) ≤ 96; omega) K
    · have es : stl 6 (s1 :: W) L = (s1 :: W, L) := if_pos (by
        rcases hs with ⟨q, -, -⟩ | ⟨q, -, -⟩ | ⟨q, -⟩
        · exact absurd q c1
        · exact Or.inr (by have := (rk_9 q).2.1; omega)
        · exact Or.inl q)
      have a33 : ¬ O W.length = 33 := by
        rw [e1]
        rcases hs with ⟨q, -, -⟩ | ⟨q, -, -⟩ | ⟨q, -⟩
        · exact absurd q c1
        · exact (rk_9 q).2.2.2.2.2.1
        · rw [q]; decide
      rw [es] at K
      simp only [s35_1, s35_4, s35_7, s35_8, s35_11, s35_13, s35_16, s35_17, s35_20, s35_21, s35_24, s35_25, s35_28, s35_29, s35_29r, s35_30, s35_33, s35_34, s35_35, s35_38, s35_39, s35_39r, s35_40, s35_43, s35_44, s35_45, s35_48, s35_51, s35_52, s35_53, s35_56, xset_self, tg_10, l0, c_top (show W.length + 1 ≤ 96 by omega), a33, tp_13, xset_twice, true_or, XG_1, XO_some, XV_1, xo_n, xo_i8, xo_r8, xo_i7, xo_r7, xo_i6, xo_r6, xo_i5, xo_r5, xo_i4, xo_r4, xo_i3, xo_r3, xo_i2, xo_r2, Option.toList_some, Option.toList_none, List.cons_append, List.nil_append, bI_t, bI_f, bI_0, bI_n0, if_true, if_false, true_and, and_true, ne_eq, not_true_eq_false, not_false_eq_true, one_ne0, reduceCtorEq]
      exact K G hG
theorem c_endP {W L : List Int32} (hO : SRe asc O W) (hG : SRe cenc G L) (hs : sh 8 W) (hl : W.length + L.length ≤ 96) (K : ∀ G2, SRe cenc G2 (stl 6 W L).2 → Q none (TS h B z f t s k m (nI (stl 6 W L).2.length) (nI (stl 6 W L).1.length) o (nI (cn (stl 6 W L).1)) 0 G2 O)) : XC (d + 2) 35 [.ref (B + 27)] (TS h B z f t s k m (nI L.length) (nI W.length) o (nI (cn W)) w G O) Q := by
  rw [e35]
  exact l_end W L G hO hG hs hl K
/-- up to the brace -/
theorem l_toBrace : ∀ W L G r, r ≤ 7 → SRe asc O W → SRe cenc G L → sh r W → W.length + L.length ≤ 96 → (∀ G2, SRe cenc G2 (stl 0 W L).2 → XE (d + 1) 34 50 [.val (.ref (B + 27))] [] (TS h B z f t s k m (nI (stl 0 W L).2.length) (nI (stl 0 W L).1.length) o n w G2 O) Q) → XE (d + 1) 34 9 [.val (.ref (B + 27))] [] (TS h B z f t s k m (nI L.length) (nI W.length) o n w G O) Q := by
  intro W
  induction W with
  | nil =>
    intro L G r hr hO hG hs hl K
    have l0 : ¬ (0 : Int32) < nI ([] : List Int32).length := by decide
    rw [s34_9]
    simp only [s34_10, s34_13, s34_16, s34_17, s34_20, s34_22, s34_25, s34_26, s34_29, s34_30, s34_33, s34_34, s34_37, s34_38, s34_38r, s34_39, s34_42, s34_43, s34_44, s34_47, xset_self, tg_10, l0, XG_1, XO_some, XV_1, xo_n, xo_i8, xo_r8, xo_i7, xo_r7, xo_i6, xo_r6, xo_i5, xo_r5, xo_i4, xo_r4, xo_i3, xo_r3, xo_i2, xo_r2, Option.toList_some, Option.toList_none, List.cons_append, List.nil_append, bI_t, bI_f, bI_0, bI_n0, if_true, if_false, true_and, and_true, ne_eq, not_true_eq_false, not_false_eq_true, one_ne0, reduceCtorEq]
    exact K G hG
  | cons s1 W ih =>
    intro L G r hr hO hG hs hl K
    have hl2 : W.length + 1 + L.length ≤ 96 := hl
    have e1 : O W.length = asc s1 := hO.1
    have l0 : (0 : Int32) < nI (W.length + 1) := nI_lt (a := 0) (by omega) (by omega)
    show XE (d + 1) 34 9 [.val (.ref (B + 27))] [] (TS h B z f t s k m (nI L.length) (nI (W.length + 1)) o n w G O) Q
    rw [s34_9]
    rcases hs with ⟨-, q, -⟩ | ⟨q, q2, q3⟩ | ⟨q, -⟩
    · omega
    · obtain ⟨k1, k2, k3, k4, k5, k6, k7, k8⟩ := rk_9 q
      have es : stl 0 (s1 :: W) L = stl 0 W (s1 :: L) := if_neg (fun e => by rcases e with e | e; exact k4 e; omega)
      rw [es] at K
      simp only [s34_10, s34_13, s34_16, s34_17, s34_20, s34_22, s34_25, s34_26, s34_29, s34_30, s34_33, s34_34, s34_37, s34_38, s34_38r, s34_39, s34_42, s34_43, s34_44, s34_47, xset_self, tg_10, l0, c_top (show W.length + 1 ≤ 96 by omega), e1, k7, k8, c_emit (show L.length < 96 by omega), tp_10, xset_twice, nI_p1, XG_1, XO_some, XV_1, xo_n, xo_i8, xo_r8, xo_i7, xo_r7, xo_i6, xo_r6, xo_i5, xo_r5, xo_i4, xo_r4, xo_i3, xo_r3, xo_i2, xo_r2, Option.toList_some, Option.toList_none, List.cons_append, List.nil_append, bI_t, bI_f, bI_0, bI_n0, if_true, if_false, true_and, and_true, ne_eq, not_true_eq_false, not_false_eq_true, one_ne0, reduceCtorEq]
      exact ih (s1 :: L) (upd G L.length (cenc s1)) (rk s1) (by omega) hO.2 (SRe_push hG rfl) q3 (by show W.length + (L.length + 1) ≤ 96; omega) K
    · have es : stl 0 (s1 :: W) L = (s1 :: W, L) := if_pos (Or.inl q)
      rw [es] at K
      have a40 : O W.length = 40 := by rw [e1, q]; rfl
      simp only [s34_10, s34_13, s34_16, s34_17, s34_20, s34_22, s34_25, s34_26, s34_29, s34_30, s34_33, s34_34, s34_37, s34_38, s34_38r, s34_39, s34_42, s34_43, s34_44, s34_47, xset_self, tg_10, l0, c_top (show W.length + 1 ≤ 96 by omega), a40, XG_1, XO_some, XV_1, xo_n, xo_i8, xo_r8, xo_i7, xo_r7, xo_i6, xo_r6, xo_i5, xo_r5, xo_i4, xo_r4, xo_i3, xo_r3, xo_i2, xo_r2, Option.toList_some, Option.toList_none, List.cons_append, List.nil_append, bI_t, bI_f, bI_0, bI_n0, if_true, if_false, true_and, and_true, ne_eq, not_true_eq_false, not_false_eq_true, one_ne0, reduceCtorEq]
      exact K G hG
theorem c_takesEnd {W L W2 : List Int32} (hO : SRe asc O W) (hG : SRe cenc G L) (hs : sh 7 W) (hl : W.length + L.length ≤ 96) (e1 : (stl 0 W L).1 = -11 :: W2) (h8 : sh 8 W2) (ho : opn W = opn W2 + 1) (ho8 : opn W ≤ 8) (hc : cn W = cn W2) (K : ∀ G2, SRe asc O (stl 6 W2 (stl 0 W L).2).1 → SRe cenc G2 (stl 6 W2 (stl 0 W L).2).2 → Q (some (.int 1)) (TS h B z f t s k m (nI (stl 6 W2 (stl 0 W L).2).2.length) (nI (stl 6 W2 (stl 0 W L).2).1.length) (nI (opn W2)) (nI (cn (stl 6 W2 (stl 0 W L).2).1)) 0 G2 O)) : XC (d + 3) 34 [.ref (B + 27)] (TS h B z f t s k m (nI L.length) (nI W.length) (nI (opn W)) (nI (cn W)) w G O) Q := by
  have SRt : ∀ (l : Nat) (W L : List Int32), SRe asc O W → SRe asc O (stl l W L).1 := by
    intro l W
    induction W with
    | nil => intro L h; exact h
    | cons s1 W ih =>
      intro L h
      unfold stl
      by_cases e : s1 = -11 ∨ rk s1 < l
      · rw [if_pos e]; exact h
      · rw [if_neg e]; exact ih (s1 :: L) h.2
  have hn0 : ¬ nI (opn W) = 0 := by rw [show (0 : Int32) = nI 0 from rfl, nI_eq (by omega) (by decide)]; omega
  have l1 := stl_len 0 W L
  have hO1 := SRt 0 W L hO
  rw [e1] at l1 hO1
  have l2 : (-11 :: W2).length = W2.length + 1 := rfl
  have lp : (0 : Int32) < nI (W2.length + 1) := nI_lt (a := 0) (by omega) (by omega)
  rw [e34]
  simp only [s34_0, s34_1, s34_4, s34_7, s34_8, s34_8t, s34_8b, xset_self, tg_11, hn0, XG_1, XO_some, XV_1, xo_n, xo_i8, xo_r8, xo_i7, xo_r7, xo_i6, xo_r6, xo_i5, xo_r5, xo_i4, xo_r4, xo_i3, xo_r3, xo_i2, xo_r2, Option.toList_some, Option.toList_none, List.cons_append, List.nil_append, bI_t, bI_f, bI_0, bI_n0, if_true, if_false, true_and, and_true, ne_eq, not_true_eq_false, not_false_eq_true, one_ne0, reduceCtorEq]
  refine l_toBrace W L G 7 (by omega) hO hG hs hl (fun G2 hG2 => ?_)
  rw [e1, ho, hc]
  show XE (d + 2) 34 50 [.val (.ref (B + 27))] [] (TS h B z f t s k m (nI (stl 0 W L).2.length) (nI (W2.length + 1)) (nI (opn W2 + 1)) (nI (cn W2)) w G2 O) Q
  simp only [s34_50, s34_51, s34_54, s34_57, s34_58, s34_58r, s34_59, s34_62, s34_63, s34_64, s34_67, s34_68, s34_68r, s34_69, s34_72, s34_73, s34_74, s34_77, s34_78, xset_self, tg_10, tg_11, lp, tp_10, tp_11, xset_twice, nI_p1, XG_1, XO_some, XV_1, xo_n, xo_i8, xo_r8, xo_i7, xo_r7, xo_i6, xo_r6, xo_i5, xo_r5, xo_i4, xo_r4, xo_i3, xo_r3, xo_i2, xo_r2, Option.toList_some, Option.toList_none, List.cons_append, List.nil_append, bI_t, bI_f, bI_0, bI_n0, if_true, if_false, true_and, and_true, ne_eq, not_true_eq_false, not_false_eq_true, one_ne0, reduceCtorEq]
  refine c_endP hO1.2 hG2 h8 (by omega) (fun G3 hG3 => ?_)
  simp only [s34_81, s34_82, s34_82t, s34_82b, XG_1, XO_some, XV_1, xo_n, xo_i8, xo_r8, xo_i7, xo_r7, xo_i6, xo_r6, xo_i5, xo_r5, xo_i4, xo_r4, xo_i3, xo_r3, xo_i2, xo_r2, Option.toList_some, Option.toList_none, List.cons_append, List.nil_append, bI_t, bI_f, bI_0, bI_n0, if_true, if_false, true_and, and_true, ne_eq, not_true_eq_false, not_false_eq_true, one_ne0, reduceCtorEq]
  exact K G3 (SRt 6 W2 _ hO1.2) hG3
theorem SRt {l : Nat} : ∀ (W L : List Int32), SRe asc O W → SRe asc O (stl l W L).1 := by
  intro W
  induction W with
  | nil => intro L h; exact h
  | cons s1 W ih =>
    intro L h
    unfold stl
    by_cases e : s1 = -11 ∨ rk s1 < l
    · rw [if_pos e]; exact h
    · rw [if_neg e]; exact ih (s1 :: L) h.2
/-- what binds no less is given out -/
theorem l_join {c1 c2 : Slot} {l : Nat} (hl1 : 1 ≤ l) (hl5 : l ≤ 5) : ∀ W L G r, r ≤ 7 → SRe asc O W → SRe cenc G L → sh r W → W.length + L.length ≤ 96 → (∀ G2, SRe cenc G2 (stl l W L).2 → XE (d + 1) 33 107 [.val (.ref (B + 27)), c1, c2, .val (.int (nI l))] [] (TS h B z f t s k m (nI (stl l W L).2.length) (nI (stl l W L).1.length) o n w G2 O) Q) → XE (d + 1) 33 64 [.val (.ref (B + 27)), c1, c2, .val (.int (nI l))] [] (TS h B z f t s k m (nI L.length) (nI W.length) o n w G O) Q := by
  intro W
  induction W with
  | nil =>
    intro L G r hr hO hG hs hl K
    have l0 : ¬ (0 : Int32) < nI ([] : List Int32).length := by decide
    rw [s33_64]
    simp only [s33_65, s33_68, s33_71, s33_72, s33_75, s33_78, s33_79, s33_82, s33_83, s33_86, s33_87, s33_90, s33_91, s33_94, s33_95, s33_95r, s33_96, s33_99, s33_100, s33_101, s33_104, xset_self, tg_10, l0, XG_1, XO_some, XV_1, xo_n, xo_i8, xo_r8, xo_i7, xo_r7, xo_i6, xo_r6, xo_i5, xo_r5, xo_i4, xo_r4, xo_i3, xo_r3, xo_i2, xo_r2, Option.toList_some, Option.toList_none, List.cons_append, List.nil_append, bI_t, bI_f, bI_0, bI_n0, if_true, if_false, true_and, and_true, ne_eq, not_true_eq_false, not_false_eq_true, one_ne0, reduceCtorEq]
    exact K G hG
  | cons s1 W ih =>
    intro L G r hr hO hG hs hl K
    have hl2 : W.length + 1 + L.length ≤ 96 := hl
    have e1 : O W.length = asc s1 := hO.1
    have l0 : (0 : Int32) < nI (W.length + 1) := nI_lt (a := 0) (by omega) (by omega)
    show XE (d + 1) 33 64 [.val (.ref (B + 27)), c1, c2, .val (.int (nI l))] [] (TS h B z f t s k m (nI L.length) (nI (W.length + 1)) o n w G O) Q
    rw [s33_64]
    rcases hs with ⟨-, q, -⟩ | ⟨q, q2, q3⟩ | ⟨q, -⟩
    · omega
    · obtain ⟨k1, k2, k3, k4, k5, k6, k7, k8⟩ := rk_9 q
      by_cases e : rk s1 < l
      · have es : stl l (s1 :: W) L = (s1 :: W, L) := if_pos (Or.inr e)
        rw [es] at K
        have lt : nI (rk s1) < nI l := nI_lt e (by omega)
        simp only [s33_65, s33_68, s33_71, s33_72, s33_75, s33_78, s33_79, s33_82, s33_83, s33_86, s33_87, s33_90, s33_91, s33_94, s33_95, s33_95r, s33_96, s33_99, s33_100, s33_101, s33_104, xset_self, tg_10, l0, c_top (show W.length + 1 ≤ 96 by omega), e1, c_rankOf, rkc_9 q, lt, XG_1, XO_some, XV_1, xo_n, xo_i8, xo_r8, xo_i7, xo_r7, xo_i6, xo_r6, xo_i5, xo_r5, xo_i4, xo_r4, xo_i3, xo_r3, xo_i2, xo_r2, Option.toList_some, Option.toList_none, List.cons_append, List.nil_append, bI_t, bI_f, bI_0, bI_n0, if_true, if_false, true_and, and_true, ne_eq, not_true_eq_false, not_false_eq_true, one_ne0, reduceCtorEq]
        exact K G hG
      · have es : stl l (s1 :: W) L = stl l W (s1 :: L) := if_neg (fun e2 => by rcases e2 with e2 | e2; exact k4 e2; exact e e2)
        rw [es] at K
        have lt : ¬ nI (rk s1) < nI l := nI_nlt (by omega) (by omega)
        simp only [s33_65, s33_68, s33_71, s33_72, s33_75, s33_78, s33_79, s33_82, s33_83, s33_86, s33_87, s33_90, s33_91, s33_94, s33_95, s33_95r, s33_96, s33_99, s33_100, s33_101, s33_104, xset_self, tg_10, l0, c_top (show W.length + 1 ≤ 96 by omega), e1, c_rankOf, rkc_9 q, lt, k8, c_emit (show L.length < 96 by omega), tp_10, xset_twice, nI_p1, XG_1, XO_some, XV_1, xo_n, xo_i8, xo_r8, xo_i7, xo_r7, xo_i6, xo_r6, xo_i5, xo_r5, xo_i4, xo_r4, xo_i3, xo_r3, xo_i2, xo_r2, Option.toList_some, Option.toList_none, List.cons_append, List.nil_append, bI_t, bI_f, bI_0, bI_n0, if_true, if_false, true_and, and_true, ne_eq, not_true_eq_false, not_false_eq_true, one_ne0, reduceCtorEq]
        exact ih (s1 :: L) (upd G L.length (cenc s1)) (rk s1) (by omega) hO.2 (SRe_push hG rfl) q3 (by show W.length + (L.length + 1) ≤ 96; omega) K
    · have es : stl l (s1 :: W) L = (s1 :: W, L) := if_pos (Or.inl q)
      rw [es] at K
      have a40 : O W.length = 40 := by rw [e1, q]; rfl
      have lt : nI (rkc 40) < nI l := nI_lt (show 0 < l by omega) (by omega)
      simp only [s33_65, s33_68, s33_71, s33_72, s33_75, s33_78, s33_79, s33_82, s33_83, s33_86, s33_87, s33_90, s33_91, s33_94, s33_95, s33_95r, s33_96, s33_99, s33_100, s33_101, s33_104, xset_self, tg_10, l0, c_top (show W.length + 1 ≤ 96 by omega), a40, c_rankOf, lt, XG_1, XO_some, XV_1, xo_n, xo_i8, xo_r8, xo_i7, xo_r7, xo_i6, xo_r6, xo_i5, xo_r5, xo_i4, xo_r4, xo_i3, xo_r3, xo_i2, xo_r2, Option.toList_some, Option.toList_none, List.cons_append, List.nil_append, bI_t, bI_f, bI_0, bI_n0, if_true, if_false, true_and, and_true, ne_eq, not_true_eq_false, not_false_eq_true, one_ne0, reduceCtorEq]
      exact K G hG
end YRD
