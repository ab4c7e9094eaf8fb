/-! ===== 30: the reference: choosing, nights, wirings ===== -/
abbrev Pn (r : Nat) : Nat → Prop := fun a => a = r + 1 ∨ a = r + 10 ∨ a = r + 11
section RR3
variable {Dy d : Nat} {h h1 : xH} {r : Nat} {m f w g : Nat → Int32} {n : Nat → Nat} {T : Nat → Nat → Int32} {Q : Option Value → xH → Prop} {x y z : Int32}
theorem frpn (F : FR Dy (Pf r) h h1) : FR Dy (Pn r) h h1 := F.wide (fun _ q => Or.inr q)
theorem RM.sf (R : RM h.2.2.1 r m f w g) (hr : r + 20 < Dy) (hD : Dy ≤ h.1) {f2 : Nat → Int32} : RM (xset h (r + 1) (.inl (0, xis 1482 f2))).2.2.1 r m f2 w g ∧ FR Dy (Pn r) h (xset h (r + 1) (.inl (0, xis 1482 f2))) :=
  ⟨⟨by rw [xset_ne (by omega)]; exact R.1, xset_self, by rw [xset_ne (by omega)]; exact R.2.2.1, by rw [xset_ne (by omega)]; exact R.2.2.2⟩, FR.set (by omega) (Or.inl rfl) (by omega)⟩
theorem r_isOpen (R : RM h.2.2.1 r m f w g) (M : MR n T f) (I : IV n T) {i dd : Nat} (hi : i < n 2) (hd : dd < 12) : XC (d + 2) 170 [.ref r, .int (nI i), .int (nI dd)] h Q ↔ Q (some (.int (bI (decide (T 4 dd = T 9 i))))) h := by
  rw [e170]
  simp only [s170_0, s170_1, s170_2, s170_3, s170_6, s170_7, s170_8, s170_11, s170_14, s170_15, s170_18, s170_19, s170_19t, s170_19b, R.1, XG_1, XO_some, XV_1, xo_n, xo_i8, xo_r8, xo_i7, xo_r7, xo_i6, xo_r6, xo_i5, xo_r5, xo_i4, xo_r4, xo_i3, xo_r3, xo_i2, xo_r2, Option.toList_some, Option.toList_none, List.cons_append, List.nil_append, bI_t, bI_f, bI_0, bI_n0, if_true, if_false, true_and, and_true, ne_eq, not_true_eq_false, not_false_eq_true, one_ne0, reduceCtorEq, r_door0 R M hd, r_homeOf R M I hi]
  by_cases e : T 4 dd = T 9 i
  · simp only [e, if_true, decide_true, bI_t]
  · simp only [e, if_false, decide_false, bI_f]
theorem l_best (M : MR n T f) (I : IV n T) (hr : r + 20 < Dy) {i : Nat} (hi : i < n 2) (bw : Bool) (rr : Nat → Int32) (hrr : ∀ dd h w g, dd < n 1 → Dy ≤ h.1 → RM h.2.2.1 r m f w g → ∀ Q : Option Value → xH → Prop, (∀ h' w' g', FR Dy (Pf r) h h' → RM h'.2.2.1 r m f w' g' → Q (some (.int (rr dd))) h') → if bw = true then XC (d + 7) 140 [.ref r, .int (nI dd), .int 1] h Q else XC (d + 7) 169 [.ref r, .int (nI i), .int (nI dd)] h Q) :
    ∀ k dd h w g c6 mo, dd + k = n 1 → Dy ≤ h.1 → RM h.2.2.1 r m f w g → (∀ b, gst (T 4) rr (T 9 i) dd = some b → mo = rr b) → (∀ h' w' g', FR Dy (Pf r) h h' → RM h'.2.2.1 r m f w' g' → Q (some (.int (oI (-1) (gst (T 4) rr (T 9 i) (n 1))))) h') → XE (d + 7) 173 8 [.val (.ref r), .val (.int (nI i)), .val (.int (bI bw)), .val (.int (oI (-1) (gst (T 4) rr (T 9 i) dd))), .val (.int mo), .val (.int (nI dd)), c6] [] h Q := by
  have hn := I.nn
  intro k
  induction k with
  | zero =>
    intro dd h w g c6 mo hd hD R hmo K
    have hlt : ¬ nI dd < nI (n 1) := nI_nlt (by omega) (by omega)
    rw [s173_8]
    simp only [s173_0, s173_1, s173_2, s173_3, s173_5, s173_6, s173_10, s173_11, s173_14, s173_15, s173_16, s173_19, s173_20, s173_21, s173_23, s173_26, s173_29, s173_30, s173_33, s173_34, s173_36, s173_37, s173_40, s173_43, s173_44, s173_45, s173_47, s173_50, s173_52, s173_53, s173_56, s173_58, s173_60, s173_63, s173_65, s173_68, s173_69, s173_70, s173_71, s173_73, s173_76, s173_78, s173_81, s173_83, s173_85, s173_88, s173_91, s173_92, R.1, R.2.1, mf0, A2, M.1.2.2.1, XG_1, XO_some, XV_1, xo_n, xo_i8, xo_r8, xo_i7, xo_r7, xo_i6, xo_r6, xo_i5, xo_r5, xo_i4, xo_r4, xo_i3, xo_r3, xo_i2, xo_r2, Option.toList_some, Option.toList_none, List.cons_append, List.nil_append, bI_t, bI_f, bI_0, bI_n0, if_true, if_false, true_and, and_true, ne_eq, not_true_eq_false, not_false_eq_true, one_ne0, reduceCtorEq, hlt]
    rw [show dd = n 1 by omega]
    exact K h w g FR.refl R
  | succ k ih =>
    intro dd h w g c6 mo hd hD R hmo K
    have hlt : nI dd < nI (n 1) := nI_lt (by omega) (by omega)
    have h12 : dd < 12 := by omega
    have hs : gst (T 4) rr (T 9 i) (dd + 1) = if T 4 dd = T 9 i then gst (T 4) rr (T 9 i) dd else match gst (T 4) rr (T 9 i) dd with
      | none => some dd
      | some b => if rr b < rr dd then some dd else some b := rfl
    rw [s173_8]
    simp only [s173_0, s173_1, s173_2, s173_3, s173_5, s173_6, s173_10, s173_11, s173_14, s173_15, s173_16, s173_19, s173_20, s173_21, s173_23, s173_26, s173_29, s173_30, R.1, R.2.1, mf0, A2, M.1.2.2.1, XG_1, XO_some, XV_1, xo_n, xo_i8, xo_r8, xo_i7, xo_r7, xo_i6, xo_r6, xo_i5, xo_r5, xo_i4, xo_r4, xo_i3, xo_r3, xo_i2, xo_r2, Option.toList_some, Option.toList_none, List.cons_append, List.nil_append, bI_t, bI_f, bI_0, bI_n0, if_true, if_false, true_and, and_true, ne_eq, not_true_eq_false, not_false_eq_true, one_ne0, reduceCtorEq, hlt, r_isOpen R M I hi h12, decide_eq_false_iff_not]
    by_cases hb : T 4 dd = T 9 i
    · have ih1 := ih (dd + 1) h w g c6 mo (by omega) hD R (fun b e => hmo b (by rw [hs, if_pos hb] at e; exact e)) K
      rw [hs, if_pos hb] at ih1
      simp only [hb, not_true_eq_false, if_false, s173_0, s173_1, s173_2, s173_3, s173_5, s173_6, s173_10, s173_11, s173_14, s173_15, s173_16, s173_19, s173_20, s173_21, s173_23, s173_26, s173_29, s173_30, s173_33, s173_34, s173_36, s173_37, s173_40, s173_43, s173_44, s173_45, s173_47, s173_50, s173_52, s173_53, s173_56, s173_58, s173_60, s173_63, s173_65, s173_68, s173_69, s173_70, s173_71, s173_73, s173_76, s173_78, s173_81, s173_83, s173_85, s173_88, s173_91, s173_92, nI_1]
      exact ih1
    · simp only [hb, not_false_eq_true, if_true]
      have fin : ∀ h1 w1 g1, FR Dy (Pf r) h h1 → RM h1.2.2.1 r m f w1 g1 → XE (d + 7) 173 50 [.val (.ref r), .val (.int (nI i)), .val (.int (bI bw)), .val (.int (oI (-1) (gst (T 4) rr (T 9 i) dd))), .val (.int mo), .val (.int (nI dd)), c6] [.int (rr dd)] h1 Q := by
        intro h1 w1 g1 F1 R1
        have K1 : ∀ h' w' g', FR Dy (Pf r) h1 h' → RM h'.2.2.1 r m f w' g' → Q (some (.int (oI (-1) (gst (T 4) rr (T 9 i) (n 1))))) h' := fun h' w' g' F' R' => K h' w' g' (F1.trans F') R'
        have hD1 : Dy ≤ h1.1 := by rw [F1.1]; exact hD
        cases hg : gst (T 4) rr (T 9 i) dd with
        | none =>
          have ih1 := ih (dd + 1) h1 w1 g1 (.val (.int (rr dd))) (rr dd) (by omega) hD1 R1 (fun b e => by rw [hs, if_neg hb, hg] at e; cases e; rfl) K1
          rw [hs, if_neg hb, hg] at ih1
          simp only [s173_0, s173_1, s173_2, s173_3, s173_5, s173_6, s173_10, s173_11, s173_14, s173_15, s173_16, s173_19, s173_20, s173_21, s173_23, s173_26, s173_29, s173_30, s173_33, s173_34, s173_36, s173_37, s173_40, s173_43, s173_44, s173_45, s173_47, s173_50, s173_52, s173_53, s173_56, s173_58, s173_60, s173_63, s173_65, s173_68, s173_69, s173_70, s173_71, s173_73, s173_76, s173_78, s173_81, s173_83, s173_85, s173_88, s173_91, s173_92, oI, show (-1 : Int32) < 0 by decide, if_true, nI_1]
          exact ih1
        | some b =>
          have hbd := (gst_lt hg).1
          have hne : ¬ nI b = nI dd := fun e => by have := (nI_eq (by omega) (by omega)).mp e; omega
          rw [hmo b hg]
          by_cases hc : rr b < rr dd
          · have ih1 := ih (dd + 1) h1 w1 g1 (.val (.int (rr dd))) (rr dd) (by omega) hD1 R1 (fun b2 e => by rw [hs, if_neg hb, hg] at e; dsimp only at e; rw [if_pos hc] at e; cases e; rfl) K1
            rw [hs, if_neg hb, hg] at ih1
            dsimp only at ih1
            rw [if_pos hc] at ih1
            simp only [s173_0, s173_1, s173_2, s173_3, s173_5, s173_6, s173_10, s173_11, s173_14, s173_15, s173_16, s173_19, s173_20, s173_21, s173_23, s173_26, s173_29, s173_30, s173_33, s173_34, s173_36, s173_37, s173_40, s173_43, s173_44, s173_45, s173_47, s173_50, s173_52, s173_53, s173_56, s173_58, s173_60, s173_63, s173_65, s173_68, s173_69, s173_70, s173_71, s173_73, s173_76, s173_78, s173_81, s173_83, s173_85, s173_88, s173_91, s173_92, oI, nI_pos (show b < 2 ^ 31 by omega), hc, if_true, if_false, nI_1]
            exact ih1
          · have ih1 := ih (dd + 1) h1 w1 g1 (.val (.int (rr dd))) (rr b) (by omega) hD1 R1 (fun b2 e => by rw [hs, if_neg hb, hg] at e; dsimp only at e; rw [if_neg hc] at e; cases e; rfl) K1
            rw [hs, if_neg hb, hg] at ih1
            dsimp only at ih1
            rw [if_neg hc] at ih1
            simp only [s173_0, s173_1, s173_2, s173_3, s173_5, s173_6, s173_10, s173_11, s173_14, s173_15, s173_16, s173_19, s173_20, s173_21, s173_23, s173_26, s173_29, s173_30, s173_33, s173_34, s173_36, s173_37, s173_40, s173_43, s173_44, s173_45, s173_47, s173_50, s173_52, s173_53, s173_56, s173_58, s173_60, s173_63, s173_65, s173_68, s173_69, s173_70, s173_71, s173_73, s173_76, s173_78, s173_81, s173_83, s173_85, s173_88, s173_91, s173_92, oI, nI_pos (show b < 2 ^ 31 by omega), hc, hne, if_false, nI_1]
            exact ih1
      have hq := hrr dd h w g (by omega) hD R
      cases bw with
      | true =>
        simp only [bI, cond_true, one_ne0, if_false]
        simp only [s173_29, s173_30, s173_33, s173_34, s173_36, s173_37, R.1, XG_1, XO_some, XV_1, xo_n, xo_i8, xo_r8, xo_i7, xo_r7, xo_i6, xo_r6, xo_i5, xo_r5, xo_i4, xo_r4, xo_i3, xo_r3, xo_i2, xo_r2, Option.toList_some, Option.toList_none, List.cons_append, List.nil_append, bI_t, bI_f, bI_0, bI_n0, if_true, if_false, true_and, and_true, ne_eq, not_true_eq_false, not_false_eq_true, one_ne0, reduceCtorEq]
        refine hq _ fun h1 w1 g1 F1 R1 => ?_
        simp only [s173_40, s173_43, XG_1, XO_some, XV_1, xo_n, xo_i8, xo_r8, xo_i7, xo_r7, xo_i6, xo_r6, xo_i5, xo_r5, xo_i4, xo_r4, xo_i3, xo_r3, xo_i2, xo_r2, Option.toList_some, Option.toList_none, List.cons_append, List.nil_append, bI_t, bI_f, bI_0, bI_n0, if_true, if_false, true_and, and_true, ne_eq, not_true_eq_false, not_false_eq_true, one_ne0, reduceCtorEq]
        exact fin h1 w1 g1 F1 R1
      | false =>
        simp only [bI, cond_false, if_true]
        simp only [s173_29, s173_30, s173_33, s173_34, s173_36, s173_37, s173_40, s173_43, s173_44, s173_45, s173_47, R.1, XG_1, XO_some, XV_1, xo_n, xo_i8, xo_r8, xo_i7, xo_r7, xo_i6, xo_r6, xo_i5, xo_r5, xo_i4, xo_r4, xo_i3, xo_r3, xo_i2, xo_r2, Option.toList_some, Option.toList_none, List.cons_append, List.nil_append, bI_t, bI_f, bI_0, bI_n0, if_true, if_false, true_and, and_true, ne_eq, not_true_eq_false, not_false_eq_true, one_ne0, reduceCtorEq]
        refine hq _ fun h1 w1 g1 F1 R1 => ?_
        simp only [XG_1, XO_some, XV_1, xo_n, xo_i8, xo_r8, xo_i7, xo_r7, xo_i6, xo_r6, xo_i5, xo_r5, xo_i4, xo_r4, xo_i3, xo_r3, xo_i2, xo_r2, Option.toList_some, Option.toList_none, List.cons_append, List.nil_append, bI_t, bI_f, bI_0, bI_n0, if_true, if_false, true_and, and_true, ne_eq, not_true_eq_false, not_false_eq_true, one_ne0, reduceCtorEq]
        exact fin h1 w1 g1 F1 R1
theorem r_bestW (R : RM h.2.2.1 r m f w g) (M : MR n T f) (I : IV n T) (hr : r + 20 < Dy) (hD : Dy ≤ h.1) {i : Nat} (hi : i < n 2) (K : ∀ h' w' g', FR Dy (Pf r) h h' → RM h'.2.2.1 r m f w' g' → Q (some (.int (oI (-1) (gst (T 4) (T 5) (T 9 i) (n 1))))) h') : XC (d + 8) 173 [.ref r, .int (nI i), .int 1] h Q := by
  have hn := I.nn
  rw [e173]
  simp only [s173_0, s173_1, s173_2, s173_3, s173_5, s173_6]
  exact l_best M I hr hi true (T 5) (fun dd h w g hd hD R Q K => by rw [if_pos rfl, r_door1 R M (by omega)]; exact K h w g FR.refl R) (n 1) 0 h w g _ 0 (by omega) hD R (fun b e => by cases e) K
theorem r_bestG (R : RM h.2.2.1 r m f w g) (M : MR n T f) (I : IV n T) (hr : r + 20 < Dy) (hD : Dy ≤ h.1) {i : Nat} (hi : i < n 2) (K : ∀ h' w' g', FR Dy (Pf r) h h' → RM h'.2.2.1 r m f w' g' → Q (some (.int (oI (-1) (gst (T 4) (gnT n T i) (T 9 i) (n 1))))) h') : XC (d + 8) 173 [.ref r, .int (nI i), .int 0] h Q := by
  rw [e173]
  simp only [s173_0, s173_1, s173_2, s173_3, s173_5, s173_6]
  exact l_best M I hr hi false (gnT n T i) (fun dd h w g hd hD R Q K => by rw [if_neg (by decide)]; exact r_gainAt R M I hr hD hi hd K) (n 1) 0 h w g _ 0 (by omega) hD R (fun b e => by cases e) K
theorem MR.dz (M : MR n T f) {v : Int32} : MR n (sup T 0 7 v) (upd f 0 v) := by
  obtain ⟨⟨a0, a1, a2, a3, a4, a5, a6, a7⟩, b, c, e, k, l⟩ := M
  refine ⟨⟨rfl, a1, a2, a3, a4, a5, a6, a7⟩, fun i hi => ?_, fun i hi => ?_, fun i hi => ?_, fun i hi => ?_, fun i hi => ?_⟩
  · simp only [upd_ne (show 8 + 3 * i ≠ 0 by omega), upd_ne (show 8 + 3 * i + 1 ≠ 0 by omega), upd_ne (show 8 + 3 * i + 2 ≠ 0 by omega)]; exact b i hi
  · simp only [upd_ne (show 38 + 5 * i ≠ 0 by omega), upd_ne (show 38 + 5 * i + 1 ≠ 0 by omega), upd_ne (show 38 + 5 * i + 2 ≠ 0 by omega), upd_ne (show 38 + 5 * i + 3 ≠ 0 by omega), upd_ne (show 38 + 5 * i + 4 ≠ 0 by omega)]; exact c i hi
  · simp only [upd_ne (show 98 + 2 * i ≠ 0 by omega), upd_ne (show 98 + 2 * i + 1 ≠ 0 by omega)]; exact e i hi
  · simp only [upd_ne (show 110 + 2 * i ≠ 0 by omega), upd_ne (show 110 + 2 * i + 1 ≠ 0 by omega)]; exact k i hi
  · simp only [upd_ne (show 138 + i ≠ 0 by omega)]; exact l i hi
theorem MR.tk (M : MR n T f) {v : Int32} : MR n (sup T 0 5 v) (upd f 4 v) := by
  obtain ⟨⟨a0, a1, a2, a3, a4, a5, a6, a7⟩, b, c, e, k, l⟩ := M
  refine ⟨⟨a0, a1, a2, a3, rfl, a5, a6, a7⟩, fun i hi => ?_, fun i hi => ?_, fun i hi => ?_, fun i hi => ?_, fun i hi => ?_⟩
  · simp only [upd_ne (show 8 + 3 * i ≠ 4 by omega), upd_ne (show 8 + 3 * i + 1 ≠ 4 by omega), upd_ne (show 8 + 3 * i + 2 ≠ 4 by omega)]; exact b i hi
  · simp only [upd_ne (show 38 + 5 * i ≠ 4 by omega), upd_ne (show 38 + 5 * i + 1 ≠ 4 by omega), upd_ne (show 38 + 5 * i + 2 ≠ 4 by omega), upd_ne (show 38 + 5 * i + 3 ≠ 4 by omega), upd_ne (show 38 + 5 * i + 4 ≠ 4 by omega)]; exact c i hi
  · simp only [upd_ne (show 98 + 2 * i ≠ 4 by omega), upd_ne (show 98 + 2 * i + 1 ≠ 4 by omega)]; exact e i hi
  · simp only [upd_ne (show 110 + 2 * i ≠ 4 by omega), upd_ne (show 110 + 2 * i + 1 ≠ 4 by omega)]; exact k i hi
  · simp only [upd_ne (show 138 + i ≠ 4 by omega)]; exact l i hi
theorem MR.ct (M : MR n T f) {v : Int32} : MR n (sup T 0 6 v) (upd f 5 v) := by
  obtain ⟨⟨a0, a1, a2, a3, a4, a5, a6, a7⟩, b, c, e, k, l⟩ := M
  refine ⟨⟨a0, a1, a2, a3, a4, rfl, a6, a7⟩, fun i hi => ?_, fun i hi => ?_, fun i hi => ?_, fun i hi => ?_, fun i hi => ?_⟩
  · simp only [upd_ne (show 8 + 3 * i ≠ 5 by omega), upd_ne (show 8 + 3 * i + 1 ≠ 5 by omega), upd_ne (show 8 + 3 * i + 2 ≠ 5 by omega)]; exact b i hi
  · simp only [upd_ne (show 38 + 5 * i ≠ 5 by omega), upd_ne (show 38 + 5 * i + 1 ≠ 5 by omega), upd_ne (show 38 + 5 * i + 2 ≠ 5 by omega), upd_ne (show 38 + 5 * i + 3 ≠ 5 by omega), upd_ne (show 38 + 5 * i + 4 ≠ 5 by omega)]; exact c i hi
  · simp only [upd_ne (show 98 + 2 * i ≠ 5 by omega), upd_ne (show 98 + 2 * i + 1 ≠ 5 by omega)]; exact e i hi
  · simp only [upd_ne (show 110 + 2 * i ≠ 5 by omega), upd_ne (show 110 + 2 * i + 1 ≠ 5 by omega)]; exact k i hi
  · simp only [upd_ne (show 138 + i ≠ 5 by omega)]; exact l i hi
theorem r_draw (R : RM h.2.2.1 r m f w g) (M : MR n T f) : XC (d + 1) 144 [.ref r] h Q ↔ Q (some (.int (drv (T 0 7)))) (xset h (r + 1) (.inl (0, xis 1482 (upd f 0 (drw (T 0 7)))))) := by
  rw [e144]
  simp only [s144_0, s144_1, s144_4, s144_5, s144_6, s144_9, s144_10, s144_11, s144_13, s144_14, s144_17, s144_18, s144_19, s144_20, s144_23, s144_24, s144_25, s144_27, s144_28, R.1, R.2.1, mf0, XG_1, XO_some, XV_1, xo_n, xo_i8, xo_r8, xo_i7, xo_r7, xo_i6, xo_r6, xo_i5, xo_r5, xo_i4, xo_r4, xo_i3, xo_r3, xo_i2, xo_r2, Option.toList_some, Option.toList_none, List.cons_append, List.nil_append, bI_t, bI_f, bI_0, bI_n0, if_true, if_false, true_and, and_true, ne_eq, not_true_eq_false, not_false_eq_true, one_ne0, reduceCtorEq, A0, S0, M.1.1, xset_self, xset_ne (show r ≠ r + 1 by omega), upd_at]
  rfl
theorem l_lot (R : RM h.2.2.1 r m f w g) (M : MR n T f) (I : IV n T) {i f0 b : Nat} (hi : i < n 2) (hf : f0 < n 1) : ∀ k j, fnd (T 4) (T 9 i) (n 1) f0 k j = some b → ∀ c2 c3, (XE (d + 2) 174 61 [.val (.ref r), .val (.int (nI i)), c2, c3, .val (.int (nI ((f0 + j) % n 1)))] [] h Q ↔ Q (some (.int (nI b))) h) := by
  have hn := I.nn
  intro k
  induction k with
  | zero => intro j e; cases e
  | succ k ih =>
    intro j e c2 c3
    have hm : (f0 + j) % n 1 < n 1 := Nat.mod_lt _ (by omega)
    have hz : (nI (n 1) = 0) = False := eq_false (nI_ne0 (by omega) (by omega))
    unfold fnd at e
    rw [s174_61]
    simp only [s174_62, s174_63, s174_65, s174_68, s174_71, s174_73, s174_74, s174_75, s174_76, s174_79, s174_80, s174_81, s174_82, s174_84, R.1, R.2.1, mf0, A2, M.1.2.2.1, XG_1, XO_some, XV_1, xo_n, xo_i8, xo_r8, xo_i7, xo_r7, xo_i6, xo_r6, xo_i5, xo_r5, xo_i4, xo_r4, xo_i3, xo_r3, xo_i2, xo_r2, Option.toList_some, Option.toList_none, List.cons_append, List.nil_append, bI_t, bI_f, bI_0, bI_n0, if_true, if_false, true_and, and_true, ne_eq, not_true_eq_false, not_false_eq_true, one_ne0, reduceCtorEq, r_isOpen R M I hi (show (f0 + j) % n 1 < 12 by omega), nI_1, hz, nI_mod (show (f0 + j) % n 1 + 1 < 2 ^ 31 by omega) (show n 1 < 2 ^ 31 by omega), decide_eq_false_iff_not]
    split at e
    next q =>
      simp only [q, not_true_eq_false, if_false]
      rw [show ((f0 + j) % n 1 + 1) % n 1 = (f0 + (j + 1)) % n 1 by rw [← Nat.add_assoc, Nat.mod_add_mod]]
      exact ih (j + 1) e _ _
    next q =>
      cases e
      simp only [q, not_false_eq_true, if_true, s174_0, s174_1, s174_2, s174_5, s174_6, s174_7, s174_8, s174_9, s174_10, s174_13, s174_14, s174_15, s174_18, s174_19, s174_22, s174_23, s174_26, s174_27, s174_28, s174_31, s174_32, s174_33, s174_36, s174_37, s174_38, s174_41, s174_42, s174_43, s174_46, s174_47, s174_48, s174_49, s174_52, s174_53, s174_56, s174_57, s174_58, s174_59, s174_62, s174_63, s174_65, s174_68, s174_71, s174_73, s174_74, s174_75, s174_76, s174_79, s174_80, s174_81, s174_82, s174_84, s174_87, s174_89]
theorem fnd_some {ow : Nat → Int32} {hm : Int32} {nd f0 : Nat} : ∀ k i, (∃ j, i ≤ j ∧ j < i + k ∧ ow ((f0 + j) % nd) ≠ hm) → ∃ b, fnd ow hm nd f0 k i = some b := by
  intro k
  induction k with
  | zero => rintro i ⟨j, h1, h2, -⟩; omega
  | succ k ih =>
    rintro i ⟨j, h1, h2, h3⟩
    unfold fnd
    split
    next e =>
      refine ih (i + 1) ⟨j, ?_, by omega, h3⟩
      by_cases hij : i = j
      · subst hij; exact absurd e h3
      · omega
    next => exact ⟨_, rfl⟩
theorem fnd_ok {b f0 : Nat} {hm : Int32} {rr : Nat → Int32} (hg : gst (T 4) rr hm (n 1) = some b) (hf : f0 < n 1) : ∃ b2, fnd (T 4) hm (n 1) f0 (n 1) 0 = some b2 := by
  obtain ⟨h1, h2⟩ := gst_lt hg
  refine fnd_some (n 1) 0 ?_
  by_cases hb : f0 ≤ b
  · refine ⟨b - f0, by omega, by omega, ?_⟩
    rw [show f0 + (b - f0) = b by omega, Nat.mod_eq_of_lt h1]
    exact h2
  · refine ⟨b + n 1 - f0, by omega, by omega, ?_⟩
    rw [show f0 + (b + n 1 - f0) = b + n 1 by omega, Nat.add_mod_right, Nat.mod_eq_of_lt h1]
    exact h2
theorem r_choiceOf (R : RM h.2.2.1 r m f w g) (M : MR n T f) (I : IV n T) (hr : r + 20 < Dy) (hD : Dy ≤ h.1) {i : Nat} (hi : i < n 2) (K : ∀ h' f' w' g', FR Dy (Pn r) h h' → RM h'.2.2.1 r m f' w' g' → MR n (sup T 0 7 (chz n T i (T 0 7)).2) f' → Q (some (.int (oI (-1) (chz n T i (T 0 7)).1))) h') : XC (d + 9) 174 [.ref r, .int (nI i)] h Q := by
  have hn := I.nn
  obtain ⟨⟨kn, hk, h8⟩, home, hh, h9⟩ := I.th i hi
  have hkn : knd T i = kn := by show (T 8 i).toNatClampNeg = kn; rw [h8, nI_clamp (by omega)]
  unfold chz at K
  rw [hkn] at K
  rw [e174]
  simp only [s174_0, s174_1, s174_2, s174_5, s174_6, s174_7, s174_8, s174_9, s174_10, s174_13, s174_14, s174_15, s174_18, s174_19, R.1, XG_1, XO_some, XV_1, xo_n, xo_i8, xo_r8, xo_i7, xo_r7, xo_i6, xo_r6, xo_i5, xo_r5, xo_i4, xo_r4, xo_i3, xo_r3, xo_i2, xo_r2, Option.toList_some, Option.toList_none, List.cons_append, List.nil_append, bI_t, bI_f, bI_0, bI_n0, if_true, if_false, true_and, and_true, ne_eq, not_true_eq_false, not_false_eq_true, one_ne0, reduceCtorEq, r_kindOf R M I hi, h8]
  have n1 : ∀ {k : Nat}, k ≤ 5 → ((nI k = 1) = (k = 1)) := fun {k} hk => propext (nI_eq (b := 1) (by omega) (by decide))
  have n3 : ∀ {k : Nat}, k ≤ 5 → ((nI k = 3) = (k = 3)) := fun {k} hk => propext (nI_eq (b := 3) (by omega) (by decide))
  have n4 : ∀ {k : Nat}, k ≤ 5 → ((nI k = 4) = (k = 4)) := fun {k} hk => propext (nI_eq (b := 4) (by omega) (by decide))
  simp only [n1 hk, n3 hk]
  by_cases h13 : kn = 1 ∨ kn = 3
  · simp only [h13, if_true] at K
    have go : XE (d + 8) 174 23 [.val (.ref r), .val (.int (nI i)), .val (.int (nI kn)), .unset, .unset] [.int 0, .int (nI i), .ref r] h Q := by
      simp only [s174_23, R.1, XG_1, XO_some, XV_1, xo_n, xo_i8, xo_r8, xo_i7, xo_r7, xo_i6, xo_r6, xo_i5, xo_r5, xo_i4, xo_r4, xo_i3, xo_r3, xo_i2, xo_r2, Option.toList_some, Option.toList_none, List.cons_append, List.nil_append, bI_t, bI_f, bI_0, bI_n0, if_true, if_false, true_and, and_true, ne_eq, not_true_eq_false, not_false_eq_true, one_ne0, reduceCtorEq]
      refine r_bestG R M I hr hD hi fun h1 w1 g1 F1 R1 => ?_
      have K1 := K h1 f w1 g1 (frpn F1) R1 (by rw [sup_id]; exact M)
      simp only [s174_26, s174_27, s174_28, s174_31, s174_32, s174_33, s174_36, s174_37, s174_38, s174_41, s174_42, s174_43, s174_46, s174_47, XG_1, XO_some, XV_1, xo_n, xo_i8, xo_r8, xo_i7, xo_r7, xo_i6, xo_r6, xo_i5, xo_r5, xo_i4, xo_r4, xo_i3, xo_r3, xo_i2, xo_r2, Option.toList_some, Option.toList_none, List.cons_append, List.nil_append, bI_t, bI_f, bI_0, bI_n0, if_true, if_false, true_and, and_true, ne_eq, not_true_eq_false, not_false_eq_true, one_ne0, reduceCtorEq, n1 hk, n3 hk]
      rcases h13 with e | e
      · simp only [e, if_true]
        split <;> exact K1
      · simp only [e, if_true, show ¬ (3 = 1) by decide, if_false]
        split <;> exact K1
    rcases h13 with e | e
    · simp only [e, if_true, s174_22]; rw [e] at go; exact go
    · simp only [e, if_true, show ¬ (3 = 1) by decide, if_false, s174_22]; rw [e] at go; exact go
  · have e1 : ¬ kn = 1 := fun q => h13 (Or.inl q)
    have e3 : ¬ kn = 3 := fun q => h13 (Or.inr q)
    simp only [h13, if_false] at K
    simp only [e1, e3, if_false]
    simp only [s174_18, s174_19, s174_22, s174_23, R.1, XG_1, XO_some, XV_1, xo_n, xo_i8, xo_r8, xo_i7, xo_r7, xo_i6, xo_r6, xo_i5, xo_r5, xo_i4, xo_r4, xo_i3, xo_r3, xo_i2, xo_r2, Option.toList_some, Option.toList_none, List.cons_append, List.nil_append, bI_t, bI_f, bI_0, bI_n0, if_true, if_false, true_and, and_true, ne_eq, not_true_eq_false, not_false_eq_true, one_ne0, reduceCtorEq]
    refine r_bestW R M I hr hD hi fun h1 w1 g1 F1 R1 => ?_
    have hD1 : Dy ≤ h1.1 := by rw [F1.1]; exact hD
    simp only [s174_26, s174_27, s174_28, s174_31, s174_32, s174_33, s174_36, s174_37, s174_38, s174_41, s174_42, s174_43, XG_1, XO_some, XV_1, xo_n, xo_i8, xo_r8, xo_i7, xo_r7, xo_i6, xo_r6, xo_i5, xo_r5, xo_i4, xo_r4, xo_i3, xo_r3, xo_i2, xo_r2, Option.toList_some, Option.toList_none, List.cons_append, List.nil_append, bI_t, bI_f, bI_0, bI_n0, if_true, if_false, true_and, and_true, ne_eq, not_true_eq_false, not_false_eq_true, one_ne0, reduceCtorEq, n1 hk, n3 hk, n4 hk, e1, e3, if_false]
    by_cases h4 : kn = 4
    · simp only [h4, if_true] at K ⊢
      have K1 := K h1 f w1 g1 (frpn F1) R1 (by rw [sup_id]; exact M)
      simp only [s174_46, s174_47]
      split <;> exact K1
    · simp only [h4, if_false] at K ⊢
      cases hg : gst (T 4) (T 5) (T 9 i) (n 1) with
      | none =>
        rw [hg] at K
        have K1 := K h1 f w1 g1 (frpn F1) R1 (by rw [sup_id]; exact M)
        simp only [oI, show (-1 : Int32) < 0 by decide, if_true, s174_46, s174_47]
        exact K1
      | some b =>
        rw [hg] at K
        have hb := (gst_lt hg).1
        have hq := dq_lt (T 0 7)
        have hz : (nI (n 1) = 0) = False := eq_false (nI_ne0 (by omega) (by omega))
        have hf0 : dq (T 0 7) % n 1 < n 1 := Nat.mod_lt _ (by omega)
        obtain ⟨b2, hb2⟩ := fnd_ok hg hf0
        obtain ⟨R2, F2⟩ := R1.sf hr hD1 (f2 := upd f 0 (drw (T 0 7)))
        simp only [oI, nI_pos (show b < 2 ^ 31 by omega), if_false]
        simp only [s174_48, s174_49, R1.1, XG_1, XO_some, XV_1, xo_n, xo_i8, xo_r8, xo_i7, xo_r7, xo_i6, xo_r6, xo_i5, xo_r5, xo_i4, xo_r4, xo_i3, xo_r3, xo_i2, xo_r2, Option.toList_some, Option.toList_none, List.cons_append, List.nil_append, bI_t, bI_f, bI_0, bI_n0, if_true, if_false, true_and, and_true, ne_eq, not_true_eq_false, not_false_eq_true, one_ne0, reduceCtorEq]
        rw [r_draw R1 M]
        simp only [s174_52, s174_53, s174_56, s174_57, s174_58, s174_59, R2.1, R2.2.1, mf0, A2, upd_ne (show 2 ≠ 0 by decide), M.1.2.2.1, XG_1, XO_some, XV_1, xo_n, xo_i8, xo_r8, xo_i7, xo_r7, xo_i6, xo_r6, xo_i5, xo_r5, xo_i4, xo_r4, xo_i3, xo_r3, xo_i2, xo_r2, Option.toList_some, Option.toList_none, List.cons_append, List.nil_append, bI_t, bI_f, bI_0, bI_n0, if_true, if_false, true_and, and_true, ne_eq, not_true_eq_false, not_false_eq_true, one_ne0, reduceCtorEq, drv_eq, hz, nI_mod (show dq (T 0 7) < 2 ^ 31 by omega) (show n 1 < 2 ^ 31 by omega)]
        have hl := l_lot (d := d + 6) (Q := Q) R2 M.dz (show IV n (sup T 0 7 (drw (T 0 7))) from I) hi hf0 (n 1) 0 hb2 (.val (.int (nI kn))) (.val (.int (nI b)))
        rw [show (dq (T 0 7) % n 1 + 0) % n 1 = dq (T 0 7) % n 1 by rw [Nat.add_zero, Nat.mod_mod]] at hl
        refine hl.mpr ?_
        have K1 := K _ _ _ _ ((frpn F1).trans F2) R2 M.dz
        dsimp only at K1
        rw [hb2] at K1
        exact K1
end RR3
