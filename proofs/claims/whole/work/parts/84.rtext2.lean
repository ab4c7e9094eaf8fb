/-! ===== 84: the reference reads a text: the loop ===== -/
section RTE
variable {r d z ky : Nat} {h : xH} {Q : Option Value → xH → Prop} {m bb : Nat → Int32}
theorem l_takesE (R : RTa h r z m bb) (hk : ky < 3) : ∀ fu p Wl Cl A wt C W T e en c4, z < fu + p → PI (nnk ky) z p Wl Cl A wt → SRe id W Wl → SRe id C Cl → ENI bb p en → T (opn Wl) = bI (tsg Wl) → TRr T Wl → (∀ q, prs bb z ky fu p Wl Cl A wt = (none, q) → ∀ a c e f i j l C W T, Q (some (.int 0)) (MS h r m a (nI q) c e f (nI ky) i j l C W T)) → (∀ W2 C2 A2 q, prs bb z ky fu p Wl Cl A wt = (some (W2, C2, A2), q) → ∀ a b c e f l C W T, SRe id C (stl 0 W2 C2).2 → Q (some (.int 1)) (MS h r m a b c e f (nI ky) (nI (stl 0 W2 C2).2.length) (nI A2) l C W T)) → XE (d + 10) 202 28 [.val (.ref r), .val (.int (nI (opn Wl))), .val (.int (nI (cn Wl))), .val (.int (bI wt)), c4] [] (MS h r m (nI (tn bb z p)) (nI (tf bb z p)) (nI (tkv bb z p)) (vlv bb z p e) (env bb z p en) (nI ky) (nI Cl.length) (nI A) (nI Wl.length) C W T) Q := by
  have hz := R.2.1
  intro fu
  induction fu with
  | zero =>
    intro p Wl Cl A wt C W T e en c4 hfu I
    have := I.2.2.2.1
    omega
  | succ fu ih =>
    intro p Wl Cl A wt C W T e en c4 hfu I hW hC En hT hTr K1 K2
    have hp : p ≤ z := I.2.2.2.1
    have hlen := I.2.2.1
    have hop := I.2.1
    have h5 := tkv_lt (bb := bb) (z := z) (p := p)
    have hst : prs bb z ky (fu + 1) p Wl Cl A wt = if ts bb z p = 0 then (if wt = true ∨ ¬ opn Wl = 0 then (none, tf bb z p) else (some (Wl, Cl, A), tf bb z p))
      else if wt = true then
        (if ts bb z p = 3 then
          (if bb (tf bb z p) = 40 ∧ opn Wl < 8 then prs bb z ky fu (tn bb z p) (-11 :: Wl) Cl A true
           else if bb (tf bb z p) = 33 ∧ cn Wl < 8 then prs bb z ky fu (tn bb z p) (-10 :: Wl) Cl A true
           else (none, tf bb z p))
         else match trm bb z ky p with
           | none => (none, tf bb z p)
           | some v => prs bb z ky fu (tn bb z p) (stl 6 Wl (v :: Cl)).1 (stl 6 Wl (v :: Cl)).2 (A + 1) false)
      else if ts bb z p = 3 ∧ bb (tf bb z p) = 41 then
        (if opn Wl = 0 then (none, tf bb z p)
         else prs bb z ky fu (tn bb z p) (stl 6 (stl 0 Wl Cl).1.tail (stl 0 Wl Cl).2).1 (stl 6 (stl 0 Wl Cl).1.tail (stl 0 Wl Cl).2).2 A false)
      else match jn bb z p Wl with
        | none => (none, tf bb z p)
        | some g => prs bb z ky fu (tn bb z p) (g :: (stl (rk g) Wl Cl).1) (stl (rk g) Wl Cl).2 A true := rfl
    have cnl : cn Wl ≤ Wl.length := by rw [← cnr_l Wl hW]; exact cnr_le _
    have ln := tn_le (b := bb) hp
    by_cases c0 : ts bb z p = 0
    · rw [if_pos c0] at hst
      have e0 : (nI (tkv bb z p) = 0) = True := eq_true (by rw [tkv_z.mpr c0]; rfl)
      have e3 : (nI (tkv bb z p) = 3) = False := eq_false (by rw [tkv_z.mpr c0]; decide)
      cases wt with
      | true =>
        rw [if_pos (Or.inl rfl)] at hst
        rw [s202_28]
        simp only [s202_29, s202_32, s202_33, s202_36, s202_39, s202_40, s202_43, s202_44, s202_47, s202_48, s202_97, s202_98, s202_101, s202_102, s202_158, s202_159, s202_162, s202_165, s202_166, s202_167, s202_170, s202_171, s202_171t, s202_171b, one_ne0, xset_self, mg_8, e3, r_partN hk hz hp (Or.inl c0), XG_1, XO_some, XV_1, xo_n, xo_i8, xo_r8, xo_i7, xo_r7, xo_i6, xo_r6, xo_i5, xo_r5, xo_i4, xo_r4, xo_i3, xo_r3, xo_i2, xo_r2, Option.toList_some, Option.toList_none, List.cons_append, List.nil_append, bI_t, bI_f, bI_0, bI_n0, if_true, if_false, true_and, and_true, ne_eq, not_true_eq_false, not_false_eq_true, one_ne0, reduceCtorEq, Bool.true_eq_false]
        exact K1 _ hst _ _ _ _ _ _ _ _ _ _
      | false =>
        rw [s202_28]
        simp only [s202_29, s202_32, s202_33, s202_36, s202_345, s202_346, s202_347, xset_self, mg_8, e0, XG_1, XO_some, XV_1, xo_n, xo_i8, xo_r8, xo_i7, xo_r7, xo_i6, xo_r6, xo_i5, xo_r5, xo_i4, xo_r4, xo_i3, xo_r3, xo_i2, xo_r2, Option.toList_some, Option.toList_none, List.cons_append, List.nil_append, bI_t, bI_f, bI_0, bI_n0, if_true, if_false, true_and, and_true, ne_eq, not_true_eq_false, not_false_eq_true, one_ne0, reduceCtorEq]
        refine r_settle (lv := 0) (by decide) hW hC (by omega) (fun C2 hW2 hC2 => ?_)
        by_cases co : opn Wl = 0
        · rw [if_neg (fun q => by rcases q with q | q; cases q; exact q co)] at hst
          have lo : (nI (opn Wl) = 0) = True := eq_true (by rw [co]; rfl)
          simp only [s202_350, s202_351, s202_354, s202_355, s202_358, s202_359, s202_359t, s202_359b, lo, XG_1, XO_some, XV_1, xo_n, xo_i8, xo_r8, xo_i7, xo_r7, xo_i6, xo_r6, xo_i5, xo_r5, xo_i4, xo_r4, xo_i3, xo_r3, xo_i2, xo_r2, Option.toList_some, Option.toList_none, List.cons_append, List.nil_append, bI_t, bI_f, bI_0, bI_n0, if_true, if_false, true_and, and_true, ne_eq, not_true_eq_false, not_false_eq_true, one_ne0, reduceCtorEq]
          exact K2 Wl Cl A _ hst _ _ _ _ _ _ _ _ _ hC2
        · rw [if_pos (Or.inr co)] at hst
          have lo : (nI (opn Wl) = 0) = False := eq_false (fun q => co ((nI_eq (b := 0) (by omega) (by decide)).mp q))
          simp only [s202_350, s202_351, s202_354, s202_355, s202_358, s202_359, s202_359t, s202_359b, lo, XG_1, XO_some, XV_1, xo_n, xo_i8, xo_r8, xo_i7, xo_r7, xo_i6, xo_r6, xo_i5, xo_r5, xo_i4, xo_r4, xo_i3, xo_r3, xo_i2, xo_r2, Option.toList_some, Option.toList_none, List.cons_append, List.nil_append, bI_t, bI_f, bI_0, bI_n0, if_true, if_false, true_and, and_true, ne_eq, not_true_eq_false, not_false_eq_true, one_ne0, reduceCtorEq]
          exact K1 _ hst _ _ _ _ _ _ _ _ _ _
    rw [if_neg c0] at hst
    obtain ⟨hf, hs⟩ := ts_n c0
    have hgt := tn_gt c0
    have hge := tf_ge (b := bb) (z := z) (p := p)
    have En2 := eni_go hp hz En c0
    have e0 : (nI (tkv bb z p) = 0) = False := eq_false (fun q => c0 (tkv_z.mp ((nI_eq (b := 0) (by omega) (by decide)).mp q)))
    cases wt with
    | true =>
      rw [if_pos rfl] at hst
      by_cases c3 : ts bb z p = 3
      · rw [if_pos c3] at hst
        have e3 : (nI (tkv bb z p) = 3) = True := eq_true (by rw [tkv_3.mpr c3]; rfl)
        have vv : vlv bb z p e = bb (tf bb z p) := by unfold vlv; rw [c3]; rfl
        by_cases cO : bb (tf bb z p) = 40 ∧ opn Wl < 8
        · rw [if_pos cO] at hst
          have l8 : nI (opn Wl) < 8 := nI_lt (b := 8) cO.2 (by decide)
          have v40 : vlv bb z p e = 40 := vv.trans cO.1
          have IH := ih (tn bb z p) (-11 :: Wl) Cl A true C (upd W Wl.length (-11)) (upd T (opn Wl + 1) 0) 40 (env bb z p en) c4 (by omega) (pi_open I c0 cO.2) (SRe_push hW rfl) hC En2 (by show upd T (opn Wl + 1) 0 (opn Wl + 1) = _; rw [upd_at]; rfl) ⟨fun _ => by rw [upd_ne (by omega)]; exact hT, TRr_up Wl _ (by omega) hTr⟩ (fun q w => K1 q (hst.trans w)) (fun W2 C2 A2 q w => K2 W2 C2 A2 q (hst.trans w))
          rw [s202_28, v40]
          simp only [s202_29, s202_32, s202_33, s202_36, s202_39, s202_40, s202_43, s202_44, s202_47, s202_48, s202_51, s202_52, s202_55, s202_57, s202_60, s202_61, s202_63, s202_97, s202_98, s202_101, s202_102, s202_105, s202_106, s202_109, s202_111, s202_114, s202_115, s202_117, s202_120, s202_121, s202_124, s202_125, s202_128, s202_130, s202_131, s202_132, s202_132r, s202_133, s202_136, s202_137, s202_138, s202_141, s202_144, s202_145, s202_148, s202_149, s202_150, s202_151, s202_152, one_ne0, xset_self, mg_8, mg_9, mg_17, mg_18, mg_19, e3, show ((40 : Int32) = 33) = False from eq_false (by decide), l8, u_8, u_9, XS96 (show Wl.length < 96 by omega), u_w8, mp_18, xset_twice, nI_1, XS10b (show opn Wl + 1 < 10 by omega) (Or.inl rfl), u_w9, XG_1, XO_some, XV_1, xo_n, xo_i8, xo_r8, xo_i7, xo_r7, xo_i6, xo_r6, xo_i5, xo_r5, xo_i4, xo_r4, xo_i3, xo_r3, xo_i2, xo_r2, Option.toList_some, Option.toList_none, List.cons_append, List.nil_append, bI_t, bI_f, bI_0, bI_n0, if_true, if_false, true_and, and_true, ne_eq, not_true_eq_false, not_false_eq_true, one_ne0, reduceCtorEq, Bool.true_eq_false]
          refine (r_go R ln En2).mpr ?_
          simp only [s202_155, s202_172, s202_173, xset_self, XG_1, XO_some, XV_1, xo_n, xo_i8, xo_r8, xo_i7, xo_r7, xo_i6, xo_r6, xo_i5, xo_r5, xo_i4, xo_r4, xo_i3, xo_r3, xo_i2, xo_r2, Option.toList_some, Option.toList_none, List.cons_append, List.nil_append, bI_t, bI_f, bI_0, bI_n0, if_true, if_false, true_and, and_true, ne_eq, not_true_eq_false, not_false_eq_true, one_ne0, reduceCtorEq]
          refine (r_nots (Wl := -11 :: Wl) (SRe_push hW rfl) (by show Wl.length + 1 ≤ 96; omega)).mpr ?_
          simp only [s202_176, s202_177, XG_1, XO_some, XV_1, xo_n, xo_i8, xo_r8, xo_i7, xo_r7, xo_i6, xo_r6, xo_i5, xo_r5, xo_i4, xo_r4, xo_i3, xo_r3, xo_i2, xo_r2, Option.toList_some, Option.toList_none, List.cons_append, List.nil_append, bI_t, bI_f, bI_0, bI_n0, if_true, if_false, true_and, and_true, ne_eq, not_true_eq_false, not_false_eq_true, one_ne0, reduceCtorEq]
          exact IH
        · rw [if_neg cO] at hst
          by_cases cN : bb (tf bb z p) = 33 ∧ cn Wl < 8
          · rw [if_pos cN] at hst
            have l8 : nI (cn Wl) < 8 := nI_lt (b := 8) cN.2 (by decide)
            have v33 : vlv bb z p e = 33 := vv.trans cN.1
            have IH := ih (tn bb z p) (-10 :: Wl) Cl A true C (upd W Wl.length (-10)) T 33 (env bb z p en) c4 (by omega) (pi_not I c0) (SRe_push hW rfl) hC En2 hT ⟨fun q => absurd q (by decide), hTr⟩ (fun q w => K1 q (hst.trans w)) (fun W2 C2 A2 q w => K2 W2 C2 A2 q (hst.trans w))
            rw [s202_28, v33]
            simp only [s202_29, s202_32, s202_33, s202_36, s202_39, s202_40, s202_43, s202_44, s202_47, s202_48, s202_51, s202_52, s202_55, s202_57, s202_60, s202_61, s202_63, s202_66, s202_67, s202_70, s202_71, s202_74, s202_76, s202_77, s202_78, s202_78r, s202_79, s202_82, s202_83, s202_84, s202_87, s202_90, s202_91, one_ne0, xset_self, mg_8, mg_9, mg_17, mg_18, e3, l8, u_8, XS96 (show Wl.length < 96 by omega), u_w8, mp_18, xset_twice, nI_1, XG_1, XO_some, XV_1, xo_n, xo_i8, xo_r8, xo_i7, xo_r7, xo_i6, xo_r6, xo_i5, xo_r5, xo_i4, xo_r4, xo_i3, xo_r3, xo_i2, xo_r2, Option.toList_some, Option.toList_none, List.cons_append, List.nil_append, bI_t, bI_f, bI_0, bI_n0, if_true, if_false, true_and, and_true, ne_eq, not_true_eq_false, not_false_eq_true, one_ne0, reduceCtorEq, Bool.true_eq_false]
            refine (r_go R ln En2).mpr ?_
            simp only [s202_94, s202_172, s202_173, xset_self, XG_1, XO_some, XV_1, xo_n, xo_i8, xo_r8, xo_i7, xo_r7, xo_i6, xo_r6, xo_i5, xo_r5, xo_i4, xo_r4, xo_i3, xo_r3, xo_i2, xo_r2, Option.toList_some, Option.toList_none, List.cons_append, List.nil_append, bI_t, bI_f, bI_0, bI_n0, if_true, if_false, true_and, and_true, ne_eq, not_true_eq_false, not_false_eq_true, one_ne0, reduceCtorEq]
            refine (r_nots (Wl := -10 :: Wl) (SRe_push hW rfl) (by show Wl.length + 1 ≤ 96; omega)).mpr ?_
            simp only [s202_176, s202_177, XG_1, XO_some, XV_1, xo_n, xo_i8, xo_r8, xo_i7, xo_r7, xo_i6, xo_r6, xo_i5, xo_r5, xo_i4, xo_r4, xo_i3, xo_r3, xo_i2, xo_r2, Option.toList_some, Option.toList_none, List.cons_append, List.nil_append, bI_t, bI_f, bI_0, bI_n0, if_true, if_false, true_and, and_true, ne_eq, not_true_eq_false, not_false_eq_true, one_ne0, reduceCtorEq]
            exact IH
          · rw [if_neg cN] at hst
            have fin : XE (d + 10) 202 158 [.val (.ref r), .val (.int (nI (opn Wl))), .val (.int (nI (cn Wl))), .val (.int 1), c4] [] (MS h r m (nI (tn bb z p)) (nI (tf bb z p)) (nI (tkv bb z p)) (vlv bb z p e) (env bb z p en) (nI ky) (nI Cl.length) (nI A) (nI Wl.length) C W T) Q := by
              simp only [s202_158, s202_159, s202_162, s202_165, s202_166, s202_167, s202_170, s202_171, s202_171t, s202_171b, xset_self, r_partN hk hz hp (Or.inr (Or.inl c3)), XG_1, XO_some, XV_1, xo_n, xo_i8, xo_r8, xo_i7, xo_r7, xo_i6, xo_r6, xo_i5, xo_r5, xo_i4, xo_r4, xo_i3, xo_r3, xo_i2, xo_r2, Option.toList_some, Option.toList_none, List.cons_append, List.nil_append, bI_t, bI_f, bI_0, bI_n0, if_true, if_false, true_and, and_true, ne_eq, not_true_eq_false, not_false_eq_true, one_ne0, reduceCtorEq]
              exact K1 _ hst _ _ _ _ _ _ _ _ _ _
            rw [s202_28]
            by_cases q33 : bb (tf bb z p) = 33
            · have l8 : ¬ nI (cn Wl) < 8 := nI_nlt (b := 8) (Nat.not_lt.mp (fun q => cN ⟨q33, q⟩)) (by omega)
              have v33 : vlv bb z p e = 33 := vv.trans q33
              rw [v33] at fin ⊢
              simp only [s202_29, s202_32, s202_33, s202_36, s202_39, s202_40, s202_43, s202_44, s202_47, s202_48, s202_51, s202_52, s202_55, s202_57, s202_60, s202_61, s202_63, s202_97, s202_98, s202_101, s202_102, s202_105, s202_106, s202_109, s202_111, s202_114, s202_115, s202_117, one_ne0, xset_self, mg_8, mg_9, e3, l8, show ((33 : Int32) = 40) = False from eq_false (by decide), XG_1, XO_some, XV_1, xo_n, xo_i8, xo_r8, xo_i7, xo_r7, xo_i6, xo_r6, xo_i5, xo_r5, xo_i4, xo_r4, xo_i3, xo_r3, xo_i2, xo_r2, Option.toList_some, Option.toList_none, List.cons_append, List.nil_append, bI_t, bI_f, bI_0, bI_n0, if_true, if_false, true_and, and_true, ne_eq, not_true_eq_false, not_false_eq_true, one_ne0, reduceCtorEq, Bool.true_eq_false]
              exact fin
            · by_cases q40 : bb (tf bb z p) = 40
              · have l8 : ¬ nI (opn Wl) < 8 := nI_nlt (b := 8) (Nat.not_lt.mp (fun q => cO ⟨q40, q⟩)) (by omega)
                have v40 : vlv bb z p e = 40 := vv.trans q40
                rw [v40] at fin ⊢
                simp only [s202_29, s202_32, s202_33, s202_36, s202_39, s202_40, s202_43, s202_44, s202_47, s202_48, s202_51, s202_52, s202_55, s202_57, s202_60, s202_61, s202_63, s202_97, s202_98, s202_101, s202_102, s202_105, s202_106, s202_109, s202_111, s202_114, s202_115, s202_117, one_ne0, xset_self, mg_8, mg_9, e3, l8, show ((40 : Int32) = 33) = False from eq_false (by decide), XG_1, XO_some, XV_1, xo_n, xo_i8, xo_r8, xo_i7, xo_r7, xo_i6, xo_r6, xo_i5, xo_r5, xo_i4, xo_r4, xo_i3, xo_r3, xo_i2, xo_r2, Option.toList_some, Option.toList_none, List.cons_append, List.nil_append, bI_t, bI_f, bI_0, bI_n0, if_true, if_false, true_and, and_true, ne_eq, not_true_eq_false, not_false_eq_true, one_ne0, reduceCtorEq, Bool.true_eq_false]
                exact fin
              · rw [vv] at fin ⊢
                simp only [s202_29, s202_32, s202_33, s202_36, s202_39, s202_40, s202_43, s202_44, s202_47, s202_48, s202_51, s202_52, s202_55, s202_57, s202_60, s202_61, s202_63, s202_97, s202_98, s202_101, s202_102, s202_105, s202_106, s202_109, s202_111, s202_114, s202_115, s202_117, one_ne0, xset_self, mg_8, mg_9, e3, q33, q40, XG_1, XO_some, XV_1, xo_n, xo_i8, xo_r8, xo_i7, xo_r7, xo_i6, xo_r6, xo_i5, xo_r5, xo_i4, xo_r4, xo_i3, xo_r3, xo_i2, xo_r2, Option.toList_some, Option.toList_none, List.cons_append, List.nil_append, bI_t, bI_f, bI_0, bI_n0, if_true, if_false, true_and, and_true, ne_eq, not_true_eq_false, not_false_eq_true, one_ne0, reduceCtorEq, Bool.true_eq_false]
                exact fin
      · rw [if_neg c3] at hst
        have e3 : (nI (tkv bb z p) = 3) = False := eq_false (fun q => c3 (tkv_3.mp ((nI_eq (b := 3) (by omega) (by decide)).mp q)))
        rw [s202_28]
        simp only [s202_29, s202_32, s202_33, s202_36, s202_39, s202_40, s202_43, s202_44, s202_47, s202_48, s202_97, s202_98, s202_101, s202_102, s202_158, s202_159, one_ne0, xset_self, mg_8, e3, XG_1, XO_some, XV_1, xo_n, xo_i8, xo_r8, xo_i7, xo_r7, xo_i6, xo_r6, xo_i5, xo_r5, xo_i4, xo_r4, xo_i3, xo_r3, xo_i2, xo_r2, Option.toList_some, Option.toList_none, List.cons_append, List.nil_append, bI_t, bI_f, bI_0, bI_n0, if_true, if_false, true_and, and_true, ne_eq, not_true_eq_false, not_false_eq_true, one_ne0, reduceCtorEq, Bool.true_eq_false]
        cases cT : trm bb z ky p with
        | none =>
          rw [cT] at hst
          simp only [r_partN hk hz hp (Or.inr (Or.inr cT)), s202_162, s202_165, s202_166, s202_167, s202_170, s202_171, s202_171t, s202_171b, XG_1, XO_some, XV_1, xo_n, xo_i8, xo_r8, xo_i7, xo_r7, xo_i6, xo_r6, xo_i5, xo_r5, xo_i4, xo_r4, xo_i3, xo_r3, xo_i2, xo_r2, Option.toList_some, Option.toList_none, List.cons_append, List.nil_append, bI_t, bI_f, bI_0, bI_n0, if_true, if_false, true_and, and_true, ne_eq, not_true_eq_false, not_false_eq_true, one_ne0, reduceCtorEq]
          exact K1 _ hst _ _ _ _ _ _ _ _ _ _
        | some v =>
          rw [cT] at hst
          obtain ⟨I2, w2, d2⟩ := pi_term hk I c0 c3 cT
          obtain ⟨s61, s62, s63, s64, s65, s66⟩ := stl_6 (nn := nnk ky) Wl (v :: Cl) I.1 w2 d2
          refine r_part R hk I En c0 c3 cT hW hC (fun C2 hW2 hC2 e2 => ?_)
          have IH := ih (tn bb z p) (stl 6 Wl (v :: Cl)).1 (stl 6 Wl (v :: Cl)).2 (A + 1) false C2 W T e2 (env bb z p en) c4 (by omega) I2 hW2 hC2 En2 (by rw [s62, s66]; exact hT) (TRr_stl Wl _ hTr) (fun q w => K1 q (hst.trans w)) (fun W2 C2 A2 q w => K2 W2 C2 A2 q (hst.trans w))
          have l6 := I2.2.2.1
          simp only [s202_162, s202_165, s202_166, s202_167, s202_170, s202_171, s202_171t, s202_171b, s202_172, s202_173, one_ne0, xset_self, XG_1, XO_some, XV_1, xo_n, xo_i8, xo_r8, xo_i7, xo_r7, xo_i6, xo_r6, xo_i5, xo_r5, xo_i4, xo_r4, xo_i3, xo_r3, xo_i2, xo_r2, Option.toList_some, Option.toList_none, List.cons_append, List.nil_append, bI_t, bI_f, bI_0, bI_n0, if_true, if_false, true_and, and_true, ne_eq, not_true_eq_false, not_false_eq_true, one_ne0, reduceCtorEq]
          refine (r_nots hW2 (by omega)).mpr ?_
          simp only [s202_176, s202_177, XG_1, XO_some, XV_1, xo_n, xo_i8, xo_r8, xo_i7, xo_r7, xo_i6, xo_r6, xo_i5, xo_r5, xo_i4, xo_r4, xo_i3, xo_r3, xo_i2, xo_r2, Option.toList_some, Option.toList_none, List.cons_append, List.nil_append, bI_t, bI_f, bI_0, bI_n0, if_true, if_false, true_and, and_true, ne_eq, not_true_eq_false, not_false_eq_true, one_ne0, reduceCtorEq]
          rw [s62] at IH
          exact IH
    | false =>
      rw [if_neg (by decide)] at hst
      rw [s202_28]
      simp only [s202_29, s202_32, s202_33, s202_36, s202_39, s202_40, xset_self, mg_8, e0, XG_1, XO_some, XV_1, xo_n, xo_i8, xo_r8, xo_i7, xo_r7, xo_i6, xo_r6, xo_i5, xo_r5, xo_i4, xo_r4, xo_i3, xo_r3, xo_i2, xo_r2, Option.toList_some, Option.toList_none, List.cons_append, List.nil_append, bI_t, bI_f, bI_0, bI_n0, if_true, if_false, true_and, and_true, ne_eq, not_true_eq_false, not_false_eq_true, one_ne0, reduceCtorEq]
      by_cases cE : ts bb z p = 3 ∧ bb (tf bb z p) = 41 ∧ ¬ opn Wl = 0
      · obtain ⟨c3, c41, co⟩ := cE
        rw [if_pos ⟨c3, c41⟩, if_neg co] at hst
        have e3 : (nI (tkv bb z p) = 3) = True := eq_true (by rw [tkv_3.mpr c3]; rfl)
        have vv : vlv bb z p e = 41 := by unfold vlv; rw [c3]; exact c41
        obtain ⟨W2, w1, w2, w3, w4, w5, w6, I2⟩ := pi_end I c0 co
        have l0 : (0 : Int32) < nI (opn Wl) := nI_lt (a := 0) (by omega) (by omega)
        rw [w1] at hst
        have hst' : prs bb z ky (fu + 1) p Wl Cl A false = prs bb z ky fu (tn bb z p) (stl 6 W2 (stl 0 Wl Cl).2).1 (stl 6 W2 (stl 0 Wl Cl).2).2 A false := hst
        rw [vv]
        simp only [s202_180, s202_181, s202_184, s202_185, s202_188, s202_189, s202_192, s202_194, s202_197, s202_198, s202_201, s202_202, s202_203, xset_self, mg_8, mg_9, e3, l0, XG_1, XO_some, XV_1, xo_n, xo_i8, xo_r8, xo_i7, xo_r7, xo_i6, xo_r6, xo_i5, xo_r5, xo_i4, xo_r4, xo_i3, xo_r3, xo_i2, xo_r2, Option.toList_some, Option.toList_none, List.cons_append, List.nil_append, bI_t, bI_f, bI_0, bI_n0, if_true, if_false, true_and, and_true, ne_eq, not_true_eq_false, not_false_eq_true, one_ne0, reduceCtorEq]
        refine r_settle (lv := 0) (by decide) hW hC (by omega) (fun C2 hW2 hC2 => ?_)
        have l1 := stl_len 0 Wl Cl
        have hTr2 := TRr_stl (l := 0) Wl Cl hTr
        rw [w1] at l1 hW2 hTr2 ⊢
        have l2 : (-11 :: W2).length = W2.length + 1 := rfl
        rw [l2, w3]
        have om : nI (opn W2 + 1) + (-1) = nI (opn W2) := by rw [← Int32.sub_eq_add_neg]; exact nI_p1
        simp only [s202_206, s202_207, s202_207r, s202_208, s202_211, s202_212, s202_213, s202_216, s202_219, s202_220, s202_222, xset_self, mg_18, mp_18, xset_twice, nI_p1, om, show (6 : Int32) = nI 6 from rfl, XG_1, XO_some, XV_1, xo_n, xo_i8, xo_r8, xo_i7, xo_r7, xo_i6, xo_r6, xo_i5, xo_r5, xo_i4, xo_r4, xo_i3, xo_r3, xo_i2, xo_r2, Option.toList_some, Option.toList_none, List.cons_append, List.nil_append, bI_t, bI_f, bI_0, bI_n0, if_true, if_false, true_and, and_true, ne_eq, not_true_eq_false, not_false_eq_true, one_ne0, reduceCtorEq]
        refine r_settle (lv := 6) (by decide) hW2.2 hC2 (by omega) (fun C3 hW3 hC3 => ?_)
        have l3 := stl_len 6 W2 (stl 0 Wl Cl).2
        simp only [s202_225, s202_226, xset_self, XG_1, XO_some, XV_1, xo_n, xo_i8, xo_r8, xo_i7, xo_r7, xo_i6, xo_r6, xo_i5, xo_r5, xo_i4, xo_r4, xo_i3, xo_r3, xo_i2, xo_r2, Option.toList_some, Option.toList_none, List.cons_append, List.nil_append, bI_t, bI_f, bI_0, bI_n0, if_true, if_false, true_and, and_true, ne_eq, not_true_eq_false, not_false_eq_true, one_ne0, reduceCtorEq]
        refine (r_nots hW3 (by omega)).mpr ?_
        simp only [s202_229, s202_230, s202_231, xset_self, XG_1, XO_some, XV_1, xo_n, xo_i8, xo_r8, xo_i7, xo_r7, xo_i6, xo_r6, xo_i5, xo_r5, xo_i4, xo_r4, xo_i3, xo_r3, xo_i2, xo_r2, Option.toList_some, Option.toList_none, List.cons_append, List.nil_append, bI_t, bI_f, bI_0, bI_n0, if_true, if_false, true_and, and_true, ne_eq, not_true_eq_false, not_false_eq_true, one_ne0, reduceCtorEq]
        refine (r_go R ln En2).mpr ?_
        simp only [s202_234, XG_1, XO_some, XV_1, xo_n, xo_i8, xo_r8, xo_i7, xo_r7, xo_i6, xo_r6, xo_i5, xo_r5, xo_i4, xo_r4, xo_i3, xo_r3, xo_i2, xo_r2, Option.toList_some, Option.toList_none, List.cons_append, List.nil_append, bI_t, bI_f, bI_0, bI_n0, if_true, if_false, true_and, and_true, ne_eq, not_true_eq_false, not_false_eq_true, one_ne0, reduceCtorEq]
        obtain ⟨s61, s62, s63, s64, s65, s66⟩ := stl_6 (nn := nnk ky) W2 (stl 0 Wl Cl).2 w2 w5 w6
        have IH := ih (tn bb z p) (stl 6 W2 (stl 0 Wl Cl).2).1 (stl 6 W2 (stl 0 Wl Cl).2).2 A false C3 W T 41 (env bb z p en) c4 (by omega) I2 hW3 hC3 En2 (by rw [s62, s66]; exact hTr2.1 rfl) (TRr_stl W2 _ hTr2.2) (fun q w => K1 q (hst'.trans w)) (fun W2 C2 A2 q w => K2 W2 C2 A2 q (hst'.trans w))
        rw [s62] at IH
        exact IH
      · have go237 : ∀ {Q : Option Value → xH → Prop}, XE (d + 10) 202 180 [.val (.ref r), .val (.int (nI (opn Wl))), .val (.int (nI (cn Wl))), .val (.int 0), c4] [] (MS h r m (nI (tn bb z p)) (nI (tf bb z p)) (nI (tkv bb z p)) (vlv bb z p e) (env bb z p en) (nI ky) (nI Cl.length) (nI A) (nI Wl.length) C W T) Q ↔ XE (d + 10) 202 237 [.val (.ref r), .val (.int (nI (opn Wl))), .val (.int (nI (cn Wl))), .val (.int 0), c4] [] (MS h r m (nI (tn bb z p)) (nI (tf bb z p)) (nI (tkv bb z p)) (vlv bb z p e) (env bb z p en) (nI ky) (nI Cl.length) (nI A) (nI Wl.length) C W T) Q := fun {Q} => by
          by_cases c3 : ts bb z p = 3
          · have e3 : (nI (tkv bb z p) = 3) = True := eq_true (by rw [tkv_3.mpr c3]; rfl)
            have vv : vlv bb z p e = bb (tf bb z p) := by unfold vlv; rw [c3]; rfl
            by_cases c41 : bb (tf bb z p) = 41
            · have co : opn Wl = 0 := by
                by_cases q : opn Wl = 0
                · exact q
                · exact absurd ⟨c3, c41, q⟩ cE
              have l0 : ¬ (0 : Int32) < nI (opn Wl) := by rw [co]; decide
              rw [vv, c41]
              simp only [s202_180, s202_181, s202_184, s202_185, s202_188, s202_189, s202_192, s202_194, s202_197, s202_198, xset_self, mg_8, mg_9, e3, l0, XG_1, XO_some, XV_1, xo_n, xo_i8, xo_r8, xo_i7, xo_r7, xo_i6, xo_r6, xo_i5, xo_r5, xo_i4, xo_r4, xo_i3, xo_r3, xo_i2, xo_r2, Option.toList_some, Option.toList_none, List.cons_append, List.nil_append, bI_t, bI_f, bI_0, bI_n0, if_true, if_false, true_and, and_true, ne_eq, not_true_eq_false, not_false_eq_true, one_ne0, reduceCtorEq]
            · rw [vv]
              simp only [s202_180, s202_181, s202_184, s202_185, s202_188, s202_189, s202_192, s202_194, s202_197, s202_198, xset_self, mg_8, mg_9, e3, c41, XG_1, XO_some, XV_1, xo_n, xo_i8, xo_r8, xo_i7, xo_r7, xo_i6, xo_r6, xo_i5, xo_r5, xo_i4, xo_r4, xo_i3, xo_r3, xo_i2, xo_r2, Option.toList_some, Option.toList_none, List.cons_append, List.nil_append, bI_t, bI_f, bI_0, bI_n0, if_true, if_false, true_and, and_true, ne_eq, not_true_eq_false, not_false_eq_true, one_ne0, reduceCtorEq]
          · have e3 : (nI (tkv bb z p) = 3) = False := eq_false (fun q => c3 (tkv_3.mp ((nI_eq (b := 3) (by omega) (by decide)).mp q)))
            simp only [s202_180, s202_181, s202_184, s202_185, s202_188, s202_189, s202_192, s202_194, s202_197, s202_198, xset_self, mg_8, e3, XG_1, XO_some, XV_1, xo_n, xo_i8, xo_r8, xo_i7, xo_r7, xo_i6, xo_r6, xo_i5, xo_r5, xo_i4, xo_r4, xo_i3, xo_r3, xo_i2, xo_r2, Option.toList_some, Option.toList_none, List.cons_append, List.nil_append, bI_t, bI_f, bI_0, bI_n0, if_true, if_false, true_and, and_true, ne_eq, not_true_eq_false, not_false_eq_true, one_ne0, reduceCtorEq]
        refine go237.mpr ?_
        simp only [s202_237, s202_238, xset_self, XG_1, XO_some, XV_1, xo_n, xo_i8, xo_r8, xo_i7, xo_r7, xo_i6, xo_r6, xo_i5, xo_r5, xo_i4, xo_r4, xo_i3, xo_r3, xo_i2, xo_r2, Option.toList_some, Option.toList_none, List.cons_append, List.nil_append, bI_t, bI_f, bI_0, bI_n0, if_true, if_false, true_and, and_true, ne_eq, not_true_eq_false, not_false_eq_true, one_ne0, reduceCtorEq]
        refine (r_signHere h5).mpr ?_
        have sg : (if tkv bb z p = 3 then sgv (vlv bb z p e) else 0) = if ts bb z p = 3 then sgv (bb (tf bb z p)) else 0 := by
          by_cases c3 : ts bb z p = 3
          · rw [if_pos (tkv_3.mpr c3), if_pos c3]
            have vv : vlv bb z p e = bb (tf bb z p) := by unfold vlv; rw [c3]; rfl
            rw [vv]
          · rw [if_neg (fun q => c3 (tkv_3.mp q)), if_neg c3]
        rw [sg]
        cases cJ : jn bb z p Wl with
        | none =>
          have hn : prs bb z ky (fu + 1) p Wl Cl A false = (none, tf bb z p) := by
            rw [hst]
            by_cases q : ts bb z p = 3 ∧ bb (tf bb z p) = 41
            · rw [if_pos q]
              have co : opn Wl = 0 := by
                by_cases w : opn Wl = 0
                · exact w
                · exact absurd ⟨q.1, q.2, w⟩ cE
              rw [if_pos co]
            · rw [if_neg q, cJ]
          unfold jn at cJ
          by_cases cT : ts bb z p = 3 ∧ ¬ sgv (bb (tf bb z p)) = 0
          · rw [if_pos cT] at cJ
            have cT2 : rk (sgv (bb (tf bb z p))) = 3 ∧ tsg Wl = true := by
              by_cases q : rk (sgv (bb (tf bb z p))) = 3 ∧ tsg Wl = true
              · exact q
              · rw [if_neg q] at cJ; cases cJ
            have t1 : T (opn Wl) = 1 := by rw [hT, cT2.2]; rfl
            have r3 : (nI (rk (sgv (bb (tf bb z p)))) = 3) = True := eq_true (by rw [cT2.1]; rfl)
            rw [if_pos cT.1]
            simp only [s202_241, s202_243, s202_245, s202_248, s202_250, s202_253, s202_254, s202_257, s202_258, s202_261, s202_262, s202_263, s202_266, s202_267, s202_267t, s202_267b, cT.2, r_rank, r3, xset_self, mg_19, u_9, XA10b (show opn Wl < 10 by omega), t1, one_ne0, XG_1, XO_some, XV_1, xo_n, xo_i8, xo_r8, xo_i7, xo_r7, xo_i6, xo_r6, xo_i5, xo_r5, xo_i4, xo_r4, xo_i3, xo_r3, xo_i2, xo_r2, Option.toList_some, Option.toList_none, List.cons_append, List.nil_append, bI_t, bI_f, bI_0, bI_n0, if_true, if_false, true_and, and_true, ne_eq, not_true_eq_false, not_false_eq_true, one_ne0, reduceCtorEq]
            exact K1 _ hn _ _ _ _ _ _ _ _ _ _
          · have s0 : (if ts bb z p = 3 then sgv (bb (tf bb z p)) else 0) = 0 := by
              by_cases q : ts bb z p = 3
              · rw [if_pos q]
                by_cases q2 : sgv (bb (tf bb z p)) = 0
                · exact q2
                · exact absurd ⟨q, q2⟩ cT
              · rw [if_neg q]
            rw [s0]
            simp only [s202_241, s202_243, s202_245, s202_248, s202_250, s202_253, s202_254, s202_257, s202_258, s202_261, s202_262, s202_263, s202_266, s202_267, s202_267t, s202_267b, XG_1, XO_some, XV_1, xo_n, xo_i8, xo_r8, xo_i7, xo_r7, xo_i6, xo_r6, xo_i5, xo_r5, xo_i4, xo_r4, xo_i3, xo_r3, xo_i2, xo_r2, Option.toList_some, Option.toList_none, List.cons_append, List.nil_append, bI_t, bI_f, bI_0, bI_n0, if_true, if_false, true_and, and_true, ne_eq, not_true_eq_false, not_false_eq_true, one_ne0, reduceCtorEq]
            exact K1 _ hn _ _ _ _ _ _ _ _ _ _
        | some g =>
          obtain ⟨j1, j2, j3, j4, j5⟩ := jn_ok cJ
          have cE2 : ¬ (ts bb z p = 3 ∧ bb (tf bb z p) = 41) := fun q => by
            rw [q.2] at j2
            rw [j2] at j3
            exact absurd (rk_9 j3).2.2.2.2.1 (by decide)
          rw [if_neg cE2, cJ] at hst
          obtain ⟨q1, q2, q3, I2⟩ := pi_join I c0 cJ
          obtain ⟨k1, k2, k3, k4, k5, -⟩ := rk_9 j3
          have g0 : ¬ g = 0 := fun q => by rw [q] at k5; exact absurd k5 (by decide)
          have o10 : opn Wl < 10 := by omega
          rw [if_pos j1, ← j2]
          have l1 := stl_len (rk g) Wl Cl
          -- the new mark
          have fin : ∀ x : Int32, (x = 0 ∨ x = 1) → x = bI (tsg (g :: (stl (rk g) Wl Cl).1)) → XE (d + 10) 202 306 [.val (.ref r), .val (.int (nI (opn Wl))), .val (.int (nI (cn Wl))), .val (.int 0), .val (.int g)] [] (MS h r m (nI (tn bb z p)) (nI (tf bb z p)) (nI (tkv bb z p)) (vlv bb z p e) (env bb z p en) (nI ky) (nI Cl.length) (nI A) (nI Wl.length) C W (upd T (opn Wl) x)) Q := fun x hx hx2 => by
            simp only [s202_306, s202_307, s202_309, r_rank, XG_1, XO_some, XV_1, xo_n, xo_i8, xo_r8, xo_i7, xo_r7, xo_i6, xo_r6, xo_i5, xo_r5, xo_i4, xo_r4, xo_i3, xo_r3, xo_i2, xo_r2, Option.toList_some, Option.toList_none, List.cons_append, List.nil_append, bI_t, bI_f, bI_0, bI_n0, if_true, if_false, true_and, and_true, ne_eq, not_true_eq_false, not_false_eq_true, one_ne0, reduceCtorEq]
            simp only [s202_312, xset_self, XG_1, XO_some, XV_1, xo_n, xo_i8, xo_r8, xo_i7, xo_r7, xo_i6, xo_r6, xo_i5, xo_r5, xo_i4, xo_r4, xo_i3, xo_r3, xo_i2, xo_r2, Option.toList_some, Option.toList_none, List.cons_append, List.nil_append, bI_t, bI_f, bI_0, bI_n0, if_true, if_false, true_and, and_true, ne_eq, not_true_eq_false, not_false_eq_true, one_ne0, reduceCtorEq]
            refine r_settle (lv := rk g) (by omega) hW hC (by omega) (fun C2 hW2 hC2 => ?_)
            have wl : (stl (rk g) Wl Cl).1.length < 96 := by omega
            simp only [s202_315, s202_316, s202_319, s202_320, s202_323, s202_325, s202_326, s202_327, s202_327r, s202_328, s202_331, s202_332, s202_333, s202_336, s202_337, s202_338, s202_339, xset_self, mg_17, mg_18, u_8, XS96 wl, u_w8, mp_18, xset_twice, nI_1, XG_1, XO_some, XV_1, xo_n, xo_i8, xo_r8, xo_i7, xo_r7, xo_i6, xo_r6, xo_i5, xo_r5, xo_i4, xo_r4, xo_i3, xo_r3, xo_i2, xo_r2, Option.toList_some, Option.toList_none, List.cons_append, List.nil_append, bI_t, bI_f, bI_0, bI_n0, if_true, if_false, true_and, and_true, ne_eq, not_true_eq_false, not_false_eq_true, one_ne0, reduceCtorEq]
            refine (r_go R ln En2).mpr ?_
            simp only [s202_342, XG_1, XO_some, XV_1, xo_n, xo_i8, xo_r8, xo_i7, xo_r7, xo_i6, xo_r6, xo_i5, xo_r5, xo_i4, xo_r4, xo_i3, xo_r3, xo_i2, xo_r2, Option.toList_some, Option.toList_none, List.cons_append, List.nil_append, bI_t, bI_f, bI_0, bI_n0, if_true, if_false, true_and, and_true, ne_eq, not_true_eq_false, not_false_eq_true, one_ne0, reduceCtorEq]
            have IH := ih (tn bb z p) (g :: (stl (rk g) Wl Cl).1) (stl (rk g) Wl Cl).2 A true C2 (upd W (stl (rk g) Wl Cl).1.length g) (upd T (opn Wl) x) (vlv bb z p e) (env bb z p en) (.val (.int g)) (by omega) I2 (SRe_push hW2 rfl) hC2 En2 (by rw [show opn (g :: (stl (rk g) Wl Cl).1) = opn Wl by rw [← q2]; exact if_neg k4, upd_at]; exact hx2) ⟨fun q => absurd q k4, TRr_up _ _ (by omega) (TRr_stl Wl _ hTr)⟩ (fun q w => K1 q (hst.trans w)) (fun W2 C2 A2 q w => K2 W2 C2 A2 q (hst.trans w))
            rw [show opn (g :: (stl (rk g) Wl Cl).1) = opn Wl by rw [← q2]; exact if_neg k4, show cn (g :: (stl (rk g) Wl Cl).1) = cn Wl by rw [← q3]; exact if_neg k3] at IH
            exact IH
          have tg : tsg (g :: (stl (rk g) Wl Cl).1) = if rk g = 3 then true else tsg (stl (rk g) Wl Cl).1 := if_neg k4
          by_cases c3 : rk g = 3
          · have r3 : (nI (rk g) = 3) = True := eq_true (by rw [c3]; rfl)
            have t0 : T (opn Wl) = 0 := by rw [hT, j5 c3]; rfl
            simp only [s202_241, s202_243, s202_245, s202_248, s202_250, s202_253, s202_254, s202_257, s202_258, s202_261, s202_262, s202_263, s202_266, s202_267, s202_267t, s202_267b, s202_268, s202_269, s202_272, s202_273, s202_275, s202_278, s202_279, s202_282, s202_284, s202_287, s202_288, s202_291, s202_292, s202_295, s202_296, s202_297, s202_300, s202_301, s202_304, s202_305, g0, r_rank, r3, xset_self, mg_19, u_9, XA10b o10, t0, XS10b o10 (Or.inr (rfl : (1 : Int32) = 1)), u_w9, XG_1, XO_some, XV_1, xo_n, xo_i8, xo_r8, xo_i7, xo_r7, xo_i6, xo_r6, xo_i5, xo_r5, xo_i4, xo_r4, xo_i3, xo_r3, xo_i2, xo_r2, Option.toList_some, Option.toList_none, List.cons_append, List.nil_append, bI_t, bI_f, bI_0, bI_n0, if_true, if_false, true_and, and_true, ne_eq, not_true_eq_false, not_false_eq_true, one_ne0, reduceCtorEq]
            exact fin 1 (Or.inr rfl) (by rw [tg, if_pos c3]; rfl)
          · have r3 : (nI (rk g) = 3) = False := eq_false (fun q => c3 ((nI_eq (b := 3) (by omega) (by decide)).mp q))
            rw [if_neg c3] at tg
            by_cases c4' : 3 < rk g
            · have l3 : (3 : Int32) < nI (rk g) := nI_lt (a := 3) c4' (by omega)
              have th := tsg_hi Wl 7 Cl (rk g) (by omega) c4' k2 I.1
              cases tw : tsg Wl with
              | true =>
                have t1 : T (opn Wl) = 1 := by rw [hT, tw]; rfl
                simp only [s202_241, s202_243, s202_245, s202_248, s202_250, s202_253, s202_254, s202_257, s202_258, s202_261, s202_262, s202_263, s202_266, s202_267, s202_267t, s202_267b, s202_268, s202_269, s202_272, s202_273, s202_275, s202_278, s202_279, s202_282, s202_284, s202_287, s202_288, s202_291, s202_292, s202_295, s202_296, s202_297, s202_300, s202_301, s202_304, s202_305, g0, r_rank, r3, l3, xset_self, mg_19, u_9, XA10b o10, t1, one_ne0, XS10b o10 (Or.inr (rfl : (1 : Int32) = 1)), u_w9, XG_1, XO_some, XV_1, xo_n, xo_i8, xo_r8, xo_i7, xo_r7, xo_i6, xo_r6, xo_i5, xo_r5, xo_i4, xo_r4, xo_i3, xo_r3, xo_i2, xo_r2, Option.toList_some, Option.toList_none, List.cons_append, List.nil_append, bI_t, bI_f, bI_0, bI_n0, if_true, if_false, true_and, and_true, ne_eq, not_true_eq_false, not_false_eq_true, one_ne0, reduceCtorEq]
                exact fin 1 (Or.inr rfl) (by rw [tg, th, tw]; rfl)
              | false =>
                have t0 : T (opn Wl) = 0 := by rw [hT, tw]; rfl
                simp only [s202_241, s202_243, s202_245, s202_248, s202_250, s202_253, s202_254, s202_257, s202_258, s202_261, s202_262, s202_263, s202_266, s202_267, s202_267t, s202_267b, s202_268, s202_269, s202_272, s202_273, s202_275, s202_278, s202_279, s202_282, s202_284, s202_287, s202_288, s202_291, s202_292, s202_295, s202_296, s202_297, s202_300, s202_301, s202_304, s202_305, g0, r_rank, r3, l3, xset_self, mg_19, u_9, XA10b o10, t0, XS10b o10 (Or.inl (rfl : (0 : Int32) = 0)), u_w9, XG_1, XO_some, XV_1, xo_n, xo_i8, xo_r8, xo_i7, xo_r7, xo_i6, xo_r6, xo_i5, xo_r5, xo_i4, xo_r4, xo_i3, xo_r3, xo_i2, xo_r2, Option.toList_some, Option.toList_none, List.cons_append, List.nil_append, bI_t, bI_f, bI_0, bI_n0, if_true, if_false, true_and, and_true, ne_eq, not_true_eq_false, not_false_eq_true, one_ne0, reduceCtorEq]
                exact fin 0 (Or.inl rfl) (by rw [tg, th, tw]; rfl)
            · have l3 : ¬ (3 : Int32) < nI (rk g) := nI_nlt (a := 3) (by omega) (by decide)
              have th := tsg_lo _ (rk g) (by omega) q1
              simp only [s202_241, s202_243, s202_245, s202_248, s202_250, s202_253, s202_254, s202_257, s202_258, s202_261, s202_262, s202_263, s202_266, s202_267, s202_267t, s202_267b, s202_268, s202_269, s202_272, s202_273, s202_275, s202_278, s202_279, s202_282, s202_284, s202_287, s202_288, s202_291, s202_292, s202_295, s202_296, s202_297, s202_300, s202_301, s202_304, s202_305, g0, r_rank, r3, l3, xset_self, mg_19, u_9, XS10b o10 (Or.inl (rfl : (0 : Int32) = 0)), u_w9, XG_1, XO_some, XV_1, xo_n, xo_i8, xo_r8, xo_i7, xo_r7, xo_i6, xo_r6, xo_i5, xo_r5, xo_i4, xo_r4, xo_i3, xo_r3, xo_i2, xo_r2, Option.toList_some, Option.toList_none, List.cons_append, List.nil_append, bI_t, bI_f, bI_0, bI_n0, if_true, if_false, true_and, and_true, ne_eq, not_true_eq_false, not_false_eq_true, one_ne0, reduceCtorEq]
              exact fin 0 (Or.inl rfl) (by rw [tg, th]; rfl)
end RTE
