/-! ===== 82: the reference's key, ranks and yard ===== -/
def kN (w : Nat) : Nat := [0, 4, 8, 11].getD w 0
theorem kN_A : ∀ w, w < 4 → keyA w = nI (kN w) := by decide
theorem kN_s : ∀ w, w < 3 → nI (kN (w + 1)) - nI (kN w) = nI (sle w) ∧ kN w + sle w ≤ 11 := by decide
theorem kN_R : ∀ w, w < 3 → ∀ k, k < sle w → keyR (kN w + k) = sch w k := by decide
theorem cls_0 {bb : Nat → Int32} {z : Nat} : cls bb (tf bb z 0) = false := by
  by_cases q : tf bb z 0 = 0
  · rw [q]; rfl
  · have := skp_32 (b := bb) (z := z) (z - 0) 0 (by show 0 < tf bb z 0; omega)
    unfold cls
    rw [show bb (tf bb z 0 - 1) = 32 from this, so_32, decide_eq_true (show (3 : Nat) = 3 from rfl), Bool.not_true, Bool.and_false]
theorem tkv_0 {bb : Nat → Int32} {z : Nat} : tkv bb z 0 = 1 ↔ ts bb z 0 = 1 := by
  unfold tkv
  rw [cls_0]
  rcases (show ts bb z 0 = 0 ∨ ts bb z 0 = 1 ∨ ts bb z 0 = 2 ∨ ts bb z 0 = 3 by have := ts_lt (y := bb) (z := z) (p := 0); omega) with q | q | q | q
  · rw [q, if_pos rfl]
  · rw [q, if_neg (by decide), if_neg (by decide), if_neg (by decide), if_neg (by decide)]
  · rw [q, if_neg (by decide), if_neg (by decide), if_neg (by decide), if_pos rfl]
    by_cases w : 4 < tn bb z 0 - tf bb z 0
    · rw [if_pos w]; decide
    · rw [if_neg w]
  · rw [q, if_neg (by decide), if_pos rfl]
theorem tkv_lt {bb : Nat → Int32} {z p : Nat} : tkv bb z p < 5 := by
  unfold tkv
  by_cases a : ts bb z p = 0
  · rw [if_pos a]; decide
  rw [if_neg a]
  by_cases b : ts bb z p = 3
  · rw [if_pos b]; decide
  rw [if_neg b]
  by_cases c : cls bb (tf bb z p) = true
  · rw [if_pos c]; decide
  rw [if_neg c]
  by_cases d : ts bb z p = 2
  · rw [if_pos d]
    by_cases e : 4 < tn bb z p - tf bb z p
    · rw [if_pos e]; decide
    · rw [if_neg e]; decide
  · rw [if_neg d]; decide
theorem eni_0 {bb : Nat → Int32} : ENI bb 0 (-1) := by
  intro k _ hk
  have c0 : cls bb 0 = false := rfl
  rw [c0]
  refine ⟨fun q => ?_, fun q => by cases q.2⟩
  exfalso
  have := congrArg Int32.toInt q
  rw [nI_toInt hk, show (-1 : Int32).toInt = -1 from rfl] at this
  omega
section RYD
variable {r d z : Nat} {h : xH} {Q : Option Value → xH → Prop} {m bb C W T : Nat → Int32} {a b c e f g i j l v x : Int32}
def RKy (h : xH) (r : Nat) : Prop := h.2.2.1 (r + 5) = .inl (2, xis 11 keyR) ∧ h.2.2.1 (r + 6) = .inl (0, xis 4 keyA)
theorem l_rword (R : RTa h r z m bb) (Ky : RKy h r) {w fr : Nat} (hw : w < 3) (hf : fr + sle w ≤ z) : ∀ cc k, k + cc = sle w → (∀ c4, XE (d + 2) 196 106 [.val (.ref r), .val (.int (nI w)), .val (.int (nI (sle w))), .val (.int (bI (wdr bb fr w cc k))), c4] [] (MS h r m a (nI fr) c e f g i j l C W T) Q) → XE (d + 2) 196 55 [.val (.ref r), .val (.int (nI w)), .val (.int (nI (sle w))), .val (.int 1), .val (.int (nI k))] [] (MS h r m a (nI fr) c e f g i j l C W T) Q := by
  obtain ⟨h5, hz, y, h4, hy⟩ := R
  obtain ⟨y1, y2⟩ := Ky
  have hs := kN_s w hw
  have hl := sle_le w (by omega)
  intro cc
  induction cc with
  | zero =>
    intro k hk K
    have hlt : ¬ nI k < nI (sle w) := nI_nlt (by omega) (by omega)
    rw [s196_55]
    simp only [s196_57, s196_58, s196_61, s196_62, s196_65, s196_66, s196_69, s196_70, s196_73, s196_75, s196_76, s196_77, s196_78, s196_81, s196_82, s196_85, s196_86, s196_87, s196_89, s196_90, s196_91, s196_94, s196_95, s196_98, s196_99, s196_100, s196_103, hlt, XG_1, XO_some, XV_1, xo_n, xo_i8, xo_r8, xo_i7, xo_r7, xo_i6, xo_r6, xo_i5, xo_r5, xo_i4, xo_r4, xo_i3, xo_r3, xo_i2, xo_r2, Option.toList_some, Option.toList_none, List.cons_append, List.nil_append, bI_t, bI_f, bI_0, bI_n0, if_true, if_false, true_and, and_true, ne_eq, not_true_eq_false, not_false_eq_true, one_ne0, reduceCtorEq]
    exact K _
  | succ cc ih =>
    intro k hk K
    have hk2 : k < sle w := by omega
    have hlt : nI k < nI (sle w) := nI_lt hk2 (by omega)
    have y1' : ∀ {F : Int32 → Prop}, XA [2] (.inl (2, xis 11 keyR)) (nI (kN w + k)) F ↔ F (sch w k) := fun {F} => by rw [← kN_R w hw k hk2]; exact XA_n (by decide) (by omega) (by decide)
    rw [show wdr bb fr w (cc + 1) k = if bb (fr + k) = sch w k then wdr bb fr w cc (k + 1) else false from rfl] at K
    rw [s196_55]
    by_cases q : bb (fr + k) = sch w k
    · rw [if_pos q] at K
      simp only [s196_57, s196_58, s196_61, s196_62, s196_65, s196_66, s196_69, s196_70, s196_73, s196_75, s196_76, s196_77, s196_78, s196_81, s196_82, s196_85, s196_86, s196_87, s196_89, s196_90, s196_91, s196_94, s196_95, s196_98, s196_99, s196_100, s196_103, hlt, one_ne0, xset_self, mg_4, mg_7, mg_12, mg_13, u_4, u_5, u_6, h4, y1, y2, lA, XA96 (show fr + k < 96 by omega), hy (fr + k) (by omega), XA4 (show w < 4 by omega), kN_A w (by omega), y1', q, nI_1, XG_1, XO_some, XV_1, xo_n, xo_i8, xo_r8, xo_i7, xo_r7, xo_i6, xo_r6, xo_i5, xo_r5, xo_i4, xo_r4, xo_i3, xo_r3, xo_i2, xo_r2, Option.toList_some, Option.toList_none, List.cons_append, List.nil_append, bI_t, bI_f, bI_0, bI_n0, if_true, if_false, true_and, and_true, ne_eq, not_true_eq_false, not_false_eq_true, one_ne0, reduceCtorEq]
      exact ih (k + 1) (by omega) K
    · rw [if_neg q] at K
      simp only [s196_57, s196_58, s196_61, s196_62, s196_65, s196_66, s196_69, s196_70, s196_73, s196_75, s196_76, s196_77, s196_78, s196_81, s196_82, s196_85, s196_86, s196_87, s196_89, s196_90, s196_91, s196_94, s196_95, s196_98, s196_99, s196_100, s196_103, hlt, one_ne0, xset_self, mg_4, mg_7, mg_12, mg_13, u_4, u_5, u_6, h4, y1, y2, lA, XA96 (show fr + k < 96 by omega), hy (fr + k) (by omega), XA4 (show w < 4 by omega), kN_A w (by omega), y1', q, nI_1, XG_1, XO_some, XV_1, xo_n, xo_i8, xo_r8, xo_i7, xo_r7, xo_i6, xo_r6, xo_i5, xo_r5, xo_i4, xo_r4, xo_i3, xo_r3, xo_i2, xo_r2, Option.toList_some, Option.toList_none, List.cons_append, List.nil_append, bI_t, bI_f, bI_0, bI_n0, if_true, if_false, true_and, and_true, ne_eq, not_true_eq_false, not_false_eq_true, one_ne0, reduceCtorEq]
      rw [s196_55]
      by_cases q2 : nI (k + 1) < nI (sle w)
      · simp only [s196_57, s196_58, s196_61, s196_62, s196_65, s196_66, s196_69, s196_70, s196_73, s196_75, s196_76, s196_77, s196_78, s196_81, s196_82, s196_85, s196_86, s196_87, s196_89, s196_90, s196_91, s196_94, s196_95, s196_98, s196_99, s196_100, s196_103, q2, XG_1, XO_some, XV_1, xo_n, xo_i8, xo_r8, xo_i7, xo_r7, xo_i6, xo_r6, xo_i5, xo_r5, xo_i4, xo_r4, xo_i3, xo_r3, xo_i2, xo_r2, Option.toList_some, Option.toList_none, List.cons_append, List.nil_append, bI_t, bI_f, bI_0, bI_n0, if_true, if_false, true_and, and_true, ne_eq, not_true_eq_false, not_false_eq_true, one_ne0, reduceCtorEq]; exact K _
      · simp only [s196_57, s196_58, s196_61, s196_62, s196_65, s196_66, s196_69, s196_70, s196_73, s196_75, s196_76, s196_77, s196_78, s196_81, s196_82, s196_85, s196_86, s196_87, s196_89, s196_90, s196_91, s196_94, s196_95, s196_98, s196_99, s196_100, s196_103, q2, XG_1, XO_some, XV_1, xo_n, xo_i8, xo_r8, xo_i7, xo_r7, xo_i6, xo_r6, xo_i5, xo_r5, xo_i4, xo_r4, xo_i3, xo_r3, xo_i2, xo_r2, Option.toList_some, Option.toList_none, List.cons_append, List.nil_append, bI_t, bI_f, bI_0, bI_n0, if_true, if_false, true_and, and_true, ne_eq, not_true_eq_false, not_false_eq_true, one_ne0, reduceCtorEq]; exact K _
theorem l_rkey (R : RTa h r z m bb) (Ky : RKy h r) {w fr to : Nat} (hw : w < 3) (hf : fr ≤ to) (ht : to ≤ z) {c2 c3 c4 : Slot} (K0 : iwd bb 1 fr to w = false → ∀ c2 c3 c4, XE (d + 2) 196 12 [.val (.ref r), .val (.int (nI (w + 1))), c2, c3, c4] [] (MS h r m (nI to) (nI fr) c e f g i j l C W T) Q) (K1 : iwd bb 1 fr to w = true → ∀ c2 c3 c4, XE (d + 2) 196 110 [.val (.ref r), .val (.int (nI w)), c2, c3, c4] [] (MS h r m (nI to) (nI fr) c e f g i j l C W T) Q) : XE (d + 2) 196 12 [.val (.ref r), .val (.int (nI w)), c2, c3, c4] [] (MS h r m (nI to) (nI fr) c e f g i j l C W T) Q := by
  have R0 := R
  have Ky0 := Ky
  obtain ⟨h5, hz, y, h4, hy⟩ := R
  obtain ⟨y1, y2⟩ := Ky
  have hs := (kN_s w hw).1
  have hl := sle_le w (by omega)
  have w3 : nI w < 3 := nI_lt (b := 3) hw (by decide)
  have sb : nI to - nI fr = nI (to - fr) := pk_sub hf
  have fin : ∀ (t : Bool) (c4 : Slot), iwd bb 1 fr to w = t → XE (d + 2) 196 106 [.val (.ref r), .val (.int (nI w)), .val (.int (nI (sle w))), .val (.int (bI t)), c4] [] (MS h r m (nI to) (nI fr) c e f g i j l C W T) Q := fun t c4 ht => by
    cases t with
    | true => simp only [s196_106, s196_107, one_ne0, XG_1, XO_some, XV_1, xo_n, xo_i8, xo_r8, xo_i7, xo_r7, xo_i6, xo_r6, xo_i5, xo_r5, xo_i4, xo_r4, xo_i3, xo_r3, xo_i2, xo_r2, Option.toList_some, Option.toList_none, List.cons_append, List.nil_append, bI_t, bI_f, bI_0, bI_n0, if_true, if_false, true_and, and_true, ne_eq, not_true_eq_false, not_false_eq_true, one_ne0, reduceCtorEq]; exact K1 ht _ _ _
    | false => simp only [s196_106, s196_107, s196_121, s196_124, nI_1, XG_1, XO_some, XV_1, xo_n, xo_i8, xo_r8, xo_i7, xo_r7, xo_i6, xo_r6, xo_i5, xo_r5, xo_i4, xo_r4, xo_i3, xo_r3, xo_i2, xo_r2, Option.toList_some, Option.toList_none, List.cons_append, List.nil_append, bI_t, bI_f, bI_0, bI_n0, if_true, if_false, true_and, and_true, ne_eq, not_true_eq_false, not_false_eq_true, one_ne0, reduceCtorEq]; exact K0 ht _ _ _
  by_cases q : to - fr = sle w
  · have eq : (nI (sle w) = nI (to - fr)) = True := eq_true (by rw [q])
    rw [s196_12]
    simp only [s196_13, s196_14, s196_17, s196_18, s196_21, s196_22, s196_23, s196_24, s196_25, s196_26, s196_29, s196_30, s196_31, s196_32, s196_33, s196_34, s196_35, s196_38, s196_39, s196_42, s196_43, s196_46, s196_47, s196_50, s196_51, s196_52, s196_53, w3, xset_self, mg_6, mg_7, mg_13, u_6, y2, nI_1, XA4 (show w < 4 by omega), XA4 (show w + 1 < 4 by omega), kN_A w (by omega), kN_A (w + 1) (by omega), hs, sb, eq, XG_1, XO_some, XV_1, xo_n, xo_i8, xo_r8, xo_i7, xo_r7, xo_i6, xo_r6, xo_i5, xo_r5, xo_i4, xo_r4, xo_i3, xo_r3, xo_i2, xo_r2, Option.toList_some, Option.toList_none, List.cons_append, List.nil_append, bI_t, bI_f, bI_0, bI_n0, if_true, if_false, true_and, and_true, ne_eq, not_true_eq_false, not_false_eq_true, one_ne0, reduceCtorEq]
    refine l_rword R0 Ky0 hw (by omega) (sle w) 0 (by omega) (fun c4 => fin _ c4 ?_)
    unfold iwd; rw [if_pos ⟨rfl, q⟩]
  · have eq : (nI (sle w) = nI (to - fr)) = False := eq_false (fun w2 => by have := (nI_eq (by omega) (by omega)).mp w2; omega)
    have l0 : nI 0 < nI (sle w) := nI_lt (by omega) (by omega)
    rw [s196_12]
    simp only [s196_13, s196_14, s196_17, s196_18, s196_21, s196_22, s196_23, s196_24, s196_25, s196_26, s196_29, s196_30, s196_31, s196_32, s196_33, s196_34, s196_35, s196_38, s196_39, s196_42, s196_43, s196_46, s196_47, s196_50, s196_51, s196_52, s196_53, w3, xset_self, mg_6, mg_7, mg_13, u_6, y2, nI_1, XA4 (show w < 4 by omega), XA4 (show w + 1 < 4 by omega), kN_A w (by omega), kN_A (w + 1) (by omega), hs, sb, eq, XG_1, XO_some, XV_1, xo_n, xo_i8, xo_r8, xo_i7, xo_r7, xo_i6, xo_r6, xo_i5, xo_r5, xo_i4, xo_r4, xo_i3, xo_r3, xo_i2, xo_r2, Option.toList_some, Option.toList_none, List.cons_append, List.nil_append, bI_t, bI_f, bI_0, bI_n0, if_true, if_false, true_and, and_true, ne_eq, not_true_eq_false, not_false_eq_true, one_ne0, reduceCtorEq]
    have l0' : (0 : Int32) < nI (sle w) := l0
    rw [s196_55]
    simp only [s196_57, s196_58, s196_61, s196_62, s196_65, s196_66, s196_69, s196_70, s196_73, s196_75, s196_76, s196_77, s196_78, s196_81, s196_82, s196_85, s196_86, s196_87, s196_89, s196_90, s196_91, s196_94, s196_95, s196_98, s196_99, s196_100, s196_103, l0', XG_1, XO_some, XV_1, xo_n, xo_i8, xo_r8, xo_i7, xo_r7, xo_i6, xo_r6, xo_i5, xo_r5, xo_i4, xo_r4, xo_i3, xo_r3, xo_i2, xo_r2, Option.toList_some, Option.toList_none, List.cons_append, List.nil_append, bI_t, bI_f, bI_0, bI_n0, if_true, if_false, true_and, and_true, ne_eq, not_true_eq_false, not_false_eq_true, one_ne0, reduceCtorEq]
    exact fin false _ (by unfold iwd; rw [if_neg (fun w2 => q w2.2)])
theorem r_takesKey (R : RTa h r z m bb) (Ky : RKy h r) (E : ENI bb (tn bb z 0) f) (K0 : kyv bb (ts bb z 0) (tf bb z 0) (tn bb z 0) = -1000000005 → Q (some (.int 0)) (MS h r m (nI (tn bb z 0)) (nI (tf bb z 0)) (nI (tkv bb z 0)) e f g i j l C W T)) (K1 : ∀ ky, ky < 3 → kyv bb (ts bb z 0) (tf bb z 0) (tn bb z 0) = nI ky → Q (some (.int 1)) (MS h r m (nI (tn bb z (tn bb z 0))) (nI (tf bb z (tn bb z 0))) (nI (tkv bb z (tn bb z 0))) (vlv bb z (tn bb z 0) e) (env bb z (tn bb z 0) f) (nI ky) i j l C W T)) : XC (d + 3) 196 [.ref r] (MS h r m (nI (tn bb z 0)) (nI (tf bb z 0)) (nI (tkv bb z 0)) e f g i j l C W T) Q := by
  have hl := tn_le (b := bb) (z := z) (p := 0) (by omega)
  have hz := R.2.1
  rw [e196]
  by_cases t1 : ts bb z 0 = 1
  · have e1 : (nI (tkv bb z 0) = 1) = True := eq_true (by rw [tkv_0.mpr t1]; rfl)
    have hft : tf bb z 0 ≤ tn bb z 0 := by have := tn_gt (b := bb) (z := z) (p := 0) (by omega); omega
    rw [t1] at K0 K1
    unfold kyv at K0 K1
    have don : ∀ ky, ky < 3 → (if iwd bb 1 (tf bb z 0) (tn bb z 0) 0 = true then (0 : Int32) else if iwd bb 1 (tf bb z 0) (tn bb z 0) 1 = true then 1 else if iwd bb 1 (tf bb z 0) (tn bb z 0) 2 = true then 2 else -1000000005) = nI ky → ∀ c2 c3 c4, XE (d + 2) 196 110 [.val (.ref r), .val (.int (nI ky)), c2, c3, c4] [] (MS h r m (nI (tn bb z 0)) (nI (tf bb z 0)) (nI (tkv bb z 0)) e f g i j l C W T) Q := fun ky hk ek c2 c3 c4 => by
      simp only [s196_110, s196_111, s196_112, s196_115, s196_116, xset_self, mp_11, xset_twice, XG_1, XO_some, XV_1, xo_n, xo_i8, xo_r8, xo_i7, xo_r7, xo_i6, xo_r6, xo_i5, xo_r5, xo_i4, xo_r4, xo_i3, xo_r3, xo_i2, xo_r2, Option.toList_some, Option.toList_none, List.cons_append, List.nil_append, bI_t, bI_f, bI_0, bI_n0, if_true, if_false, true_and, and_true, ne_eq, not_true_eq_false, not_false_eq_true, one_ne0, reduceCtorEq]
      refine (r_go R hl E).mpr ?_
      simp only [s196_119, s196_120, s196_120t, s196_120b, XG_1, XO_some, XV_1, xo_n, xo_i8, xo_r8, xo_i7, xo_r7, xo_i6, xo_r6, xo_i5, xo_r5, xo_i4, xo_r4, xo_i3, xo_r3, xo_i2, xo_r2, Option.toList_some, Option.toList_none, List.cons_append, List.nil_append, bI_t, bI_f, bI_0, bI_n0, if_true, if_false, true_and, and_true, ne_eq, not_true_eq_false, not_false_eq_true, one_ne0, reduceCtorEq]
      exact K1 ky hk ek
    simp only [s196_0, s196_1, s196_4, s196_5, s196_8, s196_9, s196_9t, s196_9b, s196_10, s196_11, xset_self, mg_8, e1, XG_1, XO_some, XV_1, xo_n, xo_i8, xo_r8, xo_i7, xo_r7, xo_i6, xo_r6, xo_i5, xo_r5, xo_i4, xo_r4, xo_i3, xo_r3, xo_i2, xo_r2, Option.toList_some, Option.toList_none, List.cons_append, List.nil_append, bI_t, bI_f, bI_0, bI_n0, if_true, if_false, true_and, and_true, ne_eq, not_true_eq_false, not_false_eq_true, one_ne0, reduceCtorEq]
    refine l_rkey (w := 0) R Ky (by decide) hft hl (fun n0 c2 c3 c4 => ?_) (fun y0 => don 0 (by decide) (if_pos y0))
    refine l_rkey (w := 1) R Ky (by decide) hft hl (fun n1 c2 c3 c4 => ?_) (fun y1 => don 1 (by decide) (by rw [n0, if_neg (by decide)]; exact if_pos y1))
    refine l_rkey (w := 2) R Ky (by decide) hft hl (fun n2 c2 c3 c4 => ?_) (fun y2 => don 2 (by decide) (by rw [n0, if_neg (by decide), n1, if_neg (by decide)]; exact if_pos y2))
    rw [s196_12]
    simp only [s196_13, s196_14, s196_127, s196_128, s196_128t, s196_128b, show ((nI (2 + 1) : Int32) < 3) = False from eq_false (by decide), XG_1, XO_some, XV_1, xo_n, xo_i8, xo_r8, xo_i7, xo_r7, xo_i6, xo_r6, xo_i5, xo_r5, xo_i4, xo_r4, xo_i3, xo_r3, xo_i2, xo_r2, Option.toList_some, Option.toList_none, List.cons_append, List.nil_append, bI_t, bI_f, bI_0, bI_n0, if_true, if_false, true_and, and_true, ne_eq, not_true_eq_false, not_false_eq_true, one_ne0, reduceCtorEq]
    exact K0 (by rw [n0, if_neg (by decide), n1, if_neg (by decide), n2, if_neg (by decide)])
  · have e1 : (nI (tkv bb z 0) = 1) = False := eq_false (fun q => t1 (tkv_0.mp ((nI_eq (b := 1) (by have := tkv_lt (bb := bb) (z := z) (p := 0); omega) (by decide)).mp q)))
    simp only [s196_0, s196_1, s196_4, s196_5, s196_8, s196_9, s196_9t, s196_9b, xset_self, mg_8, e1, XG_1, XO_some, XV_1, xo_n, xo_i8, xo_r8, xo_i7, xo_r7, xo_i6, xo_r6, xo_i5, xo_r5, xo_i4, xo_r4, xo_i3, xo_r3, xo_i2, xo_r2, Option.toList_some, Option.toList_none, List.cons_append, List.nil_append, bI_t, bI_f, bI_0, bI_n0, if_true, if_false, true_and, and_true, ne_eq, not_true_eq_false, not_false_eq_true, one_ne0, reduceCtorEq]
    refine K0 ?_
    have nw : ∀ w, iwd bb (ts bb z 0) (tf bb z 0) (tn bb z 0) w = false := fun w => by unfold iwd; rw [if_neg (fun q => t1 q.1)]
    unfold kyv
    rw [nw, nw, nw]
    decide
theorem r_nameOf {ky : Nat} (hk : ky < 3) : XC (d + 1) 197 [.ref r, .int v] (MS h r m a b c e f (nI ky) i j l C W T) Q ↔ Q (some (.int (nmv ky v))) (MS h r m a b c e f (nI ky) i j l C W T) := by
  rw [e197]
  unfold nmv
  rcases (show ky = 0 ∨ ky = 1 ∨ ky = 2 by omega) with rfl | rfl | rfl
  · rw [if_pos rfl]
    by_cases h1 : v = 97
    · simp only [s197_0, s197_1, s197_4, s197_32, s197_33, s197_35, s197_38, s197_39, s197_42, s197_43, s197_45, s197_48, s197_49, s197_52, s197_53, s197_55, s197_58, s197_59, s197_62, s197_63, s197_65, s197_68, s197_69, s197_72, s197_73, s197_74, s197_75, s197_77, s197_80, s197_81, s197_84, s197_85, s197_87, s197_90, s197_91, s197_94, s197_95, s197_96, s197_97, s197_99, s197_102, s197_103, s197_106, s197_107, s197_109, s197_112, s197_113, s197_116, s197_117, s197_119, s197_122, s197_123, s197_126, s197_127, xset_self, mg_11, xswi, h1, show (nI 0 = (0 : Int32)) = True from eq_true rfl, XG_1, XO_some, XV_1, xo_n, xo_i8, xo_r8, xo_i7, xo_r7, xo_i6, xo_r6, xo_i5, xo_r5, xo_i4, xo_r4, xo_i3, xo_r3, xo_i2, xo_r2, Option.toList_some, Option.toList_none, List.cons_append, List.nil_append, bI_t, bI_f, bI_0, bI_n0, if_true, if_false, true_and, and_true, ne_eq, not_true_eq_false, not_false_eq_true, one_ne0, reduceCtorEq]
    by_cases h2 : v = 99
    · simp only [s197_0, s197_1, s197_4, s197_32, s197_33, s197_35, s197_38, s197_39, s197_42, s197_43, s197_45, s197_48, s197_49, s197_52, s197_53, s197_55, s197_58, s197_59, s197_62, s197_63, s197_65, s197_68, s197_69, s197_72, s197_73, s197_74, s197_75, s197_77, s197_80, s197_81, s197_84, s197_85, s197_87, s197_90, s197_91, s197_94, s197_95, s197_96, s197_97, s197_99, s197_102, s197_103, s197_106, s197_107, s197_109, s197_112, s197_113, s197_116, s197_117, s197_119, s197_122, s197_123, s197_126, s197_127, xset_self, mg_11, xswi, h2, show ((99 : Int32) = 97) = False from eq_false (by decide), show (nI 0 = (0 : Int32)) = True from eq_true rfl, XG_1, XO_some, XV_1, xo_n, xo_i8, xo_r8, xo_i7, xo_r7, xo_i6, xo_r6, xo_i5, xo_r5, xo_i4, xo_r4, xo_i3, xo_r3, xo_i2, xo_r2, Option.toList_some, Option.toList_none, List.cons_append, List.nil_append, bI_t, bI_f, bI_0, bI_n0, if_true, if_false, true_and, and_true, ne_eq, not_true_eq_false, not_false_eq_true, one_ne0, reduceCtorEq]
    by_cases h3 : v = 108
    · simp only [s197_0, s197_1, s197_4, s197_32, s197_33, s197_35, s197_38, s197_39, s197_42, s197_43, s197_45, s197_48, s197_49, s197_52, s197_53, s197_55, s197_58, s197_59, s197_62, s197_63, s197_65, s197_68, s197_69, s197_72, s197_73, s197_74, s197_75, s197_77, s197_80, s197_81, s197_84, s197_85, s197_87, s197_90, s197_91, s197_94, s197_95, s197_96, s197_97, s197_99, s197_102, s197_103, s197_106, s197_107, s197_109, s197_112, s197_113, s197_116, s197_117, s197_119, s197_122, s197_123, s197_126, s197_127, xset_self, mg_11, xswi, h3, show ((108 : Int32) = 97) = False from eq_false (by decide), show ((108 : Int32) = 99) = False from eq_false (by decide), show (nI 0 = (0 : Int32)) = True from eq_true rfl, XG_1, XO_some, XV_1, xo_n, xo_i8, xo_r8, xo_i7, xo_r7, xo_i6, xo_r6, xo_i5, xo_r5, xo_i4, xo_r4, xo_i3, xo_r3, xo_i2, xo_r2, Option.toList_some, Option.toList_none, List.cons_append, List.nil_append, bI_t, bI_f, bI_0, bI_n0, if_true, if_false, true_and, and_true, ne_eq, not_true_eq_false, not_false_eq_true, one_ne0, reduceCtorEq]
    by_cases h4 : v = 112
    · simp only [s197_0, s197_1, s197_4, s197_32, s197_33, s197_35, s197_38, s197_39, s197_42, s197_43, s197_45, s197_48, s197_49, s197_52, s197_53, s197_55, s197_58, s197_59, s197_62, s197_63, s197_65, s197_68, s197_69, s197_72, s197_73, s197_74, s197_75, s197_77, s197_80, s197_81, s197_84, s197_85, s197_87, s197_90, s197_91, s197_94, s197_95, s197_96, s197_97, s197_99, s197_102, s197_103, s197_106, s197_107, s197_109, s197_112, s197_113, s197_116, s197_117, s197_119, s197_122, s197_123, s197_126, s197_127, xset_self, mg_11, xswi, h4, show ((112 : Int32) = 97) = False from eq_false (by decide), show ((112 : Int32) = 99) = False from eq_false (by decide), show ((112 : Int32) = 108) = False from eq_false (by decide), show (nI 0 = (0 : Int32)) = True from eq_true rfl, XG_1, XO_some, XV_1, xo_n, xo_i8, xo_r8, xo_i7, xo_r7, xo_i6, xo_r6, xo_i5, xo_r5, xo_i4, xo_r4, xo_i3, xo_r3, xo_i2, xo_r2, Option.toList_some, Option.toList_none, List.cons_append, List.nil_append, bI_t, bI_f, bI_0, bI_n0, if_true, if_false, true_and, and_true, ne_eq, not_true_eq_false, not_false_eq_true, one_ne0, reduceCtorEq]
    simp only [s197_0, s197_1, s197_4, s197_32, s197_33, s197_35, s197_38, s197_39, s197_42, s197_43, s197_45, s197_48, s197_49, s197_52, s197_53, s197_55, s197_58, s197_59, s197_62, s197_63, s197_65, s197_68, s197_69, s197_72, s197_73, s197_74, s197_75, s197_77, s197_80, s197_81, s197_84, s197_85, s197_87, s197_90, s197_91, s197_94, s197_95, s197_96, s197_97, s197_99, s197_102, s197_103, s197_106, s197_107, s197_109, s197_112, s197_113, s197_116, s197_117, s197_119, s197_122, s197_123, s197_126, s197_127, xset_self, mg_11, xswi, h1, h2, h3, h4, show (nI 0 = (0 : Int32)) = True from eq_true rfl, XG_1, XO_some, XV_1, xo_n, xo_i8, xo_r8, xo_i7, xo_r7, xo_i6, xo_r6, xo_i5, xo_r5, xo_i4, xo_r4, xo_i3, xo_r3, xo_i2, xo_r2, Option.toList_some, Option.toList_none, List.cons_append, List.nil_append, bI_t, bI_f, bI_0, bI_n0, if_true, if_false, true_and, and_true, ne_eq, not_true_eq_false, not_false_eq_true, one_ne0, reduceCtorEq]
  · rw [if_neg (by decide), if_pos rfl]
    by_cases h1 : v = 119
    · simp only [s197_0, s197_1, s197_4, s197_32, s197_33, s197_35, s197_38, s197_39, s197_42, s197_43, s197_45, s197_48, s197_49, s197_52, s197_53, s197_55, s197_58, s197_59, s197_62, s197_63, s197_65, s197_68, s197_69, s197_72, s197_73, s197_74, s197_75, s197_77, s197_80, s197_81, s197_84, s197_85, s197_87, s197_90, s197_91, s197_94, s197_95, s197_96, s197_97, s197_99, s197_102, s197_103, s197_106, s197_107, s197_109, s197_112, s197_113, s197_116, s197_117, s197_119, s197_122, s197_123, s197_126, s197_127, xset_self, mg_11, xswi, h1, show (nI 1 = (0 : Int32)) = False from eq_false (by decide), show (nI 1 = (1 : Int32)) = True from eq_true rfl, XG_1, XO_some, XV_1, xo_n, xo_i8, xo_r8, xo_i7, xo_r7, xo_i6, xo_r6, xo_i5, xo_r5, xo_i4, xo_r4, xo_i3, xo_r3, xo_i2, xo_r2, Option.toList_some, Option.toList_none, List.cons_append, List.nil_append, bI_t, bI_f, bI_0, bI_n0, if_true, if_false, true_and, and_true, ne_eq, not_true_eq_false, not_false_eq_true, one_ne0, reduceCtorEq]
    by_cases h2 : v = 109
    · simp only [s197_0, s197_1, s197_4, s197_32, s197_33, s197_35, s197_38, s197_39, s197_42, s197_43, s197_45, s197_48, s197_49, s197_52, s197_53, s197_55, s197_58, s197_59, s197_62, s197_63, s197_65, s197_68, s197_69, s197_72, s197_73, s197_74, s197_75, s197_77, s197_80, s197_81, s197_84, s197_85, s197_87, s197_90, s197_91, s197_94, s197_95, s197_96, s197_97, s197_99, s197_102, s197_103, s197_106, s197_107, s197_109, s197_112, s197_113, s197_116, s197_117, s197_119, s197_122, s197_123, s197_126, s197_127, xset_self, mg_11, xswi, h2, show ((109 : Int32) = 119) = False from eq_false (by decide), show (nI 1 = (0 : Int32)) = False from eq_false (by decide), show (nI 1 = (1 : Int32)) = True from eq_true rfl, XG_1, XO_some, XV_1, xo_n, xo_i8, xo_r8, xo_i7, xo_r7, xo_i6, xo_r6, xo_i5, xo_r5, xo_i4, xo_r4, xo_i3, xo_r3, xo_i2, xo_r2, Option.toList_some, Option.toList_none, List.cons_append, List.nil_append, bI_t, bI_f, bI_0, bI_n0, if_true, if_false, true_and, and_true, ne_eq, not_true_eq_false, not_false_eq_true, one_ne0, reduceCtorEq]
    simp only [s197_0, s197_1, s197_4, s197_32, s197_33, s197_35, s197_38, s197_39, s197_42, s197_43, s197_45, s197_48, s197_49, s197_52, s197_53, s197_55, s197_58, s197_59, s197_62, s197_63, s197_65, s197_68, s197_69, s197_72, s197_73, s197_74, s197_75, s197_77, s197_80, s197_81, s197_84, s197_85, s197_87, s197_90, s197_91, s197_94, s197_95, s197_96, s197_97, s197_99, s197_102, s197_103, s197_106, s197_107, s197_109, s197_112, s197_113, s197_116, s197_117, s197_119, s197_122, s197_123, s197_126, s197_127, xset_self, mg_11, xswi, h1, h2, show (nI 1 = (0 : Int32)) = False from eq_false (by decide), show (nI 1 = (1 : Int32)) = True from eq_true rfl, XG_1, XO_some, XV_1, xo_n, xo_i8, xo_r8, xo_i7, xo_r7, xo_i6, xo_r6, xo_i5, xo_r5, xo_i4, xo_r4, xo_i3, xo_r3, xo_i2, xo_r2, Option.toList_some, Option.toList_none, List.cons_append, List.nil_append, bI_t, bI_f, bI_0, bI_n0, if_true, if_false, true_and, and_true, ne_eq, not_true_eq_false, not_false_eq_true, one_ne0, reduceCtorEq]
  · rw [if_neg (by decide), if_neg (by decide)]
    by_cases h1 : v = 112
    · simp only [s197_0, s197_1, s197_4, s197_32, s197_33, s197_35, s197_38, s197_39, s197_42, s197_43, s197_45, s197_48, s197_49, s197_52, s197_53, s197_55, s197_58, s197_59, s197_62, s197_63, s197_65, s197_68, s197_69, s197_72, s197_73, s197_74, s197_75, s197_77, s197_80, s197_81, s197_84, s197_85, s197_87, s197_90, s197_91, s197_94, s197_95, s197_96, s197_97, s197_99, s197_102, s197_103, s197_106, s197_107, s197_109, s197_112, s197_113, s197_116, s197_117, s197_119, s197_122, s197_123, s197_126, s197_127, xset_self, mg_11, xswi, h1, show (nI 2 = (0 : Int32)) = False from eq_false (by decide), show (nI 2 = (1 : Int32)) = False from eq_false (by decide), XG_1, XO_some, XV_1, xo_n, xo_i8, xo_r8, xo_i7, xo_r7, xo_i6, xo_r6, xo_i5, xo_r5, xo_i4, xo_r4, xo_i3, xo_r3, xo_i2, xo_r2, Option.toList_some, Option.toList_none, List.cons_append, List.nil_append, bI_t, bI_f, bI_0, bI_n0, if_true, if_false, true_and, and_true, ne_eq, not_true_eq_false, not_false_eq_true, one_ne0, reduceCtorEq]
    by_cases h2 : v = 113
    · simp only [s197_0, s197_1, s197_4, s197_32, s197_33, s197_35, s197_38, s197_39, s197_42, s197_43, s197_45, s197_48, s197_49, s197_52, s197_53, s197_55, s197_58, s197_59, s197_62, s197_63, s197_65, s197_68, s197_69, s197_72, s197_73, s197_74, s197_75, s197_77, s197_80, s197_81, s197_84, s197_85, s197_87, s197_90, s197_91, s197_94, s197_95, s197_96, s197_97, s197_99, s197_102, s197_103, s197_106, s197_107, s197_109, s197_112, s197_113, s197_116, s197_117, s197_119, s197_122, s197_123, s197_126, s197_127, xset_self, mg_11, xswi, h2, show ((113 : Int32) = 112) = False from eq_false (by decide), show (nI 2 = (0 : Int32)) = False from eq_false (by decide), show (nI 2 = (1 : Int32)) = False from eq_false (by decide), XG_1, XO_some, XV_1, xo_n, xo_i8, xo_r8, xo_i7, xo_r7, xo_i6, xo_r6, xo_i5, xo_r5, xo_i4, xo_r4, xo_i3, xo_r3, xo_i2, xo_r2, Option.toList_some, Option.toList_none, List.cons_append, List.nil_append, bI_t, bI_f, bI_0, bI_n0, if_true, if_false, true_and, and_true, ne_eq, not_true_eq_false, not_false_eq_true, one_ne0, reduceCtorEq]
    by_cases h3 : v = 111
    · simp only [s197_0, s197_1, s197_4, s197_32, s197_33, s197_35, s197_38, s197_39, s197_42, s197_43, s197_45, s197_48, s197_49, s197_52, s197_53, s197_55, s197_58, s197_59, s197_62, s197_63, s197_65, s197_68, s197_69, s197_72, s197_73, s197_74, s197_75, s197_77, s197_80, s197_81, s197_84, s197_85, s197_87, s197_90, s197_91, s197_94, s197_95, s197_96, s197_97, s197_99, s197_102, s197_103, s197_106, s197_107, s197_109, s197_112, s197_113, s197_116, s197_117, s197_119, s197_122, s197_123, s197_126, s197_127, xset_self, mg_11, xswi, h3, show ((111 : Int32) = 112) = False from eq_false (by decide), show ((111 : Int32) = 113) = False from eq_false (by decide), show (nI 2 = (0 : Int32)) = False from eq_false (by decide), show (nI 2 = (1 : Int32)) = False from eq_false (by decide), XG_1, XO_some, XV_1, xo_n, xo_i8, xo_r8, xo_i7, xo_r7, xo_i6, xo_r6, xo_i5, xo_r5, xo_i4, xo_r4, xo_i3, xo_r3, xo_i2, xo_r2, Option.toList_some, Option.toList_none, List.cons_append, List.nil_append, bI_t, bI_f, bI_0, bI_n0, if_true, if_false, true_and, and_true, ne_eq, not_true_eq_false, not_false_eq_true, one_ne0, reduceCtorEq]
    simp only [s197_0, s197_1, s197_4, s197_32, s197_33, s197_35, s197_38, s197_39, s197_42, s197_43, s197_45, s197_48, s197_49, s197_52, s197_53, s197_55, s197_58, s197_59, s197_62, s197_63, s197_65, s197_68, s197_69, s197_72, s197_73, s197_74, s197_75, s197_77, s197_80, s197_81, s197_84, s197_85, s197_87, s197_90, s197_91, s197_94, s197_95, s197_96, s197_97, s197_99, s197_102, s197_103, s197_106, s197_107, s197_109, s197_112, s197_113, s197_116, s197_117, s197_119, s197_122, s197_123, s197_126, s197_127, xset_self, mg_11, xswi, h1, h2, h3, show (nI 2 = (0 : Int32)) = False from eq_false (by decide), show (nI 2 = (1 : Int32)) = False from eq_false (by decide), XG_1, XO_some, XV_1, xo_n, xo_i8, xo_r8, xo_i7, xo_r7, xo_i6, xo_r6, xo_i5, xo_r5, xo_i4, xo_r4, xo_i3, xo_r3, xo_i2, xo_r2, Option.toList_some, Option.toList_none, List.cons_append, List.nil_append, bI_t, bI_f, bI_0, bI_n0, if_true, if_false, true_and, and_true, ne_eq, not_true_eq_false, not_false_eq_true, one_ne0, reduceCtorEq]
theorem r_rank : XC (d + 1) 198 [.int v] h Q ↔ Q (some (.int (nI (rk v)))) h := by
  rw [e198]
  unfold rk
  by_cases h1 : v = -1
  · simp only [s198_0, s198_1, s198_2, s198_5, s198_6, s198_9, s198_10, s198_12, s198_15, s198_16, s198_19, s198_20, s198_22, s198_25, s198_26, s198_29, s198_30, s198_32, s198_35, s198_36, s198_39, s198_40, s198_42, s198_45, s198_46, s198_49, s198_51, h1, if_true]; exact Iff.rfl
  by_cases h2 : v = -2
  · simp only [s198_0, s198_1, s198_2, s198_5, s198_6, s198_9, s198_10, s198_12, s198_15, s198_16, s198_19, s198_20, s198_22, s198_25, s198_26, s198_29, s198_30, s198_32, s198_35, s198_36, s198_39, s198_40, s198_42, s198_45, s198_46, s198_49, s198_51, h2, show ((-2 : Int32) = -1) = False from eq_false (by decide), if_true, if_false]; exact Iff.rfl
  by_cases h3 : v < -5
  · by_cases h4 : v < -7
    · by_cases h5 : v < -9
      · simp only [s198_0, s198_1, s198_2, s198_5, s198_6, s198_9, s198_10, s198_12, s198_15, s198_16, s198_19, s198_20, s198_22, s198_25, s198_26, s198_29, s198_30, s198_32, s198_35, s198_36, s198_39, s198_40, s198_42, s198_45, s198_46, s198_49, s198_51, h1, h2, h3, h4, h5, if_true, if_false, not_true_eq_false]; exact Iff.rfl
      · simp only [s198_0, s198_1, s198_2, s198_5, s198_6, s198_9, s198_10, s198_12, s198_15, s198_16, s198_19, s198_20, s198_22, s198_25, s198_26, s198_29, s198_30, s198_32, s198_35, s198_36, s198_39, s198_40, s198_42, s198_45, s198_46, s198_49, s198_51, h1, h2, h3, h4, h5, if_true, if_false, not_true_eq_false, not_false_eq_true]; exact Iff.rfl
    · simp only [s198_0, s198_1, s198_2, s198_5, s198_6, s198_9, s198_10, s198_12, s198_15, s198_16, s198_19, s198_20, s198_22, s198_25, s198_26, s198_29, s198_30, s198_32, s198_35, s198_36, s198_39, s198_40, s198_42, s198_45, s198_46, s198_49, s198_51, h1, h2, h3, h4, if_true, if_false, not_true_eq_false, not_false_eq_true]; exact Iff.rfl
  · simp only [s198_0, s198_1, s198_2, s198_5, s198_6, s198_9, s198_10, s198_12, s198_15, s198_16, s198_19, s198_20, s198_22, s198_25, s198_26, s198_29, s198_30, s198_32, s198_35, s198_36, s198_39, s198_40, s198_42, s198_45, s198_46, s198_49, s198_51, h1, h2, h3, if_true, if_false, not_false_eq_true]; exact Iff.rfl
theorem rk_lt (v : Int32) : rk v < 7 := by
  unfold rk
  repeat (first | decide | split)
theorem l_settle {lv : Nat} (hlv : lv < 7) : ∀ Wl Cl C, SRe id W Wl → SRe id C Cl → Wl.length + Cl.length ≤ 96 → (∀ C2, SRe id W (stl lv Wl Cl).1 → SRe id C2 (stl lv Wl Cl).2 → Q none (MS h r m a b c e f g (nI (stl lv Wl Cl).2.length) j (nI (stl lv Wl Cl).1.length) C2 W T)) → XE (d + 1) 199 0 [.val (.ref r), .val (.int (nI lv))] [] (MS h r m a b c e f g (nI Cl.length) j (nI Wl.length) C W T) Q := by
  intro Wl
  induction Wl with
  | nil =>
    intro Cl C hW hC hl K
    have l0 : ¬ (0 : Int32) < nI ([] : List Int32).length := by decide
    rw [s199_0]
    simp only [s199_1, s199_4, s199_7, s199_8, s199_11, s199_12, s199_15, s199_16, s199_17, s199_18, s199_20, s199_23, s199_24, s199_27, s199_28, s199_31, s199_32, s199_33, s199_34, s199_37, s199_38, s199_41, s199_42, s199_42r, s199_43, s199_46, s199_47, s199_48, s199_51, s199_52, s199_55, s199_56, s199_59, s199_60, s199_63, s199_64, s199_67, s199_68, s199_69, s199_70, s199_70r, s199_71, s199_74, s199_75, s199_76, s199_79, s199_82, xset_self, mg_18, l0, XG_1, XO_some, XV_1, xo_n, xo_i8, xo_r8, xo_i7, xo_r7, xo_i6, xo_r6, xo_i5, xo_r5, xo_i4, xo_r4, xo_i3, xo_r3, xo_i2, xo_r2, Option.toList_some, Option.toList_none, List.cons_append, List.nil_append, bI_t, bI_f, bI_0, bI_n0, if_true, if_false, true_and, and_true, ne_eq, not_true_eq_false, not_false_eq_true, one_ne0, reduceCtorEq]
    exact K C hW hC
  | cons s1 Wl ih =>
    intro Cl C hW hC hl K
    have hl2 : Wl.length + 1 + Cl.length ≤ 96 := hl
    have e1 : W Wl.length = s1 := hW.1
    have l0 : (0 : Int32) < nI (Wl.length + 1) := nI_lt (a := 0) (by omega) (by omega)
    show XE (d + 1) 199 0 [.val (.ref r), .val (.int (nI lv))] [] (MS h r m a b c e f g (nI Cl.length) j (nI (Wl.length + 1)) C W T) Q
    rw [s199_0]
    by_cases c1 : s1 = -11
    · have es : stl lv (s1 :: Wl) Cl = (s1 :: Wl, Cl) := if_pos (Or.inl c1)
      rw [es] at K
      simp only [s199_1, s199_4, s199_7, s199_8, s199_11, s199_12, s199_15, s199_16, s199_17, s199_18, s199_20, s199_23, s199_24, s199_27, s199_28, s199_31, s199_32, s199_33, s199_34, s199_37, s199_38, s199_41, s199_42, s199_42r, s199_43, s199_46, s199_47, s199_48, s199_51, s199_52, s199_55, s199_56, s199_59, s199_60, s199_63, s199_64, s199_67, s199_68, s199_69, s199_70, s199_70r, s199_71, s199_74, s199_75, s199_76, s199_79, s199_82, xset_self, mg_17, mg_18, l0, nI_p1, u_8, XA96 (show Wl.length < 96 by omega), e1, c1, XG_1, XO_some, XV_1, xo_n, xo_i8, xo_r8, xo_i7, xo_r7, xo_i6, xo_r6, xo_i5, xo_r5, xo_i4, xo_r4, xo_i3, xo_r3, xo_i2, xo_r2, Option.toList_some, Option.toList_none, List.cons_append, List.nil_append, bI_t, bI_f, bI_0, bI_n0, if_true, if_false, true_and, and_true, ne_eq, not_true_eq_false, not_false_eq_true, one_ne0, reduceCtorEq]
      rw [c1] at K hW
      exact K C hW hC
    by_cases c2 : rk s1 < lv
    · have es : stl lv (s1 :: Wl) Cl = (s1 :: Wl, Cl) := if_pos (Or.inr c2)
      rw [es] at K
      have lt : nI (rk s1) < nI lv := nI_lt c2 (by omega)
      simp only [s199_1, s199_4, s199_7, s199_8, s199_11, s199_12, s199_15, s199_16, s199_17, s199_18, s199_20, s199_23, s199_24, s199_27, s199_28, s199_31, s199_32, s199_33, s199_34, s199_37, s199_38, s199_41, s199_42, s199_42r, s199_43, s199_46, s199_47, s199_48, s199_51, s199_52, s199_55, s199_56, s199_59, s199_60, s199_63, s199_64, s199_67, s199_68, s199_69, s199_70, s199_70r, s199_71, s199_74, s199_75, s199_76, s199_79, s199_82, xset_self, mg_17, mg_18, l0, nI_p1, u_8, XA96 (show Wl.length < 96 by omega), e1, c1, r_rank, lt, XG_1, XO_some, XV_1, xo_n, xo_i8, xo_r8, xo_i7, xo_r7, xo_i6, xo_r6, xo_i5, xo_r5, xo_i4, xo_r4, xo_i3, xo_r3, xo_i2, xo_r2, Option.toList_some, Option.toList_none, List.cons_append, List.nil_append, bI_t, bI_f, bI_0, bI_n0, if_true, if_false, true_and, and_true, ne_eq, not_true_eq_false, not_false_eq_true, one_ne0, reduceCtorEq]
      exact K C hW hC
    · have es : stl lv (s1 :: Wl) Cl = stl lv Wl (s1 :: Cl) := if_neg (fun q => by rcases q with q | q; exact c1 q; exact c2 q)
      rw [es] at K
      have lt : ¬ nI (rk s1) < nI lv := nI_nlt (by omega) (by have := rk_lt s1; omega)
      simp only [s199_1, s199_4, s199_7, s199_8, s199_11, s199_12, s199_15, s199_16, s199_17, s199_18, s199_20, s199_23, s199_24, s199_27, s199_28, s199_31, s199_32, s199_33, s199_34, s199_37, s199_38, s199_41, s199_42, s199_42r, s199_43, s199_46, s199_47, s199_48, s199_51, s199_52, s199_55, s199_56, s199_59, s199_60, s199_63, s199_64, s199_67, s199_68, s199_69, s199_70, s199_70r, s199_71, s199_74, s199_75, s199_76, s199_79, s199_82, xset_self, mg_14, mg_15, mg_17, mg_18, l0, nI_p1, u_7, u_8, XA96 (show Wl.length < 96 by omega), e1, c1, r_rank, lt, mp_18, mp_15, xset_twice, XS96 (show Cl.length < 96 by omega), u_w7, nI_1, XG_1, XO_some, XV_1, xo_n, xo_i8, xo_r8, xo_i7, xo_r7, xo_i6, xo_r6, xo_i5, xo_r5, xo_i4, xo_r4, xo_i3, xo_r3, xo_i2, xo_r2, Option.toList_some, Option.toList_none, List.cons_append, List.nil_append, bI_t, bI_f, bI_0, bI_n0, if_true, if_false, true_and, and_true, ne_eq, not_true_eq_false, not_false_eq_true, one_ne0, reduceCtorEq]
      exact ih (s1 :: Cl) (upd C Cl.length s1) hW.2 (SRe_push hC rfl) (by show Wl.length + (Cl.length + 1) ≤ 96; omega) K
theorem r_settle {lv : Nat} (hlv : lv < 7) {Wl Cl : List Int32} (hW : SRe id W Wl) (hC : SRe id C Cl) (hl : Wl.length + Cl.length ≤ 96) (K : ∀ C2, SRe id W (stl lv Wl Cl).1 → SRe id C2 (stl lv Wl Cl).2 → Q none (MS h r m a b c e f g (nI (stl lv Wl Cl).2.length) j (nI (stl lv Wl Cl).1.length) C2 W T)) : XC (d + 2) 199 [.ref r, .int (nI lv)] (MS h r m a b c e f g (nI Cl.length) j (nI Wl.length) C W T) Q := by
  rw [e199]
  exact l_settle hlv Wl Cl C hW hC hl K
theorem r_signHere {tk : Nat} (htk : tk < 5) : XC (d + 1) 200 [.ref r] (MS h r m a b (nI tk) v f g i j l C W T) Q ↔ Q (some (.int (if tk = 3 then sgv v else 0))) (MS h r m a b (nI tk) v f g i j l C W T) := by
  rw [e200]
  by_cases t3 : tk = 3
  · have e3 : (nI tk = 3) = True := eq_true (by rw [t3]; rfl)
    rw [if_pos t3]
    unfold sgv
    have n : ∀ p q : Int32, ¬ p = q → (v = p) → ¬ v = q := fun p q hn e w => hn (e.symm.trans w)
    by_cases k124 : v = 124
    · have w38 : ¬ v = 38 := n 124 38 (by decide) k124
      have w42 : ¬ v = 42 := n 124 42 (by decide) k124
      have w43 : ¬ v = 43 := n 124 43 (by decide) k124
      have w45 : ¬ v = 45 := n 124 45 (by decide) k124
      have w47 : ¬ v = 47 := n 124 47 (by decide) k124
      have w60 : ¬ v = 60 := n 124 60 (by decide) k124
      have w61 : ¬ v = 61 := n 124 61 (by decide) k124
      have w62 : ¬ v = 62 := n 124 62 (by decide) k124
      rw [if_pos k124]
      simp only [s200_0, s200_1, s200_4, s200_5, s200_8, s200_9, s200_10, s200_11, s200_14, s200_96, s200_97, s200_98, s200_100, s200_101, s200_103, s200_104, s200_106, s200_107, s200_109, s200_110, s200_112, s200_113, s200_115, s200_116, s200_118, s200_119, s200_121, s200_122, s200_123, xset_self, mg_8, mg_9, e3, xswi, w38, w42, w43, w45, w47, w60, w61, w62, XG_1, XO_some, XV_1, xo_n, xo_i8, xo_r8, xo_i7, xo_r7, xo_i6, xo_r6, xo_i5, xo_r5, xo_i4, xo_r4, xo_i3, xo_r3, xo_i2, xo_r2, Option.toList_some, Option.toList_none, List.cons_append, List.nil_append, bI_t, bI_f, bI_0, bI_n0, if_true, if_false, true_and, and_true, ne_eq, not_true_eq_false, not_false_eq_true, one_ne0, reduceCtorEq]
      first | (rw [if_pos k124]; done) | (rw [if_pos k124]; exact Iff.rfl) | simp only [k124, if_true]
    by_cases k38 : v = 38
    · have w42 : ¬ v = 42 := n 38 42 (by decide) k38
      have w43 : ¬ v = 43 := n 38 43 (by decide) k38
      have w45 : ¬ v = 45 := n 38 45 (by decide) k38
      have w47 : ¬ v = 47 := n 38 47 (by decide) k38
      have w60 : ¬ v = 60 := n 38 60 (by decide) k38
      have w61 : ¬ v = 61 := n 38 61 (by decide) k38
      have w62 : ¬ v = 62 := n 38 62 (by decide) k38
      have w124 : ¬ v = 124 := n 38 124 (by decide) k38
      rw [if_neg w124, if_pos k38]
      simp only [s200_0, s200_1, s200_4, s200_5, s200_8, s200_9, s200_10, s200_11, s200_14, s200_96, s200_97, s200_98, s200_100, s200_101, s200_103, s200_104, s200_106, s200_107, s200_109, s200_110, s200_112, s200_113, s200_115, s200_116, s200_118, s200_119, s200_121, s200_122, s200_123, xset_self, mg_8, mg_9, e3, xswi, w42, w43, w45, w47, w60, w61, w62, w124, XG_1, XO_some, XV_1, xo_n, xo_i8, xo_r8, xo_i7, xo_r7, xo_i6, xo_r6, xo_i5, xo_r5, xo_i4, xo_r4, xo_i3, xo_r3, xo_i2, xo_r2, Option.toList_some, Option.toList_none, List.cons_append, List.nil_append, bI_t, bI_f, bI_0, bI_n0, if_true, if_false, true_and, and_true, ne_eq, not_true_eq_false, not_false_eq_true, one_ne0, reduceCtorEq]
      first | (rw [if_pos k38]; done) | (rw [if_pos k38]; exact Iff.rfl) | simp only [k38, if_true]
    by_cases k60 : v = 60
    · have w38 : ¬ v = 38 := n 60 38 (by decide) k60
      have w42 : ¬ v = 42 := n 60 42 (by decide) k60
      have w43 : ¬ v = 43 := n 60 43 (by decide) k60
      have w45 : ¬ v = 45 := n 60 45 (by decide) k60
      have w47 : ¬ v = 47 := n 60 47 (by decide) k60
      have w61 : ¬ v = 61 := n 60 61 (by decide) k60
      have w62 : ¬ v = 62 := n 60 62 (by decide) k60
      have w124 : ¬ v = 124 := n 60 124 (by decide) k60
      rw [if_neg w124, if_neg w38, if_pos k60]
      simp only [s200_0, s200_1, s200_4, s200_5, s200_8, s200_9, s200_10, s200_11, s200_14, s200_96, s200_97, s200_98, s200_100, s200_101, s200_103, s200_104, s200_106, s200_107, s200_109, s200_110, s200_112, s200_113, s200_115, s200_116, s200_118, s200_119, s200_121, s200_122, s200_123, xset_self, mg_8, mg_9, e3, xswi, w38, w42, w43, w45, w47, w61, w62, w124, XG_1, XO_some, XV_1, xo_n, xo_i8, xo_r8, xo_i7, xo_r7, xo_i6, xo_r6, xo_i5, xo_r5, xo_i4, xo_r4, xo_i3, xo_r3, xo_i2, xo_r2, Option.toList_some, Option.toList_none, List.cons_append, List.nil_append, bI_t, bI_f, bI_0, bI_n0, if_true, if_false, true_and, and_true, ne_eq, not_true_eq_false, not_false_eq_true, one_ne0, reduceCtorEq]
      first | (rw [if_pos k60]; done) | (rw [if_pos k60]; exact Iff.rfl) | simp only [k60, if_true]
    by_cases k61 : v = 61
    · have w38 : ¬ v = 38 := n 61 38 (by decide) k61
      have w42 : ¬ v = 42 := n 61 42 (by decide) k61
      have w43 : ¬ v = 43 := n 61 43 (by decide) k61
      have w45 : ¬ v = 45 := n 61 45 (by decide) k61
      have w47 : ¬ v = 47 := n 61 47 (by decide) k61
      have w60 : ¬ v = 60 := n 61 60 (by decide) k61
      have w62 : ¬ v = 62 := n 61 62 (by decide) k61
      have w124 : ¬ v = 124 := n 61 124 (by decide) k61
      rw [if_neg w124, if_neg w38, if_neg w60, if_pos k61]
      simp only [s200_0, s200_1, s200_4, s200_5, s200_8, s200_9, s200_10, s200_11, s200_14, s200_96, s200_97, s200_98, s200_100, s200_101, s200_103, s200_104, s200_106, s200_107, s200_109, s200_110, s200_112, s200_113, s200_115, s200_116, s200_118, s200_119, s200_121, s200_122, s200_123, xset_self, mg_8, mg_9, e3, xswi, w38, w42, w43, w45, w47, w60, w62, w124, XG_1, XO_some, XV_1, xo_n, xo_i8, xo_r8, xo_i7, xo_r7, xo_i6, xo_r6, xo_i5, xo_r5, xo_i4, xo_r4, xo_i3, xo_r3, xo_i2, xo_r2, Option.toList_some, Option.toList_none, List.cons_append, List.nil_append, bI_t, bI_f, bI_0, bI_n0, if_true, if_false, true_and, and_true, ne_eq, not_true_eq_false, not_false_eq_true, one_ne0, reduceCtorEq]
      first | (rw [if_pos k61]; done) | (rw [if_pos k61]; exact Iff.rfl) | simp only [k61, if_true]
    by_cases k62 : v = 62
    · have w38 : ¬ v = 38 := n 62 38 (by decide) k62
      have w42 : ¬ v = 42 := n 62 42 (by decide) k62
      have w43 : ¬ v = 43 := n 62 43 (by decide) k62
      have w45 : ¬ v = 45 := n 62 45 (by decide) k62
      have w47 : ¬ v = 47 := n 62 47 (by decide) k62
      have w60 : ¬ v = 60 := n 62 60 (by decide) k62
      have w61 : ¬ v = 61 := n 62 61 (by decide) k62
      have w124 : ¬ v = 124 := n 62 124 (by decide) k62
      rw [if_neg w124, if_neg w38, if_neg w60, if_neg w61, if_pos k62]
      simp only [s200_0, s200_1, s200_4, s200_5, s200_8, s200_9, s200_10, s200_11, s200_14, s200_96, s200_97, s200_98, s200_100, s200_101, s200_103, s200_104, s200_106, s200_107, s200_109, s200_110, s200_112, s200_113, s200_115, s200_116, s200_118, s200_119, s200_121, s200_122, s200_123, xset_self, mg_8, mg_9, e3, xswi, w38, w42, w43, w45, w47, w60, w61, w124, XG_1, XO_some, XV_1, xo_n, xo_i8, xo_r8, xo_i7, xo_r7, xo_i6, xo_r6, xo_i5, xo_r5, xo_i4, xo_r4, xo_i3, xo_r3, xo_i2, xo_r2, Option.toList_some, Option.toList_none, List.cons_append, List.nil_append, bI_t, bI_f, bI_0, bI_n0, if_true, if_false, true_and, and_true, ne_eq, not_true_eq_false, not_false_eq_true, one_ne0, reduceCtorEq]
      first | (rw [if_pos k62]; done) | (rw [if_pos k62]; exact Iff.rfl) | simp only [k62, if_true]
    by_cases k43 : v = 43
    · have w38 : ¬ v = 38 := n 43 38 (by decide) k43
      have w42 : ¬ v = 42 := n 43 42 (by decide) k43
      have w45 : ¬ v = 45 := n 43 45 (by decide) k43
      have w47 : ¬ v = 47 := n 43 47 (by decide) k43
      have w60 : ¬ v = 60 := n 43 60 (by decide) k43
      have w61 : ¬ v = 61 := n 43 61 (by decide) k43
      have w62 : ¬ v = 62 := n 43 62 (by decide) k43
      have w124 : ¬ v = 124 := n 43 124 (by decide) k43
      rw [if_neg w124, if_neg w38, if_neg w60, if_neg w61, if_neg w62, if_pos k43]
      simp only [s200_0, s200_1, s200_4, s200_5, s200_8, s200_9, s200_10, s200_11, s200_14, s200_96, s200_97, s200_98, s200_100, s200_101, s200_103, s200_104, s200_106, s200_107, s200_109, s200_110, s200_112, s200_113, s200_115, s200_116, s200_118, s200_119, s200_121, s200_122, s200_123, xset_self, mg_8, mg_9, e3, xswi, w38, w42, w45, w47, w60, w61, w62, w124, XG_1, XO_some, XV_1, xo_n, xo_i8, xo_r8, xo_i7, xo_r7, xo_i6, xo_r6, xo_i5, xo_r5, xo_i4, xo_r4, xo_i3, xo_r3, xo_i2, xo_r2, Option.toList_some, Option.toList_none, List.cons_append, List.nil_append, bI_t, bI_f, bI_0, bI_n0, if_true, if_false, true_and, and_true, ne_eq, not_true_eq_false, not_false_eq_true, one_ne0, reduceCtorEq]
      first | (rw [if_pos k43]; done) | (rw [if_pos k43]; exact Iff.rfl) | simp only [k43, if_true]
    by_cases k45 : v = 45
    · have w38 : ¬ v = 38 := n 45 38 (by decide) k45
      have w42 : ¬ v = 42 := n 45 42 (by decide) k45
      have w43 : ¬ v = 43 := n 45 43 (by decide) k45
      have w47 : ¬ v = 47 := n 45 47 (by decide) k45
      have w60 : ¬ v = 60 := n 45 60 (by decide) k45
      have w61 : ¬ v = 61 := n 45 61 (by decide) k45
      have w62 : ¬ v = 62 := n 45 62 (by decide) k45
      have w124 : ¬ v = 124 := n 45 124 (by decide) k45
      rw [if_neg w124, if_neg w38, if_neg w60, if_neg w61, if_neg w62, if_neg w43, if_pos k45]
      simp only [s200_0, s200_1, s200_4, s200_5, s200_8, s200_9, s200_10, s200_11, s200_14, s200_96, s200_97, s200_98, s200_100, s200_101, s200_103, s200_104, s200_106, s200_107, s200_109, s200_110, s200_112, s200_113, s200_115, s200_116, s200_118, s200_119, s200_121, s200_122, s200_123, xset_self, mg_8, mg_9, e3, xswi, w38, w42, w43, w47, w60, w61, w62, w124, XG_1, XO_some, XV_1, xo_n, xo_i8, xo_r8, xo_i7, xo_r7, xo_i6, xo_r6, xo_i5, xo_r5, xo_i4, xo_r4, xo_i3, xo_r3, xo_i2, xo_r2, Option.toList_some, Option.toList_none, List.cons_append, List.nil_append, bI_t, bI_f, bI_0, bI_n0, if_true, if_false, true_and, and_true, ne_eq, not_true_eq_false, not_false_eq_true, one_ne0, reduceCtorEq]
      first | (rw [if_pos k45]; done) | (rw [if_pos k45]; exact Iff.rfl) | simp only [k45, if_true]
    by_cases k42 : v = 42
    · have w38 : ¬ v = 38 := n 42 38 (by decide) k42
      have w43 : ¬ v = 43 := n 42 43 (by decide) k42
      have w45 : ¬ v = 45 := n 42 45 (by decide) k42
      have w47 : ¬ v = 47 := n 42 47 (by decide) k42
      have w60 : ¬ v = 60 := n 42 60 (by decide) k42
      have w61 : ¬ v = 61 := n 42 61 (by decide) k42
      have w62 : ¬ v = 62 := n 42 62 (by decide) k42
      have w124 : ¬ v = 124 := n 42 124 (by decide) k42
      rw [if_neg w124, if_neg w38, if_neg w60, if_neg w61, if_neg w62, if_neg w43, if_neg w45, if_pos k42]
      simp only [s200_0, s200_1, s200_4, s200_5, s200_8, s200_9, s200_10, s200_11, s200_14, s200_96, s200_97, s200_98, s200_100, s200_101, s200_103, s200_104, s200_106, s200_107, s200_109, s200_110, s200_112, s200_113, s200_115, s200_116, s200_118, s200_119, s200_121, s200_122, s200_123, xset_self, mg_8, mg_9, e3, xswi, w38, w43, w45, w47, w60, w61, w62, w124, XG_1, XO_some, XV_1, xo_n, xo_i8, xo_r8, xo_i7, xo_r7, xo_i6, xo_r6, xo_i5, xo_r5, xo_i4, xo_r4, xo_i3, xo_r3, xo_i2, xo_r2, Option.toList_some, Option.toList_none, List.cons_append, List.nil_append, bI_t, bI_f, bI_0, bI_n0, if_true, if_false, true_and, and_true, ne_eq, not_true_eq_false, not_false_eq_true, one_ne0, reduceCtorEq]
      first | (rw [if_pos k42]; done) | (rw [if_pos k42]; exact Iff.rfl) | simp only [k42, if_true]
    by_cases k47 : v = 47
    · have w38 : ¬ v = 38 := n 47 38 (by decide) k47
      have w42 : ¬ v = 42 := n 47 42 (by decide) k47
      have w43 : ¬ v = 43 := n 47 43 (by decide) k47
      have w45 : ¬ v = 45 := n 47 45 (by decide) k47
      have w60 : ¬ v = 60 := n 47 60 (by decide) k47
      have w61 : ¬ v = 61 := n 47 61 (by decide) k47
      have w62 : ¬ v = 62 := n 47 62 (by decide) k47
      have w124 : ¬ v = 124 := n 47 124 (by decide) k47
      rw [if_neg w124, if_neg w38, if_neg w60, if_neg w61, if_neg w62, if_neg w43, if_neg w45, if_neg w42, if_pos k47]
      simp only [s200_0, s200_1, s200_4, s200_5, s200_8, s200_9, s200_10, s200_11, s200_14, s200_96, s200_97, s200_98, s200_100, s200_101, s200_103, s200_104, s200_106, s200_107, s200_109, s200_110, s200_112, s200_113, s200_115, s200_116, s200_118, s200_119, s200_121, s200_122, s200_123, xset_self, mg_8, mg_9, e3, xswi, w38, w42, w43, w45, w60, w61, w62, w124, XG_1, XO_some, XV_1, xo_n, xo_i8, xo_r8, xo_i7, xo_r7, xo_i6, xo_r6, xo_i5, xo_r5, xo_i4, xo_r4, xo_i3, xo_r3, xo_i2, xo_r2, Option.toList_some, Option.toList_none, List.cons_append, List.nil_append, bI_t, bI_f, bI_0, bI_n0, if_true, if_false, true_and, and_true, ne_eq, not_true_eq_false, not_false_eq_true, one_ne0, reduceCtorEq]
      first | (rw [if_pos k47]; done) | (rw [if_pos k47]; exact Iff.rfl) | simp only [k47, if_true]
    rw [if_neg k124, if_neg k38, if_neg k60, if_neg k61, if_neg k62, if_neg k43, if_neg k45, if_neg k42, if_neg k47]
    simp only [s200_0, s200_1, s200_4, s200_5, s200_8, s200_9, s200_10, s200_11, s200_14, s200_96, s200_97, s200_98, s200_100, s200_101, s200_103, s200_104, s200_106, s200_107, s200_109, s200_110, s200_112, s200_113, s200_115, s200_116, s200_118, s200_119, s200_121, s200_122, s200_123, xset_self, mg_8, mg_9, e3, xswi, k124, k38, k60, k61, k62, k43, k45, k42, k47, XG_1, XO_some, XV_1, xo_n, xo_i8, xo_r8, xo_i7, xo_r7, xo_i6, xo_r6, xo_i5, xo_r5, xo_i4, xo_r4, xo_i3, xo_r3, xo_i2, xo_r2, Option.toList_some, Option.toList_none, List.cons_append, List.nil_append, bI_t, bI_f, bI_0, bI_n0, if_true, if_false, true_and, and_true, ne_eq, not_true_eq_false, not_false_eq_true, one_ne0, reduceCtorEq]
  · have e3 : (nI tk = 3) = False := eq_false (fun q => t3 ((nI_eq (b := 3) (by omega) (by decide)).mp q))
    rw [if_neg t3]
    simp only [s200_0, s200_1, s200_4, s200_5, s200_8, s200_9, s200_10, s200_11, s200_14, s200_96, s200_97, s200_98, s200_100, s200_101, s200_103, s200_104, s200_106, s200_107, s200_109, s200_110, s200_112, s200_113, s200_115, s200_116, s200_118, s200_119, s200_121, s200_122, s200_123, xset_self, mg_8, e3, XG_1, XO_some, XV_1, xo_n, xo_i8, xo_r8, xo_i7, xo_r7, xo_i6, xo_r6, xo_i5, xo_r5, xo_i4, xo_r4, xo_i3, xo_r3, xo_i2, xo_r2, Option.toList_some, Option.toList_none, List.cons_append, List.nil_append, bI_t, bI_f, bI_0, bI_n0, if_true, if_false, true_and, and_true, ne_eq, not_true_eq_false, not_false_eq_true, one_ne0, reduceCtorEq]
/-- how many nots wait -/
def cnr (w : Nat → Int32) : Nat → Nat
  | 0 => 0
  | k + 1 => if w k = -10 then cnr w k + 1 else cnr w k
theorem cnr_l {w : Nat → Int32} : ∀ Wl, SRe id w Wl → cnr w Wl.length = cn Wl := by
  intro Wl
  induction Wl with
  | nil => intro _; rfl
  | cons s Wl ih =>
    intro h
    have e : w Wl.length = s := h.1
    show (if w Wl.length = -10 then cnr w Wl.length + 1 else cnr w Wl.length) = (if s = -10 then cn Wl + 1 else cn Wl)
    rw [e, ih h.2]
theorem cnr_le {w : Nat → Int32} : ∀ k, cnr w k ≤ k := by
  intro k
  induction k with
  | zero => exact Nat.le_refl _
  | succ k ih =>
    unfold cnr
    by_cases q : w k = -10
    · rw [if_pos q]; omega
    · rw [if_neg q]; omega
theorem l_nots {D : Nat} (hD : D ≤ 96) : ∀ cc k, k + cc = D → (XE (d + 1) 203 4 [.val (.ref r), .val (.int (nI (cnr W k))), .val (.int (nI k))] [] (MS h r m a b c e f g i j (nI D) C W T) Q ↔ Q (some (.int (nI (cnr W D)))) (MS h r m a b c e f g i j (nI D) C W T)) := by
  intro cc
  induction cc with
  | zero =>
    intro k hk
    have hlt : ¬ nI k < nI D := nI_nlt (by omega) (by omega)
    rw [s203_4]
    simp only [s203_0, s203_1, s203_2, s203_3, s203_5, s203_6, s203_9, s203_12, s203_13, s203_14, s203_17, s203_18, s203_19, s203_21, s203_24, s203_25, s203_28, s203_29, s203_30, s203_31, s203_34, s203_37, s203_38, xset_self, mg_18, hlt, XG_1, XO_some, XV_1, xo_n, xo_i8, xo_r8, xo_i7, xo_r7, xo_i6, xo_r6, xo_i5, xo_r5, xo_i4, xo_r4, xo_i3, xo_r3, xo_i2, xo_r2, Option.toList_some, Option.toList_none, List.cons_append, List.nil_append, bI_t, bI_f, bI_0, bI_n0, if_true, if_false, true_and, and_true, ne_eq, not_true_eq_false, not_false_eq_true, one_ne0, reduceCtorEq]
    rw [show k = D by omega]
  | succ cc ih =>
    intro k hk
    have hlt : nI k < nI D := nI_lt (by omega) (by omega)
    have ih1 := ih (k + 1) (by omega)
    rw [show cnr W (k + 1) = if W k = -10 then cnr W k + 1 else cnr W k from rfl] at ih1
    rw [s203_4]
    by_cases q : W k = -10
    · rw [if_pos q] at ih1
      simp only [s203_0, s203_1, s203_2, s203_3, s203_5, s203_6, s203_9, s203_12, s203_13, s203_14, s203_17, s203_18, s203_19, s203_21, s203_24, s203_25, s203_28, s203_29, s203_30, s203_31, s203_34, s203_37, s203_38, xset_self, mg_17, mg_18, hlt, u_8, XA96 (show k < 96 by omega), q, nI_1, XG_1, XO_some, XV_1, xo_n, xo_i8, xo_r8, xo_i7, xo_r7, xo_i6, xo_r6, xo_i5, xo_r5, xo_i4, xo_r4, xo_i3, xo_r3, xo_i2, xo_r2, Option.toList_some, Option.toList_none, List.cons_append, List.nil_append, bI_t, bI_f, bI_0, bI_n0, if_true, if_false, true_and, and_true, ne_eq, not_true_eq_false, not_false_eq_true, one_ne0, reduceCtorEq]
      exact ih1
    · rw [if_neg q] at ih1
      simp only [s203_0, s203_1, s203_2, s203_3, s203_5, s203_6, s203_9, s203_12, s203_13, s203_14, s203_17, s203_18, s203_19, s203_21, s203_24, s203_25, s203_28, s203_29, s203_30, s203_31, s203_34, s203_37, s203_38, xset_self, mg_17, mg_18, hlt, u_8, XA96 (show k < 96 by omega), q, p0, nI_1, XG_1, XO_some, XV_1, xo_n, xo_i8, xo_r8, xo_i7, xo_r7, xo_i6, xo_r6, xo_i5, xo_r5, xo_i4, xo_r4, xo_i3, xo_r3, xo_i2, xo_r2, Option.toList_some, Option.toList_none, List.cons_append, List.nil_append, bI_t, bI_f, bI_0, bI_n0, if_true, if_false, true_and, and_true, ne_eq, not_true_eq_false, not_false_eq_true, one_ne0, reduceCtorEq]
      exact ih1
theorem r_nots {Wl : List Int32} (hW : SRe id W Wl) (hD : Wl.length ≤ 96) : XC (d + 2) 203 [.ref r] (MS h r m a b c e f g i j (nI Wl.length) C W T) Q ↔ Q (some (.int (nI (cn Wl)))) (MS h r m a b c e f g i j (nI Wl.length) C W T) := by
  rw [e203, ← cnr_l Wl hW]
  simp only [s203_0, s203_1, s203_2, s203_3]
  exact l_nots hD Wl.length 0 (by omega)
end RYD
