/-! ===== 81: the reference's tape: words ===== -/
def modG (r : Nat) (m : Nat → Int32) (a b c e f g i j l : Int32) : List Value := [.ref (r + 1), .ref (r + 2), .ref (r + 3), .int (m 3), .ref (r + 4), .int (m 5), .int a, .int b, .int c, .int e, .int f, .int g, .ref (r + 5), .ref (r + 6), .ref (r + 7), .int i, .int j, .ref (r + 8), .int l, .ref (r + 9), .ref (r + 10), .ref (r + 11), .ref (r + 12), .ref (r + 13), .ref (r + 14), .ref (r + 15), .ref (r + 16), .ref (r + 17), .ref (r + 18), .ref (r + 19), .ref (r + 20), .int (m 31)]
def modM (m : Nat → Int32) (a b c e f g i j l : Int32) : Nat → Int32 := upd (upd (upd (upd (upd (upd (upd (upd (upd m 6 a) 7 b) 8 c) 9 e) 10 f) 11 g) 15 i) 16 j) 18 l
section MDG
variable {r d : Nat} {m : Nat → Int32} {a b c e f g i j l v x : Int32} {P : va_E → Prop} {h : xH} {Q : Option Value → xH → Prop} {e1 e2 e3 e4 e5 : va_E}
theorem modG_0 : modelF r m = modG r m (m 6) (m 7) (m 8) (m 9) (m 10) (m 11) (m 15) (m 16) (m 18) := rfl
theorem modG_1 : modG r m a b c e f g i j l = modelF r (modM m a b c e f g i j l) := rfl
theorem mg_0 : (modG r m a b c e f g i j l)[0]? = some (.ref (r + 1)) := rfl
theorem mg_4 : (modG r m a b c e f g i j l)[4]? = some (.ref (r + 4)) := rfl
theorem mg_5 : (modG r m a b c e f g i j l)[5]? = some (.int (m 5)) := rfl
theorem mg_6 : (modG r m a b c e f g i j l)[6]? = some (.int a) := rfl
theorem mg_7 : (modG r m a b c e f g i j l)[7]? = some (.int b) := rfl
theorem mg_8 : (modG r m a b c e f g i j l)[8]? = some (.int c) := rfl
theorem mg_9 : (modG r m a b c e f g i j l)[9]? = some (.int e) := rfl
theorem mg_10 : (modG r m a b c e f g i j l)[10]? = some (.int f) := rfl
theorem mg_11 : (modG r m a b c e f g i j l)[11]? = some (.int g) := rfl
theorem mg_12 : (modG r m a b c e f g i j l)[12]? = some (.ref (r + 5)) := rfl
theorem mg_13 : (modG r m a b c e f g i j l)[13]? = some (.ref (r + 6)) := rfl
theorem mg_14 : (modG r m a b c e f g i j l)[14]? = some (.ref (r + 7)) := rfl
theorem mg_15 : (modG r m a b c e f g i j l)[15]? = some (.int i) := rfl
theorem mg_16 : (modG r m a b c e f g i j l)[16]? = some (.int j) := rfl
theorem mg_17 : (modG r m a b c e f g i j l)[17]? = some (.ref (r + 8)) := rfl
theorem mg_18 : (modG r m a b c e f g i j l)[18]? = some (.int l) := rfl
theorem mg_19 : (modG r m a b c e f g i j l)[19]? = some (.ref (r + 9)) := rfl
theorem mp_6 : XP [12] 6 (.int v) (.inr (12, modG r m a b c e f g i j l)) P ↔ P (.inr (12, modG r m v b c e f g i j l)) := XP_1 (fs := modG r m a b c e f g i j l) (by show 6 < 32; decide)
theorem mp_7 : XP [12] 7 (.int v) (.inr (12, modG r m a b c e f g i j l)) P ↔ P (.inr (12, modG r m a v c e f g i j l)) := XP_1 (fs := modG r m a b c e f g i j l) (by show 7 < 32; decide)
theorem mp_8 : XP [12] 8 (.int v) (.inr (12, modG r m a b c e f g i j l)) P ↔ P (.inr (12, modG r m a b v e f g i j l)) := XP_1 (fs := modG r m a b c e f g i j l) (by show 8 < 32; decide)
theorem mp_9 : XP [12] 9 (.int v) (.inr (12, modG r m a b c e f g i j l)) P ↔ P (.inr (12, modG r m a b c v f g i j l)) := XP_1 (fs := modG r m a b c e f g i j l) (by show 9 < 32; decide)
theorem mp_10 : XP [12] 10 (.int v) (.inr (12, modG r m a b c e f g i j l)) P ↔ P (.inr (12, modG r m a b c e v g i j l)) := XP_1 (fs := modG r m a b c e f g i j l) (by show 10 < 32; decide)
theorem mp_11 : XP [12] 11 (.int v) (.inr (12, modG r m a b c e f g i j l)) P ↔ P (.inr (12, modG r m a b c e f v i j l)) := XP_1 (fs := modG r m a b c e f g i j l) (by show 11 < 32; decide)
theorem mp_15 : XP [12] 15 (.int v) (.inr (12, modG r m a b c e f g i j l)) P ↔ P (.inr (12, modG r m a b c e f g v j l)) := XP_1 (fs := modG r m a b c e f g i j l) (by show 15 < 32; decide)
theorem mp_16 : XP [12] 16 (.int v) (.inr (12, modG r m a b c e f g i j l)) P ↔ P (.inr (12, modG r m a b c e f g i v l)) := XP_1 (fs := modG r m a b c e f g i j l) (by show 16 < 32; decide)
theorem mp_18 : XP [12] 18 (.int v) (.inr (12, modG r m a b c e f g i j l)) P ↔ P (.inr (12, modG r m a b c e f g i j v)) := XP_1 (fs := modG r m a b c e f g i j l) (by show 18 < 32; decide)
abbrev MS (h : xH) (r : Nat) (m : Nat → Int32) (a b c e f g i j l : Int32) (C W T : Nat → Int32) : xH := xset (xset (xset (xset h (r + 7) (.inl (0, xis 96 C))) (r + 8) (.inl (0, xis 96 W))) (r + 9) (.inl (1, xis 10 T))) r (.inr (12, modG r m a b c e f g i j l))
theorem u_4 : (xset (xset (xset (xset h (r + 7) e1) (r + 8) e2) (r + 9) e3) r e4).2.2.1 (r + 4) = h.2.2.1 (r + 4) := by rw [xset_ne (by omega), xset_ne (by omega), xset_ne (by omega), xset_ne (by omega)]
theorem u_5 : (xset (xset (xset (xset h (r + 7) e1) (r + 8) e2) (r + 9) e3) r e4).2.2.1 (r + 5) = h.2.2.1 (r + 5) := by rw [xset_ne (by omega), xset_ne (by omega), xset_ne (by omega), xset_ne (by omega)]
theorem u_6 : (xset (xset (xset (xset h (r + 7) e1) (r + 8) e2) (r + 9) e3) r e4).2.2.1 (r + 6) = h.2.2.1 (r + 6) := by rw [xset_ne (by omega), xset_ne (by omega), xset_ne (by omega), xset_ne (by omega)]
theorem u_7 : (xset (xset (xset (xset h (r + 7) e1) (r + 8) e2) (r + 9) e3) r e4).2.2.1 (r + 7) = e1 := by rw [xset_ne (by omega), xset_ne (by omega), xset_ne (by omega), xset_self]
theorem u_8 : (xset (xset (xset (xset h (r + 7) e1) (r + 8) e2) (r + 9) e3) r e4).2.2.1 (r + 8) = e2 := by rw [xset_ne (by omega), xset_ne (by omega), xset_self]
theorem u_9 : (xset (xset (xset (xset h (r + 7) e1) (r + 8) e2) (r + 9) e3) r e4).2.2.1 (r + 9) = e3 := by rw [xset_ne (by omega), xset_self]
theorem u_w9 : xset (xset (xset (xset (xset h (r + 7) e1) (r + 8) e2) (r + 9) e3) r e4) (r + 9) e5 = xset (xset (xset (xset h (r + 7) e1) (r + 8) e2) (r + 9) e5) r e4 := xset_mid (by omega)
theorem u_w8 : xset (xset (xset (xset (xset h (r + 7) e1) (r + 8) e2) (r + 9) e3) r e4) (r + 8) e5 = xset (xset (xset (xset h (r + 7) e1) (r + 8) e5) (r + 9) e3) r e4 := by
  obtain ⟨h1, h2, h3, h4⟩ := h
  unfold xset
  dsimp only
  congr 3
  funext j
  by_cases ja : j = r + 8
  · subst ja
    rw [vau_at, vau_ne (by omega), vau_ne (by omega), vau_at]
  · rw [vau_ne ja]
    by_cases jb : j = r
    · subst jb; rw [vau_at, vau_at]
    · rw [vau_ne jb, vau_ne jb]
      by_cases jc : j = r + 9
      · subst jc; rw [vau_at, vau_at]
      · rw [vau_ne jc, vau_ne jc, vau_ne ja, vau_ne ja]
theorem u_w7 : xset (xset (xset (xset (xset h (r + 7) e1) (r + 8) e2) (r + 9) e3) r e4) (r + 7) e5 = xset (xset (xset (xset h (r + 7) e5) (r + 8) e2) (r + 9) e3) r e4 := by
  obtain ⟨h1, h2, h3, h4⟩ := h
  unfold xset
  dsimp only
  congr 3
  funext j
  by_cases ja : j = r + 7
  · subst ja
    rw [vau_at, vau_ne (by omega), vau_ne (by omega), vau_ne (by omega), vau_at]
  · rw [vau_ne ja]
    by_cases jb : j = r
    · subst jb; rw [vau_at, vau_at]
    · rw [vau_ne jb, vau_ne jb]
      by_cases jc : j = r + 9
      · subst jc; rw [vau_at, vau_at]
      · rw [vau_ne jc, vau_ne jc]
        by_cases jd : j = r + 8
        · subst jd; rw [vau_at, vau_at]
        · rw [vau_ne jd, vau_ne jd, vau_ne ja, vau_ne ja]
end MDG
theorem isL_c (v : Int32) : isL v = true ↔ ¬ v < 97 ∧ ¬ 122 < v := by
  unfold isL
  rw [Bool.and_eq_true, Bool.not_eq_true', decide_eq_false_iff_not, Bool.not_eq_true', decide_eq_false_iff_not]
theorem isD_c (v : Int32) : isD v = true ↔ ¬ v < 48 ∧ ¬ 57 < v := by
  unfold isD
  rw [Bool.and_eq_true, Bool.not_eq_true', decide_eq_false_iff_not, Bool.not_eq_true', decide_eq_false_iff_not]
section RTP
variable {r d z : Nat} {h : xH} {Q : Option Value → xH → Prop} {m y bb C W T : Nat → Int32} {a b c e f g i j l v x : Int32}
/-- the reference's tape -/
def RTa (h : xH) (r z : Nat) (m bb : Nat → Int32) : Prop := m 5 = nI z ∧ z ≤ 96 ∧ ∃ y, h.2.2.1 (r + 4) = .inl (0, xis 96 y) ∧ ∀ k, k < z → y k = bb k
theorem r_isL (R : RTa h r z m bb) {k : Nat} (hk : k ≤ z) : XC (d + 1) 193 [.ref r, .int (nI k)] (MS h r m a b c e f g i j l C W T) Q ↔ Q (some (.int (bI (decide (k < z) && isL (bb k))))) (MS h r m a b c e f g i j l C W T) := by
  obtain ⟨h5, hz, y, h4, hy⟩ := R
  rw [e193]
  by_cases c1 : k < z
  · have l1 : nI k < nI z := nI_lt c1 (by omega)
    rw [decide_eq_true c1, Bool.true_and]
    unfold isL
    by_cases c2 : bb k < 97
    · simp only [s193_0, s193_1, s193_2, s193_5, s193_8, s193_9, s193_12, s193_13, s193_14, s193_16, s193_19, s193_20, s193_23, s193_24, s193_25, s193_27, s193_30, s193_31, s193_34, s193_35, s193_35t, s193_35b, xset_self, mg_4, mg_5, u_4, h4, h5, l1, XA96 (show k < 96 by omega), hy k c1, c2, decide_true, Bool.not_true, Bool.false_and, XG_1, XO_some, XV_1, xo_n, xo_i8, xo_r8, xo_i7, xo_r7, xo_i6, xo_r6, xo_i5, xo_r5, xo_i4, xo_r4, xo_i3, xo_r3, xo_i2, xo_r2, Option.toList_some, Option.toList_none, List.cons_append, List.nil_append, bI_t, bI_f, bI_0, bI_n0, if_true, if_false, true_and, and_true, ne_eq, not_true_eq_false, not_false_eq_true, one_ne0, reduceCtorEq]
    · by_cases c3 : 122 < bb k
      · simp only [s193_0, s193_1, s193_2, s193_5, s193_8, s193_9, s193_12, s193_13, s193_14, s193_16, s193_19, s193_20, s193_23, s193_24, s193_25, s193_27, s193_30, s193_31, s193_34, s193_35, s193_35t, s193_35b, xset_self, mg_4, mg_5, u_4, h4, h5, l1, XA96 (show k < 96 by omega), hy k c1, c2, c3, decide_true, Bool.not_true, Bool.and_false, XG_1, XO_some, XV_1, xo_n, xo_i8, xo_r8, xo_i7, xo_r7, xo_i6, xo_r6, xo_i5, xo_r5, xo_i4, xo_r4, xo_i3, xo_r3, xo_i2, xo_r2, Option.toList_some, Option.toList_none, List.cons_append, List.nil_append, bI_t, bI_f, bI_0, bI_n0, if_true, if_false, true_and, and_true, ne_eq, not_true_eq_false, not_false_eq_true, one_ne0, reduceCtorEq]
      · simp only [s193_0, s193_1, s193_2, s193_5, s193_8, s193_9, s193_12, s193_13, s193_14, s193_16, s193_19, s193_20, s193_23, s193_24, s193_25, s193_27, s193_30, s193_31, s193_34, s193_35, s193_35t, s193_35b, xset_self, mg_4, mg_5, u_4, h4, h5, l1, XA96 (show k < 96 by omega), hy k c1, c2, c3, decide_false, Bool.not_false, Bool.and_self, XG_1, XO_some, XV_1, xo_n, xo_i8, xo_r8, xo_i7, xo_r7, xo_i6, xo_r6, xo_i5, xo_r5, xo_i4, xo_r4, xo_i3, xo_r3, xo_i2, xo_r2, Option.toList_some, Option.toList_none, List.cons_append, List.nil_append, bI_t, bI_f, bI_0, bI_n0, if_true, if_false, true_and, and_true, ne_eq, not_true_eq_false, not_false_eq_true, one_ne0, reduceCtorEq]
  · have l1 : ¬ nI k < nI z := nI_nlt (by omega) (by omega)
    rw [decide_eq_false c1, Bool.false_and]
    simp only [s193_0, s193_1, s193_2, s193_5, s193_8, s193_9, s193_12, s193_13, s193_14, s193_16, s193_19, s193_20, s193_23, s193_24, s193_25, s193_27, s193_30, s193_31, s193_34, s193_35, s193_35t, s193_35b, xset_self, mg_5, h5, l1, XG_1, XO_some, XV_1, xo_n, xo_i8, xo_r8, xo_i7, xo_r7, xo_i6, xo_r6, xo_i5, xo_r5, xo_i4, xo_r4, xo_i3, xo_r3, xo_i2, xo_r2, Option.toList_some, Option.toList_none, List.cons_append, List.nil_append, bI_t, bI_f, bI_0, bI_n0, if_true, if_false, true_and, and_true, ne_eq, not_true_eq_false, not_false_eq_true, one_ne0, reduceCtorEq]
theorem r_isD (R : RTa h r z m bb) {k : Nat} (hk : k ≤ z) : XC (d + 1) 194 [.ref r, .int (nI k)] (MS h r m a b c e f g i j l C W T) Q ↔ Q (some (.int (bI (decide (k < z) && isD (bb k))))) (MS h r m a b c e f g i j l C W T) := by
  obtain ⟨h5, hz, y, h4, hy⟩ := R
  rw [e194]
  by_cases c1 : k < z
  · have l1 : nI k < nI z := nI_lt c1 (by omega)
    rw [decide_eq_true c1, Bool.true_and]
    unfold isD
    by_cases c2 : bb k < 48
    · simp only [s194_0, s194_1, s194_2, s194_5, s194_8, s194_9, s194_12, s194_13, s194_14, s194_16, s194_19, s194_20, s194_23, s194_24, s194_25, s194_27, s194_30, s194_31, s194_34, s194_35, s194_35t, s194_35b, xset_self, mg_4, mg_5, u_4, h4, h5, l1, XA96 (show k < 96 by omega), hy k c1, c2, decide_true, Bool.not_true, Bool.false_and, XG_1, XO_some, XV_1, xo_n, xo_i8, xo_r8, xo_i7, xo_r7, xo_i6, xo_r6, xo_i5, xo_r5, xo_i4, xo_r4, xo_i3, xo_r3, xo_i2, xo_r2, Option.toList_some, Option.toList_none, List.cons_append, List.nil_append, bI_t, bI_f, bI_0, bI_n0, if_true, if_false, true_and, and_true, ne_eq, not_true_eq_false, not_false_eq_true, one_ne0, reduceCtorEq]
    · by_cases c3 : 57 < bb k
      · simp only [s194_0, s194_1, s194_2, s194_5, s194_8, s194_9, s194_12, s194_13, s194_14, s194_16, s194_19, s194_20, s194_23, s194_24, s194_25, s194_27, s194_30, s194_31, s194_34, s194_35, s194_35t, s194_35b, xset_self, mg_4, mg_5, u_4, h4, h5, l1, XA96 (show k < 96 by omega), hy k c1, c2, c3, decide_true, Bool.not_true, Bool.and_false, XG_1, XO_some, XV_1, xo_n, xo_i8, xo_r8, xo_i7, xo_r7, xo_i6, xo_r6, xo_i5, xo_r5, xo_i4, xo_r4, xo_i3, xo_r3, xo_i2, xo_r2, Option.toList_some, Option.toList_none, List.cons_append, List.nil_append, bI_t, bI_f, bI_0, bI_n0, if_true, if_false, true_and, and_true, ne_eq, not_true_eq_false, not_false_eq_true, one_ne0, reduceCtorEq]
      · simp only [s194_0, s194_1, s194_2, s194_5, s194_8, s194_9, s194_12, s194_13, s194_14, s194_16, s194_19, s194_20, s194_23, s194_24, s194_25, s194_27, s194_30, s194_31, s194_34, s194_35, s194_35t, s194_35b, xset_self, mg_4, mg_5, u_4, h4, h5, l1, XA96 (show k < 96 by omega), hy k c1, c2, c3, decide_false, Bool.not_false, Bool.and_self, XG_1, XO_some, XV_1, xo_n, xo_i8, xo_r8, xo_i7, xo_r7, xo_i6, xo_r6, xo_i5, xo_r5, xo_i4, xo_r4, xo_i3, xo_r3, xo_i2, xo_r2, Option.toList_some, Option.toList_none, List.cons_append, List.nil_append, bI_t, bI_f, bI_0, bI_n0, if_true, if_false, true_and, and_true, ne_eq, not_true_eq_false, not_false_eq_true, one_ne0, reduceCtorEq]
  · have l1 : ¬ nI k < nI z := nI_nlt (by omega) (by omega)
    rw [decide_eq_false c1, Bool.false_and]
    simp only [s194_0, s194_1, s194_2, s194_5, s194_8, s194_9, s194_12, s194_13, s194_14, s194_16, s194_19, s194_20, s194_23, s194_24, s194_25, s194_27, s194_30, s194_31, s194_34, s194_35, s194_35t, s194_35b, xset_self, mg_5, h5, l1, XG_1, XO_some, XV_1, xo_n, xo_i8, xo_r8, xo_i7, xo_r7, xo_i6, xo_r6, xo_i5, xo_r5, xo_i4, xo_r4, xo_i3, xo_r3, xo_i2, xo_r2, Option.toList_some, Option.toList_none, List.cons_append, List.nil_append, bI_t, bI_f, bI_0, bI_n0, if_true, if_false, true_and, and_true, ne_eq, not_true_eq_false, not_false_eq_true, one_ne0, reduceCtorEq]
theorem l_rskip (R : RTa h r z m bb) {c1 : Slot} : ∀ fu p, fu + p = z → (XE (d + 1) 195 0 [.val (.ref r), c1] [] (MS h r m (nI p) b c e f g i j l C W T) Q ↔ XE (d + 1) 195 38 [.val (.ref r), c1] [] (MS h r m (nI (skp bb z fu p)) b c e f g i j l C W T) Q) := by
  obtain ⟨h5, hz, y, h4, hy⟩ := R
  intro fu
  induction fu with
  | zero =>
    intro p hp
    have hlt : ¬ nI p < nI z := nI_nlt (by omega) (by omega)
    rw [s195_0]
    simp only [s195_1, s195_4, s195_5, s195_8, s195_11, s195_12, s195_15, s195_16, s195_19, s195_20, s195_22, s195_25, s195_26, s195_26r, s195_27, s195_30, s195_31, s195_32, s195_35, xset_self, mg_5, mg_6, h5, hlt, XG_1, XO_some, XV_1, xo_n, xo_i8, xo_r8, xo_i7, xo_r7, xo_i6, xo_r6, xo_i5, xo_r5, xo_i4, xo_r4, xo_i3, xo_r3, xo_i2, xo_r2, Option.toList_some, Option.toList_none, List.cons_append, List.nil_append, bI_t, bI_f, bI_0, bI_n0, if_true, if_false, true_and, and_true, ne_eq, not_true_eq_false, not_false_eq_true, one_ne0, reduceCtorEq]
    exact Iff.rfl
  | succ fu ih =>
    intro p hp
    have hp2 : p < z := by omega
    have hlt : nI p < nI z := nI_lt hp2 (by omega)
    rw [s195_0, show skp bb z (fu + 1) p = if p < z ∧ bb p = 32 then skp bb z fu (p + 1) else p from rfl]
    by_cases q : bb p = 32
    · rw [if_pos ⟨hp2, q⟩]
      simp only [s195_1, s195_4, s195_5, s195_8, s195_11, s195_12, s195_15, s195_16, s195_19, s195_20, s195_22, s195_25, s195_26, s195_26r, s195_27, s195_30, s195_31, s195_32, s195_35, xset_self, mg_4, mg_5, mg_6, h5, hlt, u_4, h4, XA96 (show p < 96 by omega), hy p hp2, q, mp_6, xset_twice, nI_1, XG_1, XO_some, XV_1, xo_n, xo_i8, xo_r8, xo_i7, xo_r7, xo_i6, xo_r6, xo_i5, xo_r5, xo_i4, xo_r4, xo_i3, xo_r3, xo_i2, xo_r2, Option.toList_some, Option.toList_none, List.cons_append, List.nil_append, bI_t, bI_f, bI_0, bI_n0, if_true, if_false, true_and, and_true, ne_eq, not_true_eq_false, not_false_eq_true, one_ne0, reduceCtorEq]
      exact ih (p + 1) (by omega)
    · rw [if_neg (fun w => q w.2)]
      simp only [s195_1, s195_4, s195_5, s195_8, s195_11, s195_12, s195_15, s195_16, s195_19, s195_20, s195_22, s195_25, s195_26, s195_26r, s195_27, s195_30, s195_31, s195_32, s195_35, xset_self, mg_4, mg_5, mg_6, h5, hlt, u_4, h4, XA96 (show p < 96 by omega), hy p hp2, q, XG_1, XO_some, XV_1, xo_n, xo_i8, xo_r8, xo_i7, xo_r7, xo_i6, xo_r6, xo_i5, xo_r5, xo_i4, xo_r4, xo_i3, xo_r3, xo_i2, xo_r2, Option.toList_some, Option.toList_none, List.cons_append, List.nil_append, bI_t, bI_f, bI_0, bI_n0, if_true, if_false, true_and, and_true, ne_eq, not_true_eq_false, not_false_eq_true, one_ne0, reduceCtorEq]
theorem l_rlet (R : RTa h r z m bb) {c1 : Slot} : ∀ fu p, fu + p = z → (XE (d + 1) 195 93 [.val (.ref r), c1] [] (MS h r m (nI p) b c e f g i j l C W T) Q ↔ XE (d + 1) 195 117 [.val (.ref r), c1] [] (MS h r m (nI (rn bb z 1 fu p)) b c e f g i j l C W T) Q) := by
  intro fu
  induction fu with
  | zero =>
    intro p hp
    have hd : (decide (p < z) && isL (bb p)) = false := by rw [decide_eq_false (by omega)]; rfl
    rw [s195_93]
    simp only [s195_94, s195_95, s195_98, s195_101, s195_104, s195_105, s195_105r, s195_106, s195_109, s195_110, s195_111, s195_114, xset_self, mg_6, r_isL R (show p ≤ z by omega), hd, XG_1, XO_some, XV_1, xo_n, xo_i8, xo_r8, xo_i7, xo_r7, xo_i6, xo_r6, xo_i5, xo_r5, xo_i4, xo_r4, xo_i3, xo_r3, xo_i2, xo_r2, Option.toList_some, Option.toList_none, List.cons_append, List.nil_append, bI_t, bI_f, bI_0, bI_n0, if_true, if_false, true_and, and_true, ne_eq, not_true_eq_false, not_false_eq_true, one_ne0, reduceCtorEq]
    exact Iff.rfl
  | succ fu ih =>
    intro p hp
    have hp2 : p < z := by omega
    rw [s195_93, show rn bb z 1 (fu + 1) p = if p < z ∧ so (bb p) = 1 then rn bb z 1 fu (p + 1) else p from rfl]
    cases q : isL (bb p) with
    | true =>
      have hd : (decide (p < z) && isL (bb p)) = true := by rw [decide_eq_true hp2, q]; rfl
      rw [if_pos ⟨hp2, so_1.mpr q⟩]
      simp only [s195_94, s195_95, s195_98, s195_101, s195_104, s195_105, s195_105r, s195_106, s195_109, s195_110, s195_111, s195_114, xset_self, mg_6, r_isL R (show p ≤ z by omega), hd, mp_6, xset_twice, nI_1, XG_1, XO_some, XV_1, xo_n, xo_i8, xo_r8, xo_i7, xo_r7, xo_i6, xo_r6, xo_i5, xo_r5, xo_i4, xo_r4, xo_i3, xo_r3, xo_i2, xo_r2, Option.toList_some, Option.toList_none, List.cons_append, List.nil_append, bI_t, bI_f, bI_0, bI_n0, if_true, if_false, true_and, and_true, ne_eq, not_true_eq_false, not_false_eq_true, one_ne0, reduceCtorEq, Bool.true_eq_false]
      exact ih (p + 1) (by omega)
    | false =>
      have hd : (decide (p < z) && isL (bb p)) = false := by rw [q, Bool.and_false]
      rw [if_neg (fun w => by rw [so_1.mp w.2] at q; cases q)]
      simp only [s195_94, s195_95, s195_98, s195_101, s195_104, s195_105, s195_105r, s195_106, s195_109, s195_110, s195_111, s195_114, xset_self, mg_6, r_isL R (show p ≤ z by omega), hd, XG_1, XO_some, XV_1, xo_n, xo_i8, xo_r8, xo_i7, xo_r7, xo_i6, xo_r6, xo_i5, xo_r5, xo_i4, xo_r4, xo_i3, xo_r3, xo_i2, xo_r2, Option.toList_some, Option.toList_none, List.cons_append, List.nil_append, bI_t, bI_f, bI_0, bI_n0, if_true, if_false, true_and, and_true, ne_eq, not_true_eq_false, not_false_eq_true, one_ne0, reduceCtorEq]
/-- figures: the number of the first four -/
def vl4 (bb : Nat → Int32) (fr k : Nat) : Int32 := nmb bb (if k - fr < 4 then k - fr else 4) fr 0
theorem nmb_s {bb : Nat → Int32} : ∀ cc k a, nmb bb (cc + 1) k a = 10 * nmb bb cc k a + bb (k + cc) - 48 := by
  intro cc
  induction cc with
  | zero => intro k a; rfl
  | succ cc ih =>
    intro k a
    show nmb bb (cc + 1) (k + 1) (10 * a + bb k - 48) = 10 * nmb bb cc (k + 1) (10 * a + bb k - 48) + bb (k + (cc + 1)) - 48
    rw [ih, show k + 1 + cc = k + (cc + 1) by omega]
theorem l_rfig (R : RTa h r z m bb) {fr : Nat} {c1 : Slot} : ∀ fu p, fu + p = z → fr ≤ p → (XE (d + 1) 195 170 [.val (.ref r), c1] [] (MS h r m (nI p) (nI fr) c (vl4 bb fr p) f g i j l C W T) Q ↔ XE (d + 1) 195 238 [.val (.ref r), c1] [] (MS h r m (nI (rn bb z 2 fu p)) (nI fr) c (vl4 bb fr (rn bb z 2 fu p)) f g i j l C W T) Q) := by
  have R0 := R
  obtain ⟨h5, hz, y, h4, hy⟩ := R
  intro fu
  induction fu with
  | zero =>
    intro p hp hf
    have hd : (decide (p < z) && isD (bb p)) = false := by rw [decide_eq_false (by omega)]; rfl
    rw [s195_170]
    simp only [s195_171, s195_172, s195_175, s195_178, s195_181, s195_182, s195_183, s195_186, s195_187, s195_190, s195_191, s195_192, s195_195, s195_197, s195_198, s195_201, s195_202, s195_203, s195_206, s195_207, s195_210, s195_211, s195_212, s195_214, s195_215, s195_218, s195_219, s195_222, s195_225, s195_226, s195_226r, s195_227, s195_230, s195_231, s195_232, s195_235, xset_self, mg_6, r_isD R0 (show p ≤ z by omega), hd, XG_1, XO_some, XV_1, xo_n, xo_i8, xo_r8, xo_i7, xo_r7, xo_i6, xo_r6, xo_i5, xo_r5, xo_i4, xo_r4, xo_i3, xo_r3, xo_i2, xo_r2, Option.toList_some, Option.toList_none, List.cons_append, List.nil_append, bI_t, bI_f, bI_0, bI_n0, if_true, if_false, true_and, and_true, ne_eq, not_true_eq_false, not_false_eq_true, one_ne0, reduceCtorEq]
    exact Iff.rfl
  | succ fu ih =>
    intro p hp hf
    have hp2 : p < z := by omega
    rw [s195_170, show rn bb z 2 (fu + 1) p = if p < z ∧ so (bb p) = 2 then rn bb z 2 fu (p + 1) else p from rfl]
    cases q : isD (bb p) with
    | true =>
      have hd : (decide (p < z) && isD (bb p)) = true := by rw [decide_eq_true hp2, q]; rfl
      have sb : nI p - nI fr = nI (p - fr) := pk_sub hf
      rw [if_pos ⟨hp2, so_2.mpr q⟩]
      have ih1 := ih (p + 1) (by omega) (by omega)
      by_cases c4 : p - fr < 4
      · have l4 : nI (p - fr) < 4 := nI_lt (b := 4) c4 (by decide)
        have ev : vl4 bb fr (p + 1) = 10 * vl4 bb fr p + bb p - 48 := by
          unfold vl4
          rw [if_pos c4]
          have e1 : (if p + 1 - fr < 4 then p + 1 - fr else 4) = (p - fr) + 1 := by
            by_cases w : p + 1 - fr < 4
            · rw [if_pos w]; omega
            · rw [if_neg w]; omega
          rw [e1, nmb_s, show fr + (p - fr) = p by omega]
        rw [ev] at ih1
        simp only [s195_171, s195_172, s195_175, s195_178, s195_181, s195_182, s195_183, s195_186, s195_187, s195_190, s195_191, s195_192, s195_195, s195_197, s195_198, s195_201, s195_202, s195_203, s195_206, s195_207, s195_210, s195_211, s195_212, s195_214, s195_215, s195_218, s195_219, s195_222, s195_225, s195_226, s195_226r, s195_227, s195_230, s195_231, s195_232, s195_235, xset_self, mg_4, mg_6, mg_7, mg_9, r_isD R0 (show p ≤ z by omega), hd, sb, l4, u_4, h4, XA96 (show p < 96 by omega), hy p hp2, mp_6, mp_9, xset_twice, nI_1, XG_1, XO_some, XV_1, xo_n, xo_i8, xo_r8, xo_i7, xo_r7, xo_i6, xo_r6, xo_i5, xo_r5, xo_i4, xo_r4, xo_i3, xo_r3, xo_i2, xo_r2, Option.toList_some, Option.toList_none, List.cons_append, List.nil_append, bI_t, bI_f, bI_0, bI_n0, if_true, if_false, true_and, and_true, ne_eq, not_true_eq_false, not_false_eq_true, one_ne0, reduceCtorEq, Bool.true_eq_false]
        exact ih1
      · have l4 : ¬ nI (p - fr) < 4 := nI_nlt (b := 4) (by omega) (by omega)
        have ev : vl4 bb fr (p + 1) = vl4 bb fr p := by
          unfold vl4
          rw [if_neg c4, if_neg (by omega)]
        rw [ev] at ih1
        simp only [s195_171, s195_172, s195_175, s195_178, s195_181, s195_182, s195_183, s195_186, s195_187, s195_190, s195_191, s195_192, s195_195, s195_197, s195_198, s195_201, s195_202, s195_203, s195_206, s195_207, s195_210, s195_211, s195_212, s195_214, s195_215, s195_218, s195_219, s195_222, s195_225, s195_226, s195_226r, s195_227, s195_230, s195_231, s195_232, s195_235, xset_self, mg_6, mg_7, mg_9, r_isD R0 (show p ≤ z by omega), hd, sb, l4, mp_6, mp_9, xset_twice, nI_1, XG_1, XO_some, XV_1, xo_n, xo_i8, xo_r8, xo_i7, xo_r7, xo_i6, xo_r6, xo_i5, xo_r5, xo_i4, xo_r4, xo_i3, xo_r3, xo_i2, xo_r2, Option.toList_some, Option.toList_none, List.cons_append, List.nil_append, bI_t, bI_f, bI_0, bI_n0, if_true, if_false, true_and, and_true, ne_eq, not_true_eq_false, not_false_eq_true, one_ne0, reduceCtorEq, Bool.true_eq_false]
        exact ih1
    | false =>
      have hd : (decide (p < z) && isD (bb p)) = false := by rw [q, Bool.and_false]
      rw [if_neg (fun w => by rw [so_2.mp w.2] at q; cases q)]
      simp only [s195_171, s195_172, s195_175, s195_178, s195_181, s195_182, s195_183, s195_186, s195_187, s195_190, s195_191, s195_192, s195_195, s195_197, s195_198, s195_201, s195_202, s195_203, s195_206, s195_207, s195_210, s195_211, s195_212, s195_214, s195_215, s195_218, s195_219, s195_222, s195_225, s195_226, s195_226r, s195_227, s195_230, s195_231, s195_232, s195_235, xset_self, mg_6, r_isD R0 (show p ≤ z by omega), hd, XG_1, XO_some, XV_1, xo_n, xo_i8, xo_r8, xo_i7, xo_r7, xo_i6, xo_r6, xo_i5, xo_r5, xo_i4, xo_r4, xo_i3, xo_r3, xo_i2, xo_r2, Option.toList_some, Option.toList_none, List.cons_append, List.nil_append, bI_t, bI_f, bI_0, bI_n0, if_true, if_false, true_and, and_true, ne_eq, not_true_eq_false, not_false_eq_true, one_ne0, reduceCtorEq]
/-- where the last word ended -/
def ENI (bb : Nat → Int32) (p : Nat) (en : Int32) : Prop := ∀ k, p ≤ k → k < 2 ^ 31 → (nI k = en ↔ (k = p ∧ cls bb p = true))
def tkv (bb : Nat → Int32) (z p : Nat) : Nat := if ts bb z p = 0 then 0 else if ts bb z p = 3 then 3 else if cls bb (tf bb z p) = true then 4 else if ts bb z p = 2 then (if 4 < tn bb z p - tf bb z p then 4 else 2) else 1
def vlv (bb : Nat → Int32) (z p : Nat) (e : Int32) : Int32 := if ts bb z p = 0 then e else if ts bb z p = 2 then vl4 bb (tf bb z p) (tn bb z p) else bb (tf bb z p)
def env (bb : Nat → Int32) (z p : Nat) (en : Int32) : Int32 := if ts bb z p = 0 ∨ ts bb z p = 3 then en else nI (tn bb z p)
theorem eni_cls {p : Nat} {en : Int32} (hp : p ≤ z) (hz : z ≤ 96) (E : ENI bb p en) : (nI (tf bb z p) = en ↔ cls bb (tf bb z p) = true) := by
  have h1 := tf_ge (b := bb) (z := z) (p := p)
  have h2 := tf_le (b := bb) hp
  rw [E (tf bb z p) h1 (by omega)]
  by_cases q : tf bb z p = p
  · rw [q]; exact ⟨fun w => w.2, fun w => ⟨rfl, w⟩⟩
  · refine ⟨fun w => absurd w.1 q, fun w => ?_⟩
    have := skp_32 (b := bb) (z := z) (z - p) p (by show p < tf bb z p; omega)
    unfold cls at w
    rw [show bb (tf bb z p - 1) = 32 from this, so_32] at w
    revert w
    rw [decide_eq_true (show (3 : Nat) = 3 from rfl), Bool.not_true, Bool.and_false]
    intro w; cases w
theorem eni_go {p : Nat} {en : Int32} (hp : p ≤ z) (hz : z ≤ 96) (E : ENI bb p en) (h0 : ¬ ts bb z p = 0) : ENI bb (tn bb z p) (env bb z p en) := by
  have h1 := tf_ge (b := bb) (z := z) (p := p)
  have h2 := tn_gt h0
  have h3 := tn_le (b := bb) hp
  unfold env
  by_cases c3 : ts bb z p = 3
  · rw [if_pos (Or.inr c3)]
    intro k hk hk2
    have sl := tn_in h0 (j := tn bb z p - 1) (by omega) (by omega)
    have cf : cls bb (tn bb z p) = false := by
      unfold cls
      rw [sl, c3, decide_eq_true (show (3 : Nat) = 3 from rfl), Bool.not_true, Bool.and_false]
    rw [E k (by omega) hk2, cf]
    exact ⟨fun w => by omega, fun w => by cases w.2⟩
  · rw [if_neg (fun q => by rcases q with q | q; exact h0 q; exact c3 q)]
    intro k hk hk2
    have sl := tn_in h0 (j := tn bb z p - 1) (by omega) (by omega)
    have cf : cls bb (tn bb z p) = true := by
      unfold cls
      rw [sl, decide_eq_false c3, decide_eq_true (show 0 < tn bb z p by omega)]; rfl
    rw [nI_eq hk2 (by omega), cf]
    exact ⟨fun w => ⟨w, rfl⟩, fun w => w.1⟩
theorem r_go {p : Nat} (R : RTa h r z m bb) (hp : p ≤ z) (E : ENI bb p f) : XC (d + 2) 195 [.ref r] (MS h r m (nI p) b c e f g i j l C W T) Q ↔ Q none (MS h r m (nI (tn bb z p)) (nI (tf bb z p)) (nI (tkv bb z p)) (vlv bb z p e) (env bb z p f) g i j l C W T) := by
  have R0 := R
  obtain ⟨h5, hz, y, h4, hy⟩ := R
  have hl := tf_le (b := bb) hp
  have hge := tf_ge (b := bb) (z := z) (p := p)
  have ec := eni_cls hp hz E
  rw [e195]
  refine (l_rskip R0 (z - p) p (by omega)).trans ?_
  rw [show skp bb z (z - p) p = tf bb z p from rfl]
  by_cases c0 : ts bb z p = 0
  · have e1 : tf bb z p = z := by have := ts_0.mp c0; omega
    have e2 : (nI (tf bb z p) = nI z) = True := eq_true (by rw [e1])
    unfold tkv vlv env tn
    rw [if_pos c0, if_pos c0, if_pos (Or.inl c0), if_neg (by omega)]
    by_cases q : nI (tf bb z p) = f
    · simp only [s195_38, s195_39, s195_40, s195_43, s195_46, s195_47, s195_50, s195_51, s195_54, s195_57, s195_58, s195_61, s195_62, s195_63, s195_64, s195_67, s195_68, s195_71, s195_74, s195_75, s195_76, s195_79, s195_303, xset_self, mg_5, mg_6, mg_7, mg_10, mp_7, mp_8, xset_twice, h5, e2, eq_true q, XG_1, XO_some, XV_1, xo_n, xo_i8, xo_r8, xo_i7, xo_r7, xo_i6, xo_r6, xo_i5, xo_r5, xo_i4, xo_r4, xo_i3, xo_r3, xo_i2, xo_r2, Option.toList_some, Option.toList_none, List.cons_append, List.nil_append, bI_t, bI_f, bI_0, bI_n0, if_true, if_false, true_and, and_true, ne_eq, not_true_eq_false, not_false_eq_true, one_ne0, reduceCtorEq]; exact Iff.rfl
    · simp only [s195_38, s195_39, s195_40, s195_43, s195_46, s195_47, s195_50, s195_51, s195_54, s195_57, s195_58, s195_61, s195_62, s195_63, s195_64, s195_67, s195_68, s195_71, s195_74, s195_75, s195_76, s195_79, s195_303, xset_self, mg_5, mg_6, mg_7, mg_10, mp_7, mp_8, xset_twice, h5, e2, q, XG_1, XO_some, XV_1, xo_n, xo_i8, xo_r8, xo_i7, xo_r7, xo_i6, xo_r6, xo_i5, xo_r5, xo_i4, xo_r4, xo_i3, xo_r3, xo_i2, xo_r2, Option.toList_some, Option.toList_none, List.cons_append, List.nil_append, bI_t, bI_f, bI_0, bI_n0, if_true, if_false, true_and, and_true, ne_eq, not_true_eq_false, not_false_eq_true, one_ne0, reduceCtorEq]; exact Iff.rfl
  obtain ⟨hf, hs⟩ := ts_n c0
  have e2 : (nI (tf bb z p) = nI z) = False := eq_false (fun q => by have := (nI_eq (by omega) (by omega)).mp q; omega)
  have hzz : (decide (tf bb z p < z)) = true := decide_eq_true hf
  have pre : ∀ {Q : Option Value → xH → Prop}, XE (d + 1) 195 38 [.val (.ref r), .unset] [] (MS h r m (nI (tf bb z p)) b c e f g i j l C W T) Q ↔ XE (d + 1) 195 82 [.val (.ref r), .val (.int (bI (cls bb (tf bb z p))))] [] (MS h r m (nI (tf bb z p)) (nI (tf bb z p)) c e f g i j l C W T) Q := fun {Q} => by
    by_cases q : nI (tf bb z p) = f
    · rw [ec.mp q]
      simp only [s195_38, s195_39, s195_40, s195_43, s195_46, s195_47, s195_50, s195_51, s195_54, s195_57, s195_58, s195_61, s195_62, s195_63, s195_64, s195_67, s195_68, s195_71, s195_74, s195_75, s195_76, s195_79, xset_self, mg_5, mg_6, mg_7, mg_10, mp_7, xset_twice, h5, e2, eq_true q, XG_1, XO_some, XV_1, xo_n, xo_i8, xo_r8, xo_i7, xo_r7, xo_i6, xo_r6, xo_i5, xo_r5, xo_i4, xo_r4, xo_i3, xo_r3, xo_i2, xo_r2, Option.toList_some, Option.toList_none, List.cons_append, List.nil_append, bI_t, bI_f, bI_0, bI_n0, if_true, if_false, true_and, and_true, ne_eq, not_true_eq_false, not_false_eq_true, one_ne0, reduceCtorEq]
    · have cf : cls bb (tf bb z p) = false := by
        cases w : cls bb (tf bb z p) with
        | false => rfl
        | true => exact absurd (ec.mpr w) q
      rw [cf]
      simp only [s195_38, s195_39, s195_40, s195_43, s195_46, s195_47, s195_50, s195_51, s195_54, s195_57, s195_58, s195_61, s195_62, s195_63, s195_64, s195_67, s195_68, s195_71, s195_74, s195_75, s195_76, s195_79, xset_self, mg_5, mg_6, mg_7, mg_10, mp_7, xset_twice, h5, e2, q, XG_1, XO_some, XV_1, xo_n, xo_i8, xo_r8, xo_i7, xo_r7, xo_i6, xo_r6, xo_i5, xo_r5, xo_i4, xo_r4, xo_i3, xo_r3, xo_i2, xo_r2, Option.toList_some, Option.toList_none, List.cons_append, List.nil_append, bI_t, bI_f, bI_0, bI_n0, if_true, if_false, true_and, and_true, ne_eq, not_true_eq_false, not_false_eq_true, one_ne0, reduceCtorEq]
  refine pre.trans ?_
  have ez : z - tf bb z p = (z - (tf bb z p + 1)) + 1 := by omega
  rcases so_v (bb (tf bb z p)) with s1 | s2 | s3
  · have t1 : ts bb z p = 1 := by rw [hs]; exact s1
    have hd : (decide (tf bb z p < z) && isL (bb (tf bb z p))) = true := by rw [hzz, so_1.mp s1]; rfl
    have rl := l_rlet (d := d) (Q := Q) R0 (b := nI (tf bb z p)) (c := c) (e := e) (f := f) (g := g) (i := i) (j := j) (l := l) (C := C) (W := W) (T := T) (c1 := .val (.int (bI (cls bb (tf bb z p))))) (z - tf bb z p) (tf bb z p) (by omega)
    have er : rn bb z 1 (z - tf bb z p) (tf bb z p) = tn bb z p := by
      unfold tn
      rw [if_pos hf, s1, if_neg (by decide), ez]
      show (if tf bb z p < z ∧ so (bb (tf bb z p)) = 1 then _ else _) = _
      rw [if_pos ⟨hf, s1⟩]
    rw [er] at rl
    simp only [s195_82, s195_83, s195_84, s195_87, s195_90, xset_self, mg_7, r_isL R0 hl, hd, XG_1, XO_some, XV_1, xo_n, xo_i8, xo_r8, xo_i7, xo_r7, xo_i6, xo_r6, xo_i5, xo_r5, xo_i4, xo_r4, xo_i3, xo_r3, xo_i2, xo_r2, Option.toList_some, Option.toList_none, List.cons_append, List.nil_append, bI_t, bI_f, bI_0, bI_n0, if_true, if_false, true_and, and_true, ne_eq, not_true_eq_false, not_false_eq_true, one_ne0, reduceCtorEq, Bool.true_eq_false]
    refine rl.trans ?_
    have k1 : tkv bb z p = if cls bb (tf bb z p) = true then 4 else 1 := by unfold tkv; rw [t1]; rfl
    have k2 : vlv bb z p e = bb (tf bb z p) := by unfold vlv; rw [t1]; rfl
    have k3 : env bb z p f = nI (tn bb z p) := by unfold env; rw [t1]; rfl
    rw [k1, k2, k3]
    cases q : cls bb (tf bb z p) with
    | true =>
      simp only [s195_117, s195_118, s195_119, s195_122, s195_123, s195_126, s195_127, s195_130, s195_131, s195_132, s195_135, s195_136, s195_139, s195_140, s195_143, s195_144, s195_145, s195_148, s195_151, s195_303, xset_self, mg_4, mg_6, mg_7, mp_8, mp_9, mp_10, xset_twice, u_4, h4, XA96 (show tf bb z p < 96 by omega), hy _ hf, XG_1, XO_some, XV_1, xo_n, xo_i8, xo_r8, xo_i7, xo_r7, xo_i6, xo_r6, xo_i5, xo_r5, xo_i4, xo_r4, xo_i3, xo_r3, xo_i2, xo_r2, Option.toList_some, Option.toList_none, List.cons_append, List.nil_append, bI_t, bI_f, bI_0, bI_n0, if_true, if_false, true_and, and_true, ne_eq, not_true_eq_false, not_false_eq_true, one_ne0, reduceCtorEq, Bool.true_eq_false]; exact Iff.rfl
    | false =>
      simp only [s195_117, s195_118, s195_119, s195_122, s195_123, s195_126, s195_127, s195_130, s195_131, s195_132, s195_135, s195_136, s195_139, s195_140, s195_143, s195_144, s195_145, s195_148, s195_151, s195_303, xset_self, mg_4, mg_6, mg_7, mp_8, mp_9, mp_10, xset_twice, u_4, h4, XA96 (show tf bb z p < 96 by omega), hy _ hf, XG_1, XO_some, XV_1, xo_n, xo_i8, xo_r8, xo_i7, xo_r7, xo_i6, xo_r6, xo_i5, xo_r5, xo_i4, xo_r4, xo_i3, xo_r3, xo_i2, xo_r2, Option.toList_some, Option.toList_none, List.cons_append, List.nil_append, bI_t, bI_f, bI_0, bI_n0, if_true, if_false, true_and, and_true, ne_eq, not_true_eq_false, not_false_eq_true, one_ne0, reduceCtorEq, Bool.false_eq_true]; exact Iff.rfl
  · have t1 : ts bb z p = 2 := by rw [hs]; exact s2
    have hdL : (decide (tf bb z p < z) && isL (bb (tf bb z p))) = false := by
      cases q : isL (bb (tf bb z p)) with
      | false => rw [Bool.and_false]
      | true => rw [so_1.mpr q] at s2; cases s2
    have hd : (decide (tf bb z p < z) && isD (bb (tf bb z p))) = true := by rw [hzz, so_2.mp s2]; rfl
    have rl := l_rfig (d := d) (Q := Q) R0 (fr := tf bb z p) (c := c) (f := f) (g := g) (i := i) (j := j) (l := l) (C := C) (W := W) (T := T) (c1 := .val (.int (bI (cls bb (tf bb z p))))) (z - tf bb z p) (tf bb z p) (by omega) (Nat.le_refl _)
    have er : rn bb z 2 (z - tf bb z p) (tf bb z p) = tn bb z p := by
      unfold tn
      rw [if_pos hf, s2, if_neg (by decide), ez]
      show (if tf bb z p < z ∧ so (bb (tf bb z p)) = 2 then _ else _) = _
      rw [if_pos ⟨hf, s2⟩]
    have v0 : vl4 bb (tf bb z p) (tf bb z p) = 0 := by unfold vl4; rw [Nat.sub_self]; rfl
    rw [er, v0] at rl
    have gt := tn_gt c0
    have ln := tn_le (b := bb) hp
    have sb : nI (tn bb z p) - nI (tf bb z p) = nI (tn bb z p - tf bb z p) := pk_sub (by omega)
    simp only [s195_82, s195_83, s195_84, s195_87, s195_90, s195_154, s195_155, s195_156, s195_159, s195_162, s195_165, s195_166, s195_167, xset_self, mg_7, r_isL R0 hl, r_isD R0 hl, hdL, hd, mp_9, xset_twice, XG_1, XO_some, XV_1, xo_n, xo_i8, xo_r8, xo_i7, xo_r7, xo_i6, xo_r6, xo_i5, xo_r5, xo_i4, xo_r4, xo_i3, xo_r3, xo_i2, xo_r2, Option.toList_some, Option.toList_none, List.cons_append, List.nil_append, bI_t, bI_f, bI_0, bI_n0, if_true, if_false, true_and, and_true, ne_eq, not_true_eq_false, not_false_eq_true, one_ne0, reduceCtorEq, Bool.true_eq_false]
    refine rl.trans ?_
    have k1 : tkv bb z p = if cls bb (tf bb z p) = true then 4 else (if 4 < tn bb z p - tf bb z p then 4 else 2) := by unfold tkv; rw [t1]; rfl
    have k2 : vlv bb z p e = vl4 bb (tf bb z p) (tn bb z p) := by unfold vlv; rw [t1]; rfl
    have k3 : env bb z p f = nI (tn bb z p) := by unfold env; rw [t1]; rfl
    rw [k1, k2, k3]
    cases q : cls bb (tf bb z p) with
    | true =>
      simp only [s195_238, s195_239, s195_240, s195_243, s195_244, s195_247, s195_248, s195_251, s195_252, s195_253, s195_256, s195_257, s195_260, s195_261, s195_264, s195_265, s195_266, s195_269, s195_272, s195_303, xset_self, mg_6, mg_7, mp_8, mp_10, xset_twice, one_ne0, XG_1, XO_some, XV_1, xo_n, xo_i8, xo_r8, xo_i7, xo_r7, xo_i6, xo_r6, xo_i5, xo_r5, xo_i4, xo_r4, xo_i3, xo_r3, xo_i2, xo_r2, Option.toList_some, Option.toList_none, List.cons_append, List.nil_append, bI_t, bI_f, bI_0, bI_n0, if_true, if_false, true_and, and_true, ne_eq, not_true_eq_false, not_false_eq_true, one_ne0, reduceCtorEq, Bool.true_eq_false]; exact Iff.rfl
    | false =>
      by_cases c4 : 4 < tn bb z p - tf bb z p
      · have l4 : (4 : Int32) < nI (tn bb z p - tf bb z p) := nI_lt (a := 4) c4 (by omega)
        simp only [s195_238, s195_239, s195_240, s195_243, s195_244, s195_247, s195_248, s195_251, s195_252, s195_253, s195_256, s195_257, s195_260, s195_261, s195_264, s195_265, s195_266, s195_269, s195_272, s195_303, xset_self, mg_6, mg_7, mp_8, mp_10, xset_twice, sb, l4, c4, XG_1, XO_some, XV_1, xo_n, xo_i8, xo_r8, xo_i7, xo_r7, xo_i6, xo_r6, xo_i5, xo_r5, xo_i4, xo_r4, xo_i3, xo_r3, xo_i2, xo_r2, Option.toList_some, Option.toList_none, List.cons_append, List.nil_append, bI_t, bI_f, bI_0, bI_n0, if_true, if_false, true_and, and_true, ne_eq, not_true_eq_false, not_false_eq_true, one_ne0, reduceCtorEq, Bool.false_eq_true]; exact Iff.rfl
      · have l4 : ¬ (4 : Int32) < nI (tn bb z p - tf bb z p) := nI_nlt (a := 4) (by omega) (by decide)
        simp only [s195_238, s195_239, s195_240, s195_243, s195_244, s195_247, s195_248, s195_251, s195_252, s195_253, s195_256, s195_257, s195_260, s195_261, s195_264, s195_265, s195_266, s195_269, s195_272, s195_303, xset_self, mg_6, mg_7, mp_8, mp_10, xset_twice, sb, l4, c4, XG_1, XO_some, XV_1, xo_n, xo_i8, xo_r8, xo_i7, xo_r7, xo_i6, xo_r6, xo_i5, xo_r5, xo_i4, xo_r4, xo_i3, xo_r3, xo_i2, xo_r2, Option.toList_some, Option.toList_none, List.cons_append, List.nil_append, bI_t, bI_f, bI_0, bI_n0, if_true, if_false, true_and, and_true, ne_eq, not_true_eq_false, not_false_eq_true, one_ne0, reduceCtorEq, Bool.false_eq_true]; exact Iff.rfl
  · have t1 : ts bb z p = 3 := by rw [hs]; exact s3
    have hdL : (decide (tf bb z p < z) && isL (bb (tf bb z p))) = false := by
      cases q : isL (bb (tf bb z p)) with
      | false => rw [Bool.and_false]
      | true => rw [so_1.mpr q] at s3; cases s3
    have hd : (decide (tf bb z p < z) && isD (bb (tf bb z p))) = false := by
      cases q : isD (bb (tf bb z p)) with
      | false => rw [Bool.and_false]
      | true => rw [so_2.mpr q] at s3; cases s3
    have er : tn bb z p = tf bb z p + 1 := by unfold tn; rw [if_pos hf, if_pos s3]
    unfold tkv vlv env
    rw [t1, if_neg (by decide), if_pos rfl, if_neg (by decide), if_neg (by decide), if_pos (Or.inr rfl), er]
    simp only [s195_82, s195_83, s195_84, s195_87, s195_90, s195_154, s195_155, s195_156, s195_159, s195_162, s195_275, s195_276, s195_277, s195_280, s195_281, s195_282, s195_285, s195_286, s195_289, s195_290, s195_293, s195_294, s195_294r, s195_295, s195_298, s195_299, s195_300, s195_303, xset_self, mg_4, mg_6, mg_7, r_isL R0 hl, r_isD R0 hl, hdL, hd, mp_6, mp_8, mp_9, xset_twice, u_4, h4, XA96 (show tf bb z p < 96 by omega), hy _ hf, nI_1, XG_1, XO_some, XV_1, xo_n, xo_i8, xo_r8, xo_i7, xo_r7, xo_i6, xo_r6, xo_i5, xo_r5, xo_i4, xo_r4, xo_i3, xo_r3, xo_i2, xo_r2, Option.toList_some, Option.toList_none, List.cons_append, List.nil_append, bI_t, bI_f, bI_0, bI_n0, if_true, if_false, true_and, and_true, ne_eq, not_true_eq_false, not_false_eq_true, one_ne0, reduceCtorEq]
    exact Iff.rfl
end RTP
