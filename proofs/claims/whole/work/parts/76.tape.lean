/-! ===== 76: the class's tape: words ===== -/
def tapG (B : Nat) (z f t s k m u c o n w : Int32) : List Value := [.int z, .ref (B + 28), .int f, .int t, .int s, .int k, .int m, .ref (B + 29), .int u, .ref (B + 30), .int c, .int o, .int n, .int w]
section TAP
variable {B d : Nat} {h : xH} {Q : Option Value → xH → Prop} {z f t s k m u c o n w v x : Int32} {C O y : Nat → Int32} {e1 e2 e3 e4 : va_E} {P : va_E → Prop}
theorem tg_0 : (tapG B z f t s k m u c o n w)[0]? = some (.int z) := rfl
theorem tg_1 : (tapG B z f t s k m u c o n w)[1]? = some (.ref (B + 28)) := rfl
theorem tg_2 : (tapG B z f t s k m u c o n w)[2]? = some (.int f) := rfl
theorem tg_3 : (tapG B z f t s k m u c o n w)[3]? = some (.int t) := rfl
theorem tg_4 : (tapG B z f t s k m u c o n w)[4]? = some (.int s) := rfl
theorem tg_5 : (tapG B z f t s k m u c o n w)[5]? = some (.int k) := rfl
theorem tg_6 : (tapG B z f t s k m u c o n w)[6]? = some (.int m) := rfl
theorem tg_7 : (tapG B z f t s k m u c o n w)[7]? = some (.ref (B + 29)) := rfl
theorem tg_8 : (tapG B z f t s k m u c o n w)[8]? = some (.int u) := rfl
theorem tg_9 : (tapG B z f t s k m u c o n w)[9]? = some (.ref (B + 30)) := rfl
theorem tg_10 : (tapG B z f t s k m u c o n w)[10]? = some (.int c) := rfl
theorem tg_11 : (tapG B z f t s k m u c o n w)[11]? = some (.int o) := rfl
theorem tg_12 : (tapG B z f t s k m u c o n w)[12]? = some (.int n) := rfl
theorem tg_13 : (tapG B z f t s k m u c o n w)[13]? = some (.int w) := rfl
theorem tp_0 : XP [7] 0 (.int v) (.inr (7, tapG B z f t s k m u c o n w)) P ↔ P (.inr (7, tapG B v f t s k m u c o n w)) := XP_1 (fs := tapG B z f t s k m u c o n w) (by show 0 < 14; decide)
theorem tp_2 : XP [7] 2 (.int v) (.inr (7, tapG B z f t s k m u c o n w)) P ↔ P (.inr (7, tapG B z v t s k m u c o n w)) := XP_1 (fs := tapG B z f t s k m u c o n w) (by show 2 < 14; decide)
theorem tp_3 : XP [7] 3 (.int v) (.inr (7, tapG B z f t s k m u c o n w)) P ↔ P (.inr (7, tapG B z f v s k m u c o n w)) := XP_1 (fs := tapG B z f t s k m u c o n w) (by show 3 < 14; decide)
theorem tp_4 : XP [7] 4 (.int v) (.inr (7, tapG B z f t s k m u c o n w)) P ↔ P (.inr (7, tapG B z f t v k m u c o n w)) := XP_1 (fs := tapG B z f t s k m u c o n w) (by show 4 < 14; decide)
theorem tp_5 : XP [7] 5 (.int v) (.inr (7, tapG B z f t s k m u c o n w)) P ↔ P (.inr (7, tapG B z f t s v m u c o n w)) := XP_1 (fs := tapG B z f t s k m u c o n w) (by show 5 < 14; decide)
theorem tp_6 : XP [7] 6 (.int v) (.inr (7, tapG B z f t s k m u c o n w)) P ↔ P (.inr (7, tapG B z f t s k v u c o n w)) := XP_1 (fs := tapG B z f t s k m u c o n w) (by show 6 < 14; decide)
theorem tp_8 : XP [7] 8 (.int v) (.inr (7, tapG B z f t s k m u c o n w)) P ↔ P (.inr (7, tapG B z f t s k m v c o n w)) := XP_1 (fs := tapG B z f t s k m u c o n w) (by show 8 < 14; decide)
theorem tp_10 : XP [7] 10 (.int v) (.inr (7, tapG B z f t s k m u c o n w)) P ↔ P (.inr (7, tapG B z f t s k m u v o n w)) := XP_1 (fs := tapG B z f t s k m u c o n w) (by show 10 < 14; decide)
theorem tp_11 : XP [7] 11 (.int v) (.inr (7, tapG B z f t s k m u c o n w)) P ↔ P (.inr (7, tapG B z f t s k m u c v n w)) := XP_1 (fs := tapG B z f t s k m u c o n w) (by show 11 < 14; decide)
theorem tp_12 : XP [7] 12 (.int v) (.inr (7, tapG B z f t s k m u c o n w)) P ↔ P (.inr (7, tapG B z f t s k m u c o v w)) := XP_1 (fs := tapG B z f t s k m u c o n w) (by show 12 < 14; decide)
theorem tp_13 : XP [7] 13 (.int v) (.inr (7, tapG B z f t s k m u c o n w)) P ↔ P (.inr (7, tapG B z f t s k m u c o n v)) := XP_1 (fs := tapG B z f t s k m u c o n w) (by show 13 < 14; decide)
abbrev TS (h : xH) (B : Nat) (z f t s k m u c o n w : Int32) (C O : Nat → Int32) : xH := xset (xset (xset h (B + 29) (.inl (0, xis 96 C))) (B + 30) (.inl (0, xis 96 O))) (B + 27) (.inr (7, tapG B z f t s k m u c o n w))
theorem t_28 : (xset (xset (xset h (B + 29) e1) (B + 30) e2) (B + 27) e3).2.2.1 (B + 28) = h.2.2.1 (B + 28) := by rw [xset_ne (by omega), xset_ne (by omega), xset_ne (by omega)]
theorem t_29 : (xset (xset (xset h (B + 29) e1) (B + 30) e2) (B + 27) e3).2.2.1 (B + 29) = e1 := by rw [xset_ne (by omega), xset_ne (by omega), xset_self]
theorem t_30 : (xset (xset (xset h (B + 29) e1) (B + 30) e2) (B + 27) e3).2.2.1 (B + 30) = e2 := by rw [xset_ne (by omega), xset_self]
theorem t_w30 : xset (xset (xset (xset h (B + 29) e1) (B + 30) e2) (B + 27) e3) (B + 30) e4 = xset (xset (xset h (B + 29) e1) (B + 30) e4) (B + 27) e3 := xset_mid (by omega)
theorem t_w29 : xset (xset (xset (xset h (B + 29) e1) (B + 30) e2) (B + 27) e3) (B + 29) e4 = xset (xset (xset h (B + 29) e4) (B + 30) e2) (B + 27) e3 := by
  obtain ⟨h1, h2, h3, h4⟩ := h
  unfold xset
  dsimp only
  congr 3
  funext j
  by_cases ja : j = B + 29
  · subst ja
    rw [vau_at, vau_ne (by omega), vau_ne (by omega), vau_at]
  · rw [vau_ne ja]
    by_cases jb : j = B + 27
    · subst jb; rw [vau_at, vau_at]
    · rw [vau_ne jb, vau_ne jb]
      by_cases jc : j = B + 30
      · subst jc; rw [vau_at, vau_at]
      · rw [vau_ne jc, vau_ne jc, vau_ne ja, vau_ne ja]
theorem t_S {adK adV : Nat → Nat} (S : STH h adK adV) (ha : ∀ i, i < 6 → adV i < B) : STH (TS h B z f t s k m u c o n w C O) adK adV := by
  obtain ⟨s1, s2, s3⟩ := S
  refine ⟨s1, s2, fun i hi => ?_⟩
  obtain ⟨a1, a2, a3, a4, a5⟩ := s3 i hi
  have := ha i hi
  exact ⟨a1, a2, a3, a4, by rw [xset_ne (by omega), xset_ne (by omega), xset_ne (by omega)]; exact a5⟩
theorem c_byteAt {z k : Nat} {h : xH} {C O y : Nat → Int32} {f t s k2 m u c o n w : Int32} (hb : h.2.2.1 (B + 28) = .inl (0, xis 96 y)) (hz : z ≤ 96) (hk : k < z) : XC (d + 1) 24 [.ref (B + 27), .int (nI k)] (TS h B (nI z) f t s k2 m u c o n w C O) Q ↔ Q (some (.int (y k))) (TS h B (nI z) f t s k2 m u c o n w C O) := by
  have l0 : ¬ nI k < 0 := nI_nlt (b := 0) (by omega) (by omega)
  have l1 : nI k < nI z := nI_lt hk (by omega)
  have l2 : nI k < 96 := nI_lt (b := 96) (by omega) (by decide)
  rw [e24]
  simp only [s24_0, s24_1, s24_4, s24_5, s24_6, s24_9, s24_12, s24_13, s24_15, s24_18, s24_19, s24_22, s24_23, s24_24, s24_27, s24_28, xset_self, tg_0, tg_1, t_28, hb, l0, l1, l2, XA96 (show k < 96 by omega), XG_1, XO_some, XV_1, xo_n, xo_i8, xo_r8, xo_i7, xo_r7, xo_i6, xo_r6, xo_i5, xo_r5, xo_i4, xo_r4, xo_i3, xo_r3, xo_i2, xo_r2, Option.toList_some, Option.toList_none, List.cons_append, List.nil_append, bI_t, bI_f, bI_0, bI_n0, if_true, if_false, true_and, and_true, ne_eq, not_true_eq_false, not_false_eq_true, one_ne0, reduceCtorEq]
theorem c_sortOf : XC (d + 1) 25 [.int v] h Q ↔ Q (some (.int (nI (so v)))) h := by
  rw [e25]
  unfold so isL isD
  by_cases l1 : v < 97
  · have l2 : decide (v < 97) = true := decide_eq_true l1
    rw [l2]
    by_cases l3 : v < 48
    · simp only [s25_0, s25_1, s25_3, s25_6, s25_7, s25_9, s25_12, s25_13, s25_14, s25_15, s25_17, s25_20, s25_21, s25_23, s25_26, s25_27, s25_30, s25_31, l1, l3, decide_true, Bool.not_true, Bool.false_and, Bool.false_eq_true, XG_1, XO_some, XV_1, xo_n, xo_i8, xo_r8, xo_i7, xo_r7, xo_i6, xo_r6, xo_i5, xo_r5, xo_i4, xo_r4, xo_i3, xo_r3, xo_i2, xo_r2, Option.toList_some, Option.toList_none, List.cons_append, List.nil_append, bI_t, bI_f, bI_0, bI_n0, if_true, if_false, true_and, and_true, ne_eq, not_true_eq_false, not_false_eq_true, one_ne0, reduceCtorEq]; exact Iff.rfl
    · by_cases l4 : 57 < v
      · simp only [s25_0, s25_1, s25_3, s25_6, s25_7, s25_9, s25_12, s25_13, s25_14, s25_15, s25_17, s25_20, s25_21, s25_23, s25_26, s25_27, s25_30, s25_31, l1, l3, l4, decide_true, decide_false, Bool.not_true, Bool.not_false, Bool.false_and, Bool.true_and, Bool.false_eq_true, XG_1, XO_some, XV_1, xo_n, xo_i8, xo_r8, xo_i7, xo_r7, xo_i6, xo_r6, xo_i5, xo_r5, xo_i4, xo_r4, xo_i3, xo_r3, xo_i2, xo_r2, Option.toList_some, Option.toList_none, List.cons_append, List.nil_append, bI_t, bI_f, bI_0, bI_n0, if_true, if_false, true_and, and_true, ne_eq, not_true_eq_false, not_false_eq_true, one_ne0, reduceCtorEq]; exact Iff.rfl
      · simp only [s25_0, s25_1, s25_3, s25_6, s25_7, s25_9, s25_12, s25_13, s25_14, s25_15, s25_17, s25_20, s25_21, s25_23, s25_26, s25_27, s25_30, s25_31, l1, l3, l4, decide_false, Bool.not_true, Bool.not_false, Bool.false_and, Bool.true_and, Bool.false_eq_true, XG_1, XO_some, XV_1, xo_n, xo_i8, xo_r8, xo_i7, xo_r7, xo_i6, xo_r6, xo_i5, xo_r5, xo_i4, xo_r4, xo_i3, xo_r3, xo_i2, xo_r2, Option.toList_some, Option.toList_none, List.cons_append, List.nil_append, bI_t, bI_f, bI_0, bI_n0, if_true, if_false, true_and, and_true, ne_eq, not_true_eq_false, not_false_eq_true, one_ne0, reduceCtorEq]; exact Iff.rfl
  · by_cases l2 : 122 < v
    · have l5 : (57 : Int32) < v := by
        rw [Int32.lt_iff_toInt_lt, show (122 : Int32).toInt = 122 from rfl] at l2
        rw [Int32.lt_iff_toInt_lt, show (57 : Int32).toInt = 57 from rfl]; omega
      have l3 : ¬ v < 48 := by
        rw [Int32.lt_iff_toInt_lt, show (57 : Int32).toInt = 57 from rfl] at l5
        rw [Int32.lt_iff_toInt_lt, show (48 : Int32).toInt = 48 from rfl]; omega
      simp only [s25_0, s25_1, s25_3, s25_6, s25_7, s25_9, s25_12, s25_13, s25_14, s25_15, s25_17, s25_20, s25_21, s25_23, s25_26, s25_27, s25_30, s25_31, l1, l2, l3, l5, decide_true, decide_false, Bool.not_true, Bool.not_false, Bool.and_false, Bool.false_eq_true, XG_1, XO_some, XV_1, xo_n, xo_i8, xo_r8, xo_i7, xo_r7, xo_i6, xo_r6, xo_i5, xo_r5, xo_i4, xo_r4, xo_i3, xo_r3, xo_i2, xo_r2, Option.toList_some, Option.toList_none, List.cons_append, List.nil_append, bI_t, bI_f, bI_0, bI_n0, if_true, if_false, true_and, and_true, ne_eq, not_true_eq_false, not_false_eq_true, one_ne0, reduceCtorEq]; exact Iff.rfl
    · simp only [s25_0, s25_1, s25_3, s25_6, s25_7, s25_9, s25_12, s25_13, s25_14, s25_15, s25_17, s25_20, s25_21, s25_23, s25_26, s25_27, s25_30, s25_31, l1, l2, decide_false, Bool.not_false, Bool.and_self, XG_1, XO_some, XV_1, xo_n, xo_i8, xo_r8, xo_i7, xo_r7, xo_i6, xo_r6, xo_i5, xo_r5, xo_i4, xo_r4, xo_i3, xo_r3, xo_i2, xo_r2, Option.toList_some, Option.toList_none, List.cons_append, List.nil_append, bI_t, bI_f, bI_0, bI_n0, if_true, if_false, true_and, and_true, ne_eq, not_true_eq_false, not_false_eq_true, one_ne0, reduceCtorEq]; exact Iff.rfl
theorem so_n (v : Int32) : so v < 4 := by rcases so_v v with q | q | q <;> rw [q] <;> decide
end TAP
section TAP2
variable {B d : Nat} {h : xH} {Q : Option Value → xH → Prop} {f t s k m u c o n w v x : Int32} {C O y : Nat → Int32} {z : Nat}
theorem l_skip (hb : h.2.2.1 (B + 28) = .inl (0, xis 96 y)) (hz : z ≤ 96) : ∀ fu p, fu + p = z → (XE (d + 1) 26 8 [.val (.ref (B + 27))] [] (TS h B (nI z) (nI p) t s k m u c o n w C O) Q ↔ XE (d + 1) 26 45 [.val (.ref (B + 27))] [] (TS h B (nI z) (nI (skp y z fu p)) t s k m u c o n w C O) Q) := by
  intro fu
  induction fu with
  | zero =>
    intro p hp
    have hlt : ¬ nI p < nI z := nI_nlt (by omega) (by omega)
    rw [s26_8]
    simp only [s26_9, s26_12, s26_13, s26_16, s26_19, s26_20, s26_21, s26_24, s26_27, s26_29, s26_32, s26_33, s26_33r, s26_34, s26_37, s26_38, s26_39, s26_42, xset_self, tg_0, tg_2, hlt, XG_1, XO_some, XV_1, xo_n, xo_i8, xo_r8, xo_i7, xo_r7, xo_i6, xo_r6, xo_i5, xo_r5, xo_i4, xo_r4, xo_i3, xo_r3, xo_i2, xo_r2, Option.toList_some, Option.toList_none, List.cons_append, List.nil_append, bI_t, bI_f, bI_0, bI_n0, if_true, if_false, true_and, and_true, ne_eq, not_true_eq_false, not_false_eq_true, one_ne0, reduceCtorEq]
    exact Iff.rfl
  | succ fu ih =>
    intro p hp
    have hp2 : p < z := by omega
    have hlt : nI p < nI z := nI_lt hp2 (by omega)
    rw [s26_8, show skp y z (fu + 1) p = if p < z ∧ y p = 32 then skp y z fu (p + 1) else p from rfl]
    by_cases e : y p = 32
    · simp only [s26_9, s26_12, s26_13, s26_16, s26_19, s26_20, s26_21, s26_24, s26_27, s26_29, s26_32, s26_33, s26_33r, s26_34, s26_37, s26_38, s26_39, s26_42, xset_self, tg_0, tg_2, hlt, c_byteAt hb hz hp2, tp_2, xset_twice, hp2, e, nI_1, XG_1, XO_some, XV_1, xo_n, xo_i8, xo_r8, xo_i7, xo_r7, xo_i6, xo_r6, xo_i5, xo_r5, xo_i4, xo_r4, xo_i3, xo_r3, xo_i2, xo_r2, Option.toList_some, Option.toList_none, List.cons_append, List.nil_append, bI_t, bI_f, bI_0, bI_n0, if_true, if_false, true_and, and_true, ne_eq, not_true_eq_false, not_false_eq_true, one_ne0, reduceCtorEq, and_self]
      exact ih (p + 1) (by omega)
    · simp only [s26_9, s26_12, s26_13, s26_16, s26_19, s26_20, s26_21, s26_24, s26_27, s26_29, s26_32, s26_33, s26_33r, s26_34, s26_37, s26_38, s26_39, s26_42, xset_self, tg_0, tg_2, hlt, c_byteAt hb hz hp2, e, XG_1, XO_some, XV_1, xo_n, xo_i8, xo_r8, xo_i7, xo_r7, xo_i6, xo_r6, xo_i5, xo_r5, xo_i4, xo_r4, xo_i3, xo_r3, xo_i2, xo_r2, Option.toList_some, Option.toList_none, List.cons_append, List.nil_append, bI_t, bI_f, bI_0, bI_n0, if_true, if_false, true_and, and_true, ne_eq, not_true_eq_false, not_false_eq_true, one_ne0, reduceCtorEq, and_false]
theorem l_run {s0 : Nat} (hs : s0 < 4) (hb : h.2.2.1 (B + 28) = .inl (0, xis 96 y)) (hz : z ≤ 96) : ∀ fu p, fu + p = z → (XE (d + 1) 26 95 [.val (.ref (B + 27))] [] (TS h B (nI z) f (nI p) (nI s0) k m u c o n w C O) Q ↔ Q none (TS h B (nI z) f (nI (if s0 = 3 then p else rn y z s0 fu p)) (nI s0) k m u c o n w C O)) := by
  have e3 : (nI s0 = 3) = (s0 = 3) := propext (nI_eq (b := 3) (by omega) (by decide))
  intro fu
  by_cases c3 : s0 = 3
  · intro p hp
    have e3t : (nI s0 = 3) = True := eq_true (by rw [c3]; rfl)
    rw [s26_95, if_pos c3]
    simp only [s26_96, s26_99, s26_100, s26_103, s26_104, s26_107, s26_108, s26_111, s26_114, s26_115, s26_116, s26_119, s26_122, s26_125, s26_126, s26_129, s26_132, s26_133, s26_133r, s26_134, s26_137, s26_138, s26_139, s26_142, s26_145, xset_self, tg_4, e3t, XG_1, XO_some, XV_1, xo_n, xo_i8, xo_r8, xo_i7, xo_r7, xo_i6, xo_r6, xo_i5, xo_r5, xo_i4, xo_r4, xo_i3, xo_r3, xo_i2, xo_r2, Option.toList_some, Option.toList_none, List.cons_append, List.nil_append, bI_t, bI_f, bI_0, bI_n0, if_true, if_false, true_and, and_true, ne_eq, not_true_eq_false, not_false_eq_true, one_ne0, reduceCtorEq]
  induction fu with
  | zero =>
    intro p hp
    have hlt : ¬ nI p < nI z := nI_nlt (by omega) (by omega)
    rw [s26_95]
    simp only [s26_96, s26_99, s26_100, s26_103, s26_104, s26_107, s26_108, s26_111, s26_114, s26_115, s26_116, s26_119, s26_122, s26_125, s26_126, s26_129, s26_132, s26_133, s26_133r, s26_134, s26_137, s26_138, s26_139, s26_142, s26_145, xset_self, tg_0, tg_3, tg_4, e3, c3, hlt, XG_1, XO_some, XV_1, xo_n, xo_i8, xo_r8, xo_i7, xo_r7, xo_i6, xo_r6, xo_i5, xo_r5, xo_i4, xo_r4, xo_i3, xo_r3, xo_i2, xo_r2, Option.toList_some, Option.toList_none, List.cons_append, List.nil_append, bI_t, bI_f, bI_0, bI_n0, if_true, if_false, true_and, and_true, ne_eq, not_true_eq_false, not_false_eq_true, one_ne0, reduceCtorEq]
    exact Iff.rfl
  | succ fu ih =>
    intro p hp
    have hp2 : p < z := by omega
    have hlt : nI p < nI z := nI_lt hp2 (by omega)
    have eS : (nI (so (y p)) = nI s0) = (so (y p) = s0) := propext (nI_eq (by have := so_n (y p); omega) (by omega))
    have ih1 := ih (p + 1) (by omega)
    rw [if_neg c3] at ih1
    rw [s26_95, if_neg c3, show rn y z s0 (fu + 1) p = if p < z ∧ so (y p) = s0 then rn y z s0 fu (p + 1) else p from rfl]
    by_cases e : so (y p) = s0
    · rw [if_pos ⟨hp2, e⟩]
      simp only [s26_96, s26_99, s26_100, s26_103, s26_104, s26_107, s26_108, s26_111, s26_114, s26_115, s26_116, s26_119, s26_122, s26_125, s26_126, s26_129, s26_132, s26_133, s26_133r, s26_134, s26_137, s26_138, s26_139, s26_142, s26_145, xset_self, tg_0, tg_3, tg_4, e3, c3, hlt, c_byteAt hb hz hp2, c_sortOf, eS, e, tp_3, xset_twice, nI_1, XG_1, XO_some, XV_1, xo_n, xo_i8, xo_r8, xo_i7, xo_r7, xo_i6, xo_r6, xo_i5, xo_r5, xo_i4, xo_r4, xo_i3, xo_r3, xo_i2, xo_r2, Option.toList_some, Option.toList_none, List.cons_append, List.nil_append, bI_t, bI_f, bI_0, bI_n0, if_true, if_false, true_and, and_true, ne_eq, not_true_eq_false, not_false_eq_true, one_ne0, reduceCtorEq]
      exact ih1
    · rw [if_neg (fun q => e q.2)]
      simp only [s26_96, s26_99, s26_100, s26_103, s26_104, s26_107, s26_108, s26_111, s26_114, s26_115, s26_116, s26_119, s26_122, s26_125, s26_126, s26_129, s26_132, s26_133, s26_133r, s26_134, s26_137, s26_138, s26_139, s26_142, s26_145, xset_self, tg_0, tg_3, tg_4, e3, c3, hlt, c_byteAt hb hz hp2, c_sortOf, eS, e, XG_1, XO_some, XV_1, xo_n, xo_i8, xo_r8, xo_i7, xo_r7, xo_i6, xo_r6, xo_i5, xo_r5, xo_i4, xo_r4, xo_i3, xo_r3, xo_i2, xo_r2, Option.toList_some, Option.toList_none, List.cons_append, List.nil_append, bI_t, bI_f, bI_0, bI_n0, if_true, if_false, true_and, and_true, ne_eq, not_true_eq_false, not_false_eq_true, one_ne0, reduceCtorEq]
theorem c_step {p : Nat} (hb : h.2.2.1 (B + 28) = .inl (0, xis 96 y)) (hz : z ≤ 96) (hp : p ≤ z) : XC (d + 2) 26 [.ref (B + 27)] (TS h B (nI z) f (nI p) s k m u c o n w C O) Q ↔ Q none (TS h B (nI z) (nI (tf y z p)) (nI (tn y z p)) (nI (ts y z p)) k m u c o n w C O) := by
  rw [e26]
  simp only [s26_0, s26_1, s26_2, s26_5, xset_self, tg_3, tp_2, xset_twice, XG_1, XO_some, XV_1, xo_n, xo_i8, xo_r8, xo_i7, xo_r7, xo_i6, xo_r6, xo_i5, xo_r5, xo_i4, xo_r4, xo_i3, xo_r3, xo_i2, xo_r2, Option.toList_some, Option.toList_none, List.cons_append, List.nil_append, bI_t, bI_f, bI_0, bI_n0, if_true, if_false, true_and, and_true, ne_eq, not_true_eq_false, not_false_eq_true, one_ne0, reduceCtorEq]
  refine (l_skip hb hz (z - p) p (by omega)).trans ?_
  rw [show skp y z (z - p) p = tf y z p from rfl]
  have hl := tf_le (b := y) hp
  unfold ts tn
  by_cases e : tf y z p < z
  · have hlt : nI (tf y z p) < nI z := nI_lt e (by omega)
    rw [if_pos e, if_pos e]
    simp only [s26_45, s26_46, s26_47, s26_50, s26_53, s26_54, s26_55, s26_58, s26_59, s26_62, s26_63, s26_66, s26_69, s26_70, s26_71, s26_72, s26_73, s26_76, s26_79, s26_82, s26_85, s26_86, s26_86r, s26_87, s26_90, s26_91, s26_92, xset_self, tg_0, tg_2, tg_3, tp_3, tp_4, xset_twice, hlt, c_byteAt hb hz e, c_sortOf, nI_1, XG_1, XO_some, XV_1, xo_n, xo_i8, xo_r8, xo_i7, xo_r7, xo_i6, xo_r6, xo_i5, xo_r5, xo_i4, xo_r4, xo_i3, xo_r3, xo_i2, xo_r2, Option.toList_some, Option.toList_none, List.cons_append, List.nil_append, bI_t, bI_f, bI_0, bI_n0, if_true, if_false, true_and, and_true, ne_eq, not_true_eq_false, not_false_eq_true, one_ne0, reduceCtorEq]
    exact l_run (so_n _) hb hz (z - (tf y z p + 1)) (tf y z p + 1) (by omega)
  · have hlt : ¬ nI (tf y z p) < nI z := nI_nlt (by omega) (by omega)
    rw [if_neg e, if_neg e]
    simp only [s26_45, s26_46, s26_47, s26_50, s26_53, s26_54, s26_55, s26_58, s26_59, s26_62, s26_63, s26_66, s26_69, s26_70, s26_71, s26_72, s26_73, s26_76, s26_79, s26_82, s26_85, s26_86, s26_86r, s26_87, s26_90, s26_91, s26_92, xset_self, tg_0, tg_2, tp_3, tp_4, xset_twice, hlt, XG_1, XO_some, XV_1, xo_n, xo_i8, xo_r8, xo_i7, xo_r7, xo_i6, xo_r6, xo_i5, xo_r5, xo_i4, xo_r4, xo_i3, xo_r3, xo_i2, xo_r2, Option.toList_some, Option.toList_none, List.cons_append, List.nil_append, bI_t, bI_f, bI_0, bI_n0, if_true, if_false, true_and, and_true, ne_eq, not_true_eq_false, not_false_eq_true, one_ne0, reduceCtorEq]
    exact Iff.rfl
/-- whether a word stands at a place -/
def wdr (b : Nat → Int32) (fr i : Nat) : Nat → Nat → Bool
  | 0, _ => true
  | c + 1, j => if b (fr + j) = sch i j then wdr b fr i c (j + 1) else false
variable {adK adV : Nat → Nat} {i fr to : Nat}
theorem l_word (hb : h.2.2.1 (B + 28) = .inl (0, xis 96 y)) (hz : z ≤ 96) (S : STH h adK adV) (ha : ∀ i, i < 6 → adV i < B) (hi : i < 6) (hft : fr + sle i ≤ z) : ∀ cc j, j + cc = sle i → (XE (d + 5) 27 28 [.val (.ref (B + 27)), .val (.ref (adK i)), .val (.int (nI j))] [] (TS h B (nI z) (nI fr) t s k m u c o n w C O) Q ↔ Q (some (.int (bI (wdr y fr i cc j)))) (TS h B (nI z) (nI fr) t s k m u c o n w C O)) := by
  have hl := sle_le i hi
  have S1 := t_S (z := nI z) (f := nI fr) (t := t) (s := s) (k := k) (m := m) (u := u) (c := c) (o := o) (n := n) (w := w) (C := C) (O := O) S ha
  have a2 : (TS h B (nI z) (nI fr) t s k m u c o n w C O).2.2.2 (100 + 3 * adK i) = .int 20 := (S1.2.2 i hi).2.1
  intro cc
  induction cc with
  | zero =>
    intro j hj
    have hlt : ¬ nI j < nI (sle i) := nI_nlt (by omega) (by omega)
    rw [s27_28]
    simp only [s27_29, s27_29n, s27_30, s27_33, s27_36, s27_37, s27_38, s27_41, s27_42, s27_43, s27_46, s27_46n, s27_47, s27_48, s27_51, s27_54, s27_55, s27_55t, s27_55b, s27_56, s27_59, s27_62, s27_63, s27_63t, s27_63b, a2, c_229 S1 hi, hlt, true_and, XG_1, XO_some, XV_1, xo_n, xo_i8, xo_r8, xo_i7, xo_r7, xo_i6, xo_r6, xo_i5, xo_r5, xo_i4, xo_r4, xo_i3, xo_r3, xo_i2, xo_r2, Option.toList_some, Option.toList_none, List.cons_append, List.nil_append, bI_t, bI_f, bI_0, bI_n0, if_true, if_false, true_and, and_true, ne_eq, not_true_eq_false, not_false_eq_true, one_ne0, reduceCtorEq]
    exact Iff.rfl
  | succ cc ih =>
    intro j hj
    have hj2 : j < sle i := by omega
    have hlt : nI j < nI (sle i) := nI_lt hj2 (by omega)
    rw [s27_28, show wdr y fr i (cc + 1) j = if y (fr + j) = sch i j then wdr y fr i cc (j + 1) else false from rfl]
    by_cases e : y (fr + j) = sch i j
    · simp only [s27_29, s27_29n, s27_30, s27_33, s27_36, s27_37, s27_38, s27_41, s27_42, s27_43, s27_46, s27_46n, s27_47, s27_48, s27_51, s27_54, s27_55, s27_55t, s27_55b, s27_56, s27_59, s27_62, s27_63, s27_63t, s27_63b, a2, c_229 S1 hi, c_230 S1 hi hj2, hlt, xset_self, tg_2, lA, c_byteAt hb hz (show fr + j < z by omega), e, nI_1, true_and, XG_1, XO_some, XV_1, xo_n, xo_i8, xo_r8, xo_i7, xo_r7, xo_i6, xo_r6, xo_i5, xo_r5, xo_i4, xo_r4, xo_i3, xo_r3, xo_i2, xo_r2, Option.toList_some, Option.toList_none, List.cons_append, List.nil_append, bI_t, bI_f, bI_0, bI_n0, if_true, if_false, true_and, and_true, ne_eq, not_true_eq_false, not_false_eq_true, one_ne0, reduceCtorEq]
      exact ih (j + 1) (by omega)
    · simp only [s27_29, s27_29n, s27_30, s27_33, s27_36, s27_37, s27_38, s27_41, s27_42, s27_43, s27_46, s27_46n, s27_47, s27_48, s27_51, s27_54, s27_55, s27_55t, s27_55b, s27_56, s27_59, s27_62, s27_63, s27_63t, s27_63b, a2, c_229 S1 hi, c_230 S1 hi hj2, hlt, xset_self, tg_2, lA, c_byteAt hb hz (show fr + j < z by omega), e, true_and, XG_1, XO_some, XV_1, xo_n, xo_i8, xo_r8, xo_i7, xo_r7, xo_i6, xo_r6, xo_i5, xo_r5, xo_i4, xo_r4, xo_i3, xo_r3, xo_i2, xo_r2, Option.toList_some, Option.toList_none, List.cons_append, List.nil_append, bI_t, bI_f, bI_0, bI_n0, if_true, if_false, true_and, and_true, ne_eq, not_true_eq_false, not_false_eq_true, one_ne0, reduceCtorEq]
def iwd (b : Nat → Int32) (st fr to i : Nat) : Bool := if st = 1 ∧ to - fr = sle i then wdr b fr i (sle i) 0 else false
theorem c_isWord {st : Nat} (hb : h.2.2.1 (B + 28) = .inl (0, xis 96 y)) (hz : z ≤ 96) (S : STH h adK adV) (ha : ∀ i, i < 6 → adV i < B) (hi : i < 6) (hst : st < 4) (hf : fr ≤ to) (ht : to ≤ z) : XC (d + 6) 27 [.ref (B + 27), .ref (adK i)] (TS h B (nI z) (nI fr) (nI to) (nI st) k m u c o n w C O) Q ↔ Q (some (.int (bI (iwd y st fr to i)))) (TS h B (nI z) (nI fr) (nI to) (nI st) k m u c o n w C O) := by
  have hl := sle_le i hi
  have S1 := t_S (z := nI z) (f := nI fr) (t := nI to) (s := nI st) (k := k) (m := m) (u := u) (c := c) (o := o) (n := n) (w := w) (C := C) (O := O) S ha
  have a2 : (TS h B (nI z) (nI fr) (nI to) (nI st) k m u c o n w C O).2.2.2 (100 + 3 * adK i) = .int 20 := (S1.2.2 i hi).2.1
  have e1 : (nI st = 1) = (st = 1) := propext (nI_eq (b := 1) (by omega) (by decide))
  have e2 : nI to - nI fr = nI (to - fr) := pk_sub hf
  have e3 : (nI (to - fr) = nI (sle i)) = (to - fr = sle i) := propext (nI_eq (by omega) (by omega))
  rw [e27]
  unfold iwd
  by_cases c1 : st = 1
  · by_cases c2 : to - fr = sle i
    · rw [if_pos ⟨c1, c2⟩]
      have e1t : (nI st = 1) = True := eq_true (by rw [c1]; rfl)
      have e3t : (nI (to - fr) = nI (sle i)) = True := eq_true (by rw [c2])
      simp only [s27_0, s27_1, s27_4, s27_5, s27_8, s27_9, s27_12, s27_13, s27_16, s27_17, s27_17n, s27_18, s27_21, s27_24, s27_25, s27_25t, s27_25b, s27_26, s27_27, xset_self, tg_2, tg_3, tg_4, e1t, e2, a2, c_229 S1 hi, e3t, true_and, XG_1, XO_some, XV_1, xo_n, xo_i8, xo_r8, xo_i7, xo_r7, xo_i6, xo_r6, xo_i5, xo_r5, xo_i4, xo_r4, xo_i3, xo_r3, xo_i2, xo_r2, Option.toList_some, Option.toList_none, List.cons_append, List.nil_append, bI_t, bI_f, bI_0, bI_n0, if_true, if_false, true_and, and_true, ne_eq, not_true_eq_false, not_false_eq_true, one_ne0, reduceCtorEq]
      exact l_word hb hz S ha hi (by omega) (sle i) 0 (by omega)
    · rw [if_neg (fun q => c2 q.2)]
      have e1t : (nI st = 1) = True := eq_true (by rw [c1]; rfl)
      simp only [s27_0, s27_1, s27_4, s27_5, s27_8, s27_9, s27_12, s27_13, s27_16, s27_17, s27_17n, s27_18, s27_21, s27_24, s27_25, s27_25t, s27_25b, s27_26, s27_27, xset_self, tg_2, tg_3, tg_4, e1t, e2, a2, c_229 S1 hi, e3, c2, true_and, XG_1, XO_some, XV_1, xo_n, xo_i8, xo_r8, xo_i7, xo_r7, xo_i6, xo_r6, xo_i5, xo_r5, xo_i4, xo_r4, xo_i3, xo_r3, xo_i2, xo_r2, Option.toList_some, Option.toList_none, List.cons_append, List.nil_append, bI_t, bI_f, bI_0, bI_n0, if_true, if_false, true_and, and_true, ne_eq, not_true_eq_false, not_false_eq_true, one_ne0, reduceCtorEq]
  · rw [if_neg (fun q => c1 q.1)]
    simp only [s27_0, s27_1, s27_4, s27_5, s27_8, s27_9, s27_12, s27_13, s27_16, s27_17, s27_17n, s27_18, s27_21, s27_24, s27_25, s27_25t, s27_25b, s27_26, s27_27, xset_self, tg_4, e1, c1, XG_1, XO_some, XV_1, xo_n, xo_i8, xo_r8, xo_i7, xo_r7, xo_i6, xo_r6, xo_i5, xo_r5, xo_i4, xo_r4, xo_i3, xo_r3, xo_i2, xo_r2, Option.toList_some, Option.toList_none, List.cons_append, List.nil_append, bI_t, bI_f, bI_0, bI_n0, if_true, if_false, true_and, and_true, ne_eq, not_true_eq_false, not_false_eq_true, one_ne0, reduceCtorEq]
def kyv (b : Nat → Int32) (st fr to : Nat) : Int32 := if iwd b st fr to 0 = true then 0 else if iwd b st fr to 1 = true then 1 else if iwd b st fr to 2 = true then 2 else -1000000005
theorem c_keyHere {st : Nat} (hb : h.2.2.1 (B + 28) = .inl (0, xis 96 y)) (hz : z ≤ 96) (S : STH h adK adV) (ha : ∀ i, i < 6 → adV i < B) (hst : st < 4) (hf : fr ≤ to) (ht : to ≤ z) : XC (d + 7) 28 [.ref (B + 27)] (TS h B (nI z) (nI fr) (nI to) (nI st) k m u c o n w C O) Q ↔ Q (some (.int (kyv y st fr to))) (TS h B (nI z) (nI fr) (nI to) (nI st) k m u c o n w C O) := by
  have S1 := t_S (z := nI z) (f := nI fr) (t := nI to) (s := nI st) (k := k) (m := m) (u := u) (c := c) (o := o) (n := n) (w := w) (C := C) (O := O) S ha
  have g1 : (TS h B (nI z) (nI fr) (nI to) (nI st) k m u c o n w C O).2.2.2 1 = .ref (adK 0) := (S1.2.2 0 (by decide)).1
  have g2 : (TS h B (nI z) (nI fr) (nI to) (nI st) k m u c o n w C O).2.2.2 2 = .ref (adK 1) := (S1.2.2 1 (by decide)).1
  have g3 : (TS h B (nI z) (nI fr) (nI to) (nI st) k m u c o n w C O).2.2.2 3 = .ref (adK 2) := (S1.2.2 2 (by decide)).1
  rw [e28]
  unfold kyv
  cases c1 : iwd y st fr to 0 with
  | true => simp only [s28_0, s28_1, s28_3, s28_6, s28_9, s28_10, s28_11, s28_12, s28_14, s28_17, s28_20, s28_21, s28_22, s28_23, s28_25, s28_28, s28_31, s28_32, s28_35, s28_37, g1, xset_self, c_isWord hb hz S ha (show 0 < 6 by decide) hst hf ht, c1, XG_1, XO_some, XV_1, xo_n, xo_i8, xo_r8, xo_i7, xo_r7, xo_i6, xo_r6, xo_i5, xo_r5, xo_i4, xo_r4, xo_i3, xo_r3, xo_i2, xo_r2, Option.toList_some, Option.toList_none, List.cons_append, List.nil_append, bI_t, bI_f, bI_0, bI_n0, if_true, if_false, true_and, and_true, ne_eq, not_true_eq_false, not_false_eq_true, one_ne0, reduceCtorEq, Bool.true_eq_false]
  | false =>
    cases c2 : iwd y st fr to 1 with
    | true => simp only [s28_0, s28_1, s28_3, s28_6, s28_9, s28_10, s28_11, s28_12, s28_14, s28_17, s28_20, s28_21, s28_22, s28_23, s28_25, s28_28, s28_31, s28_32, s28_35, s28_37, g1, g2, xset_self, c_isWord hb hz S ha (show 0 < 6 by decide) hst hf ht, c_isWord hb hz S ha (show 1 < 6 by decide) hst hf ht, c1, c2, XG_1, XO_some, XV_1, xo_n, xo_i8, xo_r8, xo_i7, xo_r7, xo_i6, xo_r6, xo_i5, xo_r5, xo_i4, xo_r4, xo_i3, xo_r3, xo_i2, xo_r2, Option.toList_some, Option.toList_none, List.cons_append, List.nil_append, bI_t, bI_f, bI_0, bI_n0, if_true, if_false, true_and, and_true, ne_eq, not_true_eq_false, not_false_eq_true, one_ne0, reduceCtorEq, Bool.true_eq_false, Bool.false_eq_true]
    | false =>
      cases c3 : iwd y st fr to 2 with
      | true => simp only [s28_0, s28_1, s28_3, s28_6, s28_9, s28_10, s28_11, s28_12, s28_14, s28_17, s28_20, s28_21, s28_22, s28_23, s28_25, s28_28, s28_31, s28_32, s28_35, s28_37, g1, g2, g3, xset_self, c_isWord hb hz S ha (show 0 < 6 by decide) hst hf ht, c_isWord hb hz S ha (show 1 < 6 by decide) hst hf ht, c_isWord hb hz S ha (show 2 < 6 by decide) hst hf ht, c1, c2, c3, XG_1, XO_some, XV_1, xo_n, xo_i8, xo_r8, xo_i7, xo_r7, xo_i6, xo_r6, xo_i5, xo_r5, xo_i4, xo_r4, xo_i3, xo_r3, xo_i2, xo_r2, Option.toList_some, Option.toList_none, List.cons_append, List.nil_append, bI_t, bI_f, bI_0, bI_n0, if_true, if_false, true_and, and_true, ne_eq, not_true_eq_false, not_false_eq_true, one_ne0, reduceCtorEq, Bool.true_eq_false, Bool.false_eq_true]
      | false => simp only [s28_0, s28_1, s28_3, s28_6, s28_9, s28_10, s28_11, s28_12, s28_14, s28_17, s28_20, s28_21, s28_22, s28_23, s28_25, s28_28, s28_31, s28_32, s28_35, s28_37, g1, g2, g3, xset_self, c_isWord hb hz S ha (show 0 < 6 by decide) hst hf ht, c_isWord hb hz S ha (show 1 < 6 by decide) hst hf ht, c_isWord hb hz S ha (show 2 < 6 by decide) hst hf ht, c1, c2, c3, XG_1, XO_some, XV_1, xo_n, xo_i8, xo_r8, xo_i7, xo_r7, xo_i6, xo_r6, xo_i5, xo_r5, xo_i4, xo_r4, xo_i3, xo_r3, xo_i2, xo_r2, Option.toList_some, Option.toList_none, List.cons_append, List.nil_append, bI_t, bI_f, bI_0, bI_n0, if_true, if_false, true_and, and_true, ne_eq, not_true_eq_false, not_false_eq_true, one_ne0, reduceCtorEq, Bool.false_eq_true]
theorem c_nameHere {ky : Nat} (hk : ky < 3) (hb : h.2.2.1 (B + 28) = .inl (0, xis 96 y)) (hz : z ≤ 96) (S : STH h adK adV) (ha : ∀ i, i < 6 → adV i < B) (hf : fr < to) (ht : to ≤ z) (hL : isL (y fr) = true) : XC (d + 6) 29 [.ref (B + 27)] (TS h B (nI z) (nI fr) (nI to) s (nI ky) m u c o n w C O) Q ↔ Q (some (.int (if to - fr = 1 then nmv ky (y fr) else -1))) (TS h B (nI z) (nI fr) (nI to) s (nI ky) m u c o n w C O) := by
  have S1 := t_S (z := nI z) (f := nI fr) (t := nI to) (s := s) (k := nI ky) (m := m) (u := u) (c := c) (o := o) (n := n) (w := w) (C := C) (O := O) S ha
  have g4 : (TS h B (nI z) (nI fr) (nI to) s (nI ky) m u c o n w C O).2.2.2 4 = .ref (adK 3) := (S1.2.2 3 (by decide)).1
  have g5 : (TS h B (nI z) (nI fr) (nI to) s (nI ky) m u c o n w C O).2.2.2 5 = .ref (adK 4) := (S1.2.2 4 (by decide)).1
  have g6 : (TS h B (nI z) (nI fr) (nI to) s (nI ky) m u c o n w C O).2.2.2 6 = .ref (adK 5) := (S1.2.2 5 (by decide)).1
  have a3 : (TS h B (nI z) (nI fr) (nI to) s (nI ky) m u c o n w C O).2.2.2 (100 + 3 * adK 3) = .int 20 := (S1.2.2 3 (by decide)).2.1
  have a4 : (TS h B (nI z) (nI fr) (nI to) s (nI ky) m u c o n w C O).2.2.2 (100 + 3 * adK 4) = .int 20 := (S1.2.2 4 (by decide)).2.1
  have a5 : (TS h B (nI z) (nI fr) (nI to) s (nI ky) m u c o n w C O).2.2.2 (100 + 3 * adK 5) = .int 20 := (S1.2.2 5 (by decide)).2.1
  obtain ⟨kk, k1, k2, k3⟩ := isL_n hL
  have e2 : nI to - nI fr = nI (to - fr) := pk_sub (by omega)
  have e3 : (nI (to - fr) = 1) = (to - fr = 1) := propext (nI_eq (b := 1) (by omega) (by decide))
  rw [e29]
  by_cases c1 : to - fr = 1
  · rw [if_pos c1]
    have e3t : (nI (to - fr) = 1) = True := eq_true (by rw [c1]; rfl)
    rcases (show ky = 0 ∨ ky = 1 ∨ ky = 2 by omega) with rfl | rfl | rfl
    · simp only [s29_0, s29_1, s29_4, s29_5, s29_8, s29_9, s29_10, s29_13, s29_14, s29_15, s29_16, s29_17, s29_20, s29_23, s29_24, s29_25, s29_26, s29_29, s29_56, s29_58, s29_59, s29_62, s29_63, s29_65, s29_66, s29_69, s29_70, s29_72, s29_73, s29_76, xset_self, tg_2, tg_3, tg_5, e2, e3t, c_byteAt hb hz (show fr < z by omega), k3, i2c_l kk k1, xswi, show (nI 0 = (0 : Int32)) = True from eq_true rfl, g4, a3, c_231 S1 (show 3 < 6 by decide) k1, ixf_3, true_and, XG_1, XO_some, XV_1, xo_n, xo_i8, xo_r8, xo_i7, xo_r7, xo_i6, xo_r6, xo_i5, xo_r5, xo_i4, xo_r4, xo_i3, xo_r3, xo_i2, xo_r2, Option.toList_some, Option.toList_none, List.cons_append, List.nil_append, bI_t, bI_f, bI_0, bI_n0, if_true, if_false, true_and, and_true, ne_eq, not_true_eq_false, not_false_eq_true, one_ne0, reduceCtorEq]
    · simp only [s29_0, s29_1, s29_4, s29_5, s29_8, s29_9, s29_10, s29_13, s29_14, s29_15, s29_16, s29_17, s29_20, s29_23, s29_24, s29_25, s29_26, s29_29, s29_56, s29_58, s29_59, s29_62, s29_63, s29_65, s29_66, s29_69, s29_70, s29_72, s29_73, s29_76, xset_self, tg_2, tg_3, tg_5, e2, e3t, c_byteAt hb hz (show fr < z by omega), k3, i2c_l kk k1, xswi, show (nI 1 = (0 : Int32)) = False from eq_false (by decide), show (nI 1 = (1 : Int32)) = True from eq_true rfl, g5, a4, c_231 S1 (show 4 < 6 by decide) k1, ixf_4, true_and, XG_1, XO_some, XV_1, xo_n, xo_i8, xo_r8, xo_i7, xo_r7, xo_i6, xo_r6, xo_i5, xo_r5, xo_i4, xo_r4, xo_i3, xo_r3, xo_i2, xo_r2, Option.toList_some, Option.toList_none, List.cons_append, List.nil_append, bI_t, bI_f, bI_0, bI_n0, if_true, if_false, true_and, and_true, ne_eq, not_true_eq_false, not_false_eq_true, one_ne0, reduceCtorEq]
    · simp only [s29_0, s29_1, s29_4, s29_5, s29_8, s29_9, s29_10, s29_13, s29_14, s29_15, s29_16, s29_17, s29_20, s29_23, s29_24, s29_25, s29_26, s29_29, s29_56, s29_58, s29_59, s29_62, s29_63, s29_65, s29_66, s29_69, s29_70, s29_72, s29_73, s29_76, xset_self, tg_2, tg_3, tg_5, e2, e3t, c_byteAt hb hz (show fr < z by omega), k3, i2c_l kk k1, xswi, show (nI 2 = (0 : Int32)) = False from eq_false (by decide), show (nI 2 = (1 : Int32)) = False from eq_false (by decide), g6, a5, c_231 S1 (show 5 < 6 by decide) k1, ixf_5, true_and, XG_1, XO_some, XV_1, xo_n, xo_i8, xo_r8, xo_i7, xo_r7, xo_i6, xo_r6, xo_i5, xo_r5, xo_i4, xo_r4, xo_i3, xo_r3, xo_i2, xo_r2, Option.toList_some, Option.toList_none, List.cons_append, List.nil_append, bI_t, bI_f, bI_0, bI_n0, if_true, if_false, true_and, and_true, ne_eq, not_true_eq_false, not_false_eq_true, one_ne0, reduceCtorEq]
  · rw [if_neg c1]
    simp only [s29_0, s29_1, s29_4, s29_5, s29_8, s29_9, s29_10, s29_13, s29_14, s29_15, s29_16, s29_17, s29_20, s29_23, s29_24, s29_25, s29_26, s29_29, s29_56, s29_58, s29_59, s29_62, s29_63, s29_65, s29_66, s29_69, s29_70, s29_72, s29_73, s29_76, xset_self, tg_2, tg_3, e2, e3, c1, XG_1, XO_some, XV_1, xo_n, xo_i8, xo_r8, xo_i7, xo_r7, xo_i6, xo_r6, xo_i5, xo_r5, xo_i4, xo_r4, xo_i3, xo_r3, xo_i2, xo_r2, Option.toList_some, Option.toList_none, List.cons_append, List.nil_append, bI_t, bI_f, bI_0, bI_n0, if_true, if_false, true_and, and_true, ne_eq, not_true_eq_false, not_false_eq_true, one_ne0, reduceCtorEq]
theorem l_numb (hb : h.2.2.1 (B + 28) = .inl (0, xis 96 y)) (hz : z ≤ 96) (ht : to ≤ z) : ∀ cc j a, j + cc = to → (XE (d + 1) 30 7 [.val (.ref (B + 27)), .val (.int a), .val (.int (nI j))] [] (TS h B (nI z) f (nI to) s k m u c o n w C O) Q ↔ Q (some (.int (nmb y cc j a))) (TS h B (nI z) f (nI to) s k m u c o n w C O)) := by
  intro cc
  induction cc with
  | zero =>
    intro j a hj
    have hlt : ¬ nI j < nI to := nI_nlt (by omega) (by omega)
    rw [s30_7]
    simp only [s30_0, s30_1, s30_2, s30_3, s30_6, s30_8, s30_9, s30_12, s30_15, s30_17, s30_18, s30_19, s30_20, s30_21, s30_24, s30_25, s30_27, s30_28, s30_29, s30_32, s30_35, s30_36, xset_self, tg_3, hlt, XG_1, XO_some, XV_1, xo_n, xo_i8, xo_r8, xo_i7, xo_r7, xo_i6, xo_r6, xo_i5, xo_r5, xo_i4, xo_r4, xo_i3, xo_r3, xo_i2, xo_r2, Option.toList_some, Option.toList_none, List.cons_append, List.nil_append, bI_t, bI_f, bI_0, bI_n0, if_true, if_false, true_and, and_true, ne_eq, not_true_eq_false, not_false_eq_true, one_ne0, reduceCtorEq]
    exact Iff.rfl
  | succ cc ih =>
    intro j a hj
    have hlt : nI j < nI to := nI_lt (by omega) (by omega)
    rw [s30_7]
    simp only [s30_0, s30_1, s30_2, s30_3, s30_6, s30_8, s30_9, s30_12, s30_15, s30_17, s30_18, s30_19, s30_20, s30_21, s30_24, s30_25, s30_27, s30_28, s30_29, s30_32, s30_35, s30_36, xset_self, tg_3, hlt, c_byteAt hb hz (show j < z by omega), nI_1, XG_1, XO_some, XV_1, xo_n, xo_i8, xo_r8, xo_i7, xo_r7, xo_i6, xo_r6, xo_i5, xo_r5, xo_i4, xo_r4, xo_i3, xo_r3, xo_i2, xo_r2, Option.toList_some, Option.toList_none, List.cons_append, List.nil_append, bI_t, bI_f, bI_0, bI_n0, if_true, if_false, true_and, and_true, ne_eq, not_true_eq_false, not_false_eq_true, one_ne0, reduceCtorEq]
    exact ih (j + 1) _ (by omega)
theorem c_numb (hb : h.2.2.1 (B + 28) = .inl (0, xis 96 y)) (hz : z ≤ 96) (hf : fr ≤ to) (ht : to ≤ z) : XC (d + 2) 30 [.ref (B + 27)] (TS h B (nI z) (nI fr) (nI to) s k m u c o n w C O) Q ↔ Q (some (.int (nmb y (to - fr) fr 0))) (TS h B (nI z) (nI fr) (nI to) s k m u c o n w C O) := by
  rw [e30]
  simp only [s30_0, s30_1, s30_2, s30_3, s30_6, xset_self, tg_2, XG_1, XO_some, XV_1, xo_n, xo_i8, xo_r8, xo_i7, xo_r7, xo_i6, xo_r6, xo_i5, xo_r5, xo_i4, xo_r4, xo_i3, xo_r3, xo_i2, xo_r2, Option.toList_some, Option.toList_none, List.cons_append, List.nil_append, bI_t, bI_f, bI_0, bI_n0, if_true, if_false, true_and, and_true, ne_eq, not_true_eq_false, not_false_eq_true, one_ne0, reduceCtorEq]
  exact l_numb hb hz ht (to - fr) fr 0 (by omega)
end TAP2
