/-! ===== 69: check ===== -/
def wAt (W : Nat → Int32) (nw r : Nat) (v : Int32) : Bool := decide (r < nw) && decide (W r = v)
def chk (n : Nat → Nat) (T : Nat → Nat → Int32) (q0 : Int32 × Int32 × Int32) (W : Nat → Int32) (nw : Nat) : Nat → Nat → Nat → Nat
  | 0, _, r => r
  | k + 1, i, r => if r = 2 * i then (if wAt W nw (2 * i) (ngs n T q0 (i + 1)).2.1 = false then chk n T q0 W nw k (i + 1) (2 * i) else if wAt W nw (2 * i + 1) (ngs n T q0 (i + 1)).2.2 = false then chk n T q0 W nw k (i + 1) (2 * i + 1) else chk n T q0 W nw k (i + 1) (2 * i + 2)) else r
def RS.sJ (q : RS) (s : Nat → Nat → Int32) : RS := (q.1, q.2.1, q.2.2.1, q.2.2.2.1, s, q.2.2.2.2.2)
theorem chk_le {n : Nat → Nat} {T : Nat → Nat → Int32} {q0 : Int32 × Int32 × Int32} {W : Nat → Int32} {nw : Nat} : ∀ k i r, r ≤ 2 * i → chk n T q0 W nw k i r ≤ 2 * (i + k) := by
  intro k
  induction k with
  | zero => intro i r h; exact h
  | succ k ih =>
    intro i r h
    unfold chk
    by_cases e : r = 2 * i
    · rw [if_pos e]
      by_cases c1 : wAt W nw (2 * i) (ngs n T q0 (i + 1)).2.1 = false
      · rw [if_pos c1]; have := ih (i + 1) (2 * i) (by omega); omega
      · rw [if_neg c1]
        by_cases c2 : wAt W nw (2 * i + 1) (ngs n T q0 (i + 1)).2.2 = false
        · rw [if_pos c2]; have := ih (i + 1) (2 * i + 1) (by omega); omega
        · rw [if_neg c2]; have := ih (i + 1) (2 * i + 2) (by omega); omega
    · rw [if_neg e]; omega
theorem mr_cp {n : Nat → Nat} {T : Nat → Nat → Int32} {f g : Nat → Int32} (I : IV n T) (M : MR n T f) : MR n T (cpf f g 1482) := by
  have hn := I.nn
  obtain ⟨⟨m0, m1, m2, m3, m4, m5, m6, m7⟩, mh, md, mt, mx, mc⟩ := M
  have e : ∀ k, k < 1482 → cpf f g 1482 k = f k := fun k hk => if_pos hk
  refine ⟨⟨(e _ (by decide)).trans m0, (e _ (by decide)).trans m1, (e _ (by decide)).trans m2, (e _ (by decide)).trans m3, (e _ (by decide)).trans m4, (e _ (by decide)).trans m5, (e _ (by decide)).trans m6, (e _ (by decide)).trans m7⟩, fun i hi => ?_, fun i hi => ?_, fun i hi => ?_, fun i hi => ?_, fun k hk => ?_⟩
  · rw [e _ (by omega), e _ (by omega), e _ (by omega)]; exact mh i hi
  · rw [e _ (by omega), e _ (by omega), e _ (by omega), e _ (by omega), e _ (by omega)]; exact md i hi
  · rw [e _ (by omega), e _ (by omega)]; exact mt i hi
  · rw [e _ (by omega), e _ (by omega)]; exact mx i hi
  · rw [e _ (by omega)]; exact mc k hk
section CHK
variable {B d : Nat} {E : Nat → va_E} {g0 : Nat → Value} {h h1 : xH} {q : RS} {m f w g : Nat → Int32} {n : Nat → Nat} {T : Nat → Nat → Int32} {p : Nat → Nat → Option Nat} {s : Nat → Nat → Int32} {Q : Option Value → xH → Prop} {x y z v : Int32} {W V : Nat → Int32} {nw : Nat}
theorem rxc_j {c : Nat → va_E} {s2 : Nat → Nat → Int32} (X : RXc B c q) : RXc B c (q.sJ s2) := X
theorem c_waitsAt (hO : h.2.2.1 B = .inr (11, objF B x y)) (h31 : h.2.2.1 (B + 31) = .inl (0, xis 60 W)) (hnw : nw ≤ 60) {r : Nat} (hr : r < 2 ^ 31) : XC (d + 1) 130 [.ref B, .int (nI r), .int (nI nw), .int v] h Q ↔ Q (some (.int (bI (wAt W nw r v)))) h := by
  rw [e130]
  unfold wAt
  by_cases c1 : r < nw
  · have l1 : nI r < nI nw := nI_lt c1 (by omega)
    have l2 : nI r < 60 := nI_lt (b := 60) (by omega) (by decide)
    have h60 : r < 60 := by omega
    by_cases c2 : W r = v
    · simp only [s130_0, s130_1, s130_2, s130_5, s130_6, s130_8, s130_11, s130_12, s130_15, s130_16, s130_17, s130_18, s130_21, s130_22, s130_25, s130_26, s130_26t, s130_26b, hO, ob4, h31, l1, l2, XA60 h60, c1, c2, decide_true, Bool.and_self, XG_1, XO_some, XV_1, xo_n, xo_i8, xo_r8, xo_i7, xo_r7, xo_i6, xo_r6, xo_i5, xo_r5, xo_i4, xo_r4, xo_i3, xo_r3, xo_i2, xo_r2, Option.toList_some, Option.toList_none, List.cons_append, List.nil_append, bI_t, bI_f, bI_0, bI_n0, if_true, if_false, true_and, and_true, ne_eq, not_true_eq_false, not_false_eq_true, one_ne0, reduceCtorEq]
    · simp only [s130_0, s130_1, s130_2, s130_5, s130_6, s130_8, s130_11, s130_12, s130_15, s130_16, s130_17, s130_18, s130_21, s130_22, s130_25, s130_26, s130_26t, s130_26b, hO, ob4, h31, l1, l2, XA60 h60, c1, c2, decide_true, decide_false, Bool.and_false, XG_1, XO_some, XV_1, xo_n, xo_i8, xo_r8, xo_i7, xo_r7, xo_i6, xo_r6, xo_i5, xo_r5, xo_i4, xo_r4, xo_i3, xo_r3, xo_i2, xo_r2, Option.toList_some, Option.toList_none, List.cons_append, List.nil_append, bI_t, bI_f, bI_0, bI_n0, if_true, if_false, true_and, and_true, ne_eq, not_true_eq_false, not_false_eq_true, one_ne0, reduceCtorEq]
  · have l1 : ¬ nI r < nI nw := nI_nlt (by omega) (by omega)
    simp only [s130_0, s130_1, s130_2, s130_5, s130_6, s130_8, s130_11, s130_12, s130_15, s130_16, s130_17, s130_18, s130_21, s130_22, s130_25, s130_26, s130_26t, s130_26b, l1, c1, decide_false, Bool.false_and, XG_1, XO_some, XV_1, xo_n, xo_i8, xo_r8, xo_i7, xo_r7, xo_i6, xo_r6, xo_i5, xo_r5, xo_i4, xo_r4, xo_i3, xo_r3, xo_i2, xo_r2, Option.toList_some, Option.toList_none, List.cons_append, List.nil_append, bI_t, bI_f, bI_0, bI_n0, if_true, if_false, true_and, and_true, ne_eq, not_true_eq_false, not_false_eq_true, one_ne0, reduceCtorEq]
theorem l_hmrE (ho : h.2.2.1 (B + 14) = .inr (10, townF (B + 14) n T)) (hO : h.2.2.1 B = .inr (11, objF B x y)) {q1 : Int32 × Int32 × Int32} {r : Int32} {c1 c2 c7 : Slot} : XE d 129 130 [.val (.ref B), c1, c2, .val (.int (T 0 7)), .val (.int (T 0 5)), .val (.int (T 0 6)), .val (.int r), c7] [] (xset h (B + 14) (.inr (10, townF (B + 14) n (setS T q1)))) Q ↔ Q (some (.int r)) h := by
  obtain ⟨z1, t1, k1⟩ := q1
  have eO : ∀ e, (xset h (B + 14) e).2.2.1 B = .inr (11, objF B x y) := fun e => by rw [xset_ne (by omega)]; exact hO
  have L : ∀ (k : Nat) (T : Nat → Nat → Int32), k < 20 → k < (townF (B + 14) n T).length := fun k _ hk => by rw [tfL]; exact hk
  simp only [s129_130, s129_131, s129_134, s129_135, s129_138, s129_139, s129_142, s129_144, s129_147, s129_148, s129_151, s129_153, s129_156, s129_158, eO, ob1, xset_self, XP_1 (L 7 _ (by decide)), XP_1 (L 5 _ (by decide)), XP_1 (L 6 _ (by decide)), ts7, ts5, ts6, setS7, setS5, setS6, setS_id, xset_twice, XG_1, XO_some, XV_1, xo_n, xo_i8, xo_r8, xo_i7, xo_r7, xo_i6, xo_r6, xo_i5, xo_r5, xo_i4, xo_r4, xo_i3, xo_r3, xo_i2, xo_r2, Option.toList_some, Option.toList_none, List.cons_append, List.nil_append, bI_t, bI_f, bI_0, bI_n0, if_true, if_false, true_and, and_true, ne_eq, not_true_eq_false, not_false_eq_true, one_ne0, reduceCtorEq]
  rw [← ho, xset_id]
theorem l_hmr (I : IV n T) (hD : B + 79 ≤ h.1) (R : RT (B + 79) h.2.2.1 (B + 14) n T p s) (Wy : wei n T s) (hO : h.2.2.1 B = .inr (11, objF B x y)) (h31 : h.2.2.1 (B + 31) = .inl (0, xis 60 W)) (hnw : nw ≤ 60) {X : Nat} (hX : X ≤ 30) : ∀ k i r, i + k = X → r ≤ 2 * i → (XE (d + 10) 129 39 [.val (.ref B), .val (.int (nI X)), .val (.int (nI nw)), .val (.int (T 0 7)), .val (.int (T 0 5)), .val (.int (T 0 6)), .val (.int (nI r)), .val (.int (nI i))] [] (xset h (B + 14) (.inr (10, townF (B + 14) n (setS T (ngs n T (T 0 7, T 0 5, T 0 6) i))))) Q ↔ Q (some (.int (nI (chk n T (T 0 7, T 0 5, T 0 6) W nw k i r)))) h) := by
  have eO : ∀ e, (xset h (B + 14) e).2.2.1 B = .inr (11, objF B x y) := fun e => by rw [xset_ne (by omega)]; exact hO
  have e31 : ∀ e, (xset h (B + 14) e).2.2.1 (B + 31) = .inl (0, xis 60 W) := fun e => by rw [xset_ne (by omega)]; exact h31
  intro k
  induction k with
  | zero =>
    intro i r hi hr
    have hlt : ¬ nI i < nI X := nI_nlt (by omega) (by omega)
    rw [s129_39]
    simp only [s129_41, s129_42, s129_45, s129_47, s129_48, s129_50, s129_51, hlt, XG_1, XO_some, XV_1, xo_n, xo_i8, xo_r8, xo_i7, xo_r7, xo_i6, xo_r6, xo_i5, xo_r5, xo_i4, xo_r4, xo_i3, xo_r3, xo_i2, xo_r2, Option.toList_some, Option.toList_none, List.cons_append, List.nil_append, bI_t, bI_f, bI_0, bI_n0, if_true, if_false, true_and, and_true, ne_eq, not_true_eq_false, not_false_eq_true, one_ne0, reduceCtorEq]
    exact l_hmrE R.o hO
  | succ k ih =>
    intro i r hi hr
    have hlt : nI i < nI X := nI_lt (by omega) (by omega)
    have m2 : (2 : Int32) * nI i = nI (2 * i) := pk_mul 2 i
    rw [s129_39, show chk n T (T 0 7, T 0 5, T 0 6) W nw (k + 1) i r = if r = 2 * i then (if wAt W nw (2 * i) (ngs n T (T 0 7, T 0 5, T 0 6) (i + 1)).2.1 = false then chk n T (T 0 7, T 0 5, T 0 6) W nw k (i + 1) (2 * i) else if wAt W nw (2 * i + 1) (ngs n T (T 0 7, T 0 5, T 0 6) (i + 1)).2.2 = false then chk n T (T 0 7, T 0 5, T 0 6) W nw k (i + 1) (2 * i + 1) else chk n T (T 0 7, T 0 5, T 0 6) W nw k (i + 1) (2 * i + 2)) else r from rfl]
    by_cases e : r = 2 * i
    · subst e
      have t5 : ∀ qq : Int32 × Int32 × Int32, setS T qq 0 5 = qq.2.1 := fun _ => rfl
      have t6 : ∀ qq : Int32 × Int32 × Int32, setS T qq 0 6 = qq.2.2 := fun _ => rfl
      have hng : ngt n T (ngs n T (T 0 7, T 0 5, T 0 6) i) (n 2) = ngs n T (T 0 7, T 0 5, T 0 6) (i + 1) := rfl
      have ir : ¬ nI (2 * i) < nI (2 * i) := nI_nlt (by omega) (by omega)
      have i1 : nI (2 * i) < nI (2 * i + 1) := nI_lt (by omega) (by omega)
      have w1 := fun {d : Nat} {Q : Option Value → xH → Prop} {h : xH} (hO) (h31) => c_waitsAt (d := d) (Q := Q) (h := h) (v := (ngs n T (T 0 7, T 0 5, T 0 6) (i + 1)).2.1) (B := B) (x := x) (y := y) (W := W) hO h31 hnw (r := 2 * i) (by omega)
      have w2 := fun {d : Nat} {Q : Option Value → xH → Prop} {h : xH} (hO) (h31) => c_waitsAt (d := d) (Q := Q) (h := h) (v := (ngs n T (T 0 7, T 0 5, T 0 6) (i + 1)).2.2) (B := B) (x := x) (y := y) (W := W) hO h31 hnw (r := 2 * i + 1) (by omega)
      rw [if_pos rfl]
      cases c1 : wAt W nw (2 * i) (ngs n T (T 0 7, T 0 5, T 0 6) (i + 1)).2.1 with
      | false =>
        simp only [s129_41, s129_42, s129_45, s129_47, s129_48, s129_50, s129_51, s129_54, s129_55, s129_58, s129_61, s129_63, s129_64, s129_66, s129_67, s129_68, s129_71, s129_74, s129_77, s129_80, s129_81, s129_84, s129_85, s129_86, s129_88, s129_90, s129_92, s129_93, s129_95, s129_96, s129_99, s129_100, s129_102, s129_103, s129_104, s129_107, s129_110, s129_113, s129_116, s129_117, s129_120, s129_121, s129_122, s129_124, s129_127, hlt, m2, eO, ob1, xset_self, c_night I (by omega) Wy hD R, hng, tf5, t5, w1 (eO _) (e31 _), c1, p0, ir, nI_1, XG_1, XO_some, XV_1, xo_n, xo_i8, xo_r8, xo_i7, xo_r7, xo_i6, xo_r6, xo_i5, xo_r5, xo_i4, xo_r4, xo_i3, xo_r3, xo_i2, xo_r2, Option.toList_some, Option.toList_none, List.cons_append, List.nil_append, bI_t, bI_f, bI_0, bI_n0, if_true, if_false, true_and, and_true, ne_eq, not_true_eq_false, not_false_eq_true, one_ne0, reduceCtorEq]
        exact ih (i + 1) (2 * i) (by omega) (by omega)
      | true =>
        cases c2 : wAt W nw (2 * i + 1) (ngs n T (T 0 7, T 0 5, T 0 6) (i + 1)).2.2 with
        | false =>
          simp only [s129_41, s129_42, s129_45, s129_47, s129_48, s129_50, s129_51, s129_54, s129_55, s129_58, s129_61, s129_63, s129_64, s129_66, s129_67, s129_68, s129_71, s129_74, s129_77, s129_80, s129_81, s129_84, s129_85, s129_86, s129_88, s129_90, s129_92, s129_93, s129_95, s129_96, s129_99, s129_100, s129_102, s129_103, s129_104, s129_107, s129_110, s129_113, s129_116, s129_117, s129_120, s129_121, s129_122, s129_124, s129_127, hlt, m2, eO, ob1, xset_self, c_night I (by omega) Wy hD R, hng, tf5, tf6, t5, t6, w1 (eO _) (e31 _), w2 (eO _) (e31 _), c1, c2, p0, i1, nI_1, XG_1, XO_some, XV_1, xo_n, xo_i8, xo_r8, xo_i7, xo_r7, xo_i6, xo_r6, xo_i5, xo_r5, xo_i4, xo_r4, xo_i3, xo_r3, xo_i2, xo_r2, Option.toList_some, Option.toList_none, List.cons_append, List.nil_append, bI_t, bI_f, bI_0, bI_n0, if_true, if_false, true_and, and_true, ne_eq, not_true_eq_false, not_false_eq_true, one_ne0, reduceCtorEq, Bool.true_eq_false]
          exact ih (i + 1) (2 * i + 1) (by omega) (by omega)
        | true =>
          simp only [s129_41, s129_42, s129_45, s129_47, s129_48, s129_50, s129_51, s129_54, s129_55, s129_58, s129_61, s129_63, s129_64, s129_66, s129_67, s129_68, s129_71, s129_74, s129_77, s129_80, s129_81, s129_84, s129_85, s129_86, s129_88, s129_90, s129_92, s129_93, s129_95, s129_96, s129_99, s129_100, s129_102, s129_103, s129_104, s129_107, s129_110, s129_113, s129_116, s129_117, s129_120, s129_121, s129_122, s129_124, s129_127, hlt, m2, eO, ob1, xset_self, c_night I (by omega) Wy hD R, hng, tf5, tf6, t5, t6, w1 (eO _) (e31 _), w2 (eO _) (e31 _), c1, c2, i1, nI_1, XG_1, XO_some, XV_1, xo_n, xo_i8, xo_r8, xo_i7, xo_r7, xo_i6, xo_r6, xo_i5, xo_r5, xo_i4, xo_r4, xo_i3, xo_r3, xo_i2, xo_r2, Option.toList_some, Option.toList_none, List.cons_append, List.nil_append, bI_t, bI_f, bI_0, bI_n0, if_true, if_false, true_and, and_true, ne_eq, not_true_eq_false, not_false_eq_true, one_ne0, reduceCtorEq, Bool.true_eq_false]
          exact ih (i + 1) (2 * i + 2) (by omega) (by omega)
    · have e2 : ¬ nI r = nI (2 * i) := fun q => e ((nI_eq (by omega) (by omega)).mp q)
      simp only [s129_41, s129_42, s129_45, s129_47, s129_48, s129_50, s129_51, hlt, m2, e2, e, XG_1, XO_some, XV_1, xo_n, xo_i8, xo_r8, xo_i7, xo_r7, xo_i6, xo_r6, xo_i5, xo_r5, xo_i4, xo_r4, xo_i3, xo_r3, xo_i2, xo_r2, Option.toList_some, Option.toList_none, List.cons_append, List.nil_append, bI_t, bI_f, bI_0, bI_n0, if_true, if_false, true_and, and_true, ne_eq, not_true_eq_false, not_false_eq_true, one_ne0, reduceCtorEq]
      exact l_hmrE R.o hO
theorem c_hmr (I : IV n T) (hD : B + 79 ≤ h.1) (R : RT (B + 79) h.2.2.1 (B + 14) n T p s) (hO : h.2.2.1 B = .inr (11, objF B x y)) (h31 : h.2.2.1 (B + 31) = .inl (0, xis 60 W)) (hnw : nw ≤ 60) {X : Nat} (hX : X ≤ 30) (K : ∀ h1 s1, FR (B + 79) (Pw (B + 14)) h h1 → RT (B + 79) h1.2.2.1 (B + 14) n T p s1 → Q (some (.int (nI (chk n T (T 0 7, T 0 5, T 0 6) W nw X 0 0)))) h1) : XC (d + 11) 129 [.ref B, .int (nI X), .int (nI nw)] h Q := by
  rw [e129]
  simp only [s129_0, s129_1, s129_4, s129_7, s129_8, s129_9, s129_12, s129_15, s129_17, s129_18, s129_21, s129_24, s129_26, s129_27, s129_29, s129_30, s129_33, hO, ob1, R.o, tf5, tf6, tf7, XG_1, XO_some, XV_1, xo_n, xo_i8, xo_r8, xo_i7, xo_r7, xo_i6, xo_r6, xo_i5, xo_r5, xo_i4, xo_r4, xo_i3, xo_r3, xo_i2, xo_r2, Option.toList_some, Option.toList_none, List.cons_append, List.nil_append, bI_t, bI_f, bI_0, bI_n0, if_true, if_false, true_and, and_true, ne_eq, not_true_eq_false, not_false_eq_true, one_ne0, reduceCtorEq]
  refine c_weigh I (by omega) hD R fun h1 s1 F1 R1 W1 => ?_
  have hD1 : B + 79 ≤ h1.1 := by rw [F1.1]; exact hD
  have hO1 : h1.2.2.1 B = .inr (11, objF B x y) := by rw [F1.at (by omega) (by omega)]; exact hO
  have h311 : h1.2.2.1 (B + 31) = .inl (0, xis 60 W) := by rw [F1.at (by omega) (by omega)]; exact h31
  have hL := l_hmr (d := d) (Q := Q) I hD1 R1 W1 hO1 h311 hnw hX X 0 0 (by omega) (by omega)
  rw [show ngs n T (T 0 7, T 0 5, T 0 6) 0 = (T 0 7, T 0 5, T 0 6) from rfl, setS_id, ← R1.o, xset_id] at hL
  simp only [s129_36, s129_37, XG_1, XO_some, XV_1, xo_n, xo_i8, xo_r8, xo_i7, xo_r7, xo_i6, xo_r6, xo_i5, xo_r5, xo_i4, xo_r4, xo_i3, xo_r3, xo_i2, xo_r2, Option.toList_some, Option.toList_none, List.cons_append, List.nil_append, bI_t, bI_f, bI_0, bI_n0, if_true, if_false, true_and, and_true, ne_eq, not_true_eq_false, not_false_eq_true, one_ne0, reduceCtorEq]
  exact hL.mpr (K h1 s1 F1 R1)
theorem l_rchk (I : IV n T) (hnw : nw ≤ 60) (hV : ∀ k, k < nw → V k = W k) {X : Nat} (hX : X ≤ 30) {q0 : Int32 × Int32 × Int32} : ∀ k i r h f w g, i + k = X → r ≤ 2 * i → B + 79 ≤ h.1 → h.2.2.1 (B + 58 + 20) = .inl (0, xis 60 V) → RM h.2.2.1 (B + 58) m f w g → MR n (setS T (ngs n T q0 i)) f → (∀ h1 f1 w1 g1 c4, FR (B + 79) (Pn (B + 58)) h h1 → RM h1.2.2.1 (B + 58) m f1 w1 g1 → XE (d + 11) 222 151 [.val (.ref (B + 58)), .val (.int (nI X)), .val (.int (nI nw)), .val (.int (nI (chk n T q0 W nw k i r))), c4] [] h1 Q) → XE (d + 11) 222 61 [.val (.ref (B + 58)), .val (.int (nI X)), .val (.int (nI nw)), .val (.int (nI r)), .val (.int (nI i))] [] h Q := by
  intro k
  induction k with
  | zero =>
    intro i r h f w g hi hr hD h20 R M K
    have hlt : ¬ nI i < nI X := nI_nlt (by omega) (by omega)
    rw [s222_61]
    simp only [s222_63, s222_64, s222_67, s222_68, s222_69, s222_71, s222_72, hlt, XG_1, XO_some, XV_1, xo_n, xo_i8, xo_r8, xo_i7, xo_r7, xo_i6, xo_r6, xo_i5, xo_r5, xo_i4, xo_r4, xo_i3, xo_r3, xo_i2, xo_r2, Option.toList_some, Option.toList_none, List.cons_append, List.nil_append, bI_t, bI_f, bI_0, bI_n0, if_true, if_false, true_and, and_true, ne_eq, not_true_eq_false, not_false_eq_true, one_ne0, reduceCtorEq]
    exact K h f w g _ FR.refl R
  | succ k ih =>
    intro i r h f w g hi hr hD h20 R M K
    have hlt : nI i < nI X := nI_lt (by omega) (by omega)
    have m2 : (2 : Int32) * nI i = nI (2 * i) := pk_mul 2 i
    rw [show chk n T q0 W nw (k + 1) i r = if r = 2 * i then (if wAt W nw (2 * i) (ngs n T q0 (i + 1)).2.1 = false then chk n T q0 W nw k (i + 1) (2 * i) else if wAt W nw (2 * i + 1) (ngs n T q0 (i + 1)).2.2 = false then chk n T q0 W nw k (i + 1) (2 * i + 1) else chk n T q0 W nw k (i + 1) (2 * i + 2)) else r from rfl] at K
    rw [s222_61]
    by_cases e : r = 2 * i
    case neg =>
      rw [if_neg e] at K
      have e2 : ¬ nI r = nI (2 * i) := fun q => e ((nI_eq (by omega) (by omega)).mp q)
      simp only [s222_63, s222_64, s222_67, s222_68, s222_69, s222_71, s222_72, hlt, m2, e2, XG_1, XO_some, XV_1, xo_n, xo_i8, xo_r8, xo_i7, xo_r7, xo_i6, xo_r6, xo_i5, xo_r5, xo_i4, xo_r4, xo_i3, xo_r3, xo_i2, xo_r2, Option.toList_some, Option.toList_none, List.cons_append, List.nil_append, bI_t, bI_f, bI_0, bI_n0, if_true, if_false, true_and, and_true, ne_eq, not_true_eq_false, not_false_eq_true, one_ne0, reduceCtorEq]
      exact K h f w g _ FR.refl R
    subst e
    rw [if_pos rfl] at K
    simp only [s222_63, s222_64, s222_67, s222_68, s222_69, s222_71, s222_72, s222_75, s222_76, hlt, m2, R.1, XG_1, XO_some, XV_1, xo_n, xo_i8, xo_r8, xo_i7, xo_r7, xo_i6, xo_r6, xo_i5, xo_r5, xo_i4, xo_r4, xo_i3, xo_r3, xo_i2, xo_r2, Option.toList_some, Option.toList_none, List.cons_append, List.nil_append, bI_t, bI_f, bI_0, bI_n0, if_true, if_false, true_and, and_true, ne_eq, not_true_eq_false, not_false_eq_true, one_ne0, reduceCtorEq]
    refine r_night R I (by omega) hD M fun h1 f1 w1 g1 F1 R1 M1 => ?_
    have hng : ngt n T (ngs n T q0 i) (n 2) = ngs n T q0 (i + 1) := rfl
    rw [hng] at M1
    have f4 : f1 4 = (ngs n T q0 (i + 1)).2.1 := M1.1.2.2.2.2.1
    have f5 : f1 5 = (ngs n T q0 (i + 1)).2.2 := M1.1.2.2.2.2.2.1
    have h20' : h1.2.2.1 (B + 58 + 20) = .inl (0, xis 60 V) := (F1.at (by omega) (fun p => by rcases p with p | p | p <;> omega)).trans h20
    have hD1 : B + 79 ≤ h1.1 := by rw [F1.1]; exact hD
    have i21 : nI (2 * i) + 1 = nI (2 * i + 1) := nI_1 _
    have neq : ¬ nI (2 * i) = nI (2 * i + 1) := fun q => by have := (nI_eq (by omega) (by omega)).mp q; omega
    have fin : ∀ r2, r2 ≤ 2 * (i + 1) → (∀ h1 f1 w1 g1 c4, FR (B + 79) (Pn (B + 58)) h h1 → RM h1.2.2.1 (B + 58) m f1 w1 g1 → XE (d + 11) 222 151 [.val (.ref (B + 58)), .val (.int (nI X)), .val (.int (nI nw)), .val (.int (nI (chk n T q0 W nw k (i + 1) r2))), c4] [] h1 Q) → XE (d + 11) 222 61 [.val (.ref (B + 58)), .val (.int (nI X)), .val (.int (nI nw)), .val (.int (nI r2)), .val (.int (nI (i + 1)))] [] h1 Q := fun r2 hr2 K2 =>
      ih (i + 1) r2 h1 f1 w1 g1 (by omega) hr2 hD1 h20' R1 M1 (fun h2 f2 w2 g2 c4 F2 R2 => K2 h2 f2 w2 g2 c4 (F1.trans F2) R2)
    by_cases l1 : 2 * i < nw
    case neg =>
      have l1' : ¬ nI (2 * i) < nI nw := nI_nlt (by omega) (by omega)
      rw [if_pos (show wAt W nw (2 * i) (ngs n T q0 (i + 1)).2.1 = false by unfold wAt; rw [decide_eq_false l1]; rfl)] at K
      simp only [s222_79, s222_80, s222_81, s222_82, s222_85, s222_86, s222_89, s222_90, s222_91, s222_92, s222_95, s222_96, s222_97, s222_100, s222_101, s222_104, s222_105, s222_106, s222_107, s222_108, s222_109, s222_110, s222_112, s222_113, s222_114, s222_115, s222_118, s222_119, s222_120, s222_123, s222_124, s222_127, s222_128, s222_129, s222_130, s222_133, s222_134, s222_135, s222_138, s222_139, s222_142, s222_143, s222_144, s222_145, s222_148, l1', m2, i21, p0, neq, nI_1, XG_1, XO_some, XV_1, xo_n, xo_i8, xo_r8, xo_i7, xo_r7, xo_i6, xo_r6, xo_i5, xo_r5, xo_i4, xo_r4, xo_i3, xo_r3, xo_i2, xo_r2, Option.toList_some, Option.toList_none, List.cons_append, List.nil_append, bI_t, bI_f, bI_0, bI_n0, if_true, if_false, true_and, and_true, ne_eq, not_true_eq_false, not_false_eq_true, one_ne0, reduceCtorEq]
      exact fin (2 * i) (by omega) K
    have l1' : nI (2 * i) < nI nw := nI_lt (by omega) (by omega)
    have a60 : 2 * i < 60 := by omega
    by_cases e1 : W (2 * i) = (ngs n T q0 (i + 1)).2.1
    case neg =>
      rw [if_pos (show wAt W nw (2 * i) (ngs n T q0 (i + 1)).2.1 = false by unfold wAt; rw [decide_eq_false e1, Bool.and_false])] at K
      simp only [s222_79, s222_80, s222_81, s222_82, s222_85, s222_86, s222_89, s222_90, s222_91, s222_92, s222_95, s222_96, s222_97, s222_100, s222_101, s222_104, s222_105, s222_106, s222_107, s222_108, s222_109, s222_110, s222_112, s222_113, s222_114, s222_115, s222_118, s222_119, s222_120, s222_123, s222_124, s222_127, s222_128, s222_129, s222_130, s222_133, s222_134, s222_135, s222_138, s222_139, s222_142, s222_143, s222_144, s222_145, s222_148, l1', m2, R1.1, R1.2.1, mf0, mf30, A4, f4, h20', XA60 a60, hV _ l1, e1, i21, p0, neq, nI_1, XG_1, XO_some, XV_1, xo_n, xo_i8, xo_r8, xo_i7, xo_r7, xo_i6, xo_r6, xo_i5, xo_r5, xo_i4, xo_r4, xo_i3, xo_r3, xo_i2, xo_r2, Option.toList_some, Option.toList_none, List.cons_append, List.nil_append, bI_t, bI_f, bI_0, bI_n0, if_true, if_false, true_and, and_true, ne_eq, not_true_eq_false, not_false_eq_true, one_ne0, reduceCtorEq]
      exact fin (2 * i) (by omega) K
    rw [if_neg (show ¬ wAt W nw (2 * i) (ngs n T q0 (i + 1)).2.1 = false by unfold wAt; rw [decide_eq_true e1, decide_eq_true l1]; decide)] at K
    by_cases l2 : 2 * i + 1 < nw
    case neg =>
      have l2' : ¬ nI (2 * i + 1) < nI nw := nI_nlt (by omega) (by omega)
      rw [if_pos (show wAt W nw (2 * i + 1) (ngs n T q0 (i + 1)).2.2 = false by unfold wAt; rw [decide_eq_false l2]; rfl)] at K
      simp only [s222_79, s222_80, s222_81, s222_82, s222_85, s222_86, s222_89, s222_90, s222_91, s222_92, s222_95, s222_96, s222_97, s222_100, s222_101, s222_104, s222_105, s222_106, s222_107, s222_108, s222_109, s222_110, s222_112, s222_113, s222_114, s222_115, s222_118, s222_119, s222_120, s222_123, s222_124, s222_127, s222_128, s222_129, s222_130, s222_133, s222_134, s222_135, s222_138, s222_139, s222_142, s222_143, s222_144, s222_145, s222_148, l1', m2, R1.1, R1.2.1, mf0, mf30, A4, f4, h20', XA60 a60, hV _ l1, e1, i21, p0, l2', nI_1, XG_1, XO_some, XV_1, xo_n, xo_i8, xo_r8, xo_i7, xo_r7, xo_i6, xo_r6, xo_i5, xo_r5, xo_i4, xo_r4, xo_i3, xo_r3, xo_i2, xo_r2, Option.toList_some, Option.toList_none, List.cons_append, List.nil_append, bI_t, bI_f, bI_0, bI_n0, if_true, if_false, true_and, and_true, ne_eq, not_true_eq_false, not_false_eq_true, one_ne0, reduceCtorEq]
      exact fin (2 * i + 1) (by omega) K
    have l2' : nI (2 * i + 1) < nI nw := nI_lt (by omega) (by omega)
    have b60 : 2 * i + 1 < 60 := by omega
    by_cases e2 : W (2 * i + 1) = (ngs n T q0 (i + 1)).2.2
    case neg =>
      rw [if_pos (show wAt W nw (2 * i + 1) (ngs n T q0 (i + 1)).2.2 = false by unfold wAt; rw [decide_eq_false e2, Bool.and_false])] at K
      simp only [s222_79, s222_80, s222_81, s222_82, s222_85, s222_86, s222_89, s222_90, s222_91, s222_92, s222_95, s222_96, s222_97, s222_100, s222_101, s222_104, s222_105, s222_106, s222_107, s222_108, s222_109, s222_110, s222_112, s222_113, s222_114, s222_115, s222_118, s222_119, s222_120, s222_123, s222_124, s222_127, s222_128, s222_129, s222_130, s222_133, s222_134, s222_135, s222_138, s222_139, s222_142, s222_143, s222_144, s222_145, s222_148, l1', m2, R1.1, R1.2.1, mf0, mf30, A4, A5, f4, f5, h20', XA60 a60, XA60 b60, hV _ l1, hV _ l2, e1, e2, i21, p0, l2', nI_1, XG_1, XO_some, XV_1, xo_n, xo_i8, xo_r8, xo_i7, xo_r7, xo_i6, xo_r6, xo_i5, xo_r5, xo_i4, xo_r4, xo_i3, xo_r3, xo_i2, xo_r2, Option.toList_some, Option.toList_none, List.cons_append, List.nil_append, bI_t, bI_f, bI_0, bI_n0, if_true, if_false, true_and, and_true, ne_eq, not_true_eq_false, not_false_eq_true, one_ne0, reduceCtorEq]
      exact fin (2 * i + 1) (by omega) K
    rw [if_neg (show ¬ wAt W nw (2 * i + 1) (ngs n T q0 (i + 1)).2.2 = false by unfold wAt; rw [decide_eq_true e2, decide_eq_true l2]; decide)] at K
    simp only [s222_79, s222_80, s222_81, s222_82, s222_85, s222_86, s222_89, s222_90, s222_91, s222_92, s222_95, s222_96, s222_97, s222_100, s222_101, s222_104, s222_105, s222_106, s222_107, s222_108, s222_109, s222_110, s222_112, s222_113, s222_114, s222_115, s222_118, s222_119, s222_120, s222_123, s222_124, s222_127, s222_128, s222_129, s222_130, s222_133, s222_134, s222_135, s222_138, s222_139, s222_142, s222_143, s222_144, s222_145, s222_148, l1', m2, R1.1, R1.2.1, mf0, mf30, A4, A5, f4, f5, h20', XA60 a60, XA60 b60, hV _ l1, hV _ l2, e1, e2, i21, p0, l2', nI_1, XG_1, XO_some, XV_1, xo_n, xo_i8, xo_r8, xo_i7, xo_r7, xo_i6, xo_r6, xo_i5, xo_r5, xo_i4, xo_r4, xo_i3, xo_r3, xo_i2, xo_r2, Option.toList_some, Option.toList_none, List.cons_append, List.nil_append, bI_t, bI_f, bI_0, bI_n0, if_true, if_false, true_and, and_true, ne_eq, not_true_eq_false, not_false_eq_true, one_ne0, reduceCtorEq]
    exact fin (2 * i + 2) (by omega) K
end CHK
