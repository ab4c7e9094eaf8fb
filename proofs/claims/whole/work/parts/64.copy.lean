/-! ===== 64: copy ===== -/
theorem nn_of {x : Int32} (hx : ¬ x < 0) : ∃ k, k < 2 ^ 31 ∧ x = nI k := by
  refine ⟨x.toInt.toNat, ?_, ?_⟩
  · have := x.toInt_lt; omega
  · have h0 : (0 : Int32).toInt = 0 := rfl
    rw [Int32.lt_iff_toInt_lt, h0] at hx
    have := x.toInt_lt
    rw [← Int32.toInt_inj, nI_toInt (by omega)]
    omega
theorem sub_nlt {k c a : Nat} (hk : k < 2 ^ 30) (hc : c < 2 ^ 31) (ha : a < 2 ^ 31) (h : ¬ nI k - nI c < nI a) : a + c ≤ k := by
  have e : (nI k - nI c).toInt = (k : Int) - c := by
    rw [Int32.toInt_sub, nI_toInt (by omega), nI_toInt (by omega)]
    exact Int.bmod_eq_of_le (by omega) (by omega)
  rw [Int32.lt_iff_toInt_lt, e, nI_toInt ha] at h
  omega
def mvf (G F : Nat → Int32) (o i : Nat) : Nat → Int32 := fun k => if k < i then G (o + k) else F k
theorem mvf_s {G F : Nat → Int32} {o i : Nat} : upd (mvf G F o i) i (G (o + i)) = mvf G F o (i + 1) := by
  funext k
  unfold upd mvf
  by_cases e : k = i
  · rw [if_pos e, if_pos (by omega), e]
  · rw [if_neg e]
    by_cases e2 : k < i
    · rw [if_pos e2, if_pos (by omega)]
    · rw [if_neg e2, if_neg (by omega)]
theorem mvf_0 {G F : Nat → Int32} {o : Nat} : mvf G F o 0 = F := by funext k; exact if_neg (by omega)
def cqr (G F : Nat → Int32) (b i : Nat) : Nat → Int32 := fun k => if b ≤ k ∧ k < b + i then G (k - b) else F k
theorem cqr_s {G F : Nat → Int32} {b i : Nat} : upd (cqr G F b i) (b + i) (G i) = cqr G F b (i + 1) := by
  funext k
  unfold upd cqr
  by_cases e : k = b + i
  · rw [if_pos e, if_pos (by omega), e, show b + i - b = i by omega]
  · rw [if_neg e]
    by_cases e2 : b ≤ k ∧ k < b + i
    · rw [if_pos e2, if_pos (by omega)]
    · rw [if_neg e2, if_neg (by omega)]
theorem cqr_0 {G F : Nat → Int32} {b : Nat} : cqr G F b 0 = F := by funext k; exact if_neg (by omega)
theorem cpy_cpr {f g : Nat → Int32} {a b c : Nat} : va_cpy f g a b c = cpr f g b a c := by
  funext j
  unfold cpr
  by_cases e : b ≤ j ∧ j < b + c
  · rw [if_pos e, pk_cpy_in e.1 e.2]
  · rw [if_neg e, pk_cpy_out (by omega)]
theorem XCp_p {f g : Nat → Int32} {F : va_E → Prop} {a b c : Nat} (h1 : a + c ≤ 24) (h2 : b + c ≤ 24) : XCp (.inl (0, xis 24 g)) (.inl (0, xis 24 f)) (nI c) (nI b) (nI a) F ↔ F (.inl (0, xis 24 (cpr f g b a c))) := by
  unfold XCp
  dsimp only
  rw [nI_clamp (show a < 2 ^ 31 by omega), nI_clamp (show b < 2 ^ 31 by omega), nI_clamp (show c < 2 ^ 31 by omega), cpy_cpr]
  exact ⟨fun q => q.2, fun q => ⟨⟨rfl, rfl, nI_pos' (by omega), nI_pos' (by omega), nI_pos' (by omega), by omega, by omega⟩, q⟩⟩
section COP
variable {B d : Nat} {E : Nat → va_E} {g0 : Nat → Value} {h h1 : xH} {q : RS} {m f w g : Nat → Int32} {n : Nat → Nat} {T : Nat → Nat → Int32} {p : Nat → Nat → Option Nat} {s : Nat → Nat → Int32} {Q : Option Value → xH → Prop} {x y z u v : Int32}
theorem c_hasPlaces {a k : Nat} {v1 v2 : Value} (hA : h.2.2.1 a = .inr (5, [v1, .int (nI k), v2])) : XC (d + 1) 18 [.ref a, .int x, .int y] h Q ↔ Q (some (.int (bI (!decide (y < 0) && !decide (x < 0) && !decide (nI k - y < x))))) h := by
  rw [e18]
  by_cases hy : y < 0
  · simp only [s18_0, s18_1, s18_4, s18_5, s18_8, s18_9, s18_10, s18_13, s18_14, s18_15, s18_18, s18_19, s18_22, s18_23, s18_23t, s18_23b, hA, l3_1, hy, decide_true, Bool.not_true, Bool.false_and, XG_1, XO_some, XV_1, xo_n, xo_i8, xo_r8, xo_i7, xo_r7, xo_i6, xo_r6, xo_i5, xo_r5, xo_i4, xo_r4, xo_i3, xo_r3, xo_i2, xo_r2, Option.toList_some, Option.toList_none, List.cons_append, List.nil_append, bI_t, bI_f, bI_0, bI_n0, if_true, if_false, true_and, and_true, ne_eq, not_true_eq_false, not_false_eq_true, one_ne0, reduceCtorEq]
  by_cases hx : x < 0
  · simp only [s18_0, s18_1, s18_4, s18_5, s18_8, s18_9, s18_10, s18_13, s18_14, s18_15, s18_18, s18_19, s18_22, s18_23, s18_23t, s18_23b, hA, l3_1, hy, hx, decide_true, Bool.not_true, Bool.false_and, Bool.and_false, XG_1, XO_some, XV_1, xo_n, xo_i8, xo_r8, xo_i7, xo_r7, xo_i6, xo_r6, xo_i5, xo_r5, xo_i4, xo_r4, xo_i3, xo_r3, xo_i2, xo_r2, Option.toList_some, Option.toList_none, List.cons_append, List.nil_append, bI_t, bI_f, bI_0, bI_n0, if_true, if_false, true_and, and_true, ne_eq, not_true_eq_false, not_false_eq_true, one_ne0, reduceCtorEq]
  by_cases hk : nI k - y < x
  · simp only [s18_0, s18_1, s18_4, s18_5, s18_8, s18_9, s18_10, s18_13, s18_14, s18_15, s18_18, s18_19, s18_22, s18_23, s18_23t, s18_23b, hA, l3_1, hy, hx, hk, decide_true, Bool.not_true, Bool.false_and, Bool.and_false, XG_1, XO_some, XV_1, xo_n, xo_i8, xo_r8, xo_i7, xo_r7, xo_i6, xo_r6, xo_i5, xo_r5, xo_i4, xo_r4, xo_i3, xo_r3, xo_i2, xo_r2, Option.toList_some, Option.toList_none, List.cons_append, List.nil_append, bI_t, bI_f, bI_0, bI_n0, if_true, if_false, true_and, and_true, ne_eq, not_true_eq_false, not_false_eq_true, one_ne0, reduceCtorEq]
  · simp only [s18_0, s18_1, s18_4, s18_5, s18_8, s18_9, s18_10, s18_13, s18_14, s18_15, s18_18, s18_19, s18_22, s18_23, s18_23t, s18_23b, hA, l3_1, hy, hx, hk, decide_false, Bool.not_false, Bool.true_and, XG_1, XO_some, XV_1, xo_n, xo_i8, xo_r8, xo_i7, xo_r7, xo_i6, xo_r6, xo_i5, xo_r5, xo_i4, xo_r4, xo_i3, xo_r3, xo_i2, xo_r2, Option.toList_some, Option.toList_none, List.cons_append, List.nil_append, bI_t, bI_f, bI_0, bI_n0, if_true, if_false, true_and, and_true, ne_eq, not_true_eq_false, not_false_eq_true, one_ne0, reduceCtorEq]
theorem l_cop1 {j a c b : Nat} (hj : j < 4) (hac : a + c ≤ 24) {F G : Nat → Int32} (hM : h.2.2.1 (B + 58) = .inr (12, modelF (B + 58) m)) (h14 : h.2.2.1 (B + 58 + 14) = .inl (0, xis 96 G)) {c3 c4 : Slot} : ∀ k i, i + k = c → (XE (d + 11) 216 105 [.val (.ref (B + 58)), .val (.int (nI j)), .val (.int (nI a)), c3, c4, .val (.int (nI c)), .val (.int (nI i))] [] (xset h (B + 58 + 19) (.inl (0, xis 24 (mvf G F (24 * j + a) i)))) Q ↔ XE (d + 11) 216 142 [.val (.ref (B + 58)), .val (.int (nI j)), .val (.int (nI a)), c3, c4, .val (.int (nI c)), .val (.int (nI 0))] [] (xset h (B + 58 + 19) (.inl (0, xis 24 (mvf G F (24 * j + a) c)))) Q) := by
  have e1 : ∀ e, (xset h (B + 58 + 19) e).2.2.1 (B + 58) = .inr (12, modelF (B + 58) m) := fun e => by rw [xset_ne (by omega)]; exact hM
  have e2 : ∀ e, (xset h (B + 58 + 19) e).2.2.1 (B + 58 + 14) = .inl (0, xis 96 G) := fun e => by rw [xset_ne (by omega)]; exact h14
  have m24 : (24 : Int32) * nI j = nI (24 * j) := pk_mul 24 j
  intro k
  induction k with
  | zero =>
    intro i hi
    have hlt : ¬ nI i < nI c := nI_nlt (by omega) (by omega)
    rw [s216_105]
    simp only [s216_107, s216_109, s216_112, s216_113, s216_116, s216_118, s216_119, s216_122, s216_124, s216_125, s216_126, s216_127, s216_128, s216_130, s216_131, s216_132, s216_133, s216_136, s216_139, s216_140, hlt, XG_1, XO_some, XV_1, xo_n, xo_i8, xo_r8, xo_i7, xo_r7, xo_i6, xo_r6, xo_i5, xo_r5, xo_i4, xo_r4, xo_i3, xo_r3, xo_i2, xo_r2, Option.toList_some, Option.toList_none, List.cons_append, List.nil_append, bI_t, bI_f, bI_0, bI_n0, if_true, if_false, true_and, and_true, ne_eq, not_true_eq_false, not_false_eq_true, one_ne0, reduceCtorEq]
    rw [show i = c by omega]
    rfl
  | succ k ih =>
    intro i hi
    have hlt : nI i < nI c := nI_lt (by omega) (by omega)
    have h24 : i < 24 := by omega
    have h96 : 24 * j + a + i < 96 := by omega
    rw [s216_105]
    simp only [s216_107, s216_109, s216_112, s216_113, s216_116, s216_118, s216_119, s216_122, s216_124, s216_125, s216_126, s216_127, s216_128, s216_130, s216_131, s216_132, s216_133, s216_136, s216_139, s216_140, hlt, e1, e2, mf24, mf29, m24, lA, XA96 h96, xset_self, XS24 h24, xset_twice, mvf_s, nI_1, XG_1, XO_some, XV_1, xo_n, xo_i8, xo_r8, xo_i7, xo_r7, xo_i6, xo_r6, xo_i5, xo_r5, xo_i4, xo_r4, xo_i3, xo_r3, xo_i2, xo_r2, Option.toList_some, Option.toList_none, List.cons_append, List.nil_append, bI_t, bI_f, bI_0, bI_n0, if_true, if_false, true_and, and_true, ne_eq, not_true_eq_false, not_false_eq_true, one_ne0, reduceCtorEq]
    exact ih (i + 1) (by omega)
theorem l_cop2 {j b c : Nat} (hj : j < 4) (hbc : b + c ≤ 24) {F G : Nat → Int32} (hM : h.2.2.1 (B + 58) = .inr (12, modelF (B + 58) m)) (h19 : h.2.2.1 (B + 58 + 19) = .inl (0, xis 24 G)) {c1 c2 : Slot} : ∀ k i, i + k = c → (XE (d + 11) 216 142 [.val (.ref (B + 58)), c1, c2, .val (.int (nI j)), .val (.int (nI b)), .val (.int (nI c)), .val (.int (nI i))] [] (xset h (B + 58 + 14) (.inl (0, xis 96 (cqr G F (24 * j + b) i)))) Q ↔ Q (some (.int (nI c))) (xset h (B + 58 + 14) (.inl (0, xis 96 (cqr G F (24 * j + b) c))))) := by
  have e1 : ∀ e, (xset h (B + 58 + 14) e).2.2.1 (B + 58) = .inr (12, modelF (B + 58) m) := fun e => by rw [xset_ne (by omega)]; exact hM
  have e2 : ∀ e, (xset h (B + 58 + 14) e).2.2.1 (B + 58 + 19) = .inl (0, xis 24 G) := fun e => by rw [xset_ne (by omega)]; exact h19
  have m24 : (24 : Int32) * nI j = nI (24 * j) := pk_mul 24 j
  intro k
  induction k with
  | zero =>
    intro i hi
    have hlt : ¬ nI i < nI c := nI_nlt (by omega) (by omega)
    rw [s216_142]
    simp only [s216_144, s216_146, s216_149, s216_150, s216_153, s216_155, s216_156, s216_157, s216_159, s216_160, s216_162, s216_163, s216_164, s216_167, s216_169, s216_170, s216_171, s216_174, s216_177, s216_179, hlt, XG_1, XO_some, XV_1, xo_n, xo_i8, xo_r8, xo_i7, xo_r7, xo_i6, xo_r6, xo_i5, xo_r5, xo_i4, xo_r4, xo_i3, xo_r3, xo_i2, xo_r2, Option.toList_some, Option.toList_none, List.cons_append, List.nil_append, bI_t, bI_f, bI_0, bI_n0, if_true, if_false, true_and, and_true, ne_eq, not_true_eq_false, not_false_eq_true, one_ne0, reduceCtorEq]
    rw [show i = c by omega]
  | succ k ih =>
    intro i hi
    have hlt : nI i < nI c := nI_lt (by omega) (by omega)
    have h24 : i < 24 := by omega
    have h96 : 24 * j + b + i < 96 := by omega
    rw [s216_142]
    simp only [s216_144, s216_146, s216_149, s216_150, s216_153, s216_155, s216_156, s216_157, s216_159, s216_160, s216_162, s216_163, s216_164, s216_167, s216_169, s216_170, s216_171, s216_174, s216_177, s216_179, hlt, e1, e2, mf24, mf29, m24, lA, XA24 h24, xset_self, XS96 h96, xset_twice, cqr_s, nI_1, XG_1, XO_some, XV_1, xo_n, xo_i8, xo_r8, xo_i7, xo_r7, xo_i6, xo_r6, xo_i5, xo_r5, xo_i4, xo_r4, xo_i3, xo_r3, xo_i2, xo_r2, Option.toList_some, Option.toList_none, List.cons_append, List.nil_append, bI_t, bI_f, bI_0, bI_n0, if_true, if_false, true_and, and_true, ne_eq, not_true_eq_false, not_false_eq_true, one_ne0, reduceCtorEq]
    exact ih (i + 1) (by omega)
abbrev copM (q : RS) (j1 a c : Nat) : Nat → Int32 := mvf (q.xv 14) (q.xv 19) (24 * j1 + a) c
abbrev copE (h : xH) (B : Nat) (q : RS) (j1 a j2 b c : Nat) : xH := xset (xset h (B + 58 + 19) (.inl (0, xis 24 (copM q j1 a c)))) (B + 58 + 14) (.inl (0, xis 96 (cqr (copM q j1 a c) (q.xv 14) (24 * j2 + b) c)))
theorem l_cop (R1 : RM h.2.2.1 (B + 58) m f w g) (Y : RXr B h.2.2.1 q) {j1 a j2 b c : Nat} (h1 : j1 < 4) (h2 : j2 < 4) (hac : a + c ≤ 24) (hbc : b + c ≤ 24) {c6 : Slot} : XE (d + 11) 216 102 [.val (.ref (B + 58)), .val (.int (nI j1)), .val (.int (nI a)), .val (.int (nI j2)), .val (.int (nI b)), .val (.int (nI c)), c6] [] h Q ↔ Q (some (.int (nI c))) (copE h B q j1 a j2 b c) := by
  have r14 : h.2.2.1 (B + 58 + 14) = .inl (0, xis 96 (q.xv 14)) := Y.2.2.2.2.2.2.2.2.2.2.1
  have r19 : h.2.2.1 (B + 58 + 19) = .inl (0, xis 24 (q.xv 19)) := Y.2.2.2.2.2.2.2.2.2.2.2.2.2.2.2.1
  have M1 : ∀ e, (xset h (B + 58 + 19) e).2.2.1 (B + 58) = .inr (12, modelF (B + 58) m) := fun e => by rw [xset_ne (by omega)]; exact R1.1
  have h14 : ∀ e, (xset h (B + 58 + 19) e).2.2.1 (B + 58 + 14) = .inl (0, xis 96 (q.xv 14)) := fun e => by rw [xset_ne (by omega)]; exact r14
  have L1 := l_cop1 (d := d) (Q := Q) (b := b) (c3 := .val (.int (nI j2))) (c4 := .val (.int (nI b))) h1 hac (F := q.xv 19) R1.1 r14 c 0 (by omega)
  rw [mvf_0, ← r19, xset_id] at L1
  have L2 := l_cop2 (d := d) (Q := Q) (c1 := .val (.int (nI j1))) (c2 := .val (.int (nI a))) (h := xset h (B + 58 + 19) (.inl (0, xis 24 (copM q j1 a c)))) h2 hbc (F := q.xv 14) (M1 _) xset_self c 0 (by omega)
  rw [cqr_0, ← h14 (.inl (0, xis 24 (copM q j1 a c))), xset_id] at L2
  simp only [s216_102, s216_103]
  exact L1.trans L2
theorem copFin (R : RT (B + 79) h.2.2.1 (B + 1) n T p s) (I : IV n T) (hE : ∀ a, a < B → h.2.2.1 a = E a) (hg : h.2.2.2 = g0) (hD : B + 79 ≤ h.1) (hz : ∀ a, h.1 ≤ a → h.2.2.1 a = .inr (99, [])) (M : MR n T f) (X : RX B h.2.2.1 q m) {j1 a j2 b c : Nat} (h4 : j1 < 4) (hj2 : j2 < 4) (hac : a + c ≤ 24) (hbc : b + c ≤ 24) (hso : ¬ q.xso j1 = -1) (F1 : FR (B + 79) (PX B) h h1) (X1 : RXc B h1.2.2.1 (q.sL j2 (cpr (q.xpl j1) (q.xpl j2) b a c))) (Y1 : RXr B h1.2.2.1 q) (R1 : RM h1.2.2.1 (B + 58) m f w g) : REP B E g0 (copE h1 B q j1 a j2 b c) ∧ (copE h1 B q j1 a j2 b c).1 ≤ h.1 + 3 ∧ (copE h1 B q j1 a j2 b c).2.1 ≤ h.2.1 + 200 := by
  have hD1 : B + 79 ≤ h1.1 := by rw [F1.1]; exact hD
  have F19 := F1.trans (FR.px (a := B + 58 + 19) (e := .inl (0, xis 24 (copM q j1 a c))) hD1 (Or.inr ⟨by omega, by omega⟩))
  have F : FR (B + 79) (PX B) h (copE h1 B q j1 a j2 b c) := F19.trans (FR.px (a := B + 58 + 14) (e := .inl (0, xis 96 (cqr (copM q j1 a c) (q.xv 14) (24 * j2 + b) c))) hD1 (Or.inr ⟨by omega, by omega⟩))
  have X2 := xc_o (xc_o X1 (a := B + 58 + 19) (e := .inl (0, xis 24 (copM q j1 a c))) (by omega)) (a := B + 58 + 14) (e := .inl (0, xis 96 (cqr (copM q j1 a c) (q.xv 14) (24 * j2 + b) c))) (by omega)
  have Y2 := xr_14 (xr_19 Y1 (f := copM q j1 a c)) (f := cqr (copM q j1 a c) (q.xv 14) (24 * j2 + b) c)
  have R2 := rm_o (rm_o R1 (a := B + 58 + 19) (e := .inl (0, xis 24 (copM q j1 a c))) (by omega) (by omega) (by omega) (by omega)) (a := B + 58 + 14) (e := .inl (0, xis 96 (cqr (copM q j1 a c) (q.xv 14) (24 * j2 + b) c))) (by omega) (by omega) (by omega) (by omega)
  obtain ⟨-, ⟨RI, II⟩, -, Xm⟩ := X
  have km := Xm.2.1
  obtain ⟨-, -, k14⟩ := km j1 h4
  have X3 := rxc_v (k := 14) (F := cqr (copM q j1 a c) (q.xv 14) (24 * j2 + b) c) (rxc_v (k := 19) (F := copM q j1 a c) X2)
  have Y3 := rxr_of (q2 := ((q.sL j2 (cpr (q.xpl j1) (q.xpl j2) b a c)).sV 19 (copM q j1 a c)).sV 14 (cqr (copM q j1 a c) (q.xv 14) (24 * j2 + b) c)) Y2 rfl
  refine ⟨rep_px R I hE hg hD hz F R2 M X3 RI II Y3 (rxm_fr (h := h) (rxm_of Xm rfl rfl rfl rfl rfl rfl rfl rfl rfl rfl rfl rfl rfl rfl rfl rfl rfl rfl rfl ?_) F), by rw [F.1]; omega, by rw [F.2.1]; omega⟩
  intro i hi
  obtain ⟨c1, c2, c3⟩ := km i hi
  show q.xv 12 i = q.xso i ∧ q.xv 13 i = nI (q.xsz i) ∧ (¬ q.xso i = -1 → ∀ k, k < 24 → cqr (copM q j1 a c) (q.xv 14) (24 * j2 + b) c (24 * i + k) = rup q.xpl j2 (cpr (q.xpl j1) (q.xpl j2) b a c) i k)
  refine ⟨c1, c2, fun hs k hk => ?_⟩
  by_cases e : i = j2
  · subst e
    rw [rup_at]
    by_cases e2 : b ≤ k ∧ k < b + c
    · rw [show cpr (q.xpl j1) (q.xpl i) b a c k = q.xpl j1 (a + (k - b)) from if_pos e2, ← k14 hso (a + (k - b)) (by omega), show cqr (copM q j1 a c) (q.xv 14) (24 * i + b) c (24 * i + k) = copM q j1 a c (24 * i + k - (24 * i + b)) from if_pos ⟨by omega, by omega⟩, show 24 * i + k - (24 * i + b) = k - b by omega, show copM q j1 a c (k - b) = q.xv 14 (24 * j1 + a + (k - b)) from if_pos (by omega), show 24 * j1 + a + (k - b) = 24 * j1 + (a + (k - b)) by omega]
    · rw [show cpr (q.xpl j1) (q.xpl i) b a c k = q.xpl i k from if_neg e2, ← c3 hs k hk]
      exact if_neg (by omega)
  · rw [rup_ne e, ← c3 hs k hk]
    exact if_neg (by omega)
theorem ok_copy (S : REP B E g0 h) : OK B E g0 d h 113 216 [.int x, .int y, .int z, .int u, .int v] := by
  have S0 := S
  obtain ⟨⟨n, T, p, s, m, f, w, g, q, R, I, RR, M, X⟩, hE, hg, hD, hz⟩ := S
  have Xc := X.1
  have Xr := X.2.2.1
  have Xm := X.2.2.2
  have hO := Xc.1.1
  have r12 : h.2.2.1 (B + 58 + 12) = .inl (0, xis 4 (q.xv 12)) := Xr.2.2.2.2.2.2.2.2.1
  have r13 : h.2.2.1 (B + 58 + 13) = .inl (0, xis 4 (q.xv 13)) := Xr.2.2.2.2.2.2.2.2.2.1
  cases hx : wiB x 0 3 with
  | false =>
    cases hw : wiB z 0 3 with
    | false =>
      refine ok_ro S0 BAD (fun Q K => ?_) (fun Q K => ?_)
      · rw [e113]; simp only [s113_0, s113_1, s113_2, s113_5, s113_5n, s113_7, s113_8, s113_9, s113_12, s113_12n, s113_14, s113_14n, s113_16, s113_16n, s113_19, s113_19n, s113_21, s113_21n, s113_24, s113_26, s113_27, s113_27n, s113_29, s113_32, s113_33, s113_36, s113_36n, s113_38, s113_41, s113_42, s113_45, s113_48, s113_49, s113_49n, s113_51, s113_54, s113_54n, s113_56, s113_59, s113_62, s113_64, s113_65, s113_65n, s113_67, s113_68, s113_70, s113_73, s113_76, s113_76n, s113_78, s113_80, s113_82, s113_85, s113_88, s113_91, s113_92, s113_92n, s113_94, s113_97, s113_98, s113_98n, s113_100, s113_103, s113_105, s113_110, s113_112, hO, c_sheetAt Xc, hx, hw, Bool.false_eq_true, XG_1, XO_some, XV_1, xo_n, xo_i8, xo_r8, xo_i7, xo_r7, xo_i6, xo_r6, xo_i5, xo_r5, xo_i4, xo_r4, xo_i3, xo_r3, xo_i2, xo_r2, Option.toList_some, Option.toList_none, List.cons_append, List.nil_append, bI_t, bI_f, bI_0, bI_n0, if_true, if_false, true_and, and_true, ne_eq, not_true_eq_false, not_false_eq_true, one_ne0, reduceCtorEq]; exact K
      · rw [e216]; simp only [s216_0, s216_1, s216_4, s216_7, s216_8, s216_11, s216_14, s216_16, s216_17, s216_18, s216_21, s216_22, s216_23, s216_26, s216_27, s216_30, s216_31, s216_32, s216_35, s216_38, s216_39, s216_40, s216_43, s216_44, s216_45, s216_46, s216_49, s216_50, s216_51, s216_54, s216_56, s216_57, s216_58, s216_61, s216_63, s216_66, s216_68, s216_71, s216_72, s216_73, s216_76, s216_77, s216_78, s216_80, s216_81, s216_84, s216_86, s216_87, s216_90, s216_91, s216_92, s216_94, s216_95, s216_98, s216_101, s216_102, s216_103, s216_107, s216_109, s216_112, s216_113, s216_116, s216_118, s216_119, s216_122, s216_124, s216_125, s216_126, s216_127, s216_128, s216_130, s216_131, s216_132, s216_133, s216_136, s216_139, s216_140, s216_144, s216_146, s216_149, s216_150, s216_153, s216_155, s216_156, s216_157, s216_159, s216_160, s216_162, s216_163, s216_164, s216_167, s216_169, s216_170, s216_171, s216_174, s216_177, s216_179, c_isSheet, hx, XG_1, XO_some, XV_1, xo_n, xo_i8, xo_r8, xo_i7, xo_r7, xo_i6, xo_r6, xo_i5, xo_r5, xo_i4, xo_r4, xo_i3, xo_r3, xo_i2, xo_r2, Option.toList_some, Option.toList_none, List.cons_append, List.nil_append, bI_t, bI_f, bI_0, bI_n0, if_true, if_false, true_and, and_true, ne_eq, not_true_eq_false, not_false_eq_true, one_ne0, reduceCtorEq]; exact K
    | true =>
      refine ok_ro S0 BAD (fun Q K => ?_) (fun Q K => ?_)
      · rw [e113]; simp only [s113_0, s113_1, s113_2, s113_5, s113_5n, s113_7, s113_8, s113_9, s113_12, s113_12n, s113_14, s113_14n, s113_16, s113_16n, s113_19, s113_19n, s113_21, s113_21n, s113_24, s113_26, s113_27, s113_27n, s113_29, s113_32, s113_33, s113_36, s113_36n, s113_38, s113_41, s113_42, s113_45, s113_48, s113_49, s113_49n, s113_51, s113_54, s113_54n, s113_56, s113_59, s113_62, s113_64, s113_65, s113_65n, s113_67, s113_68, s113_70, s113_73, s113_76, s113_76n, s113_78, s113_80, s113_82, s113_85, s113_88, s113_91, s113_92, s113_92n, s113_94, s113_97, s113_98, s113_98n, s113_100, s113_103, s113_105, s113_110, s113_112, hO, c_sheetAt Xc, hx, hw, Bool.false_eq_true, XG_1, XO_some, XV_1, xo_n, xo_i8, xo_r8, xo_i7, xo_r7, xo_i6, xo_r6, xo_i5, xo_r5, xo_i4, xo_r4, xo_i3, xo_r3, xo_i2, xo_r2, Option.toList_some, Option.toList_none, List.cons_append, List.nil_append, bI_t, bI_f, bI_0, bI_n0, if_true, if_false, true_and, and_true, ne_eq, not_true_eq_false, not_false_eq_true, one_ne0, reduceCtorEq]; exact K
      · rw [e216]; simp only [s216_0, s216_1, s216_4, s216_7, s216_8, s216_11, s216_14, s216_16, s216_17, s216_18, s216_21, s216_22, s216_23, s216_26, s216_27, s216_30, s216_31, s216_32, s216_35, s216_38, s216_39, s216_40, s216_43, s216_44, s216_45, s216_46, s216_49, s216_50, s216_51, s216_54, s216_56, s216_57, s216_58, s216_61, s216_63, s216_66, s216_68, s216_71, s216_72, s216_73, s216_76, s216_77, s216_78, s216_80, s216_81, s216_84, s216_86, s216_87, s216_90, s216_91, s216_92, s216_94, s216_95, s216_98, s216_101, s216_102, s216_103, s216_107, s216_109, s216_112, s216_113, s216_116, s216_118, s216_119, s216_122, s216_124, s216_125, s216_126, s216_127, s216_128, s216_130, s216_131, s216_132, s216_133, s216_136, s216_139, s216_140, s216_144, s216_146, s216_149, s216_150, s216_153, s216_155, s216_156, s216_157, s216_159, s216_160, s216_162, s216_163, s216_164, s216_167, s216_169, s216_170, s216_171, s216_174, s216_177, s216_179, c_isSheet, hx, XG_1, XO_some, XV_1, xo_n, xo_i8, xo_r8, xo_i7, xo_r7, xo_i6, xo_r6, xo_i5, xo_r5, xo_i4, xo_r4, xo_i3, xo_r3, xo_i2, xo_r2, Option.toList_some, Option.toList_none, List.cons_append, List.nil_append, bI_t, bI_f, bI_0, bI_n0, if_true, if_false, true_and, and_true, ne_eq, not_true_eq_false, not_false_eq_true, one_ne0, reduceCtorEq]; exact K
  | true =>
  obtain ⟨j1, hj, rfl⟩ := wiB_t (k := 3) hx (by decide)
  have h4 : j1 < 4 := by omega
  have hcl : (nI j1).toNatClampNeg = j1 := nI_clamp (by omega)
  cases hw : wiB z 0 3 with
  | false =>
    refine ok_ro S0 BAD (fun Q K => ?_) (fun Q K => ?_)
    · rw [e113]; simp only [s113_0, s113_1, s113_2, s113_5, s113_5n, s113_7, s113_8, s113_9, s113_12, s113_12n, s113_14, s113_14n, s113_16, s113_16n, s113_19, s113_19n, s113_21, s113_21n, s113_24, s113_26, s113_27, s113_27n, s113_29, s113_32, s113_33, s113_36, s113_36n, s113_38, s113_41, s113_42, s113_45, s113_48, s113_49, s113_49n, s113_51, s113_54, s113_54n, s113_56, s113_59, s113_62, s113_64, s113_65, s113_65n, s113_67, s113_68, s113_70, s113_73, s113_76, s113_76n, s113_78, s113_80, s113_82, s113_85, s113_88, s113_91, s113_92, s113_92n, s113_94, s113_97, s113_98, s113_98n, s113_100, s113_103, s113_105, s113_110, s113_112, hO, c_sheetAt Xc, hx, hcl, hw, Bool.false_eq_true, XG_1, XO_some, XV_1, xo_n, xo_i8, xo_r8, xo_i7, xo_r7, xo_i6, xo_r6, xo_i5, xo_r5, xo_i4, xo_r4, xo_i3, xo_r3, xo_i2, xo_r2, Option.toList_some, Option.toList_none, List.cons_append, List.nil_append, bI_t, bI_f, bI_0, bI_n0, if_true, if_false, true_and, and_true, ne_eq, not_true_eq_false, not_false_eq_true, one_ne0, reduceCtorEq]; exact K
    · rw [e216]; simp only [s216_0, s216_1, s216_4, s216_7, s216_8, s216_11, s216_14, s216_16, s216_17, s216_18, s216_21, s216_22, s216_23, s216_26, s216_27, s216_30, s216_31, s216_32, s216_35, s216_38, s216_39, s216_40, s216_43, s216_44, s216_45, s216_46, s216_49, s216_50, s216_51, s216_54, s216_56, s216_57, s216_58, s216_61, s216_63, s216_66, s216_68, s216_71, s216_72, s216_73, s216_76, s216_77, s216_78, s216_80, s216_81, s216_84, s216_86, s216_87, s216_90, s216_91, s216_92, s216_94, s216_95, s216_98, s216_101, s216_102, s216_103, s216_107, s216_109, s216_112, s216_113, s216_116, s216_118, s216_119, s216_122, s216_124, s216_125, s216_126, s216_127, s216_128, s216_130, s216_131, s216_132, s216_133, s216_136, s216_139, s216_140, s216_144, s216_146, s216_149, s216_150, s216_153, s216_155, s216_156, s216_157, s216_159, s216_160, s216_162, s216_163, s216_164, s216_167, s216_169, s216_170, s216_171, s216_174, s216_177, s216_179, c_isSheet, hx, hw, XG_1, XO_some, XV_1, xo_n, xo_i8, xo_r8, xo_i7, xo_r7, xo_i6, xo_r6, xo_i5, xo_r5, xo_i4, xo_r4, xo_i3, xo_r3, xo_i2, xo_r2, Option.toList_some, Option.toList_none, List.cons_append, List.nil_append, bI_t, bI_f, bI_0, bI_n0, if_true, if_false, true_and, and_true, ne_eq, not_true_eq_false, not_false_eq_true, one_ne0, reduceCtorEq, Bool.true_eq_false]; exact K
  | true =>
  obtain ⟨j2, hj2, rfl⟩ := wiB_t (k := 3) hw (by decide)
  have h42 : j2 < 4 := by omega
  have hcl2 : (nI j2).toNatClampNeg = j2 := nI_clamp (by omega)
  obtain ⟨a1, a2, a3, a4⟩ := Xc.2.1 j1 h4
  obtain ⟨b1, b2, b3⟩ := Xm.2.1 j1 h4
  obtain ⟨d1, d2, d3, d4⟩ := Xc.2.1 j2 h42
  obtain ⟨f1, f2, f3⟩ := Xm.2.1 j2 h42
  have m1 : ((-1 : Int32) < 0) = True := eq_true (by decide)
  by_cases hs : q.xso j1 = -1
  · refine ok_ro S0 (-1000000011) (fun Q K => ?_) (fun Q K => ?_)
    · rw [e113]; simp only [s113_0, s113_1, s113_2, s113_5, s113_5n, s113_7, s113_8, s113_9, s113_12, s113_12n, s113_14, s113_14n, s113_16, s113_16n, s113_19, s113_19n, s113_21, s113_21n, s113_24, s113_26, s113_27, s113_27n, s113_29, s113_32, s113_33, s113_36, s113_36n, s113_38, s113_41, s113_42, s113_45, s113_48, s113_49, s113_49n, s113_51, s113_54, s113_54n, s113_56, s113_59, s113_62, s113_64, s113_65, s113_65n, s113_67, s113_68, s113_70, s113_73, s113_76, s113_76n, s113_78, s113_80, s113_82, s113_85, s113_88, s113_91, s113_92, s113_92n, s113_94, s113_97, s113_98, s113_98n, s113_100, s113_103, s113_105, s113_110, s113_112, hO, c_sheetAt Xc, hx, hcl, hw, hcl2, a1, l3_0, hs, XG_1, XO_some, XV_1, xo_n, xo_i8, xo_r8, xo_i7, xo_r7, xo_i6, xo_r6, xo_i5, xo_r5, xo_i4, xo_r4, xo_i3, xo_r3, xo_i2, xo_r2, Option.toList_some, Option.toList_none, List.cons_append, List.nil_append, bI_t, bI_f, bI_0, bI_n0, if_true, if_false, true_and, and_true, ne_eq, not_true_eq_false, not_false_eq_true, one_ne0, reduceCtorEq]; exact K
    · rw [e216]; simp only [s216_0, s216_1, s216_4, s216_7, s216_8, s216_11, s216_14, s216_16, s216_17, s216_18, s216_21, s216_22, s216_23, s216_26, s216_27, s216_30, s216_31, s216_32, s216_35, s216_38, s216_39, s216_40, s216_43, s216_44, s216_45, s216_46, s216_49, s216_50, s216_51, s216_54, s216_56, s216_57, s216_58, s216_61, s216_63, s216_66, s216_68, s216_71, s216_72, s216_73, s216_76, s216_77, s216_78, s216_80, s216_81, s216_84, s216_86, s216_87, s216_90, s216_91, s216_92, s216_94, s216_95, s216_98, s216_101, s216_102, s216_103, s216_107, s216_109, s216_112, s216_113, s216_116, s216_118, s216_119, s216_122, s216_124, s216_125, s216_126, s216_127, s216_128, s216_130, s216_131, s216_132, s216_133, s216_136, s216_139, s216_140, s216_144, s216_146, s216_149, s216_150, s216_153, s216_155, s216_156, s216_157, s216_159, s216_160, s216_162, s216_163, s216_164, s216_167, s216_169, s216_170, s216_171, s216_174, s216_177, s216_179, c_isSheet, hx, hw, RR.1, mf22, r12, XA4 h4, b1, hs, m1, XG_1, XO_some, XV_1, xo_n, xo_i8, xo_r8, xo_i7, xo_r7, xo_i6, xo_r6, xo_i5, xo_r5, xo_i4, xo_r4, xo_i3, xo_r3, xo_i2, xo_r2, Option.toList_some, Option.toList_none, List.cons_append, List.nil_append, bI_t, bI_f, bI_0, bI_n0, if_true, if_false, true_and, and_true, ne_eq, not_true_eq_false, not_false_eq_true, one_ne0, reduceCtorEq, Bool.true_eq_false]; exact K
  have hp : ¬ q.xso j1 < 0 := by rcases a3 with e | e | e; exact absurd e hs; rw [e]; decide; rw [e]; decide
  by_cases hs2 : q.xso j2 = -1
  · refine ok_ro S0 (-1000000011) (fun Q K => ?_) (fun Q K => ?_)
    · rw [e113]; simp only [s113_0, s113_1, s113_2, s113_5, s113_5n, s113_7, s113_8, s113_9, s113_12, s113_12n, s113_14, s113_14n, s113_16, s113_16n, s113_19, s113_19n, s113_21, s113_21n, s113_24, s113_26, s113_27, s113_27n, s113_29, s113_32, s113_33, s113_36, s113_36n, s113_38, s113_41, s113_42, s113_45, s113_48, s113_49, s113_49n, s113_51, s113_54, s113_54n, s113_56, s113_59, s113_62, s113_64, s113_65, s113_65n, s113_67, s113_68, s113_70, s113_73, s113_76, s113_76n, s113_78, s113_80, s113_82, s113_85, s113_88, s113_91, s113_92, s113_92n, s113_94, s113_97, s113_98, s113_98n, s113_100, s113_103, s113_105, s113_110, s113_112, hO, c_sheetAt Xc, hx, hcl, hw, hcl2, a1, d1, l3_0, hs, hs2, XG_1, XO_some, XV_1, xo_n, xo_i8, xo_r8, xo_i7, xo_r7, xo_i6, xo_r6, xo_i5, xo_r5, xo_i4, xo_r4, xo_i3, xo_r3, xo_i2, xo_r2, Option.toList_some, Option.toList_none, List.cons_append, List.nil_append, bI_t, bI_f, bI_0, bI_n0, if_true, if_false, true_and, and_true, ne_eq, not_true_eq_false, not_false_eq_true, one_ne0, reduceCtorEq]; exact K
    · rw [e216]; simp only [s216_0, s216_1, s216_4, s216_7, s216_8, s216_11, s216_14, s216_16, s216_17, s216_18, s216_21, s216_22, s216_23, s216_26, s216_27, s216_30, s216_31, s216_32, s216_35, s216_38, s216_39, s216_40, s216_43, s216_44, s216_45, s216_46, s216_49, s216_50, s216_51, s216_54, s216_56, s216_57, s216_58, s216_61, s216_63, s216_66, s216_68, s216_71, s216_72, s216_73, s216_76, s216_77, s216_78, s216_80, s216_81, s216_84, s216_86, s216_87, s216_90, s216_91, s216_92, s216_94, s216_95, s216_98, s216_101, s216_102, s216_103, s216_107, s216_109, s216_112, s216_113, s216_116, s216_118, s216_119, s216_122, s216_124, s216_125, s216_126, s216_127, s216_128, s216_130, s216_131, s216_132, s216_133, s216_136, s216_139, s216_140, s216_144, s216_146, s216_149, s216_150, s216_153, s216_155, s216_156, s216_157, s216_159, s216_160, s216_162, s216_163, s216_164, s216_167, s216_169, s216_170, s216_171, s216_174, s216_177, s216_179, c_isSheet, hx, hw, RR.1, mf22, r12, XA4 h4, XA4 h42, b1, f1, hp, hs2, m1, XG_1, XO_some, XV_1, xo_n, xo_i8, xo_r8, xo_i7, xo_r7, xo_i6, xo_r6, xo_i5, xo_r5, xo_i4, xo_r4, xo_i3, xo_r3, xo_i2, xo_r2, Option.toList_some, Option.toList_none, List.cons_append, List.nil_append, bI_t, bI_f, bI_0, bI_n0, if_true, if_false, true_and, and_true, ne_eq, not_true_eq_false, not_false_eq_true, one_ne0, reduceCtorEq, Bool.true_eq_false]; exact K
  have hp2 : ¬ q.xso j2 < 0 := by rcases d3 with e | e | e; exact absurd e hs2; rw [e]; decide; rw [e]; decide
  by_cases he : q.xso j1 = q.xso j2
  case neg =>
    refine ok_ro S0 (-1000000012) (fun Q K => ?_) (fun Q K => ?_)
    · rw [e113]; simp only [s113_0, s113_1, s113_2, s113_5, s113_5n, s113_7, s113_8, s113_9, s113_12, s113_12n, s113_14, s113_14n, s113_16, s113_16n, s113_19, s113_19n, s113_21, s113_21n, s113_24, s113_26, s113_27, s113_27n, s113_29, s113_32, s113_33, s113_36, s113_36n, s113_38, s113_41, s113_42, s113_45, s113_48, s113_49, s113_49n, s113_51, s113_54, s113_54n, s113_56, s113_59, s113_62, s113_64, s113_65, s113_65n, s113_67, s113_68, s113_70, s113_73, s113_76, s113_76n, s113_78, s113_80, s113_82, s113_85, s113_88, s113_91, s113_92, s113_92n, s113_94, s113_97, s113_98, s113_98n, s113_100, s113_103, s113_105, s113_110, s113_112, hO, c_sheetAt Xc, hx, hcl, hw, hcl2, a1, d1, l3_0, hs, hs2, he, XG_1, XO_some, XV_1, xo_n, xo_i8, xo_r8, xo_i7, xo_r7, xo_i6, xo_r6, xo_i5, xo_r5, xo_i4, xo_r4, xo_i3, xo_r3, xo_i2, xo_r2, Option.toList_some, Option.toList_none, List.cons_append, List.nil_append, bI_t, bI_f, bI_0, bI_n0, if_true, if_false, true_and, and_true, ne_eq, not_true_eq_false, not_false_eq_true, one_ne0, reduceCtorEq]; exact K
    · rw [e216]; simp only [s216_0, s216_1, s216_4, s216_7, s216_8, s216_11, s216_14, s216_16, s216_17, s216_18, s216_21, s216_22, s216_23, s216_26, s216_27, s216_30, s216_31, s216_32, s216_35, s216_38, s216_39, s216_40, s216_43, s216_44, s216_45, s216_46, s216_49, s216_50, s216_51, s216_54, s216_56, s216_57, s216_58, s216_61, s216_63, s216_66, s216_68, s216_71, s216_72, s216_73, s216_76, s216_77, s216_78, s216_80, s216_81, s216_84, s216_86, s216_87, s216_90, s216_91, s216_92, s216_94, s216_95, s216_98, s216_101, s216_102, s216_103, s216_107, s216_109, s216_112, s216_113, s216_116, s216_118, s216_119, s216_122, s216_124, s216_125, s216_126, s216_127, s216_128, s216_130, s216_131, s216_132, s216_133, s216_136, s216_139, s216_140, s216_144, s216_146, s216_149, s216_150, s216_153, s216_155, s216_156, s216_157, s216_159, s216_160, s216_162, s216_163, s216_164, s216_167, s216_169, s216_170, s216_171, s216_174, s216_177, s216_179, c_isSheet, hx, hw, RR.1, mf22, r12, XA4 h4, XA4 h42, b1, f1, hp, hp2, he, XG_1, XO_some, XV_1, xo_n, xo_i8, xo_r8, xo_i7, xo_r7, xo_i6, xo_r6, xo_i5, xo_r5, xo_i4, xo_r4, xo_i3, xo_r3, xo_i2, xo_r2, Option.toList_some, Option.toList_none, List.cons_append, List.nil_append, bI_t, bI_f, bI_0, bI_n0, if_true, if_false, true_and, and_true, ne_eq, not_true_eq_false, not_false_eq_true, one_ne0, reduceCtorEq, Bool.true_eq_false]; exact K
  rw [he] at hs hp
  have hns : (q.xso j2 = -1) = False := eq_false hs2
  have bad : ∀ (hcls : ∀ Q : Option Value → xH → Prop, Q (some (.int (-1000000013))) h → (if (!decide (v < 0) && !decide (y < 0) && !decide (nI (q.xsz j1) - v < y)) = false then Q (some (.int (-1000000013))) h else if (!decide (v < 0) && !decide (u < 0) && !decide (nI (q.xsz j2) - v < u)) = false then Q (some (.int (-1000000013))) h else False)) (hrf : ∀ Q : Option Value → xH → Prop, Q (some (.int (-1000000013))) h → XE (d + 11) 216 57 [.val (.ref (B + 58)), .val (.int (nI j1)), .val (.int y), .val (.int (nI j2)), .val (.int u), .val (.int v), .unset] [] h Q), OK B E g0 d h 113 216 [.int (nI j1), .int y, .int (nI j2), .int u, .int v] := by
    intro hcls hrf
    refine ok_ro S0 (-1000000013) (fun Q K => ?_) (fun Q K => ?_)
    · have K1 := hcls Q K
      rw [e113]; simp only [s113_0, s113_1, s113_2, s113_5, s113_5n, s113_7, s113_8, s113_9, s113_12, s113_12n, s113_14, s113_14n, s113_16, s113_16n, s113_19, s113_19n, s113_21, s113_21n, s113_24, s113_26, s113_27, s113_27n, s113_29, s113_32, s113_33, s113_36, s113_36n, s113_38, s113_41, s113_42, s113_45, s113_48, s113_49, s113_49n, s113_51, s113_54, s113_54n, s113_56, s113_59, s113_62, s113_64, s113_65, s113_65n, s113_67, s113_68, s113_70, s113_73, s113_76, s113_76n, s113_78, s113_80, s113_82, s113_85, s113_88, s113_91, s113_92, s113_92n, s113_94, s113_97, s113_98, s113_98n, s113_100, s113_103, s113_105, s113_110, s113_112, hO, c_sheetAt Xc, hx, hcl, hw, hcl2, a1, d1, l3_0, hs, hs2, he, c_hasPlaces a1, c_hasPlaces d1, XG_1, XO_some, XV_1, xo_n, xo_i8, xo_r8, xo_i7, xo_r7, xo_i6, xo_r6, xo_i5, xo_r5, xo_i4, xo_r4, xo_i3, xo_r3, xo_i2, xo_r2, Option.toList_some, Option.toList_none, List.cons_append, List.nil_append, bI_t, bI_f, bI_0, bI_n0, if_true, if_false, true_and, and_true, ne_eq, not_true_eq_false, not_false_eq_true, one_ne0, reduceCtorEq]
      by_cases k1 : (!decide (v < 0) && !decide (y < 0) && !decide (nI (q.xsz j1) - v < y)) = false
      · rw [if_pos k1]; exact K
      · rw [if_neg k1] at K1 ⊢
        by_cases k2 : (!decide (v < 0) && !decide (u < 0) && !decide (nI (q.xsz j2) - v < u)) = false
        · rw [if_pos k2]; exact K
        · rw [if_neg k2] at K1; exact K1.elim
    · have K1 := hrf Q K
      rw [e216]; simp only [s216_0, s216_1, s216_4, s216_7, s216_8, s216_11, s216_14, s216_16, s216_17, s216_18, s216_21, s216_22, s216_23, s216_26, s216_27, s216_30, s216_31, s216_32, s216_35, s216_38, s216_39, s216_40, s216_43, s216_44, s216_45, s216_46, s216_49, s216_50, s216_51, s216_54, s216_56, c_isSheet, hx, hw, RR.1, mf22, r12, XA4 h4, XA4 h42, b1, f1, hp2, he, XG_1, XO_some, XV_1, xo_n, xo_i8, xo_r8, xo_i7, xo_r7, xo_i6, xo_r6, xo_i5, xo_r5, xo_i4, xo_r4, xo_i3, xo_r3, xo_i2, xo_r2, Option.toList_some, Option.toList_none, List.cons_append, List.nil_append, bI_t, bI_f, bI_0, bI_n0, if_true, if_false, true_and, and_true, ne_eq, not_true_eq_false, not_false_eq_true, one_ne0, reduceCtorEq, Bool.true_eq_false]; exact K1
  by_cases hv : v < 0
  · refine bad (fun Q K => ?_) (fun Q K => ?_)
    · simp only [hv, decide_true, Bool.not_true, Bool.false_and, XG_1, XO_some, XV_1, xo_n, xo_i8, xo_r8, xo_i7, xo_r7, xo_i6, xo_r6, xo_i5, xo_r5, xo_i4, xo_r4, xo_i3, xo_r3, xo_i2, xo_r2, Option.toList_some, Option.toList_none, List.cons_append, List.nil_append, bI_t, bI_f, bI_0, bI_n0, if_true, if_false, true_and, and_true, ne_eq, not_true_eq_false, not_false_eq_true, one_ne0, reduceCtorEq]; exact K
    · by_cases hy : y < 0
      · simp only [s216_57, s216_58, s216_61, s216_63, s216_66, s216_68, s216_71, s216_72, s216_73, s216_76, s216_77, s216_78, s216_80, s216_81, s216_84, s216_86, s216_87, s216_90, s216_91, s216_92, s216_94, s216_95, s216_98, s216_101, hy, XG_1, XO_some, XV_1, xo_n, xo_i8, xo_r8, xo_i7, xo_r7, xo_i6, xo_r6, xo_i5, xo_r5, xo_i4, xo_r4, xo_i3, xo_r3, xo_i2, xo_r2, Option.toList_some, Option.toList_none, List.cons_append, List.nil_append, bI_t, bI_f, bI_0, bI_n0, if_true, if_false, true_and, and_true, ne_eq, not_true_eq_false, not_false_eq_true, one_ne0, reduceCtorEq]; exact K
      by_cases hu : u < 0
      · simp only [s216_57, s216_58, s216_61, s216_63, s216_66, s216_68, s216_71, s216_72, s216_73, s216_76, s216_77, s216_78, s216_80, s216_81, s216_84, s216_86, s216_87, s216_90, s216_91, s216_92, s216_94, s216_95, s216_98, s216_101, hy, hu, XG_1, XO_some, XV_1, xo_n, xo_i8, xo_r8, xo_i7, xo_r7, xo_i6, xo_r6, xo_i5, xo_r5, xo_i4, xo_r4, xo_i3, xo_r3, xo_i2, xo_r2, Option.toList_some, Option.toList_none, List.cons_append, List.nil_append, bI_t, bI_f, bI_0, bI_n0, if_true, if_false, true_and, and_true, ne_eq, not_true_eq_false, not_false_eq_true, one_ne0, reduceCtorEq]; exact K
      · simp only [s216_57, s216_58, s216_61, s216_63, s216_66, s216_68, s216_71, s216_72, s216_73, s216_76, s216_77, s216_78, s216_80, s216_81, s216_84, s216_86, s216_87, s216_90, s216_91, s216_92, s216_94, s216_95, s216_98, s216_101, hy, hu, hv, XG_1, XO_some, XV_1, xo_n, xo_i8, xo_r8, xo_i7, xo_r7, xo_i6, xo_r6, xo_i5, xo_r5, xo_i4, xo_r4, xo_i3, xo_r3, xo_i2, xo_r2, Option.toList_some, Option.toList_none, List.cons_append, List.nil_append, bI_t, bI_f, bI_0, bI_n0, if_true, if_false, true_and, and_true, ne_eq, not_true_eq_false, not_false_eq_true, one_ne0, reduceCtorEq]; exact K
  by_cases hy : y < 0
  · refine bad (fun Q K => ?_) (fun Q K => ?_)
    · simp only [hv, hy, decide_true, Bool.not_true, Bool.false_and, Bool.and_false, XG_1, XO_some, XV_1, xo_n, xo_i8, xo_r8, xo_i7, xo_r7, xo_i6, xo_r6, xo_i5, xo_r5, xo_i4, xo_r4, xo_i3, xo_r3, xo_i2, xo_r2, Option.toList_some, Option.toList_none, List.cons_append, List.nil_append, bI_t, bI_f, bI_0, bI_n0, if_true, if_false, true_and, and_true, ne_eq, not_true_eq_false, not_false_eq_true, one_ne0, reduceCtorEq]; exact K
    · simp only [s216_57, s216_58, s216_61, s216_63, s216_66, s216_68, s216_71, s216_72, s216_73, s216_76, s216_77, s216_78, s216_80, s216_81, s216_84, s216_86, s216_87, s216_90, s216_91, s216_92, s216_94, s216_95, s216_98, s216_101, hy, XG_1, XO_some, XV_1, xo_n, xo_i8, xo_r8, xo_i7, xo_r7, xo_i6, xo_r6, xo_i5, xo_r5, xo_i4, xo_r4, xo_i3, xo_r3, xo_i2, xo_r2, Option.toList_some, Option.toList_none, List.cons_append, List.nil_append, bI_t, bI_f, bI_0, bI_n0, if_true, if_false, true_and, and_true, ne_eq, not_true_eq_false, not_false_eq_true, one_ne0, reduceCtorEq]; exact K
  by_cases hu : u < 0
  · refine bad (fun Q K => ?_) (fun Q K => ?_)
    · simp only [hv, hu, decide_true, Bool.not_true, Bool.false_and, Bool.and_false, XG_1, XO_some, XV_1, xo_n, xo_i8, xo_r8, xo_i7, xo_r7, xo_i6, xo_r6, xo_i5, xo_r5, xo_i4, xo_r4, xo_i3, xo_r3, xo_i2, xo_r2, Option.toList_some, Option.toList_none, List.cons_append, List.nil_append, bI_t, bI_f, bI_0, bI_n0, if_true, if_false, true_and, and_true, ne_eq, not_true_eq_false, not_false_eq_true, one_ne0, reduceCtorEq]
      by_cases k1 : (!decide False && !decide (y < 0) && !decide (nI (q.xsz j1) - v < y)) = false
      · rw [if_pos k1]; exact K
      · rw [if_neg k1]; exact K
    · simp only [s216_57, s216_58, s216_61, s216_63, s216_66, s216_68, s216_71, s216_72, s216_73, s216_76, s216_77, s216_78, s216_80, s216_81, s216_84, s216_86, s216_87, s216_90, s216_91, s216_92, s216_94, s216_95, s216_98, s216_101, hy, hu, XG_1, XO_some, XV_1, xo_n, xo_i8, xo_r8, xo_i7, xo_r7, xo_i6, xo_r6, xo_i5, xo_r5, xo_i4, xo_r4, xo_i3, xo_r3, xo_i2, xo_r2, Option.toList_some, Option.toList_none, List.cons_append, List.nil_append, bI_t, bI_f, bI_0, bI_n0, if_true, if_false, true_and, and_true, ne_eq, not_true_eq_false, not_false_eq_true, one_ne0, reduceCtorEq]; exact K
  by_cases hk1 : nI (q.xsz j1) - v < y
  · refine bad (fun Q K => ?_) (fun Q K => ?_)
    · simp only [hk1, decide_true, Bool.not_true, Bool.false_and, Bool.and_false, XG_1, XO_some, XV_1, xo_n, xo_i8, xo_r8, xo_i7, xo_r7, xo_i6, xo_r6, xo_i5, xo_r5, xo_i4, xo_r4, xo_i3, xo_r3, xo_i2, xo_r2, Option.toList_some, Option.toList_none, List.cons_append, List.nil_append, bI_t, bI_f, bI_0, bI_n0, if_true, if_false, true_and, and_true, ne_eq, not_true_eq_false, not_false_eq_true, one_ne0, reduceCtorEq]; exact K
    · simp only [s216_57, s216_58, s216_61, s216_63, s216_66, s216_68, s216_71, s216_72, s216_73, s216_76, s216_77, s216_78, s216_80, s216_81, s216_84, s216_86, s216_87, s216_90, s216_91, s216_92, s216_94, s216_95, s216_98, s216_101, hy, hu, hv, RR.1, mf23, r13, XA4 h4, b2, hk1, XG_1, XO_some, XV_1, xo_n, xo_i8, xo_r8, xo_i7, xo_r7, xo_i6, xo_r6, xo_i5, xo_r5, xo_i4, xo_r4, xo_i3, xo_r3, xo_i2, xo_r2, Option.toList_some, Option.toList_none, List.cons_append, List.nil_append, bI_t, bI_f, bI_0, bI_n0, if_true, if_false, true_and, and_true, ne_eq, not_true_eq_false, not_false_eq_true, one_ne0, reduceCtorEq]; exact K
  by_cases hk2 : nI (q.xsz j2) - v < u
  · refine bad (fun Q K => ?_) (fun Q K => ?_)
    · simp only [hk2, decide_true, Bool.not_true, Bool.false_and, Bool.and_false, XG_1, XO_some, XV_1, xo_n, xo_i8, xo_r8, xo_i7, xo_r7, xo_i6, xo_r6, xo_i5, xo_r5, xo_i4, xo_r4, xo_i3, xo_r3, xo_i2, xo_r2, Option.toList_some, Option.toList_none, List.cons_append, List.nil_append, bI_t, bI_f, bI_0, bI_n0, if_true, if_false, true_and, and_true, ne_eq, not_true_eq_false, not_false_eq_true, one_ne0, reduceCtorEq]
      by_cases k1 : (!decide (v < 0) && !decide (y < 0) && !decide (nI (q.xsz j1) - v < y)) = false
      · rw [if_pos k1]; exact K
      · rw [if_neg k1]; exact K
    · simp only [s216_57, s216_58, s216_61, s216_63, s216_66, s216_68, s216_71, s216_72, s216_73, s216_76, s216_77, s216_78, s216_80, s216_81, s216_84, s216_86, s216_87, s216_90, s216_91, s216_92, s216_94, s216_95, s216_98, s216_101, hy, hu, hv, RR.1, mf23, r13, XA4 h4, XA4 h42, b2, f2, hk1, hk2, XG_1, XO_some, XV_1, xo_n, xo_i8, xo_r8, xo_i7, xo_r7, xo_i6, xo_r6, xo_i5, xo_r5, xo_i4, xo_r4, xo_i3, xo_r3, xo_i2, xo_r2, Option.toList_some, Option.toList_none, List.cons_append, List.nil_append, bI_t, bI_f, bI_0, bI_n0, if_true, if_false, true_and, and_true, ne_eq, not_true_eq_false, not_false_eq_true, one_ne0, reduceCtorEq]; exact K
  obtain ⟨c, hc, rfl⟩ := nn_of hv
  obtain ⟨a, ha, rfl⟩ := nn_of hy
  obtain ⟨b, hb, rfl⟩ := nn_of hu
  have hac : a + c ≤ q.xsz j1 := sub_nlt (by omega) hc ha hk1
  have hbc : b + c ≤ q.xsz j2 := sub_nlt (by omega) hc hb hk2
  have hac2 : a + c ≤ 24 := by omega
  have hbc2 : b + c ≤ 24 := by omega
  have F1 : FR (B + 79) (PX B) h (xset h (B + 36 + 2 * j2) (.inl (0, xis 24 (cpr (q.xpl j1) (q.xpl j2) b a c)))) := FR.px hD (Or.inr ⟨by omega, by omega⟩)
  have X1 := xc_pl Xc (j := j2) (f := cpr (q.xpl j1) (q.xpl j2) b a c) h42
  have Y1 := xr_o Xr (a := B + 36 + 2 * j2) (e := .inl (0, xis 24 (cpr (q.xpl j1) (q.xpl j2) b a c))) (by omega)
  have R1 := rm_o RR (a := B + 36 + 2 * j2) (e := .inl (0, xis 24 (cpr (q.xpl j1) (q.xpl j2) b a c))) (by omega) (by omega) (by omega) (by omega)
  obtain ⟨S2, g1, g2⟩ := copFin R I hE hg hD hz M X h4 h42 hac2 hbc2 (by rw [he]; exact hs) F1 X1 Y1 R1
  refine ok_w (nI c) (fun Q K => ?_) (fun Q K => ?_) (fun a ha => (F1.at (by omega) (by omega)).trans (hE a ha)) ⟨_, R1.1⟩ S2 g1 g2
  · rw [e113]; simp only [s113_0, s113_1, s113_2, s113_5, s113_5n, s113_7, s113_8, s113_9, s113_12, s113_12n, s113_14, s113_14n, s113_16, s113_16n, s113_19, s113_19n, s113_21, s113_21n, s113_24, s113_26, s113_27, s113_27n, s113_29, s113_32, s113_33, s113_36, s113_36n, s113_38, s113_41, s113_42, s113_45, s113_48, s113_49, s113_49n, s113_51, s113_54, s113_54n, s113_56, s113_59, s113_62, s113_64, s113_65, s113_65n, s113_67, s113_68, s113_70, s113_73, s113_76, s113_76n, s113_78, s113_80, s113_82, s113_85, s113_88, s113_91, s113_92, s113_92n, s113_94, s113_97, s113_98, s113_98n, s113_100, s113_103, s113_105, s113_110, s113_112, hO, c_sheetAt Xc, hx, hcl, hw, hcl2, a1, d1, l3_0, l3_2, hs2, he, c_hasPlaces a1, c_hasPlaces d1, hv, hy, hu, hk1, hk2, decide_false, Bool.not_false, Bool.true_and, XG_1, XO_some, XV_1, xo_n, xo_i8, xo_r8, xo_i7, xo_r7, xo_i6, xo_r6, xo_i5, xo_r5, xo_i4, xo_r4, xo_i3, xo_r3, xo_i2, xo_r2, Option.toList_some, Option.toList_none, List.cons_append, List.nil_append, bI_t, bI_f, bI_0, bI_n0, if_true, if_false, true_and, and_true, ne_eq, not_true_eq_false, not_false_eq_true, one_ne0, reduceCtorEq, Bool.true_eq_false]
    rw [s113_107 rfl]
    simp only [s113_0, s113_1, s113_2, s113_5, s113_5n, s113_7, s113_8, s113_9, s113_12, s113_12n, s113_14, s113_14n, s113_16, s113_16n, s113_19, s113_19n, s113_21, s113_21n, s113_24, s113_26, s113_27, s113_27n, s113_29, s113_32, s113_33, s113_36, s113_36n, s113_38, s113_41, s113_42, s113_45, s113_48, s113_49, s113_49n, s113_51, s113_54, s113_54n, s113_56, s113_59, s113_62, s113_64, s113_65, s113_65n, s113_67, s113_68, s113_70, s113_73, s113_76, s113_76n, s113_78, s113_80, s113_82, s113_85, s113_88, s113_91, s113_92, s113_92n, s113_94, s113_97, s113_98, s113_98n, s113_100, s113_103, s113_105, s113_110, s113_112, a2, d2, XCp_p hac2 hbc2, XG_1, XO_some, XV_1, xo_n, xo_i8, xo_r8, xo_i7, xo_r7, xo_i6, xo_r6, xo_i5, xo_r5, xo_i4, xo_r4, xo_i3, xo_r3, xo_i2, xo_r2, Option.toList_some, Option.toList_none, List.cons_append, List.nil_append, bI_t, bI_f, bI_0, bI_n0, if_true, if_false, true_and, and_true, ne_eq, not_true_eq_false, not_false_eq_true, one_ne0, reduceCtorEq]
    exact K
  · have r12' : _ = Sum.inl (0, xis 4 (q.xv 12)) := Y1.2.2.2.2.2.2.2.2.1
    have r13' : _ = Sum.inl (0, xis 4 (q.xv 13)) := Y1.2.2.2.2.2.2.2.2.2.1
    rw [e216]; simp only [s216_0, s216_1, s216_4, s216_7, s216_8, s216_11, s216_14, s216_16, s216_17, s216_18, s216_21, s216_22, s216_23, s216_26, s216_27, s216_30, s216_31, s216_32, s216_35, s216_38, s216_39, s216_40, s216_43, s216_44, s216_45, s216_46, s216_49, s216_50, s216_51, s216_54, s216_56, s216_57, s216_58, s216_61, s216_63, s216_66, s216_68, s216_71, s216_72, s216_73, s216_76, s216_77, s216_78, s216_80, s216_81, s216_84, s216_86, s216_87, s216_90, s216_91, s216_92, s216_94, s216_95, s216_98, s216_101, c_isSheet, hx, hw, R1.1, mf22, mf23, show B + 58 + 12 = B + 70 from rfl, show B + 58 + 13 = B + 71 from rfl, r12', r13', XA4 h4, XA4 h42, b1, f1, b2, f2, hp2, he, hv, hy, hu, hk1, hk2, XG_1, XO_some, XV_1, xo_n, xo_i8, xo_r8, xo_i7, xo_r7, xo_i6, xo_r6, xo_i5, xo_r5, xo_i4, xo_r4, xo_i3, xo_r3, xo_i2, xo_r2, Option.toList_some, Option.toList_none, List.cons_append, List.nil_append, bI_t, bI_f, bI_0, bI_n0, if_true, if_false, true_and, and_true, ne_eq, not_true_eq_false, not_false_eq_true, one_ne0, reduceCtorEq, Bool.true_eq_false]
    exact (l_cop R1 Y1 h4 h42 hac2 hbc2).mpr K
end COP
