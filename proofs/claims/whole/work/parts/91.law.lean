/-! ===== 91: the law's loop ===== -/
theorem xsw_eq {d m : Nat} {x k : Int32} {df t : Nat} {ls : List Slot} {r : List Value} {h : xH} {Q : Option Value → xH → Prop} {l : List (Int32 × Nat)} (e : x = k) : xswi d m x df ls r h Q ((k, t) :: l) ↔ XE d m t ls r h Q := by
  show (if x = k then _ else _) ↔ _
  rw [if_pos e]
theorem xsw_ne {d m : Nat} {x k : Int32} {df t : Nat} {ls : List Slot} {r : List Value} {h : xH} {Q : Option Value → xH → Prop} {l : List (Int32 × Nat)} (e : ¬ x = k) : xswi d m x df ls r h Q ((k, t) :: l) ↔ xswi d m x df ls r h Q l := by
  show (if x = k then _ else _) ↔ _
  rw [if_neg e]
section LAW
variable {B b L i : Nat} {E : Nat → va_E} {g0 : Nat → Value} {h : xH} {xs : Nat → Int32} {Q : Option Value → xH → Prop}
theorem XA7 {j : Nat} {F : Int32 → Prop} (hj : j < L) (hL : L ≤ 3072) : XA [0, 7] (.inl (7, xis L xs)) (nI j) F ↔ F (xs j) := XA_n (by decide) hj (by omega)
abbrev LL (b B i : Nat) : List Slot := [.val (.ref b), .val (.ref B), .val (.ref (B + 58)), .val (.int (nI i))]
def BK (B b L i : Nat) (E : Nat → va_E) (g0 : Nat → Value) (xs : Nat → Int32) (h : xH) (Q : Option Value → xH → Prop) (P : Nat) : Prop := (∀ h2, REP B E g0 h2 → h2.1 ≤ h.1 + 3 → h2.2.1 ≤ h.2.1 + 200 → XE 13 243 1553 (LL b B i) [] h2 Q) → XE 13 243 P (LL b B i) [] h Q
theorem bk_0 (hb : b < B) (S : REP B E g0 h) (eb : E b = .inl (7, xis L xs)) (hi : i + 6 ≤ L) (hL : L ≤ 3072) (ok : OK B E g0 1 h 78 146 [.int (xs (i + 1)), .int (xs (i + 2))]) : BK B b L i E g0 xs h Q 228 := by
  intro K
  have rb : h.2.2.1 b = .inl (7, xis L xs) := (S.2.1 b hb).trans eb
  obtain ⟨⟨n, T, p, s, m, f, w, g, q, R, I, RR, M, X⟩, -⟩ := S
  have hO := X.1.1.1
  obtain ⟨v, H1, hc, hr⟩ := ok
  simp only [s243_228, s243_228n, s243_229, s243_230, s243_231, s243_232, s243_233, s243_234, s243_235, s243_236, s243_237, s243_238, s243_239, rb, hO, nI_1, p2, XA7 (show i + 1 < L by omega) hL, XA7 (show i + 2 < L by omega) hL, XG_1, XO_some, XV_1, xo_n, xo_i8, xo_r8, xo_i7, xo_r7, xo_i6, xo_r6, xo_i5, xo_r5, xo_i4, xo_r4, xo_i3, xo_r3, xo_i2, xo_r2, Option.toList_some, Option.toList_none, List.cons_append, List.nil_append, bI_t, bI_f, bI_0, bI_n0, if_true, if_false, true_and, and_true, ne_eq, not_true_eq_false, not_false_eq_true, one_ne0, reduceCtorEq]
  refine hc _ (fun h1 hh => ?_)
  obtain ⟨hE1, ⟨l, hM⟩, hr1⟩ := hr h1 hh
  have rb1 : h1.2.2.1 b = .inl (7, xis L xs) := (hE1 b hb).trans eb
  simp only [s243_242, s243_242n, s243_243, s243_244, s243_245, s243_246, s243_247, s243_248, s243_249, s243_250, s243_251, s243_252, s243_253, rb1, hM, nI_1, p2, XA7 (show i + 1 < L by omega) hL, XA7 (show i + 2 < L by omega) hL, XG_1, XO_some, XV_1, xo_n, xo_i8, xo_r8, xo_i7, xo_r7, xo_i6, xo_r6, xo_i5, xo_r5, xo_i4, xo_r4, xo_i3, xo_r3, xo_i2, xo_r2, Option.toList_some, Option.toList_none, List.cons_append, List.nil_append, bI_t, bI_f, bI_0, bI_n0, if_true, if_false, true_and, and_true, ne_eq, not_true_eq_false, not_false_eq_true, one_ne0, reduceCtorEq]
  refine hr1 _ (fun h2 S2 k1 k2 => ?_)
  simp only [s243_256, XG_1, XO_some, XV_1, xo_n, xo_i8, xo_r8, xo_i7, xo_r7, xo_i6, xo_r6, xo_i5, xo_r5, xo_i4, xo_r4, xo_i3, xo_r3, xo_i2, xo_r2, Option.toList_some, Option.toList_none, List.cons_append, List.nil_append, bI_t, bI_f, bI_0, bI_n0, if_true, if_false, true_and, and_true, ne_eq, not_true_eq_false, not_false_eq_true, one_ne0, reduceCtorEq]
  exact K h2 S2 k1 k2
theorem bk_1 (hb : b < B) (S : REP B E g0 h) (eb : E b = .inl (7, xis L xs)) (hi : i + 6 ≤ L) (hL : L ≤ 3072) (ok : OK B E g0 1 h 79 149 [.int (xs (i + 1)), .int (xs (i + 2))]) : BK B b L i E g0 xs h Q 261 := by
  intro K
  have rb : h.2.2.1 b = .inl (7, xis L xs) := (S.2.1 b hb).trans eb
  obtain ⟨⟨n, T, p, s, m, f, w, g, q, R, I, RR, M, X⟩, -⟩ := S
  have hO := X.1.1.1
  obtain ⟨v, H1, hc, hr⟩ := ok
  simp only [s243_261, s243_261n, s243_262, s243_263, s243_264, s243_265, s243_266, s243_267, s243_268, s243_269, s243_270, s243_271, s243_272, rb, hO, nI_1, p2, XA7 (show i + 1 < L by omega) hL, XA7 (show i + 2 < L by omega) hL, XG_1, XO_some, XV_1, xo_n, xo_i8, xo_r8, xo_i7, xo_r7, xo_i6, xo_r6, xo_i5, xo_r5, xo_i4, xo_r4, xo_i3, xo_r3, xo_i2, xo_r2, Option.toList_some, Option.toList_none, List.cons_append, List.nil_append, bI_t, bI_f, bI_0, bI_n0, if_true, if_false, true_and, and_true, ne_eq, not_true_eq_false, not_false_eq_true, one_ne0, reduceCtorEq]
  refine hc _ (fun h1 hh => ?_)
  obtain ⟨hE1, ⟨l, hM⟩, hr1⟩ := hr h1 hh
  have rb1 : h1.2.2.1 b = .inl (7, xis L xs) := (hE1 b hb).trans eb
  simp only [s243_275, s243_275n, s243_276, s243_277, s243_278, s243_279, s243_280, s243_281, s243_282, s243_283, s243_284, s243_285, s243_286, rb1, hM, nI_1, p2, XA7 (show i + 1 < L by omega) hL, XA7 (show i + 2 < L by omega) hL, XG_1, XO_some, XV_1, xo_n, xo_i8, xo_r8, xo_i7, xo_r7, xo_i6, xo_r6, xo_i5, xo_r5, xo_i4, xo_r4, xo_i3, xo_r3, xo_i2, xo_r2, Option.toList_some, Option.toList_none, List.cons_append, List.nil_append, bI_t, bI_f, bI_0, bI_n0, if_true, if_false, true_and, and_true, ne_eq, not_true_eq_false, not_false_eq_true, one_ne0, reduceCtorEq]
  refine hr1 _ (fun h2 S2 k1 k2 => ?_)
  simp only [s243_289, XG_1, XO_some, XV_1, xo_n, xo_i8, xo_r8, xo_i7, xo_r7, xo_i6, xo_r6, xo_i5, xo_r5, xo_i4, xo_r4, xo_i3, xo_r3, xo_i2, xo_r2, Option.toList_some, Option.toList_none, List.cons_append, List.nil_append, bI_t, bI_f, bI_0, bI_n0, if_true, if_false, true_and, and_true, ne_eq, not_true_eq_false, not_false_eq_true, one_ne0, reduceCtorEq]
  exact K h2 S2 k1 k2
theorem bk_2 (hb : b < B) (S : REP B E g0 h) (eb : E b = .inl (7, xis L xs)) (hi : i + 6 ≤ L) (hL : L ≤ 3072) (ok : OK B E g0 1 h 80 150 [.int (xs (i + 1)), .int (xs (i + 2)), .int (xs (i + 3))]) : BK B b L i E g0 xs h Q 294 := by
  intro K
  have rb : h.2.2.1 b = .inl (7, xis L xs) := (S.2.1 b hb).trans eb
  obtain ⟨⟨n, T, p, s, m, f, w, g, q, R, I, RR, M, X⟩, -⟩ := S
  have hO := X.1.1.1
  obtain ⟨v, H1, hc, hr⟩ := ok
  simp only [s243_294, s243_294n, s243_295, s243_296, s243_297, s243_298, s243_299, s243_300, s243_301, s243_302, s243_303, s243_304, s243_305, s243_306, s243_307, s243_308, s243_309, s243_310, rb, hO, nI_1, p2, p3, XA7 (show i + 1 < L by omega) hL, XA7 (show i + 2 < L by omega) hL, XA7 (show i + 3 < L by omega) hL, XG_1, XO_some, XV_1, xo_n, xo_i8, xo_r8, xo_i7, xo_r7, xo_i6, xo_r6, xo_i5, xo_r5, xo_i4, xo_r4, xo_i3, xo_r3, xo_i2, xo_r2, Option.toList_some, Option.toList_none, List.cons_append, List.nil_append, bI_t, bI_f, bI_0, bI_n0, if_true, if_false, true_and, and_true, ne_eq, not_true_eq_false, not_false_eq_true, one_ne0, reduceCtorEq]
  refine hc _ (fun h1 hh => ?_)
  obtain ⟨hE1, ⟨l, hM⟩, hr1⟩ := hr h1 hh
  have rb1 : h1.2.2.1 b = .inl (7, xis L xs) := (hE1 b hb).trans eb
  simp only [s243_313, s243_313n, s243_314, s243_315, s243_316, s243_317, s243_318, s243_319, s243_320, s243_321, s243_322, s243_323, s243_324, s243_325, s243_326, s243_327, s243_328, s243_329, rb1, hM, nI_1, p2, p3, XA7 (show i + 1 < L by omega) hL, XA7 (show i + 2 < L by omega) hL, XA7 (show i + 3 < L by omega) hL, XG_1, XO_some, XV_1, xo_n, xo_i8, xo_r8, xo_i7, xo_r7, xo_i6, xo_r6, xo_i5, xo_r5, xo_i4, xo_r4, xo_i3, xo_r3, xo_i2, xo_r2, Option.toList_some, Option.toList_none, List.cons_append, List.nil_append, bI_t, bI_f, bI_0, bI_n0, if_true, if_false, true_and, and_true, ne_eq, not_true_eq_false, not_false_eq_true, one_ne0, reduceCtorEq]
  refine hr1 _ (fun h2 S2 k1 k2 => ?_)
  simp only [s243_332, XG_1, XO_some, XV_1, xo_n, xo_i8, xo_r8, xo_i7, xo_r7, xo_i6, xo_r6, xo_i5, xo_r5, xo_i4, xo_r4, xo_i3, xo_r3, xo_i2, xo_r2, Option.toList_some, Option.toList_none, List.cons_append, List.nil_append, bI_t, bI_f, bI_0, bI_n0, if_true, if_false, true_and, and_true, ne_eq, not_true_eq_false, not_false_eq_true, one_ne0, reduceCtorEq]
  exact K h2 S2 k1 k2
theorem bk_3 (hb : b < B) (S : REP B E g0 h) (eb : E b = .inl (7, xis L xs)) (hi : i + 6 ≤ L) (hL : L ≤ 3072) (ok : OK B E g0 1 h 81 152 [.int (xs (i + 1)), .int (xs (i + 2)), .int (xs (i + 3))]) : BK B b L i E g0 xs h Q 337 := by
  intro K
  have rb : h.2.2.1 b = .inl (7, xis L xs) := (S.2.1 b hb).trans eb
  obtain ⟨⟨n, T, p, s, m, f, w, g, q, R, I, RR, M, X⟩, -⟩ := S
  have hO := X.1.1.1
  obtain ⟨v, H1, hc, hr⟩ := ok
  simp only [s243_337, s243_337n, s243_338, s243_339, s243_340, s243_341, s243_342, s243_343, s243_344, s243_345, s243_346, s243_347, s243_348, s243_349, s243_350, s243_351, s243_352, s243_353, rb, hO, nI_1, p2, p3, XA7 (show i + 1 < L by omega) hL, XA7 (show i + 2 < L by omega) hL, XA7 (show i + 3 < L by omega) hL, XG_1, XO_some, XV_1, xo_n, xo_i8, xo_r8, xo_i7, xo_r7, xo_i6, xo_r6, xo_i5, xo_r5, xo_i4, xo_r4, xo_i3, xo_r3, xo_i2, xo_r2, Option.toList_some, Option.toList_none, List.cons_append, List.nil_append, bI_t, bI_f, bI_0, bI_n0, if_true, if_false, true_and, and_true, ne_eq, not_true_eq_false, not_false_eq_true, one_ne0, reduceCtorEq]
  refine hc _ (fun h1 hh => ?_)
  obtain ⟨hE1, ⟨l, hM⟩, hr1⟩ := hr h1 hh
  have rb1 : h1.2.2.1 b = .inl (7, xis L xs) := (hE1 b hb).trans eb
  simp only [s243_356, s243_356n, s243_357, s243_358, s243_359, s243_360, s243_361, s243_362, s243_363, s243_364, s243_365, s243_366, s243_367, s243_368, s243_369, s243_370, s243_371, s243_372, rb1, hM, nI_1, p2, p3, XA7 (show i + 1 < L by omega) hL, XA7 (show i + 2 < L by omega) hL, XA7 (show i + 3 < L by omega) hL, XG_1, XO_some, XV_1, xo_n, xo_i8, xo_r8, xo_i7, xo_r7, xo_i6, xo_r6, xo_i5, xo_r5, xo_i4, xo_r4, xo_i3, xo_r3, xo_i2, xo_r2, Option.toList_some, Option.toList_none, List.cons_append, List.nil_append, bI_t, bI_f, bI_0, bI_n0, if_true, if_false, true_and, and_true, ne_eq, not_true_eq_false, not_false_eq_true, one_ne0, reduceCtorEq]
  refine hr1 _ (fun h2 S2 k1 k2 => ?_)
  simp only [s243_375, XG_1, XO_some, XV_1, xo_n, xo_i8, xo_r8, xo_i7, xo_r7, xo_i6, xo_r6, xo_i5, xo_r5, xo_i4, xo_r4, xo_i3, xo_r3, xo_i2, xo_r2, Option.toList_some, Option.toList_none, List.cons_append, List.nil_append, bI_t, bI_f, bI_0, bI_n0, if_true, if_false, true_and, and_true, ne_eq, not_true_eq_false, not_false_eq_true, one_ne0, reduceCtorEq]
  exact K h2 S2 k1 k2
theorem bk_4 (hb : b < B) (S : REP B E g0 h) (eb : E b = .inl (7, xis L xs)) (hi : i + 6 ≤ L) (hL : L ≤ 3072) (ok : OK B E g0 1 h 82 153 [.int (xs (i + 1))]) : BK B b L i E g0 xs h Q 380 := by
  intro K
  have rb : h.2.2.1 b = .inl (7, xis L xs) := (S.2.1 b hb).trans eb
  obtain ⟨⟨n, T, p, s, m, f, w, g, q, R, I, RR, M, X⟩, -⟩ := S
  have hO := X.1.1.1
  obtain ⟨v, H1, hc, hr⟩ := ok
  simp only [s243_380, s243_380n, s243_381, s243_382, s243_383, s243_384, s243_385, s243_386, rb, hO, nI_1, XA7 (show i + 1 < L by omega) hL, XG_1, XO_some, XV_1, xo_n, xo_i8, xo_r8, xo_i7, xo_r7, xo_i6, xo_r6, xo_i5, xo_r5, xo_i4, xo_r4, xo_i3, xo_r3, xo_i2, xo_r2, Option.toList_some, Option.toList_none, List.cons_append, List.nil_append, bI_t, bI_f, bI_0, bI_n0, if_true, if_false, true_and, and_true, ne_eq, not_true_eq_false, not_false_eq_true, one_ne0, reduceCtorEq]
  refine hc _ (fun h1 hh => ?_)
  obtain ⟨hE1, ⟨l, hM⟩, hr1⟩ := hr h1 hh
  have rb1 : h1.2.2.1 b = .inl (7, xis L xs) := (hE1 b hb).trans eb
  simp only [s243_389, s243_389n, s243_390, s243_391, s243_392, s243_393, s243_394, s243_395, rb1, hM, nI_1, XA7 (show i + 1 < L by omega) hL, XG_1, XO_some, XV_1, xo_n, xo_i8, xo_r8, xo_i7, xo_r7, xo_i6, xo_r6, xo_i5, xo_r5, xo_i4, xo_r4, xo_i3, xo_r3, xo_i2, xo_r2, Option.toList_some, Option.toList_none, List.cons_append, List.nil_append, bI_t, bI_f, bI_0, bI_n0, if_true, if_false, true_and, and_true, ne_eq, not_true_eq_false, not_false_eq_true, one_ne0, reduceCtorEq]
  refine hr1 _ (fun h2 S2 k1 k2 => ?_)
  simp only [s243_398, XG_1, XO_some, XV_1, xo_n, xo_i8, xo_r8, xo_i7, xo_r7, xo_i6, xo_r6, xo_i5, xo_r5, xo_i4, xo_r4, xo_i3, xo_r3, xo_i2, xo_r2, Option.toList_some, Option.toList_none, List.cons_append, List.nil_append, bI_t, bI_f, bI_0, bI_n0, if_true, if_false, true_and, and_true, ne_eq, not_true_eq_false, not_false_eq_true, one_ne0, reduceCtorEq]
  exact K h2 S2 k1 k2
theorem bk_5 (hb : b < B) (S : REP B E g0 h) (eb : E b = .inl (7, xis L xs)) (hi : i + 6 ≤ L) (hL : L ≤ 3072) (ok : OK B E g0 1 h 83 154 [.int (xs (i + 1))]) : BK B b L i E g0 xs h Q 403 := by
  intro K
  have rb : h.2.2.1 b = .inl (7, xis L xs) := (S.2.1 b hb).trans eb
  obtain ⟨⟨n, T, p, s, m, f, w, g, q, R, I, RR, M, X⟩, -⟩ := S
  have hO := X.1.1.1
  obtain ⟨v, H1, hc, hr⟩ := ok
  simp only [s243_403, s243_403n, s243_404, s243_405, s243_406, s243_407, s243_408, s243_409, rb, hO, nI_1, XA7 (show i + 1 < L by omega) hL, XG_1, XO_some, XV_1, xo_n, xo_i8, xo_r8, xo_i7, xo_r7, xo_i6, xo_r6, xo_i5, xo_r5, xo_i4, xo_r4, xo_i3, xo_r3, xo_i2, xo_r2, Option.toList_some, Option.toList_none, List.cons_append, List.nil_append, bI_t, bI_f, bI_0, bI_n0, if_true, if_false, true_and, and_true, ne_eq, not_true_eq_false, not_false_eq_true, one_ne0, reduceCtorEq]
  refine hc _ (fun h1 hh => ?_)
  obtain ⟨hE1, ⟨l, hM⟩, hr1⟩ := hr h1 hh
  have rb1 : h1.2.2.1 b = .inl (7, xis L xs) := (hE1 b hb).trans eb
  simp only [s243_412, s243_412n, s243_413, s243_414, s243_415, s243_416, s243_417, s243_418, rb1, hM, nI_1, XA7 (show i + 1 < L by omega) hL, XG_1, XO_some, XV_1, xo_n, xo_i8, xo_r8, xo_i7, xo_r7, xo_i6, xo_r6, xo_i5, xo_r5, xo_i4, xo_r4, xo_i3, xo_r3, xo_i2, xo_r2, Option.toList_some, Option.toList_none, List.cons_append, List.nil_append, bI_t, bI_f, bI_0, bI_n0, if_true, if_false, true_and, and_true, ne_eq, not_true_eq_false, not_false_eq_true, one_ne0, reduceCtorEq]
  refine hr1 _ (fun h2 S2 k1 k2 => ?_)
  simp only [s243_421, XG_1, XO_some, XV_1, xo_n, xo_i8, xo_r8, xo_i7, xo_r7, xo_i6, xo_r6, xo_i5, xo_r5, xo_i4, xo_r4, xo_i3, xo_r3, xo_i2, xo_r2, Option.toList_some, Option.toList_none, List.cons_append, List.nil_append, bI_t, bI_f, bI_0, bI_n0, if_true, if_false, true_and, and_true, ne_eq, not_true_eq_false, not_false_eq_true, one_ne0, reduceCtorEq]
  exact K h2 S2 k1 k2
theorem bk_6 (hb : b < B) (S : REP B E g0 h) (eb : E b = .inl (7, xis L xs)) (hi : i + 6 ≤ L) (hL : L ≤ 3072) (ok : OK B E g0 1 h 84 155 [.int (xs (i + 1)), .int (xs (i + 2))]) : BK B b L i E g0 xs h Q 426 := by
  intro K
  have rb : h.2.2.1 b = .inl (7, xis L xs) := (S.2.1 b hb).trans eb
  obtain ⟨⟨n, T, p, s, m, f, w, g, q, R, I, RR, M, X⟩, -⟩ := S
  have hO := X.1.1.1
  obtain ⟨v, H1, hc, hr⟩ := ok
  simp only [s243_426, s243_426n, s243_427, s243_428, s243_429, s243_430, s243_431, s243_432, s243_433, s243_434, s243_435, s243_436, s243_437, rb, hO, nI_1, p2, XA7 (show i + 1 < L by omega) hL, XA7 (show i + 2 < L by omega) hL, XG_1, XO_some, XV_1, xo_n, xo_i8, xo_r8, xo_i7, xo_r7, xo_i6, xo_r6, xo_i5, xo_r5, xo_i4, xo_r4, xo_i3, xo_r3, xo_i2, xo_r2, Option.toList_some, Option.toList_none, List.cons_append, List.nil_append, bI_t, bI_f, bI_0, bI_n0, if_true, if_false, true_and, and_true, ne_eq, not_true_eq_false, not_false_eq_true, one_ne0, reduceCtorEq]
  refine hc _ (fun h1 hh => ?_)
  obtain ⟨hE1, ⟨l, hM⟩, hr1⟩ := hr h1 hh
  have rb1 : h1.2.2.1 b = .inl (7, xis L xs) := (hE1 b hb).trans eb
  simp only [s243_440, s243_440n, s243_441, s243_442, s243_443, s243_444, s243_445, s243_446, s243_447, s243_448, s243_449, s243_450, s243_451, rb1, hM, nI_1, p2, XA7 (show i + 1 < L by omega) hL, XA7 (show i + 2 < L by omega) hL, XG_1, XO_some, XV_1, xo_n, xo_i8, xo_r8, xo_i7, xo_r7, xo_i6, xo_r6, xo_i5, xo_r5, xo_i4, xo_r4, xo_i3, xo_r3, xo_i2, xo_r2, Option.toList_some, Option.toList_none, List.cons_append, List.nil_append, bI_t, bI_f, bI_0, bI_n0, if_true, if_false, true_and, and_true, ne_eq, not_true_eq_false, not_false_eq_true, one_ne0, reduceCtorEq]
  refine hr1 _ (fun h2 S2 k1 k2 => ?_)
  simp only [s243_454, XG_1, XO_some, XV_1, xo_n, xo_i8, xo_r8, xo_i7, xo_r7, xo_i6, xo_r6, xo_i5, xo_r5, xo_i4, xo_r4, xo_i3, xo_r3, xo_i2, xo_r2, Option.toList_some, Option.toList_none, List.cons_append, List.nil_append, bI_t, bI_f, bI_0, bI_n0, if_true, if_false, true_and, and_true, ne_eq, not_true_eq_false, not_false_eq_true, one_ne0, reduceCtorEq]
  exact K h2 S2 k1 k2
theorem bk_7 (hb : b < B) (S : REP B E g0 h) (eb : E b = .inl (7, xis L xs)) (hi : i + 6 ≤ L) (hL : L ≤ 3072) (ok : OK B E g0 1 h 85 158 [.int (xs (i + 1)), .int (xs (i + 2))]) : BK B b L i E g0 xs h Q 459 := by
  intro K
  have rb : h.2.2.1 b = .inl (7, xis L xs) := (S.2.1 b hb).trans eb
  obtain ⟨⟨n, T, p, s, m, f, w, g, q, R, I, RR, M, X⟩, -⟩ := S
  have hO := X.1.1.1
  obtain ⟨v, H1, hc, hr⟩ := ok
  simp only [s243_459, s243_459n, s243_460, s243_461, s243_462, s243_463, s243_464, s243_465, s243_466, s243_467, s243_468, s243_469, s243_470, rb, hO, nI_1, p2, XA7 (show i + 1 < L by omega) hL, XA7 (show i + 2 < L by omega) hL, XG_1, XO_some, XV_1, xo_n, xo_i8, xo_r8, xo_i7, xo_r7, xo_i6, xo_r6, xo_i5, xo_r5, xo_i4, xo_r4, xo_i3, xo_r3, xo_i2, xo_r2, Option.toList_some, Option.toList_none, List.cons_append, List.nil_append, bI_t, bI_f, bI_0, bI_n0, if_true, if_false, true_and, and_true, ne_eq, not_true_eq_false, not_false_eq_true, one_ne0, reduceCtorEq]
  refine hc _ (fun h1 hh => ?_)
  obtain ⟨hE1, ⟨l, hM⟩, hr1⟩ := hr h1 hh
  have rb1 : h1.2.2.1 b = .inl (7, xis L xs) := (hE1 b hb).trans eb
  simp only [s243_473, s243_473n, s243_474, s243_475, s243_476, s243_477, s243_478, s243_479, s243_480, s243_481, s243_482, s243_483, s243_484, rb1, hM, nI_1, p2, XA7 (show i + 1 < L by omega) hL, XA7 (show i + 2 < L by omega) hL, XG_1, XO_some, XV_1, xo_n, xo_i8, xo_r8, xo_i7, xo_r7, xo_i6, xo_r6, xo_i5, xo_r5, xo_i4, xo_r4, xo_i3, xo_r3, xo_i2, xo_r2, Option.toList_some, Option.toList_none, List.cons_append, List.nil_append, bI_t, bI_f, bI_0, bI_n0, if_true, if_false, true_and, and_true, ne_eq, not_true_eq_false, not_false_eq_true, one_ne0, reduceCtorEq]
  refine hr1 _ (fun h2 S2 k1 k2 => ?_)
  simp only [s243_487, XG_1, XO_some, XV_1, xo_n, xo_i8, xo_r8, xo_i7, xo_r7, xo_i6, xo_r6, xo_i5, xo_r5, xo_i4, xo_r4, xo_i3, xo_r3, xo_i2, xo_r2, Option.toList_some, Option.toList_none, List.cons_append, List.nil_append, bI_t, bI_f, bI_0, bI_n0, if_true, if_false, true_and, and_true, ne_eq, not_true_eq_false, not_false_eq_true, one_ne0, reduceCtorEq]
  exact K h2 S2 k1 k2
theorem bk_8 (hb : b < B) (S : REP B E g0 h) (eb : E b = .inl (7, xis L xs)) (hi : i + 6 ≤ L) (hL : L ≤ 3072) (ok : OK B E g0 1 h 86 159 [.int (xs (i + 1)), .int (xs (i + 2)), .int (xs (i + 3))]) : BK B b L i E g0 xs h Q 492 := by
  intro K
  have rb : h.2.2.1 b = .inl (7, xis L xs) := (S.2.1 b hb).trans eb
  obtain ⟨⟨n, T, p, s, m, f, w, g, q, R, I, RR, M, X⟩, -⟩ := S
  have hO := X.1.1.1
  obtain ⟨v, H1, hc, hr⟩ := ok
  simp only [s243_492, s243_492n, s243_493, s243_494, s243_495, s243_496, s243_497, s243_498, s243_499, s243_500, s243_501, s243_502, s243_503, s243_504, s243_505, s243_506, s243_507, s243_508, rb, hO, nI_1, p2, p3, XA7 (show i + 1 < L by omega) hL, XA7 (show i + 2 < L by omega) hL, XA7 (show i + 3 < L by omega) hL, XG_1, XO_some, XV_1, xo_n, xo_i8, xo_r8, xo_i7, xo_r7, xo_i6, xo_r6, xo_i5, xo_r5, xo_i4, xo_r4, xo_i3, xo_r3, xo_i2, xo_r2, Option.toList_some, Option.toList_none, List.cons_append, List.nil_append, bI_t, bI_f, bI_0, bI_n0, if_true, if_false, true_and, and_true, ne_eq, not_true_eq_false, not_false_eq_true, one_ne0, reduceCtorEq]
  refine hc _ (fun h1 hh => ?_)
  obtain ⟨hE1, ⟨l, hM⟩, hr1⟩ := hr h1 hh
  have rb1 : h1.2.2.1 b = .inl (7, xis L xs) := (hE1 b hb).trans eb
  simp only [s243_511, s243_511n, s243_512, s243_513, s243_514, s243_515, s243_516, s243_517, s243_518, s243_519, s243_520, s243_521, s243_522, s243_523, s243_524, s243_525, s243_526, s243_527, rb1, hM, nI_1, p2, p3, XA7 (show i + 1 < L by omega) hL, XA7 (show i + 2 < L by omega) hL, XA7 (show i + 3 < L by omega) hL, XG_1, XO_some, XV_1, xo_n, xo_i8, xo_r8, xo_i7, xo_r7, xo_i6, xo_r6, xo_i5, xo_r5, xo_i4, xo_r4, xo_i3, xo_r3, xo_i2, xo_r2, Option.toList_some, Option.toList_none, List.cons_append, List.nil_append, bI_t, bI_f, bI_0, bI_n0, if_true, if_false, true_and, and_true, ne_eq, not_true_eq_false, not_false_eq_true, one_ne0, reduceCtorEq]
  refine hr1 _ (fun h2 S2 k1 k2 => ?_)
  simp only [s243_530, XG_1, XO_some, XV_1, xo_n, xo_i8, xo_r8, xo_i7, xo_r7, xo_i6, xo_r6, xo_i5, xo_r5, xo_i4, xo_r4, xo_i3, xo_r3, xo_i2, xo_r2, Option.toList_some, Option.toList_none, List.cons_append, List.nil_append, bI_t, bI_f, bI_0, bI_n0, if_true, if_false, true_and, and_true, ne_eq, not_true_eq_false, not_false_eq_true, one_ne0, reduceCtorEq]
  exact K h2 S2 k1 k2
theorem bk_9 (hb : b < B) (S : REP B E g0 h) (eb : E b = .inl (7, xis L xs)) (hi : i + 6 ≤ L) (hL : L ≤ 3072) (ok : OK B E g0 1 h 87 160 [.int (xs (i + 1)), .int (xs (i + 2)), .int (xs (i + 3))]) : BK B b L i E g0 xs h Q 535 := by
  intro K
  have rb : h.2.2.1 b = .inl (7, xis L xs) := (S.2.1 b hb).trans eb
  obtain ⟨⟨n, T, p, s, m, f, w, g, q, R, I, RR, M, X⟩, -⟩ := S
  have hO := X.1.1.1
  obtain ⟨v, H1, hc, hr⟩ := ok
  simp only [s243_535, s243_535n, s243_536, s243_537, s243_538, s243_539, s243_540, s243_541, s243_542, s243_543, s243_544, s243_545, s243_546, s243_547, s243_548, s243_549, s243_550, s243_551, rb, hO, nI_1, p2, p3, XA7 (show i + 1 < L by omega) hL, XA7 (show i + 2 < L by omega) hL, XA7 (show i + 3 < L by omega) hL, XG_1, XO_some, XV_1, xo_n, xo_i8, xo_r8, xo_i7, xo_r7, xo_i6, xo_r6, xo_i5, xo_r5, xo_i4, xo_r4, xo_i3, xo_r3, xo_i2, xo_r2, Option.toList_some, Option.toList_none, List.cons_append, List.nil_append, bI_t, bI_f, bI_0, bI_n0, if_true, if_false, true_and, and_true, ne_eq, not_true_eq_false, not_false_eq_true, one_ne0, reduceCtorEq]
  refine hc _ (fun h1 hh => ?_)
  obtain ⟨hE1, ⟨l, hM⟩, hr1⟩ := hr h1 hh
  have rb1 : h1.2.2.1 b = .inl (7, xis L xs) := (hE1 b hb).trans eb
  simp only [s243_554, s243_554n, s243_555, s243_556, s243_557, s243_558, s243_559, s243_560, s243_561, s243_562, s243_563, s243_564, s243_565, s243_566, s243_567, s243_568, s243_569, s243_570, rb1, hM, nI_1, p2, p3, XA7 (show i + 1 < L by omega) hL, XA7 (show i + 2 < L by omega) hL, XA7 (show i + 3 < L by omega) hL, XG_1, XO_some, XV_1, xo_n, xo_i8, xo_r8, xo_i7, xo_r7, xo_i6, xo_r6, xo_i5, xo_r5, xo_i4, xo_r4, xo_i3, xo_r3, xo_i2, xo_r2, Option.toList_some, Option.toList_none, List.cons_append, List.nil_append, bI_t, bI_f, bI_0, bI_n0, if_true, if_false, true_and, and_true, ne_eq, not_true_eq_false, not_false_eq_true, one_ne0, reduceCtorEq]
  refine hr1 _ (fun h2 S2 k1 k2 => ?_)
  simp only [s243_573, XG_1, XO_some, XV_1, xo_n, xo_i8, xo_r8, xo_i7, xo_r7, xo_i6, xo_r6, xo_i5, xo_r5, xo_i4, xo_r4, xo_i3, xo_r3, xo_i2, xo_r2, Option.toList_some, Option.toList_none, List.cons_append, List.nil_append, bI_t, bI_f, bI_0, bI_n0, if_true, if_false, true_and, and_true, ne_eq, not_true_eq_false, not_false_eq_true, one_ne0, reduceCtorEq]
  exact K h2 S2 k1 k2
theorem bk_10 (hb : b < B) (S : REP B E g0 h) (eb : E b = .inl (7, xis L xs)) (hi : i + 6 ≤ L) (hL : L ≤ 3072) (ok : OK B E g0 1 h 88 161 [.int (xs (i + 1)), .int (xs (i + 2))]) : BK B b L i E g0 xs h Q 578 := by
  intro K
  have rb : h.2.2.1 b = .inl (7, xis L xs) := (S.2.1 b hb).trans eb
  obtain ⟨⟨n, T, p, s, m, f, w, g, q, R, I, RR, M, X⟩, -⟩ := S
  have hO := X.1.1.1
  obtain ⟨v, H1, hc, hr⟩ := ok
  simp only [s243_578, s243_578n, s243_579, s243_580, s243_581, s243_582, s243_583, s243_584, s243_585, s243_586, s243_587, s243_588, s243_589, rb, hO, nI_1, p2, XA7 (show i + 1 < L by omega) hL, XA7 (show i + 2 < L by omega) hL, XG_1, XO_some, XV_1, xo_n, xo_i8, xo_r8, xo_i7, xo_r7, xo_i6, xo_r6, xo_i5, xo_r5, xo_i4, xo_r4, xo_i3, xo_r3, xo_i2, xo_r2, Option.toList_some, Option.toList_none, List.cons_append, List.nil_append, bI_t, bI_f, bI_0, bI_n0, if_true, if_false, true_and, and_true, ne_eq, not_true_eq_false, not_false_eq_true, one_ne0, reduceCtorEq]
  refine hc _ (fun h1 hh => ?_)
  obtain ⟨hE1, ⟨l, hM⟩, hr1⟩ := hr h1 hh
  have rb1 : h1.2.2.1 b = .inl (7, xis L xs) := (hE1 b hb).trans eb
  simp only [s243_592, s243_592n, s243_593, s243_594, s243_595, s243_596, s243_597, s243_598, s243_599, s243_600, s243_601, s243_602, s243_603, rb1, hM, nI_1, p2, XA7 (show i + 1 < L by omega) hL, XA7 (show i + 2 < L by omega) hL, XG_1, XO_some, XV_1, xo_n, xo_i8, xo_r8, xo_i7, xo_r7, xo_i6, xo_r6, xo_i5, xo_r5, xo_i4, xo_r4, xo_i3, xo_r3, xo_i2, xo_r2, Option.toList_some, Option.toList_none, List.cons_append, List.nil_append, bI_t, bI_f, bI_0, bI_n0, if_true, if_false, true_and, and_true, ne_eq, not_true_eq_false, not_false_eq_true, one_ne0, reduceCtorEq]
  refine hr1 _ (fun h2 S2 k1 k2 => ?_)
  simp only [s243_606, XG_1, XO_some, XV_1, xo_n, xo_i8, xo_r8, xo_i7, xo_r7, xo_i6, xo_r6, xo_i5, xo_r5, xo_i4, xo_r4, xo_i3, xo_r3, xo_i2, xo_r2, Option.toList_some, Option.toList_none, List.cons_append, List.nil_append, bI_t, bI_f, bI_0, bI_n0, if_true, if_false, true_and, and_true, ne_eq, not_true_eq_false, not_false_eq_true, one_ne0, reduceCtorEq]
  exact K h2 S2 k1 k2
theorem bk_11 (hb : b < B) (S : REP B E g0 h) (eb : E b = .inl (7, xis L xs)) (hi : i + 6 ≤ L) (hL : L ≤ 3072) (ok : OK B E g0 1 h 89 163 [.int (xs (i + 1)), .int (xs (i + 2))]) : BK B b L i E g0 xs h Q 611 := by
  intro K
  have rb : h.2.2.1 b = .inl (7, xis L xs) := (S.2.1 b hb).trans eb
  obtain ⟨⟨n, T, p, s, m, f, w, g, q, R, I, RR, M, X⟩, -⟩ := S
  have hO := X.1.1.1
  obtain ⟨v, H1, hc, hr⟩ := ok
  simp only [s243_611, s243_611n, s243_612, s243_613, s243_614, s243_615, s243_616, s243_617, s243_618, s243_619, s243_620, s243_621, s243_622, rb, hO, nI_1, p2, XA7 (show i + 1 < L by omega) hL, XA7 (show i + 2 < L by omega) hL, XG_1, XO_some, XV_1, xo_n, xo_i8, xo_r8, xo_i7, xo_r7, xo_i6, xo_r6, xo_i5, xo_r5, xo_i4, xo_r4, xo_i3, xo_r3, xo_i2, xo_r2, Option.toList_some, Option.toList_none, List.cons_append, List.nil_append, bI_t, bI_f, bI_0, bI_n0, if_true, if_false, true_and, and_true, ne_eq, not_true_eq_false, not_false_eq_true, one_ne0, reduceCtorEq]
  refine hc _ (fun h1 hh => ?_)
  obtain ⟨hE1, ⟨l, hM⟩, hr1⟩ := hr h1 hh
  have rb1 : h1.2.2.1 b = .inl (7, xis L xs) := (hE1 b hb).trans eb
  simp only [s243_625, s243_625n, s243_626, s243_627, s243_628, s243_629, s243_630, s243_631, s243_632, s243_633, s243_634, s243_635, s243_636, rb1, hM, nI_1, p2, XA7 (show i + 1 < L by omega) hL, XA7 (show i + 2 < L by omega) hL, XG_1, XO_some, XV_1, xo_n, xo_i8, xo_r8, xo_i7, xo_r7, xo_i6, xo_r6, xo_i5, xo_r5, xo_i4, xo_r4, xo_i3, xo_r3, xo_i2, xo_r2, Option.toList_some, Option.toList_none, List.cons_append, List.nil_append, bI_t, bI_f, bI_0, bI_n0, if_true, if_false, true_and, and_true, ne_eq, not_true_eq_false, not_false_eq_true, one_ne0, reduceCtorEq]
  refine hr1 _ (fun h2 S2 k1 k2 => ?_)
  simp only [s243_639, XG_1, XO_some, XV_1, xo_n, xo_i8, xo_r8, xo_i7, xo_r7, xo_i6, xo_r6, xo_i5, xo_r5, xo_i4, xo_r4, xo_i3, xo_r3, xo_i2, xo_r2, Option.toList_some, Option.toList_none, List.cons_append, List.nil_append, bI_t, bI_f, bI_0, bI_n0, if_true, if_false, true_and, and_true, ne_eq, not_true_eq_false, not_false_eq_true, one_ne0, reduceCtorEq]
  exact K h2 S2 k1 k2
theorem bk_12 (hb : b < B) (S : REP B E g0 h) (eb : E b = .inl (7, xis L xs)) (hi : i + 6 ≤ L) (hL : L ≤ 3072) (ok : OK B E g0 1 h 90 165 [.int (xs (i + 1)), .int (xs (i + 2))]) : BK B b L i E g0 xs h Q 644 := by
  intro K
  have rb : h.2.2.1 b = .inl (7, xis L xs) := (S.2.1 b hb).trans eb
  obtain ⟨⟨n, T, p, s, m, f, w, g, q, R, I, RR, M, X⟩, -⟩ := S
  have hO := X.1.1.1
  obtain ⟨v, H1, hc, hr⟩ := ok
  simp only [s243_644, s243_644n, s243_645, s243_646, s243_647, s243_648, s243_649, s243_650, s243_651, s243_652, s243_653, s243_654, s243_655, rb, hO, nI_1, p2, XA7 (show i + 1 < L by omega) hL, XA7 (show i + 2 < L by omega) hL, XG_1, XO_some, XV_1, xo_n, xo_i8, xo_r8, xo_i7, xo_r7, xo_i6, xo_r6, xo_i5, xo_r5, xo_i4, xo_r4, xo_i3, xo_r3, xo_i2, xo_r2, Option.toList_some, Option.toList_none, List.cons_append, List.nil_append, bI_t, bI_f, bI_0, bI_n0, if_true, if_false, true_and, and_true, ne_eq, not_true_eq_false, not_false_eq_true, one_ne0, reduceCtorEq]
  refine hc _ (fun h1 hh => ?_)
  obtain ⟨hE1, ⟨l, hM⟩, hr1⟩ := hr h1 hh
  have rb1 : h1.2.2.1 b = .inl (7, xis L xs) := (hE1 b hb).trans eb
  simp only [s243_658, s243_658n, s243_659, s243_660, s243_661, s243_662, s243_663, s243_664, s243_665, s243_666, s243_667, s243_668, s243_669, rb1, hM, nI_1, p2, XA7 (show i + 1 < L by omega) hL, XA7 (show i + 2 < L by omega) hL, XG_1, XO_some, XV_1, xo_n, xo_i8, xo_r8, xo_i7, xo_r7, xo_i6, xo_r6, xo_i5, xo_r5, xo_i4, xo_r4, xo_i3, xo_r3, xo_i2, xo_r2, Option.toList_some, Option.toList_none, List.cons_append, List.nil_append, bI_t, bI_f, bI_0, bI_n0, if_true, if_false, true_and, and_true, ne_eq, not_true_eq_false, not_false_eq_true, one_ne0, reduceCtorEq]
  refine hr1 _ (fun h2 S2 k1 k2 => ?_)
  simp only [s243_672, XG_1, XO_some, XV_1, xo_n, xo_i8, xo_r8, xo_i7, xo_r7, xo_i6, xo_r6, xo_i5, xo_r5, xo_i4, xo_r4, xo_i3, xo_r3, xo_i2, xo_r2, Option.toList_some, Option.toList_none, List.cons_append, List.nil_append, bI_t, bI_f, bI_0, bI_n0, if_true, if_false, true_and, and_true, ne_eq, not_true_eq_false, not_false_eq_true, one_ne0, reduceCtorEq]
  exact K h2 S2 k1 k2
theorem bk_13 (hb : b < B) (S : REP B E g0 h) (eb : E b = .inl (7, xis L xs)) (hi : i + 6 ≤ L) (hL : L ≤ 3072) (ok : OK B E g0 1 h 91 166 [.int (xs (i + 1)), .int (xs (i + 2))]) : BK B b L i E g0 xs h Q 677 := by
  intro K
  have rb : h.2.2.1 b = .inl (7, xis L xs) := (S.2.1 b hb).trans eb
  obtain ⟨⟨n, T, p, s, m, f, w, g, q, R, I, RR, M, X⟩, -⟩ := S
  have hO := X.1.1.1
  obtain ⟨v, H1, hc, hr⟩ := ok
  simp only [s243_677, s243_677n, s243_678, s243_679, s243_680, s243_681, s243_682, s243_683, s243_684, s243_685, s243_686, s243_687, s243_688, rb, hO, nI_1, p2, XA7 (show i + 1 < L by omega) hL, XA7 (show i + 2 < L by omega) hL, XG_1, XO_some, XV_1, xo_n, xo_i8, xo_r8, xo_i7, xo_r7, xo_i6, xo_r6, xo_i5, xo_r5, xo_i4, xo_r4, xo_i3, xo_r3, xo_i2, xo_r2, Option.toList_some, Option.toList_none, List.cons_append, List.nil_append, bI_t, bI_f, bI_0, bI_n0, if_true, if_false, true_and, and_true, ne_eq, not_true_eq_false, not_false_eq_true, one_ne0, reduceCtorEq]
  refine hc _ (fun h1 hh => ?_)
  obtain ⟨hE1, ⟨l, hM⟩, hr1⟩ := hr h1 hh
  have rb1 : h1.2.2.1 b = .inl (7, xis L xs) := (hE1 b hb).trans eb
  simp only [s243_691, s243_691n, s243_692, s243_693, s243_694, s243_695, s243_696, s243_697, s243_698, s243_699, s243_700, s243_701, s243_702, rb1, hM, nI_1, p2, XA7 (show i + 1 < L by omega) hL, XA7 (show i + 2 < L by omega) hL, XG_1, XO_some, XV_1, xo_n, xo_i8, xo_r8, xo_i7, xo_r7, xo_i6, xo_r6, xo_i5, xo_r5, xo_i4, xo_r4, xo_i3, xo_r3, xo_i2, xo_r2, Option.toList_some, Option.toList_none, List.cons_append, List.nil_append, bI_t, bI_f, bI_0, bI_n0, if_true, if_false, true_and, and_true, ne_eq, not_true_eq_false, not_false_eq_true, one_ne0, reduceCtorEq]
  refine hr1 _ (fun h2 S2 k1 k2 => ?_)
  simp only [s243_705, XG_1, XO_some, XV_1, xo_n, xo_i8, xo_r8, xo_i7, xo_r7, xo_i6, xo_r6, xo_i5, xo_r5, xo_i4, xo_r4, xo_i3, xo_r3, xo_i2, xo_r2, Option.toList_some, Option.toList_none, List.cons_append, List.nil_append, bI_t, bI_f, bI_0, bI_n0, if_true, if_false, true_and, and_true, ne_eq, not_true_eq_false, not_false_eq_true, one_ne0, reduceCtorEq]
  exact K h2 S2 k1 k2
theorem bk_14 (hb : b < B) (S : REP B E g0 h) (eb : E b = .inl (7, xis L xs)) (hi : i + 6 ≤ L) (hL : L ≤ 3072) (ok : OK B E g0 1 h 92 171 [.int (xs (i + 1)), .int (xs (i + 2)), .int (xs (i + 3))]) : BK B b L i E g0 xs h Q 710 := by
  intro K
  have rb : h.2.2.1 b = .inl (7, xis L xs) := (S.2.1 b hb).trans eb
  obtain ⟨⟨n, T, p, s, m, f, w, g, q, R, I, RR, M, X⟩, -⟩ := S
  have hO := X.1.1.1
  obtain ⟨v, H1, hc, hr⟩ := ok
  simp only [s243_710, s243_710n, s243_711, s243_712, s243_713, s243_714, s243_715, s243_716, s243_717, s243_718, s243_719, s243_720, s243_721, s243_722, s243_723, s243_724, s243_725, s243_726, rb, hO, nI_1, p2, p3, XA7 (show i + 1 < L by omega) hL, XA7 (show i + 2 < L by omega) hL, XA7 (show i + 3 < L by omega) hL, XG_1, XO_some, XV_1, xo_n, xo_i8, xo_r8, xo_i7, xo_r7, xo_i6, xo_r6, xo_i5, xo_r5, xo_i4, xo_r4, xo_i3, xo_r3, xo_i2, xo_r2, Option.toList_some, Option.toList_none, List.cons_append, List.nil_append, bI_t, bI_f, bI_0, bI_n0, if_true, if_false, true_and, and_true, ne_eq, not_true_eq_false, not_false_eq_true, one_ne0, reduceCtorEq]
  refine hc _ (fun h1 hh => ?_)
  obtain ⟨hE1, ⟨l, hM⟩, hr1⟩ := hr h1 hh
  have rb1 : h1.2.2.1 b = .inl (7, xis L xs) := (hE1 b hb).trans eb
  simp only [s243_729, s243_729n, s243_730, s243_731, s243_732, s243_733, s243_734, s243_735, s243_736, s243_737, s243_738, s243_739, s243_740, s243_741, s243_742, s243_743, s243_744, s243_745, rb1, hM, nI_1, p2, p3, XA7 (show i + 1 < L by omega) hL, XA7 (show i + 2 < L by omega) hL, XA7 (show i + 3 < L by omega) hL, XG_1, XO_some, XV_1, xo_n, xo_i8, xo_r8, xo_i7, xo_r7, xo_i6, xo_r6, xo_i5, xo_r5, xo_i4, xo_r4, xo_i3, xo_r3, xo_i2, xo_r2, Option.toList_some, Option.toList_none, List.cons_append, List.nil_append, bI_t, bI_f, bI_0, bI_n0, if_true, if_false, true_and, and_true, ne_eq, not_true_eq_false, not_false_eq_true, one_ne0, reduceCtorEq]
  refine hr1 _ (fun h2 S2 k1 k2 => ?_)
  simp only [s243_748, XG_1, XO_some, XV_1, xo_n, xo_i8, xo_r8, xo_i7, xo_r7, xo_i6, xo_r6, xo_i5, xo_r5, xo_i4, xo_r4, xo_i3, xo_r3, xo_i2, xo_r2, Option.toList_some, Option.toList_none, List.cons_append, List.nil_append, bI_t, bI_f, bI_0, bI_n0, if_true, if_false, true_and, and_true, ne_eq, not_true_eq_false, not_false_eq_true, one_ne0, reduceCtorEq]
  exact K h2 S2 k1 k2
theorem bk_15 (hb : b < B) (S : REP B E g0 h) (eb : E b = .inl (7, xis L xs)) (hi : i + 6 ≤ L) (hL : L ≤ 3072) (ok : OK B E g0 1 h 93 172 [.int (xs (i + 1)), .int (xs (i + 2))]) : BK B b L i E g0 xs h Q 753 := by
  intro K
  have rb : h.2.2.1 b = .inl (7, xis L xs) := (S.2.1 b hb).trans eb
  obtain ⟨⟨n, T, p, s, m, f, w, g, q, R, I, RR, M, X⟩, -⟩ := S
  have hO := X.1.1.1
  obtain ⟨v, H1, hc, hr⟩ := ok
  simp only [s243_753, s243_753n, s243_754, s243_755, s243_756, s243_757, s243_758, s243_759, s243_760, s243_761, s243_762, s243_763, s243_764, rb, hO, nI_1, p2, XA7 (show i + 1 < L by omega) hL, XA7 (show i + 2 < L by omega) hL, XG_1, XO_some, XV_1, xo_n, xo_i8, xo_r8, xo_i7, xo_r7, xo_i6, xo_r6, xo_i5, xo_r5, xo_i4, xo_r4, xo_i3, xo_r3, xo_i2, xo_r2, Option.toList_some, Option.toList_none, List.cons_append, List.nil_append, bI_t, bI_f, bI_0, bI_n0, if_true, if_false, true_and, and_true, ne_eq, not_true_eq_false, not_false_eq_true, one_ne0, reduceCtorEq]
  refine hc _ (fun h1 hh => ?_)
  obtain ⟨hE1, ⟨l, hM⟩, hr1⟩ := hr h1 hh
  have rb1 : h1.2.2.1 b = .inl (7, xis L xs) := (hE1 b hb).trans eb
  simp only [s243_767, s243_767n, s243_768, s243_769, s243_770, s243_771, s243_772, s243_773, s243_774, s243_775, s243_776, s243_777, s243_778, rb1, hM, nI_1, p2, XA7 (show i + 1 < L by omega) hL, XA7 (show i + 2 < L by omega) hL, XG_1, XO_some, XV_1, xo_n, xo_i8, xo_r8, xo_i7, xo_r7, xo_i6, xo_r6, xo_i5, xo_r5, xo_i4, xo_r4, xo_i3, xo_r3, xo_i2, xo_r2, Option.toList_some, Option.toList_none, List.cons_append, List.nil_append, bI_t, bI_f, bI_0, bI_n0, if_true, if_false, true_and, and_true, ne_eq, not_true_eq_false, not_false_eq_true, one_ne0, reduceCtorEq]
  refine hr1 _ (fun h2 S2 k1 k2 => ?_)
  simp only [s243_781, XG_1, XO_some, XV_1, xo_n, xo_i8, xo_r8, xo_i7, xo_r7, xo_i6, xo_r6, xo_i5, xo_r5, xo_i4, xo_r4, xo_i3, xo_r3, xo_i2, xo_r2, Option.toList_some, Option.toList_none, List.cons_append, List.nil_append, bI_t, bI_f, bI_0, bI_n0, if_true, if_false, true_and, and_true, ne_eq, not_true_eq_false, not_false_eq_true, one_ne0, reduceCtorEq]
  exact K h2 S2 k1 k2
theorem bk_16 (hb : b < B) (S : REP B E g0 h) (eb : E b = .inl (7, xis L xs)) (hi : i + 6 ≤ L) (hL : L ≤ 3072) (ok : OK B E g0 1 h 94 175 [.int (xs (i + 1))]) : BK B b L i E g0 xs h Q 786 := by
  intro K
  have rb : h.2.2.1 b = .inl (7, xis L xs) := (S.2.1 b hb).trans eb
  obtain ⟨⟨n, T, p, s, m, f, w, g, q, R, I, RR, M, X⟩, -⟩ := S
  have hO := X.1.1.1
  obtain ⟨v, H1, hc, hr⟩ := ok
  simp only [s243_786, s243_786n, s243_787, s243_788, s243_789, s243_790, s243_791, s243_792, rb, hO, nI_1, XA7 (show i + 1 < L by omega) hL, XG_1, XO_some, XV_1, xo_n, xo_i8, xo_r8, xo_i7, xo_r7, xo_i6, xo_r6, xo_i5, xo_r5, xo_i4, xo_r4, xo_i3, xo_r3, xo_i2, xo_r2, Option.toList_some, Option.toList_none, List.cons_append, List.nil_append, bI_t, bI_f, bI_0, bI_n0, if_true, if_false, true_and, and_true, ne_eq, not_true_eq_false, not_false_eq_true, one_ne0, reduceCtorEq]
  refine hc _ (fun h1 hh => ?_)
  obtain ⟨hE1, ⟨l, hM⟩, hr1⟩ := hr h1 hh
  have rb1 : h1.2.2.1 b = .inl (7, xis L xs) := (hE1 b hb).trans eb
  simp only [s243_795, s243_795n, s243_796, s243_797, s243_798, s243_799, s243_800, s243_801, rb1, hM, nI_1, XA7 (show i + 1 < L by omega) hL, XG_1, XO_some, XV_1, xo_n, xo_i8, xo_r8, xo_i7, xo_r7, xo_i6, xo_r6, xo_i5, xo_r5, xo_i4, xo_r4, xo_i3, xo_r3, xo_i2, xo_r2, Option.toList_some, Option.toList_none, List.cons_append, List.nil_append, bI_t, bI_f, bI_0, bI_n0, if_true, if_false, true_and, and_true, ne_eq, not_true_eq_false, not_false_eq_true, one_ne0, reduceCtorEq]
  refine hr1 _ (fun h2 S2 k1 k2 => ?_)
  simp only [s243_804, XG_1, XO_some, XV_1, xo_n, xo_i8, xo_r8, xo_i7, xo_r7, xo_i6, xo_r6, xo_i5, xo_r5, xo_i4, xo_r4, xo_i3, xo_r3, xo_i2, xo_r2, Option.toList_some, Option.toList_none, List.cons_append, List.nil_append, bI_t, bI_f, bI_0, bI_n0, if_true, if_false, true_and, and_true, ne_eq, not_true_eq_false, not_false_eq_true, one_ne0, reduceCtorEq]
  exact K h2 S2 k1 k2
theorem bk_17 (hb : b < B) (S : REP B E g0 h) (eb : E b = .inl (7, xis L xs)) (hi : i + 6 ≤ L) (hL : L ≤ 3072) (ok : OK B E g0 1 h 95 177 [.int (xs (i + 1))]) : BK B b L i E g0 xs h Q 809 := by
  intro K
  have rb : h.2.2.1 b = .inl (7, xis L xs) := (S.2.1 b hb).trans eb
  obtain ⟨⟨n, T, p, s, m, f, w, g, q, R, I, RR, M, X⟩, -⟩ := S
  have hO := X.1.1.1
  obtain ⟨v, H1, hc, hr⟩ := ok
  simp only [s243_809, s243_809n, s243_810, s243_811, s243_812, s243_813, s243_814, s243_815, rb, hO, nI_1, XA7 (show i + 1 < L by omega) hL, XG_1, XO_some, XV_1, xo_n, xo_i8, xo_r8, xo_i7, xo_r7, xo_i6, xo_r6, xo_i5, xo_r5, xo_i4, xo_r4, xo_i3, xo_r3, xo_i2, xo_r2, Option.toList_some, Option.toList_none, List.cons_append, List.nil_append, bI_t, bI_f, bI_0, bI_n0, if_true, if_false, true_and, and_true, ne_eq, not_true_eq_false, not_false_eq_true, one_ne0, reduceCtorEq]
  refine hc _ (fun h1 hh => ?_)
  obtain ⟨hE1, ⟨l, hM⟩, hr1⟩ := hr h1 hh
  have rb1 : h1.2.2.1 b = .inl (7, xis L xs) := (hE1 b hb).trans eb
  simp only [s243_818, s243_818n, s243_819, s243_820, s243_821, s243_822, s243_823, s243_824, rb1, hM, nI_1, XA7 (show i + 1 < L by omega) hL, XG_1, XO_some, XV_1, xo_n, xo_i8, xo_r8, xo_i7, xo_r7, xo_i6, xo_r6, xo_i5, xo_r5, xo_i4, xo_r4, xo_i3, xo_r3, xo_i2, xo_r2, Option.toList_some, Option.toList_none, List.cons_append, List.nil_append, bI_t, bI_f, bI_0, bI_n0, if_true, if_false, true_and, and_true, ne_eq, not_true_eq_false, not_false_eq_true, one_ne0, reduceCtorEq]
  refine hr1 _ (fun h2 S2 k1 k2 => ?_)
  simp only [s243_827, XG_1, XO_some, XV_1, xo_n, xo_i8, xo_r8, xo_i7, xo_r7, xo_i6, xo_r6, xo_i5, xo_r5, xo_i4, xo_r4, xo_i3, xo_r3, xo_i2, xo_r2, Option.toList_some, Option.toList_none, List.cons_append, List.nil_append, bI_t, bI_f, bI_0, bI_n0, if_true, if_false, true_and, and_true, ne_eq, not_true_eq_false, not_false_eq_true, one_ne0, reduceCtorEq]
  exact K h2 S2 k1 k2
theorem bk_18 (hb : b < B) (S : REP B E g0 h) (eb : E b = .inl (7, xis L xs)) (hi : i + 6 ≤ L) (hL : L ≤ 3072) (ok : OK B E g0 1 h 96 178 [.int (xs (i + 1))]) : BK B b L i E g0 xs h Q 832 := by
  intro K
  have rb : h.2.2.1 b = .inl (7, xis L xs) := (S.2.1 b hb).trans eb
  obtain ⟨⟨n, T, p, s, m, f, w, g, q, R, I, RR, M, X⟩, -⟩ := S
  have hO := X.1.1.1
  obtain ⟨v, H1, hc, hr⟩ := ok
  simp only [s243_832, s243_832n, s243_833, s243_834, s243_835, s243_836, s243_837, s243_838, rb, hO, nI_1, XA7 (show i + 1 < L by omega) hL, XG_1, XO_some, XV_1, xo_n, xo_i8, xo_r8, xo_i7, xo_r7, xo_i6, xo_r6, xo_i5, xo_r5, xo_i4, xo_r4, xo_i3, xo_r3, xo_i2, xo_r2, Option.toList_some, Option.toList_none, List.cons_append, List.nil_append, bI_t, bI_f, bI_0, bI_n0, if_true, if_false, true_and, and_true, ne_eq, not_true_eq_false, not_false_eq_true, one_ne0, reduceCtorEq]
  refine hc _ (fun h1 hh => ?_)
  obtain ⟨hE1, ⟨l, hM⟩, hr1⟩ := hr h1 hh
  have rb1 : h1.2.2.1 b = .inl (7, xis L xs) := (hE1 b hb).trans eb
  simp only [s243_841, s243_841n, s243_842, s243_843, s243_844, s243_845, s243_846, s243_847, rb1, hM, nI_1, XA7 (show i + 1 < L by omega) hL, XG_1, XO_some, XV_1, xo_n, xo_i8, xo_r8, xo_i7, xo_r7, xo_i6, xo_r6, xo_i5, xo_r5, xo_i4, xo_r4, xo_i3, xo_r3, xo_i2, xo_r2, Option.toList_some, Option.toList_none, List.cons_append, List.nil_append, bI_t, bI_f, bI_0, bI_n0, if_true, if_false, true_and, and_true, ne_eq, not_true_eq_false, not_false_eq_true, one_ne0, reduceCtorEq]
  refine hr1 _ (fun h2 S2 k1 k2 => ?_)
  simp only [s243_850, XG_1, XO_some, XV_1, xo_n, xo_i8, xo_r8, xo_i7, xo_r7, xo_i6, xo_r6, xo_i5, xo_r5, xo_i4, xo_r4, xo_i3, xo_r3, xo_i2, xo_r2, Option.toList_some, Option.toList_none, List.cons_append, List.nil_append, bI_t, bI_f, bI_0, bI_n0, if_true, if_false, true_and, and_true, ne_eq, not_true_eq_false, not_false_eq_true, one_ne0, reduceCtorEq]
  exact K h2 S2 k1 k2
theorem bk_19 (hb : b < B) (S : REP B E g0 h) (eb : E b = .inl (7, xis L xs)) (hi : i + 6 ≤ L) (hL : L ≤ 3072) (ok : OK B E g0 1 h 97 180 [.int (xs (i + 1))]) : BK B b L i E g0 xs h Q 855 := by
  intro K
  have rb : h.2.2.1 b = .inl (7, xis L xs) := (S.2.1 b hb).trans eb
  obtain ⟨⟨n, T, p, s, m, f, w, g, q, R, I, RR, M, X⟩, -⟩ := S
  have hO := X.1.1.1
  obtain ⟨v, H1, hc, hr⟩ := ok
  simp only [s243_855, s243_855n, s243_856, s243_857, s243_858, s243_859, s243_860, s243_861, rb, hO, nI_1, XA7 (show i + 1 < L by omega) hL, XG_1, XO_some, XV_1, xo_n, xo_i8, xo_r8, xo_i7, xo_r7, xo_i6, xo_r6, xo_i5, xo_r5, xo_i4, xo_r4, xo_i3, xo_r3, xo_i2, xo_r2, Option.toList_some, Option.toList_none, List.cons_append, List.nil_append, bI_t, bI_f, bI_0, bI_n0, if_true, if_false, true_and, and_true, ne_eq, not_true_eq_false, not_false_eq_true, one_ne0, reduceCtorEq]
  refine hc _ (fun h1 hh => ?_)
  obtain ⟨hE1, ⟨l, hM⟩, hr1⟩ := hr h1 hh
  have rb1 : h1.2.2.1 b = .inl (7, xis L xs) := (hE1 b hb).trans eb
  simp only [s243_864, s243_864n, s243_865, s243_866, s243_867, s243_868, s243_869, s243_870, rb1, hM, nI_1, XA7 (show i + 1 < L by omega) hL, XG_1, XO_some, XV_1, xo_n, xo_i8, xo_r8, xo_i7, xo_r7, xo_i6, xo_r6, xo_i5, xo_r5, xo_i4, xo_r4, xo_i3, xo_r3, xo_i2, xo_r2, Option.toList_some, Option.toList_none, List.cons_append, List.nil_append, bI_t, bI_f, bI_0, bI_n0, if_true, if_false, true_and, and_true, ne_eq, not_true_eq_false, not_false_eq_true, one_ne0, reduceCtorEq]
  refine hr1 _ (fun h2 S2 k1 k2 => ?_)
  simp only [s243_873, XG_1, XO_some, XV_1, xo_n, xo_i8, xo_r8, xo_i7, xo_r7, xo_i6, xo_r6, xo_i5, xo_r5, xo_i4, xo_r4, xo_i3, xo_r3, xo_i2, xo_r2, Option.toList_some, Option.toList_none, List.cons_append, List.nil_append, bI_t, bI_f, bI_0, bI_n0, if_true, if_false, true_and, and_true, ne_eq, not_true_eq_false, not_false_eq_true, one_ne0, reduceCtorEq]
  exact K h2 S2 k1 k2
theorem bk_20 (hb : b < B) (S : REP B E g0 h) (eb : E b = .inl (7, xis L xs)) (hi : i + 6 ≤ L) (hL : L ≤ 3072) (ok : OK B E g0 1 h 98 182 []) : BK B b L i E g0 xs h Q 878 := by
  intro K
  have rb : h.2.2.1 b = .inl (7, xis L xs) := (S.2.1 b hb).trans eb
  obtain ⟨⟨n, T, p, s, m, f, w, g, q, R, I, RR, M, X⟩, -⟩ := S
  have hO := X.1.1.1
  obtain ⟨v, H1, hc, hr⟩ := ok
  simp only [s243_878, s243_878n, s243_879, rb, hO, XG_1, XO_some, XV_1, xo_n, xo_i8, xo_r8, xo_i7, xo_r7, xo_i6, xo_r6, xo_i5, xo_r5, xo_i4, xo_r4, xo_i3, xo_r3, xo_i2, xo_r2, Option.toList_some, Option.toList_none, List.cons_append, List.nil_append, bI_t, bI_f, bI_0, bI_n0, if_true, if_false, true_and, and_true, ne_eq, not_true_eq_false, not_false_eq_true, one_ne0, reduceCtorEq]
  refine hc _ (fun h1 hh => ?_)
  obtain ⟨hE1, ⟨l, hM⟩, hr1⟩ := hr h1 hh
  have rb1 : h1.2.2.1 b = .inl (7, xis L xs) := (hE1 b hb).trans eb
  simp only [s243_882, s243_882n, s243_883, rb1, hM, XG_1, XO_some, XV_1, xo_n, xo_i8, xo_r8, xo_i7, xo_r7, xo_i6, xo_r6, xo_i5, xo_r5, xo_i4, xo_r4, xo_i3, xo_r3, xo_i2, xo_r2, Option.toList_some, Option.toList_none, List.cons_append, List.nil_append, bI_t, bI_f, bI_0, bI_n0, if_true, if_false, true_and, and_true, ne_eq, not_true_eq_false, not_false_eq_true, one_ne0, reduceCtorEq]
  refine hr1 _ (fun h2 S2 k1 k2 => ?_)
  simp only [s243_886, XG_1, XO_some, XV_1, xo_n, xo_i8, xo_r8, xo_i7, xo_r7, xo_i6, xo_r6, xo_i5, xo_r5, xo_i4, xo_r4, xo_i3, xo_r3, xo_i2, xo_r2, Option.toList_some, Option.toList_none, List.cons_append, List.nil_append, bI_t, bI_f, bI_0, bI_n0, if_true, if_false, true_and, and_true, ne_eq, not_true_eq_false, not_false_eq_true, one_ne0, reduceCtorEq]
  exact K h2 S2 k1 k2
theorem bk_21 (hb : b < B) (S : REP B E g0 h) (eb : E b = .inl (7, xis L xs)) (hi : i + 6 ≤ L) (hL : L ≤ 3072) (ok : OK B E g0 1 h 99 183 [.int (xs (i + 1))]) : BK B b L i E g0 xs h Q 891 := by
  intro K
  have rb : h.2.2.1 b = .inl (7, xis L xs) := (S.2.1 b hb).trans eb
  obtain ⟨⟨n, T, p, s, m, f, w, g, q, R, I, RR, M, X⟩, -⟩ := S
  have hO := X.1.1.1
  obtain ⟨v, H1, hc, hr⟩ := ok
  simp only [s243_891, s243_891n, s243_892, s243_893, s243_894, s243_895, s243_896, s243_897, rb, hO, nI_1, XA7 (show i + 1 < L by omega) hL, XG_1, XO_some, XV_1, xo_n, xo_i8, xo_r8, xo_i7, xo_r7, xo_i6, xo_r6, xo_i5, xo_r5, xo_i4, xo_r4, xo_i3, xo_r3, xo_i2, xo_r2, Option.toList_some, Option.toList_none, List.cons_append, List.nil_append, bI_t, bI_f, bI_0, bI_n0, if_true, if_false, true_and, and_true, ne_eq, not_true_eq_false, not_false_eq_true, one_ne0, reduceCtorEq]
  refine hc _ (fun h1 hh => ?_)
  obtain ⟨hE1, ⟨l, hM⟩, hr1⟩ := hr h1 hh
  have rb1 : h1.2.2.1 b = .inl (7, xis L xs) := (hE1 b hb).trans eb
  simp only [s243_900, s243_900n, s243_901, s243_902, s243_903, s243_904, s243_905, s243_906, rb1, hM, nI_1, XA7 (show i + 1 < L by omega) hL, XG_1, XO_some, XV_1, xo_n, xo_i8, xo_r8, xo_i7, xo_r7, xo_i6, xo_r6, xo_i5, xo_r5, xo_i4, xo_r4, xo_i3, xo_r3, xo_i2, xo_r2, Option.toList_some, Option.toList_none, List.cons_append, List.nil_append, bI_t, bI_f, bI_0, bI_n0, if_true, if_false, true_and, and_true, ne_eq, not_true_eq_false, not_false_eq_true, one_ne0, reduceCtorEq]
  refine hr1 _ (fun h2 S2 k1 k2 => ?_)
  simp only [s243_909, XG_1, XO_some, XV_1, xo_n, xo_i8, xo_r8, xo_i7, xo_r7, xo_i6, xo_r6, xo_i5, xo_r5, xo_i4, xo_r4, xo_i3, xo_r3, xo_i2, xo_r2, Option.toList_some, Option.toList_none, List.cons_append, List.nil_append, bI_t, bI_f, bI_0, bI_n0, if_true, if_false, true_and, and_true, ne_eq, not_true_eq_false, not_false_eq_true, one_ne0, reduceCtorEq]
  exact K h2 S2 k1 k2
theorem bk_22 (hb : b < B) (S : REP B E g0 h) (eb : E b = .inl (7, xis L xs)) (hi : i + 6 ≤ L) (hL : L ≤ 3072) (ok : OK B E g0 1 h 100 184 [.int (xs (i + 1))]) : BK B b L i E g0 xs h Q 914 := by
  intro K
  have rb : h.2.2.1 b = .inl (7, xis L xs) := (S.2.1 b hb).trans eb
  obtain ⟨⟨n, T, p, s, m, f, w, g, q, R, I, RR, M, X⟩, -⟩ := S
  have hO := X.1.1.1
  obtain ⟨v, H1, hc, hr⟩ := ok
  simp only [s243_914, s243_914n, s243_915, s243_916, s243_917, s243_918, s243_919, s243_920, rb, hO, nI_1, XA7 (show i + 1 < L by omega) hL, XG_1, XO_some, XV_1, xo_n, xo_i8, xo_r8, xo_i7, xo_r7, xo_i6, xo_r6, xo_i5, xo_r5, xo_i4, xo_r4, xo_i3, xo_r3, xo_i2, xo_r2, Option.toList_some, Option.toList_none, List.cons_append, List.nil_append, bI_t, bI_f, bI_0, bI_n0, if_true, if_false, true_and, and_true, ne_eq, not_true_eq_false, not_false_eq_true, one_ne0, reduceCtorEq]
  refine hc _ (fun h1 hh => ?_)
  obtain ⟨hE1, ⟨l, hM⟩, hr1⟩ := hr h1 hh
  have rb1 : h1.2.2.1 b = .inl (7, xis L xs) := (hE1 b hb).trans eb
  simp only [s243_923, s243_923n, s243_924, s243_925, s243_926, s243_927, s243_928, s243_929, rb1, hM, nI_1, XA7 (show i + 1 < L by omega) hL, XG_1, XO_some, XV_1, xo_n, xo_i8, xo_r8, xo_i7, xo_r7, xo_i6, xo_r6, xo_i5, xo_r5, xo_i4, xo_r4, xo_i3, xo_r3, xo_i2, xo_r2, Option.toList_some, Option.toList_none, List.cons_append, List.nil_append, bI_t, bI_f, bI_0, bI_n0, if_true, if_false, true_and, and_true, ne_eq, not_true_eq_false, not_false_eq_true, one_ne0, reduceCtorEq]
  refine hr1 _ (fun h2 S2 k1 k2 => ?_)
  simp only [s243_932, XG_1, XO_some, XV_1, xo_n, xo_i8, xo_r8, xo_i7, xo_r7, xo_i6, xo_r6, xo_i5, xo_r5, xo_i4, xo_r4, xo_i3, xo_r3, xo_i2, xo_r2, Option.toList_some, Option.toList_none, List.cons_append, List.nil_append, bI_t, bI_f, bI_0, bI_n0, if_true, if_false, true_and, and_true, ne_eq, not_true_eq_false, not_false_eq_true, one_ne0, reduceCtorEq]
  exact K h2 S2 k1 k2
theorem bk_23 (hb : b < B) (S : REP B E g0 h) (eb : E b = .inl (7, xis L xs)) (hi : i + 6 ≤ L) (hL : L ≤ 3072) (ok : OK B E g0 1 h 101 187 [.int (xs (i + 1))]) : BK B b L i E g0 xs h Q 937 := by
  intro K
  have rb : h.2.2.1 b = .inl (7, xis L xs) := (S.2.1 b hb).trans eb
  obtain ⟨⟨n, T, p, s, m, f, w, g, q, R, I, RR, M, X⟩, -⟩ := S
  have hO := X.1.1.1
  obtain ⟨v, H1, hc, hr⟩ := ok
  simp only [s243_937, s243_937n, s243_938, s243_939, s243_940, s243_941, s243_942, s243_943, rb, hO, nI_1, XA7 (show i + 1 < L by omega) hL, XG_1, XO_some, XV_1, xo_n, xo_i8, xo_r8, xo_i7, xo_r7, xo_i6, xo_r6, xo_i5, xo_r5, xo_i4, xo_r4, xo_i3, xo_r3, xo_i2, xo_r2, Option.toList_some, Option.toList_none, List.cons_append, List.nil_append, bI_t, bI_f, bI_0, bI_n0, if_true, if_false, true_and, and_true, ne_eq, not_true_eq_false, not_false_eq_true, one_ne0, reduceCtorEq]
  refine hc _ (fun h1 hh => ?_)
  obtain ⟨hE1, ⟨l, hM⟩, hr1⟩ := hr h1 hh
  have rb1 : h1.2.2.1 b = .inl (7, xis L xs) := (hE1 b hb).trans eb
  simp only [s243_946, s243_946n, s243_947, s243_948, s243_949, s243_950, s243_951, s243_952, rb1, hM, nI_1, XA7 (show i + 1 < L by omega) hL, XG_1, XO_some, XV_1, xo_n, xo_i8, xo_r8, xo_i7, xo_r7, xo_i6, xo_r6, xo_i5, xo_r5, xo_i4, xo_r4, xo_i3, xo_r3, xo_i2, xo_r2, Option.toList_some, Option.toList_none, List.cons_append, List.nil_append, bI_t, bI_f, bI_0, bI_n0, if_true, if_false, true_and, and_true, ne_eq, not_true_eq_false, not_false_eq_true, one_ne0, reduceCtorEq]
  refine hr1 _ (fun h2 S2 k1 k2 => ?_)
  simp only [s243_955, XG_1, XO_some, XV_1, xo_n, xo_i8, xo_r8, xo_i7, xo_r7, xo_i6, xo_r6, xo_i5, xo_r5, xo_i4, xo_r4, xo_i3, xo_r3, xo_i2, xo_r2, Option.toList_some, Option.toList_none, List.cons_append, List.nil_append, bI_t, bI_f, bI_0, bI_n0, if_true, if_false, true_and, and_true, ne_eq, not_true_eq_false, not_false_eq_true, one_ne0, reduceCtorEq]
  exact K h2 S2 k1 k2
theorem bk_24 (hb : b < B) (S : REP B E g0 h) (eb : E b = .inl (7, xis L xs)) (hi : i + 6 ≤ L) (hL : L ≤ 3072) (ok : OK B E g0 1 h 102 189 []) : BK B b L i E g0 xs h Q 960 := by
  intro K
  have rb : h.2.2.1 b = .inl (7, xis L xs) := (S.2.1 b hb).trans eb
  obtain ⟨⟨n, T, p, s, m, f, w, g, q, R, I, RR, M, X⟩, -⟩ := S
  have hO := X.1.1.1
  obtain ⟨v, H1, hc, hr⟩ := ok
  simp only [s243_960, s243_960n, s243_961, rb, hO, XG_1, XO_some, XV_1, xo_n, xo_i8, xo_r8, xo_i7, xo_r7, xo_i6, xo_r6, xo_i5, xo_r5, xo_i4, xo_r4, xo_i3, xo_r3, xo_i2, xo_r2, Option.toList_some, Option.toList_none, List.cons_append, List.nil_append, bI_t, bI_f, bI_0, bI_n0, if_true, if_false, true_and, and_true, ne_eq, not_true_eq_false, not_false_eq_true, one_ne0, reduceCtorEq]
  refine hc _ (fun h1 hh => ?_)
  obtain ⟨hE1, ⟨l, hM⟩, hr1⟩ := hr h1 hh
  have rb1 : h1.2.2.1 b = .inl (7, xis L xs) := (hE1 b hb).trans eb
  simp only [s243_964, s243_964n, s243_965, rb1, hM, XG_1, XO_some, XV_1, xo_n, xo_i8, xo_r8, xo_i7, xo_r7, xo_i6, xo_r6, xo_i5, xo_r5, xo_i4, xo_r4, xo_i3, xo_r3, xo_i2, xo_r2, Option.toList_some, Option.toList_none, List.cons_append, List.nil_append, bI_t, bI_f, bI_0, bI_n0, if_true, if_false, true_and, and_true, ne_eq, not_true_eq_false, not_false_eq_true, one_ne0, reduceCtorEq]
  refine hr1 _ (fun h2 S2 k1 k2 => ?_)
  simp only [s243_968, XG_1, XO_some, XV_1, xo_n, xo_i8, xo_r8, xo_i7, xo_r7, xo_i6, xo_r6, xo_i5, xo_r5, xo_i4, xo_r4, xo_i3, xo_r3, xo_i2, xo_r2, Option.toList_some, Option.toList_none, List.cons_append, List.nil_append, bI_t, bI_f, bI_0, bI_n0, if_true, if_false, true_and, and_true, ne_eq, not_true_eq_false, not_false_eq_true, one_ne0, reduceCtorEq]
  exact K h2 S2 k1 k2
theorem bk_25 (hb : b < B) (S : REP B E g0 h) (eb : E b = .inl (7, xis L xs)) (hi : i + 6 ≤ L) (hL : L ≤ 3072) (ok : OK B E g0 1 h 103 190 []) : BK B b L i E g0 xs h Q 973 := by
  intro K
  have rb : h.2.2.1 b = .inl (7, xis L xs) := (S.2.1 b hb).trans eb
  obtain ⟨⟨n, T, p, s, m, f, w, g, q, R, I, RR, M, X⟩, -⟩ := S
  have hO := X.1.1.1
  obtain ⟨v, H1, hc, hr⟩ := ok
  simp only [s243_973, s243_973n, s243_974, rb, hO, XG_1, XO_some, XV_1, xo_n, xo_i8, xo_r8, xo_i7, xo_r7, xo_i6, xo_r6, xo_i5, xo_r5, xo_i4, xo_r4, xo_i3, xo_r3, xo_i2, xo_r2, Option.toList_some, Option.toList_none, List.cons_append, List.nil_append, bI_t, bI_f, bI_0, bI_n0, if_true, if_false, true_and, and_true, ne_eq, not_true_eq_false, not_false_eq_true, one_ne0, reduceCtorEq]
  refine hc _ (fun h1 hh => ?_)
  obtain ⟨hE1, ⟨l, hM⟩, hr1⟩ := hr h1 hh
  have rb1 : h1.2.2.1 b = .inl (7, xis L xs) := (hE1 b hb).trans eb
  simp only [s243_977, s243_977n, s243_978, rb1, hM, XG_1, XO_some, XV_1, xo_n, xo_i8, xo_r8, xo_i7, xo_r7, xo_i6, xo_r6, xo_i5, xo_r5, xo_i4, xo_r4, xo_i3, xo_r3, xo_i2, xo_r2, Option.toList_some, Option.toList_none, List.cons_append, List.nil_append, bI_t, bI_f, bI_0, bI_n0, if_true, if_false, true_and, and_true, ne_eq, not_true_eq_false, not_false_eq_true, one_ne0, reduceCtorEq]
  refine hr1 _ (fun h2 S2 k1 k2 => ?_)
  simp only [s243_981, XG_1, XO_some, XV_1, xo_n, xo_i8, xo_r8, xo_i7, xo_r7, xo_i6, xo_r6, xo_i5, xo_r5, xo_i4, xo_r4, xo_i3, xo_r3, xo_i2, xo_r2, Option.toList_some, Option.toList_none, List.cons_append, List.nil_append, bI_t, bI_f, bI_0, bI_n0, if_true, if_false, true_and, and_true, ne_eq, not_true_eq_false, not_false_eq_true, one_ne0, reduceCtorEq]
  exact K h2 S2 k1 k2
theorem bk_26 (hb : b < B) (S : REP B E g0 h) (eb : E b = .inl (7, xis L xs)) (hi : i + 6 ≤ L) (hL : L ≤ 3072) (ok : OK B E g0 1 h 104 191 [.int (xs (i + 1)), .int (xs (i + 2)), .int (xs (i + 3))]) : BK B b L i E g0 xs h Q 986 := by
  intro K
  have rb : h.2.2.1 b = .inl (7, xis L xs) := (S.2.1 b hb).trans eb
  obtain ⟨⟨n, T, p, s, m, f, w, g, q, R, I, RR, M, X⟩, -⟩ := S
  have hO := X.1.1.1
  obtain ⟨v, H1, hc, hr⟩ := ok
  simp only [s243_986, s243_986n, s243_987, s243_988, s243_989, s243_990, s243_991, s243_992, s243_993, s243_994, s243_995, s243_996, s243_997, s243_998, s243_999, s243_1000, s243_1001, s243_1002, rb, hO, nI_1, p2, p3, XA7 (show i + 1 < L by omega) hL, XA7 (show i + 2 < L by omega) hL, XA7 (show i + 3 < L by omega) hL, XG_1, XO_some, XV_1, xo_n, xo_i8, xo_r8, xo_i7, xo_r7, xo_i6, xo_r6, xo_i5, xo_r5, xo_i4, xo_r4, xo_i3, xo_r3, xo_i2, xo_r2, Option.toList_some, Option.toList_none, List.cons_append, List.nil_append, bI_t, bI_f, bI_0, bI_n0, if_true, if_false, true_and, and_true, ne_eq, not_true_eq_false, not_false_eq_true, one_ne0, reduceCtorEq]
  refine hc _ (fun h1 hh => ?_)
  obtain ⟨hE1, ⟨l, hM⟩, hr1⟩ := hr h1 hh
  have rb1 : h1.2.2.1 b = .inl (7, xis L xs) := (hE1 b hb).trans eb
  simp only [s243_1005, s243_1005n, s243_1006, s243_1007, s243_1008, s243_1009, s243_1010, s243_1011, s243_1012, s243_1013, s243_1014, s243_1015, s243_1016, s243_1017, s243_1018, s243_1019, s243_1020, s243_1021, rb1, hM, nI_1, p2, p3, XA7 (show i + 1 < L by omega) hL, XA7 (show i + 2 < L by omega) hL, XA7 (show i + 3 < L by omega) hL, XG_1, XO_some, XV_1, xo_n, xo_i8, xo_r8, xo_i7, xo_r7, xo_i6, xo_r6, xo_i5, xo_r5, xo_i4, xo_r4, xo_i3, xo_r3, xo_i2, xo_r2, Option.toList_some, Option.toList_none, List.cons_append, List.nil_append, bI_t, bI_f, bI_0, bI_n0, if_true, if_false, true_and, and_true, ne_eq, not_true_eq_false, not_false_eq_true, one_ne0, reduceCtorEq]
  refine hr1 _ (fun h2 S2 k1 k2 => ?_)
  simp only [s243_1024, XG_1, XO_some, XV_1, xo_n, xo_i8, xo_r8, xo_i7, xo_r7, xo_i6, xo_r6, xo_i5, xo_r5, xo_i4, xo_r4, xo_i3, xo_r3, xo_i2, xo_r2, Option.toList_some, Option.toList_none, List.cons_append, List.nil_append, bI_t, bI_f, bI_0, bI_n0, if_true, if_false, true_and, and_true, ne_eq, not_true_eq_false, not_false_eq_true, one_ne0, reduceCtorEq]
  exact K h2 S2 k1 k2
theorem bk_27 (hb : b < B) (S : REP B E g0 h) (eb : E b = .inl (7, xis L xs)) (hi : i + 6 ≤ L) (hL : L ≤ 3072) (ok : OK B E g0 1 h 105 192 [.int (xs (i + 1))]) : BK B b L i E g0 xs h Q 1029 := by
  intro K
  have rb : h.2.2.1 b = .inl (7, xis L xs) := (S.2.1 b hb).trans eb
  obtain ⟨⟨n, T, p, s, m, f, w, g, q, R, I, RR, M, X⟩, -⟩ := S
  have hO := X.1.1.1
  obtain ⟨v, H1, hc, hr⟩ := ok
  simp only [s243_1029, s243_1029n, s243_1030, s243_1031, s243_1032, s243_1033, s243_1034, s243_1035, rb, hO, nI_1, XA7 (show i + 1 < L by omega) hL, XG_1, XO_some, XV_1, xo_n, xo_i8, xo_r8, xo_i7, xo_r7, xo_i6, xo_r6, xo_i5, xo_r5, xo_i4, xo_r4, xo_i3, xo_r3, xo_i2, xo_r2, Option.toList_some, Option.toList_none, List.cons_append, List.nil_append, bI_t, bI_f, bI_0, bI_n0, if_true, if_false, true_and, and_true, ne_eq, not_true_eq_false, not_false_eq_true, one_ne0, reduceCtorEq]
  refine hc _ (fun h1 hh => ?_)
  obtain ⟨hE1, ⟨l, hM⟩, hr1⟩ := hr h1 hh
  have rb1 : h1.2.2.1 b = .inl (7, xis L xs) := (hE1 b hb).trans eb
  simp only [s243_1038, s243_1038n, s243_1039, s243_1040, s243_1041, s243_1042, s243_1043, s243_1044, rb1, hM, nI_1, XA7 (show i + 1 < L by omega) hL, XG_1, XO_some, XV_1, xo_n, xo_i8, xo_r8, xo_i7, xo_r7, xo_i6, xo_r6, xo_i5, xo_r5, xo_i4, xo_r4, xo_i3, xo_r3, xo_i2, xo_r2, Option.toList_some, Option.toList_none, List.cons_append, List.nil_append, bI_t, bI_f, bI_0, bI_n0, if_true, if_false, true_and, and_true, ne_eq, not_true_eq_false, not_false_eq_true, one_ne0, reduceCtorEq]
  refine hr1 _ (fun h2 S2 k1 k2 => ?_)
  simp only [s243_1047, XG_1, XO_some, XV_1, xo_n, xo_i8, xo_r8, xo_i7, xo_r7, xo_i6, xo_r6, xo_i5, xo_r5, xo_i4, xo_r4, xo_i3, xo_r3, xo_i2, xo_r2, Option.toList_some, Option.toList_none, List.cons_append, List.nil_append, bI_t, bI_f, bI_0, bI_n0, if_true, if_false, true_and, and_true, ne_eq, not_true_eq_false, not_false_eq_true, one_ne0, reduceCtorEq]
  exact K h2 S2 k1 k2
theorem bk_28 (hb : b < B) (S : REP B E g0 h) (eb : E b = .inl (7, xis L xs)) (hi : i + 6 ≤ L) (hL : L ≤ 3072) (ok : OK B E g0 1 h 106 204 []) : BK B b L i E g0 xs h Q 1052 := by
  intro K
  have rb : h.2.2.1 b = .inl (7, xis L xs) := (S.2.1 b hb).trans eb
  obtain ⟨⟨n, T, p, s, m, f, w, g, q, R, I, RR, M, X⟩, -⟩ := S
  have hO := X.1.1.1
  obtain ⟨v, H1, hc, hr⟩ := ok
  simp only [s243_1052, s243_1052n, s243_1053, rb, hO, XG_1, XO_some, XV_1, xo_n, xo_i8, xo_r8, xo_i7, xo_r7, xo_i6, xo_r6, xo_i5, xo_r5, xo_i4, xo_r4, xo_i3, xo_r3, xo_i2, xo_r2, Option.toList_some, Option.toList_none, List.cons_append, List.nil_append, bI_t, bI_f, bI_0, bI_n0, if_true, if_false, true_and, and_true, ne_eq, not_true_eq_false, not_false_eq_true, one_ne0, reduceCtorEq]
  refine hc _ (fun h1 hh => ?_)
  obtain ⟨hE1, ⟨l, hM⟩, hr1⟩ := hr h1 hh
  have rb1 : h1.2.2.1 b = .inl (7, xis L xs) := (hE1 b hb).trans eb
  simp only [s243_1056, s243_1056n, s243_1057, rb1, hM, XG_1, XO_some, XV_1, xo_n, xo_i8, xo_r8, xo_i7, xo_r7, xo_i6, xo_r6, xo_i5, xo_r5, xo_i4, xo_r4, xo_i3, xo_r3, xo_i2, xo_r2, Option.toList_some, Option.toList_none, List.cons_append, List.nil_append, bI_t, bI_f, bI_0, bI_n0, if_true, if_false, true_and, and_true, ne_eq, not_true_eq_false, not_false_eq_true, one_ne0, reduceCtorEq]
  refine hr1 _ (fun h2 S2 k1 k2 => ?_)
  simp only [s243_1060, XG_1, XO_some, XV_1, xo_n, xo_i8, xo_r8, xo_i7, xo_r7, xo_i6, xo_r6, xo_i5, xo_r5, xo_i4, xo_r4, xo_i3, xo_r3, xo_i2, xo_r2, Option.toList_some, Option.toList_none, List.cons_append, List.nil_append, bI_t, bI_f, bI_0, bI_n0, if_true, if_false, true_and, and_true, ne_eq, not_true_eq_false, not_false_eq_true, one_ne0, reduceCtorEq]
  exact K h2 S2 k1 k2
theorem bk_29 (hb : b < B) (S : REP B E g0 h) (eb : E b = .inl (7, xis L xs)) (hi : i + 6 ≤ L) (hL : L ≤ 3072) (ok : OK B E g0 1 h 107 205 [.int (xs (i + 1)), .int (xs (i + 2))]) : BK B b L i E g0 xs h Q 1065 := by
  intro K
  have rb : h.2.2.1 b = .inl (7, xis L xs) := (S.2.1 b hb).trans eb
  obtain ⟨⟨n, T, p, s, m, f, w, g, q, R, I, RR, M, X⟩, -⟩ := S
  have hO := X.1.1.1
  obtain ⟨v, H1, hc, hr⟩ := ok
  simp only [s243_1065, s243_1065n, s243_1066, s243_1067, s243_1068, s243_1069, s243_1070, s243_1071, s243_1072, s243_1073, s243_1074, s243_1075, s243_1076, rb, hO, nI_1, p2, XA7 (show i + 1 < L by omega) hL, XA7 (show i + 2 < L by omega) hL, XG_1, XO_some, XV_1, xo_n, xo_i8, xo_r8, xo_i7, xo_r7, xo_i6, xo_r6, xo_i5, xo_r5, xo_i4, xo_r4, xo_i3, xo_r3, xo_i2, xo_r2, Option.toList_some, Option.toList_none, List.cons_append, List.nil_append, bI_t, bI_f, bI_0, bI_n0, if_true, if_false, true_and, and_true, ne_eq, not_true_eq_false, not_false_eq_true, one_ne0, reduceCtorEq]
  refine hc _ (fun h1 hh => ?_)
  obtain ⟨hE1, ⟨l, hM⟩, hr1⟩ := hr h1 hh
  have rb1 : h1.2.2.1 b = .inl (7, xis L xs) := (hE1 b hb).trans eb
  simp only [s243_1079, s243_1079n, s243_1080, s243_1081, s243_1082, s243_1083, s243_1084, s243_1085, s243_1086, s243_1087, s243_1088, s243_1089, s243_1090, rb1, hM, nI_1, p2, XA7 (show i + 1 < L by omega) hL, XA7 (show i + 2 < L by omega) hL, XG_1, XO_some, XV_1, xo_n, xo_i8, xo_r8, xo_i7, xo_r7, xo_i6, xo_r6, xo_i5, xo_r5, xo_i4, xo_r4, xo_i3, xo_r3, xo_i2, xo_r2, Option.toList_some, Option.toList_none, List.cons_append, List.nil_append, bI_t, bI_f, bI_0, bI_n0, if_true, if_false, true_and, and_true, ne_eq, not_true_eq_false, not_false_eq_true, one_ne0, reduceCtorEq]
  refine hr1 _ (fun h2 S2 k1 k2 => ?_)
  simp only [s243_1093, XG_1, XO_some, XV_1, xo_n, xo_i8, xo_r8, xo_i7, xo_r7, xo_i6, xo_r6, xo_i5, xo_r5, xo_i4, xo_r4, xo_i3, xo_r3, xo_i2, xo_r2, Option.toList_some, Option.toList_none, List.cons_append, List.nil_append, bI_t, bI_f, bI_0, bI_n0, if_true, if_false, true_and, and_true, ne_eq, not_true_eq_false, not_false_eq_true, one_ne0, reduceCtorEq]
  exact K h2 S2 k1 k2
theorem bk_30 (hb : b < B) (S : REP B E g0 h) (eb : E b = .inl (7, xis L xs)) (hi : i + 6 ≤ L) (hL : L ≤ 3072) (ok : OK B E g0 1 h 108 207 [.int (xs (i + 1))]) : BK B b L i E g0 xs h Q 1098 := by
  intro K
  have rb : h.2.2.1 b = .inl (7, xis L xs) := (S.2.1 b hb).trans eb
  obtain ⟨⟨n, T, p, s, m, f, w, g, q, R, I, RR, M, X⟩, -⟩ := S
  have hO := X.1.1.1
  obtain ⟨v, H1, hc, hr⟩ := ok
  simp only [s243_1098, s243_1098n, s243_1099, s243_1100, s243_1101, s243_1102, s243_1103, s243_1104, rb, hO, nI_1, XA7 (show i + 1 < L by omega) hL, XG_1, XO_some, XV_1, xo_n, xo_i8, xo_r8, xo_i7, xo_r7, xo_i6, xo_r6, xo_i5, xo_r5, xo_i4, xo_r4, xo_i3, xo_r3, xo_i2, xo_r2, Option.toList_some, Option.toList_none, List.cons_append, List.nil_append, bI_t, bI_f, bI_0, bI_n0, if_true, if_false, true_and, and_true, ne_eq, not_true_eq_false, not_false_eq_true, one_ne0, reduceCtorEq]
  refine hc _ (fun h1 hh => ?_)
  obtain ⟨hE1, ⟨l, hM⟩, hr1⟩ := hr h1 hh
  have rb1 : h1.2.2.1 b = .inl (7, xis L xs) := (hE1 b hb).trans eb
  simp only [s243_1107, s243_1107n, s243_1108, s243_1109, s243_1110, s243_1111, s243_1112, s243_1113, rb1, hM, nI_1, XA7 (show i + 1 < L by omega) hL, XG_1, XO_some, XV_1, xo_n, xo_i8, xo_r8, xo_i7, xo_r7, xo_i6, xo_r6, xo_i5, xo_r5, xo_i4, xo_r4, xo_i3, xo_r3, xo_i2, xo_r2, Option.toList_some, Option.toList_none, List.cons_append, List.nil_append, bI_t, bI_f, bI_0, bI_n0, if_true, if_false, true_and, and_true, ne_eq, not_true_eq_false, not_false_eq_true, one_ne0, reduceCtorEq]
  refine hr1 _ (fun h2 S2 k1 k2 => ?_)
  simp only [s243_1116, XG_1, XO_some, XV_1, xo_n, xo_i8, xo_r8, xo_i7, xo_r7, xo_i6, xo_r6, xo_i5, xo_r5, xo_i4, xo_r4, xo_i3, xo_r3, xo_i2, xo_r2, Option.toList_some, Option.toList_none, List.cons_append, List.nil_append, bI_t, bI_f, bI_0, bI_n0, if_true, if_false, true_and, and_true, ne_eq, not_true_eq_false, not_false_eq_true, one_ne0, reduceCtorEq]
  exact K h2 S2 k1 k2
theorem bk_31 (hb : b < B) (S : REP B E g0 h) (eb : E b = .inl (7, xis L xs)) (hi : i + 6 ≤ L) (hL : L ≤ 3072) (ok : OK B E g0 1 h 109 212 [.int (xs (i + 1)), .int (xs (i + 2)), .int (xs (i + 3))]) : BK B b L i E g0 xs h Q 1121 := by
  intro K
  have rb : h.2.2.1 b = .inl (7, xis L xs) := (S.2.1 b hb).trans eb
  obtain ⟨⟨n, T, p, s, m, f, w, g, q, R, I, RR, M, X⟩, -⟩ := S
  have hO := X.1.1.1
  obtain ⟨v, H1, hc, hr⟩ := ok
  simp only [s243_1121, s243_1121n, s243_1122, s243_1123, s243_1124, s243_1125, s243_1126, s243_1127, s243_1128, s243_1129, s243_1130, s243_1131, s243_1132, s243_1133, s243_1134, s243_1135, s243_1136, s243_1137, rb, hO, nI_1, p2, p3, XA7 (show i + 1 < L by omega) hL, XA7 (show i + 2 < L by omega) hL, XA7 (show i + 3 < L by omega) hL, XG_1, XO_some, XV_1, xo_n, xo_i8, xo_r8, xo_i7, xo_r7, xo_i6, xo_r6, xo_i5, xo_r5, xo_i4, xo_r4, xo_i3, xo_r3, xo_i2, xo_r2, Option.toList_some, Option.toList_none, List.cons_append, List.nil_append, bI_t, bI_f, bI_0, bI_n0, if_true, if_false, true_and, and_true, ne_eq, not_true_eq_false, not_false_eq_true, one_ne0, reduceCtorEq]
  refine hc _ (fun h1 hh => ?_)
  obtain ⟨hE1, ⟨l, hM⟩, hr1⟩ := hr h1 hh
  have rb1 : h1.2.2.1 b = .inl (7, xis L xs) := (hE1 b hb).trans eb
  simp only [s243_1140, s243_1140n, s243_1141, s243_1142, s243_1143, s243_1144, s243_1145, s243_1146, s243_1147, s243_1148, s243_1149, s243_1150, s243_1151, s243_1152, s243_1153, s243_1154, s243_1155, s243_1156, rb1, hM, nI_1, p2, p3, XA7 (show i + 1 < L by omega) hL, XA7 (show i + 2 < L by omega) hL, XA7 (show i + 3 < L by omega) hL, XG_1, XO_some, XV_1, xo_n, xo_i8, xo_r8, xo_i7, xo_r7, xo_i6, xo_r6, xo_i5, xo_r5, xo_i4, xo_r4, xo_i3, xo_r3, xo_i2, xo_r2, Option.toList_some, Option.toList_none, List.cons_append, List.nil_append, bI_t, bI_f, bI_0, bI_n0, if_true, if_false, true_and, and_true, ne_eq, not_true_eq_false, not_false_eq_true, one_ne0, reduceCtorEq]
  refine hr1 _ (fun h2 S2 k1 k2 => ?_)
  simp only [s243_1159, XG_1, XO_some, XV_1, xo_n, xo_i8, xo_r8, xo_i7, xo_r7, xo_i6, xo_r6, xo_i5, xo_r5, xo_i4, xo_r4, xo_i3, xo_r3, xo_i2, xo_r2, Option.toList_some, Option.toList_none, List.cons_append, List.nil_append, bI_t, bI_f, bI_0, bI_n0, if_true, if_false, true_and, and_true, ne_eq, not_true_eq_false, not_false_eq_true, one_ne0, reduceCtorEq]
  exact K h2 S2 k1 k2
theorem bk_32 (hb : b < B) (S : REP B E g0 h) (eb : E b = .inl (7, xis L xs)) (hi : i + 6 ≤ L) (hL : L ≤ 3072) (ok : OK B E g0 1 h 110 213 [.int (xs (i + 1)), .int (xs (i + 2)), .int (xs (i + 3))]) : BK B b L i E g0 xs h Q 1164 := by
  intro K
  have rb : h.2.2.1 b = .inl (7, xis L xs) := (S.2.1 b hb).trans eb
  obtain ⟨⟨n, T, p, s, m, f, w, g, q, R, I, RR, M, X⟩, -⟩ := S
  have hO := X.1.1.1
  obtain ⟨v, H1, hc, hr⟩ := ok
  simp only [s243_1164, s243_1164n, s243_1165, s243_1166, s243_1167, s243_1168, s243_1169, s243_1170, s243_1171, s243_1172, s243_1173, s243_1174, s243_1175, s243_1176, s243_1177, s243_1178, s243_1179, s243_1180, rb, hO, nI_1, p2, p3, XA7 (show i + 1 < L by omega) hL, XA7 (show i + 2 < L by omega) hL, XA7 (show i + 3 < L by omega) hL, XG_1, XO_some, XV_1, xo_n, xo_i8, xo_r8, xo_i7, xo_r7, xo_i6, xo_r6, xo_i5, xo_r5, xo_i4, xo_r4, xo_i3, xo_r3, xo_i2, xo_r2, Option.toList_some, Option.toList_none, List.cons_append, List.nil_append, bI_t, bI_f, bI_0, bI_n0, if_true, if_false, true_and, and_true, ne_eq, not_true_eq_false, not_false_eq_true, one_ne0, reduceCtorEq]
  refine hc _ (fun h1 hh => ?_)
  obtain ⟨hE1, ⟨l, hM⟩, hr1⟩ := hr h1 hh
  have rb1 : h1.2.2.1 b = .inl (7, xis L xs) := (hE1 b hb).trans eb
  simp only [s243_1183, s243_1183n, s243_1184, s243_1185, s243_1186, s243_1187, s243_1188, s243_1189, s243_1190, s243_1191, s243_1192, s243_1193, s243_1194, s243_1195, s243_1196, s243_1197, s243_1198, s243_1199, rb1, hM, nI_1, p2, p3, XA7 (show i + 1 < L by omega) hL, XA7 (show i + 2 < L by omega) hL, XA7 (show i + 3 < L by omega) hL, XG_1, XO_some, XV_1, xo_n, xo_i8, xo_r8, xo_i7, xo_r7, xo_i6, xo_r6, xo_i5, xo_r5, xo_i4, xo_r4, xo_i3, xo_r3, xo_i2, xo_r2, Option.toList_some, Option.toList_none, List.cons_append, List.nil_append, bI_t, bI_f, bI_0, bI_n0, if_true, if_false, true_and, and_true, ne_eq, not_true_eq_false, not_false_eq_true, one_ne0, reduceCtorEq]
  refine hr1 _ (fun h2 S2 k1 k2 => ?_)
  simp only [s243_1202, XG_1, XO_some, XV_1, xo_n, xo_i8, xo_r8, xo_i7, xo_r7, xo_i6, xo_r6, xo_i5, xo_r5, xo_i4, xo_r4, xo_i3, xo_r3, xo_i2, xo_r2, Option.toList_some, Option.toList_none, List.cons_append, List.nil_append, bI_t, bI_f, bI_0, bI_n0, if_true, if_false, true_and, and_true, ne_eq, not_true_eq_false, not_false_eq_true, one_ne0, reduceCtorEq]
  exact K h2 S2 k1 k2
theorem bk_33 (hb : b < B) (S : REP B E g0 h) (eb : E b = .inl (7, xis L xs)) (hi : i + 6 ≤ L) (hL : L ≤ 3072) (ok : OK B E g0 1 h 111 214 [.int (xs (i + 1))]) : BK B b L i E g0 xs h Q 1207 := by
  intro K
  have rb : h.2.2.1 b = .inl (7, xis L xs) := (S.2.1 b hb).trans eb
  obtain ⟨⟨n, T, p, s, m, f, w, g, q, R, I, RR, M, X⟩, -⟩ := S
  have hO := X.1.1.1
  obtain ⟨v, H1, hc, hr⟩ := ok
  simp only [s243_1207, s243_1207n, s243_1208, s243_1209, s243_1210, s243_1211, s243_1212, s243_1213, rb, hO, nI_1, XA7 (show i + 1 < L by omega) hL, XG_1, XO_some, XV_1, xo_n, xo_i8, xo_r8, xo_i7, xo_r7, xo_i6, xo_r6, xo_i5, xo_r5, xo_i4, xo_r4, xo_i3, xo_r3, xo_i2, xo_r2, Option.toList_some, Option.toList_none, List.cons_append, List.nil_append, bI_t, bI_f, bI_0, bI_n0, if_true, if_false, true_and, and_true, ne_eq, not_true_eq_false, not_false_eq_true, one_ne0, reduceCtorEq]
  refine hc _ (fun h1 hh => ?_)
  obtain ⟨hE1, ⟨l, hM⟩, hr1⟩ := hr h1 hh
  have rb1 : h1.2.2.1 b = .inl (7, xis L xs) := (hE1 b hb).trans eb
  simp only [s243_1216, s243_1216n, s243_1217, s243_1218, s243_1219, s243_1220, s243_1221, s243_1222, rb1, hM, nI_1, XA7 (show i + 1 < L by omega) hL, XG_1, XO_some, XV_1, xo_n, xo_i8, xo_r8, xo_i7, xo_r7, xo_i6, xo_r6, xo_i5, xo_r5, xo_i4, xo_r4, xo_i3, xo_r3, xo_i2, xo_r2, Option.toList_some, Option.toList_none, List.cons_append, List.nil_append, bI_t, bI_f, bI_0, bI_n0, if_true, if_false, true_and, and_true, ne_eq, not_true_eq_false, not_false_eq_true, one_ne0, reduceCtorEq]
  refine hr1 _ (fun h2 S2 k1 k2 => ?_)
  simp only [s243_1225, XG_1, XO_some, XV_1, xo_n, xo_i8, xo_r8, xo_i7, xo_r7, xo_i6, xo_r6, xo_i5, xo_r5, xo_i4, xo_r4, xo_i3, xo_r3, xo_i2, xo_r2, Option.toList_some, Option.toList_none, List.cons_append, List.nil_append, bI_t, bI_f, bI_0, bI_n0, if_true, if_false, true_and, and_true, ne_eq, not_true_eq_false, not_false_eq_true, one_ne0, reduceCtorEq]
  exact K h2 S2 k1 k2
theorem bk_34 (hb : b < B) (S : REP B E g0 h) (eb : E b = .inl (7, xis L xs)) (hi : i + 6 ≤ L) (hL : L ≤ 3072) (ok : OK B E g0 1 h 112 215 [.int (xs (i + 1))]) : BK B b L i E g0 xs h Q 1230 := by
  intro K
  have rb : h.2.2.1 b = .inl (7, xis L xs) := (S.2.1 b hb).trans eb
  obtain ⟨⟨n, T, p, s, m, f, w, g, q, R, I, RR, M, X⟩, -⟩ := S
  have hO := X.1.1.1
  obtain ⟨v, H1, hc, hr⟩ := ok
  simp only [s243_1230, s243_1230n, s243_1231, s243_1232, s243_1233, s243_1234, s243_1235, s243_1236, rb, hO, nI_1, XA7 (show i + 1 < L by omega) hL, XG_1, XO_some, XV_1, xo_n, xo_i8, xo_r8, xo_i7, xo_r7, xo_i6, xo_r6, xo_i5, xo_r5, xo_i4, xo_r4, xo_i3, xo_r3, xo_i2, xo_r2, Option.toList_some, Option.toList_none, List.cons_append, List.nil_append, bI_t, bI_f, bI_0, bI_n0, if_true, if_false, true_and, and_true, ne_eq, not_true_eq_false, not_false_eq_true, one_ne0, reduceCtorEq]
  refine hc _ (fun h1 hh => ?_)
  obtain ⟨hE1, ⟨l, hM⟩, hr1⟩ := hr h1 hh
  have rb1 : h1.2.2.1 b = .inl (7, xis L xs) := (hE1 b hb).trans eb
  simp only [s243_1239, s243_1239n, s243_1240, s243_1241, s243_1242, s243_1243, s243_1244, s243_1245, rb1, hM, nI_1, XA7 (show i + 1 < L by omega) hL, XG_1, XO_some, XV_1, xo_n, xo_i8, xo_r8, xo_i7, xo_r7, xo_i6, xo_r6, xo_i5, xo_r5, xo_i4, xo_r4, xo_i3, xo_r3, xo_i2, xo_r2, Option.toList_some, Option.toList_none, List.cons_append, List.nil_append, bI_t, bI_f, bI_0, bI_n0, if_true, if_false, true_and, and_true, ne_eq, not_true_eq_false, not_false_eq_true, one_ne0, reduceCtorEq]
  refine hr1 _ (fun h2 S2 k1 k2 => ?_)
  simp only [s243_1248, XG_1, XO_some, XV_1, xo_n, xo_i8, xo_r8, xo_i7, xo_r7, xo_i6, xo_r6, xo_i5, xo_r5, xo_i4, xo_r4, xo_i3, xo_r3, xo_i2, xo_r2, Option.toList_some, Option.toList_none, List.cons_append, List.nil_append, bI_t, bI_f, bI_0, bI_n0, if_true, if_false, true_and, and_true, ne_eq, not_true_eq_false, not_false_eq_true, one_ne0, reduceCtorEq]
  exact K h2 S2 k1 k2
theorem bk_35 (hb : b < B) (S : REP B E g0 h) (eb : E b = .inl (7, xis L xs)) (hi : i + 6 ≤ L) (hL : L ≤ 3072) (ok : OK B E g0 1 h 113 216 [.int (xs (i + 1)), .int (xs (i + 2)), .int (xs (i + 3)), .int (xs (i + 4)), .int (xs (i + 5))]) : BK B b L i E g0 xs h Q 1253 := by
  intro K
  have rb : h.2.2.1 b = .inl (7, xis L xs) := (S.2.1 b hb).trans eb
  obtain ⟨⟨n, T, p, s, m, f, w, g, q, R, I, RR, M, X⟩, -⟩ := S
  have hO := X.1.1.1
  obtain ⟨v, H1, hc, hr⟩ := ok
  simp only [s243_1253, s243_1253n, s243_1254, s243_1255, s243_1256, s243_1257, s243_1258, s243_1259, s243_1260, s243_1261, s243_1262, s243_1263, s243_1264, s243_1265, s243_1266, s243_1267, s243_1268, s243_1269, s243_1270, s243_1271, s243_1272, s243_1273, s243_1274, s243_1275, s243_1276, s243_1277, s243_1278, s243_1279, rb, hO, nI_1, p2, p3, p4, show nI i + 5 = nI (i + 5) from nI_add i 5, XA7 (show i + 1 < L by omega) hL, XA7 (show i + 2 < L by omega) hL, XA7 (show i + 3 < L by omega) hL, XA7 (show i + 4 < L by omega) hL, XA7 (show i + 5 < L by omega) hL, XG_1, XO_some, XV_1, xo_n, xo_i8, xo_r8, xo_i7, xo_r7, xo_i6, xo_r6, xo_i5, xo_r5, xo_i4, xo_r4, xo_i3, xo_r3, xo_i2, xo_r2, Option.toList_some, Option.toList_none, List.cons_append, List.nil_append, bI_t, bI_f, bI_0, bI_n0, if_true, if_false, true_and, and_true, ne_eq, not_true_eq_false, not_false_eq_true, one_ne0, reduceCtorEq]
  refine hc _ (fun h1 hh => ?_)
  obtain ⟨hE1, ⟨l, hM⟩, hr1⟩ := hr h1 hh
  have rb1 : h1.2.2.1 b = .inl (7, xis L xs) := (hE1 b hb).trans eb
  simp only [s243_1282, s243_1282n, s243_1283, s243_1284, s243_1285, s243_1286, s243_1287, s243_1288, s243_1289, s243_1290, s243_1291, s243_1292, s243_1293, s243_1294, s243_1295, s243_1296, s243_1297, s243_1298, s243_1299, s243_1300, s243_1301, s243_1302, s243_1303, s243_1304, s243_1305, s243_1306, s243_1307, s243_1308, rb1, hM, nI_1, p2, p3, p4, show nI i + 5 = nI (i + 5) from nI_add i 5, XA7 (show i + 1 < L by omega) hL, XA7 (show i + 2 < L by omega) hL, XA7 (show i + 3 < L by omega) hL, XA7 (show i + 4 < L by omega) hL, XA7 (show i + 5 < L by omega) hL, XG_1, XO_some, XV_1, xo_n, xo_i8, xo_r8, xo_i7, xo_r7, xo_i6, xo_r6, xo_i5, xo_r5, xo_i4, xo_r4, xo_i3, xo_r3, xo_i2, xo_r2, Option.toList_some, Option.toList_none, List.cons_append, List.nil_append, bI_t, bI_f, bI_0, bI_n0, if_true, if_false, true_and, and_true, ne_eq, not_true_eq_false, not_false_eq_true, one_ne0, reduceCtorEq]
  refine hr1 _ (fun h2 S2 k1 k2 => ?_)
  simp only [s243_1311, XG_1, XO_some, XV_1, xo_n, xo_i8, xo_r8, xo_i7, xo_r7, xo_i6, xo_r6, xo_i5, xo_r5, xo_i4, xo_r4, xo_i3, xo_r3, xo_i2, xo_r2, Option.toList_some, Option.toList_none, List.cons_append, List.nil_append, bI_t, bI_f, bI_0, bI_n0, if_true, if_false, true_and, and_true, ne_eq, not_true_eq_false, not_false_eq_true, one_ne0, reduceCtorEq]
  exact K h2 S2 k1 k2
theorem bk_36 (hb : b < B) (S : REP B E g0 h) (eb : E b = .inl (7, xis L xs)) (hi : i + 6 ≤ L) (hL : L ≤ 3072) (ok : OK B E g0 1 h 114 217 [.int (xs (i + 1)), .int (xs (i + 2)), .int (xs (i + 3))]) : BK B b L i E g0 xs h Q 1316 := by
  intro K
  have rb : h.2.2.1 b = .inl (7, xis L xs) := (S.2.1 b hb).trans eb
  obtain ⟨⟨n, T, p, s, m, f, w, g, q, R, I, RR, M, X⟩, -⟩ := S
  have hO := X.1.1.1
  obtain ⟨v, H1, hc, hr⟩ := ok
  simp only [s243_1316, s243_1316n, s243_1317, s243_1318, s243_1319, s243_1320, s243_1321, s243_1322, s243_1323, s243_1324, s243_1325, s243_1326, s243_1327, s243_1328, s243_1329, s243_1330, s243_1331, s243_1332, rb, hO, nI_1, p2, p3, XA7 (show i + 1 < L by omega) hL, XA7 (show i + 2 < L by omega) hL, XA7 (show i + 3 < L by omega) hL, XG_1, XO_some, XV_1, xo_n, xo_i8, xo_r8, xo_i7, xo_r7, xo_i6, xo_r6, xo_i5, xo_r5, xo_i4, xo_r4, xo_i3, xo_r3, xo_i2, xo_r2, Option.toList_some, Option.toList_none, List.cons_append, List.nil_append, bI_t, bI_f, bI_0, bI_n0, if_true, if_false, true_and, and_true, ne_eq, not_true_eq_false, not_false_eq_true, one_ne0, reduceCtorEq]
  refine hc _ (fun h1 hh => ?_)
  obtain ⟨hE1, ⟨l, hM⟩, hr1⟩ := hr h1 hh
  have rb1 : h1.2.2.1 b = .inl (7, xis L xs) := (hE1 b hb).trans eb
  simp only [s243_1335, s243_1335n, s243_1336, s243_1337, s243_1338, s243_1339, s243_1340, s243_1341, s243_1342, s243_1343, s243_1344, s243_1345, s243_1346, s243_1347, s243_1348, s243_1349, s243_1350, s243_1351, rb1, hM, nI_1, p2, p3, XA7 (show i + 1 < L by omega) hL, XA7 (show i + 2 < L by omega) hL, XA7 (show i + 3 < L by omega) hL, XG_1, XO_some, XV_1, xo_n, xo_i8, xo_r8, xo_i7, xo_r7, xo_i6, xo_r6, xo_i5, xo_r5, xo_i4, xo_r4, xo_i3, xo_r3, xo_i2, xo_r2, Option.toList_some, Option.toList_none, List.cons_append, List.nil_append, bI_t, bI_f, bI_0, bI_n0, if_true, if_false, true_and, and_true, ne_eq, not_true_eq_false, not_false_eq_true, one_ne0, reduceCtorEq]
  refine hr1 _ (fun h2 S2 k1 k2 => ?_)
  simp only [s243_1354, XG_1, XO_some, XV_1, xo_n, xo_i8, xo_r8, xo_i7, xo_r7, xo_i6, xo_r6, xo_i5, xo_r5, xo_i4, xo_r4, xo_i3, xo_r3, xo_i2, xo_r2, Option.toList_some, Option.toList_none, List.cons_append, List.nil_append, bI_t, bI_f, bI_0, bI_n0, if_true, if_false, true_and, and_true, ne_eq, not_true_eq_false, not_false_eq_true, one_ne0, reduceCtorEq]
  exact K h2 S2 k1 k2
theorem bk_37 (hb : b < B) (S : REP B E g0 h) (eb : E b = .inl (7, xis L xs)) (hi : i + 6 ≤ L) (hL : L ≤ 3072) (ok : OK B E g0 1 h 115 218 [.int (xs (i + 1)), .int (xs (i + 2))]) : BK B b L i E g0 xs h Q 1359 := by
  intro K
  have rb : h.2.2.1 b = .inl (7, xis L xs) := (S.2.1 b hb).trans eb
  obtain ⟨⟨n, T, p, s, m, f, w, g, q, R, I, RR, M, X⟩, -⟩ := S
  have hO := X.1.1.1
  obtain ⟨v, H1, hc, hr⟩ := ok
  simp only [s243_1359, s243_1359n, s243_1360, s243_1361, s243_1362, s243_1363, s243_1364, s243_1365, s243_1366, s243_1367, s243_1368, s243_1369, s243_1370, rb, hO, nI_1, p2, XA7 (show i + 1 < L by omega) hL, XA7 (show i + 2 < L by omega) hL, XG_1, XO_some, XV_1, xo_n, xo_i8, xo_r8, xo_i7, xo_r7, xo_i6, xo_r6, xo_i5, xo_r5, xo_i4, xo_r4, xo_i3, xo_r3, xo_i2, xo_r2, Option.toList_some, Option.toList_none, List.cons_append, List.nil_append, bI_t, bI_f, bI_0, bI_n0, if_true, if_false, true_and, and_true, ne_eq, not_true_eq_false, not_false_eq_true, one_ne0, reduceCtorEq]
  refine hc _ (fun h1 hh => ?_)
  obtain ⟨hE1, ⟨l, hM⟩, hr1⟩ := hr h1 hh
  have rb1 : h1.2.2.1 b = .inl (7, xis L xs) := (hE1 b hb).trans eb
  simp only [s243_1373, s243_1373n, s243_1374, s243_1375, s243_1376, s243_1377, s243_1378, s243_1379, s243_1380, s243_1381, s243_1382, s243_1383, s243_1384, rb1, hM, nI_1, p2, XA7 (show i + 1 < L by omega) hL, XA7 (show i + 2 < L by omega) hL, XG_1, XO_some, XV_1, xo_n, xo_i8, xo_r8, xo_i7, xo_r7, xo_i6, xo_r6, xo_i5, xo_r5, xo_i4, xo_r4, xo_i3, xo_r3, xo_i2, xo_r2, Option.toList_some, Option.toList_none, List.cons_append, List.nil_append, bI_t, bI_f, bI_0, bI_n0, if_true, if_false, true_and, and_true, ne_eq, not_true_eq_false, not_false_eq_true, one_ne0, reduceCtorEq]
  refine hr1 _ (fun h2 S2 k1 k2 => ?_)
  simp only [s243_1387, XG_1, XO_some, XV_1, xo_n, xo_i8, xo_r8, xo_i7, xo_r7, xo_i6, xo_r6, xo_i5, xo_r5, xo_i4, xo_r4, xo_i3, xo_r3, xo_i2, xo_r2, Option.toList_some, Option.toList_none, List.cons_append, List.nil_append, bI_t, bI_f, bI_0, bI_n0, if_true, if_false, true_and, and_true, ne_eq, not_true_eq_false, not_false_eq_true, one_ne0, reduceCtorEq]
  exact K h2 S2 k1 k2
theorem bk_38 (hb : b < B) (S : REP B E g0 h) (eb : E b = .inl (7, xis L xs)) (hi : i + 6 ≤ L) (hL : L ≤ 3072) (ok : OK B E g0 1 h 116 219 [.int (xs (i + 1)), .int (xs (i + 2))]) : BK B b L i E g0 xs h Q 1392 := by
  intro K
  have rb : h.2.2.1 b = .inl (7, xis L xs) := (S.2.1 b hb).trans eb
  obtain ⟨⟨n, T, p, s, m, f, w, g, q, R, I, RR, M, X⟩, -⟩ := S
  have hO := X.1.1.1
  obtain ⟨v, H1, hc, hr⟩ := ok
  simp only [s243_1392, s243_1392n, s243_1393, s243_1394, s243_1395, s243_1396, s243_1397, s243_1398, s243_1399, s243_1400, s243_1401, s243_1402, s243_1403, rb, hO, nI_1, p2, XA7 (show i + 1 < L by omega) hL, XA7 (show i + 2 < L by omega) hL, XG_1, XO_some, XV_1, xo_n, xo_i8, xo_r8, xo_i7, xo_r7, xo_i6, xo_r6, xo_i5, xo_r5, xo_i4, xo_r4, xo_i3, xo_r3, xo_i2, xo_r2, Option.toList_some, Option.toList_none, List.cons_append, List.nil_append, bI_t, bI_f, bI_0, bI_n0, if_true, if_false, true_and, and_true, ne_eq, not_true_eq_false, not_false_eq_true, one_ne0, reduceCtorEq]
  refine hc _ (fun h1 hh => ?_)
  obtain ⟨hE1, ⟨l, hM⟩, hr1⟩ := hr h1 hh
  have rb1 : h1.2.2.1 b = .inl (7, xis L xs) := (hE1 b hb).trans eb
  simp only [s243_1406, s243_1406n, s243_1407, s243_1408, s243_1409, s243_1410, s243_1411, s243_1412, s243_1413, s243_1414, s243_1415, s243_1416, s243_1417, rb1, hM, nI_1, p2, XA7 (show i + 1 < L by omega) hL, XA7 (show i + 2 < L by omega) hL, XG_1, XO_some, XV_1, xo_n, xo_i8, xo_r8, xo_i7, xo_r7, xo_i6, xo_r6, xo_i5, xo_r5, xo_i4, xo_r4, xo_i3, xo_r3, xo_i2, xo_r2, Option.toList_some, Option.toList_none, List.cons_append, List.nil_append, bI_t, bI_f, bI_0, bI_n0, if_true, if_false, true_and, and_true, ne_eq, not_true_eq_false, not_false_eq_true, one_ne0, reduceCtorEq]
  refine hr1 _ (fun h2 S2 k1 k2 => ?_)
  simp only [s243_1420, XG_1, XO_some, XV_1, xo_n, xo_i8, xo_r8, xo_i7, xo_r7, xo_i6, xo_r6, xo_i5, xo_r5, xo_i4, xo_r4, xo_i3, xo_r3, xo_i2, xo_r2, Option.toList_some, Option.toList_none, List.cons_append, List.nil_append, bI_t, bI_f, bI_0, bI_n0, if_true, if_false, true_and, and_true, ne_eq, not_true_eq_false, not_false_eq_true, one_ne0, reduceCtorEq]
  exact K h2 S2 k1 k2
theorem bk_39 (hb : b < B) (S : REP B E g0 h) (eb : E b = .inl (7, xis L xs)) (hi : i + 6 ≤ L) (hL : L ≤ 3072) (ok : OK B E g0 1 h 117 220 [.int (xs (i + 1)), .int (xs (i + 2))]) : BK B b L i E g0 xs h Q 1425 := by
  intro K
  have rb : h.2.2.1 b = .inl (7, xis L xs) := (S.2.1 b hb).trans eb
  obtain ⟨⟨n, T, p, s, m, f, w, g, q, R, I, RR, M, X⟩, -⟩ := S
  have hO := X.1.1.1
  obtain ⟨v, H1, hc, hr⟩ := ok
  simp only [s243_1425, s243_1425n, s243_1426, s243_1427, s243_1428, s243_1429, s243_1430, s243_1431, s243_1432, s243_1433, s243_1434, s243_1435, s243_1436, rb, hO, nI_1, p2, XA7 (show i + 1 < L by omega) hL, XA7 (show i + 2 < L by omega) hL, XG_1, XO_some, XV_1, xo_n, xo_i8, xo_r8, xo_i7, xo_r7, xo_i6, xo_r6, xo_i5, xo_r5, xo_i4, xo_r4, xo_i3, xo_r3, xo_i2, xo_r2, Option.toList_some, Option.toList_none, List.cons_append, List.nil_append, bI_t, bI_f, bI_0, bI_n0, if_true, if_false, true_and, and_true, ne_eq, not_true_eq_false, not_false_eq_true, one_ne0, reduceCtorEq]
  refine hc _ (fun h1 hh => ?_)
  obtain ⟨hE1, ⟨l, hM⟩, hr1⟩ := hr h1 hh
  have rb1 : h1.2.2.1 b = .inl (7, xis L xs) := (hE1 b hb).trans eb
  simp only [s243_1439, s243_1439n, s243_1440, s243_1441, s243_1442, s243_1443, s243_1444, s243_1445, s243_1446, s243_1447, s243_1448, s243_1449, s243_1450, rb1, hM, nI_1, p2, XA7 (show i + 1 < L by omega) hL, XA7 (show i + 2 < L by omega) hL, XG_1, XO_some, XV_1, xo_n, xo_i8, xo_r8, xo_i7, xo_r7, xo_i6, xo_r6, xo_i5, xo_r5, xo_i4, xo_r4, xo_i3, xo_r3, xo_i2, xo_r2, Option.toList_some, Option.toList_none, List.cons_append, List.nil_append, bI_t, bI_f, bI_0, bI_n0, if_true, if_false, true_and, and_true, ne_eq, not_true_eq_false, not_false_eq_true, one_ne0, reduceCtorEq]
  refine hr1 _ (fun h2 S2 k1 k2 => ?_)
  simp only [s243_1453, XG_1, XO_some, XV_1, xo_n, xo_i8, xo_r8, xo_i7, xo_r7, xo_i6, xo_r6, xo_i5, xo_r5, xo_i4, xo_r4, xo_i3, xo_r3, xo_i2, xo_r2, Option.toList_some, Option.toList_none, List.cons_append, List.nil_append, bI_t, bI_f, bI_0, bI_n0, if_true, if_false, true_and, and_true, ne_eq, not_true_eq_false, not_false_eq_true, one_ne0, reduceCtorEq]
  exact K h2 S2 k1 k2
theorem bk_40 (hb : b < B) (S : REP B E g0 h) (eb : E b = .inl (7, xis L xs)) (hi : i + 6 ≤ L) (hL : L ≤ 3072) (ok : OK B E g0 1 h 118 221 [.int (xs (i + 1))]) : BK B b L i E g0 xs h Q 1458 := by
  intro K
  have rb : h.2.2.1 b = .inl (7, xis L xs) := (S.2.1 b hb).trans eb
  obtain ⟨⟨n, T, p, s, m, f, w, g, q, R, I, RR, M, X⟩, -⟩ := S
  have hO := X.1.1.1
  obtain ⟨v, H1, hc, hr⟩ := ok
  simp only [s243_1458, s243_1458n, s243_1459, s243_1460, s243_1461, s243_1462, s243_1463, s243_1464, rb, hO, nI_1, XA7 (show i + 1 < L by omega) hL, XG_1, XO_some, XV_1, xo_n, xo_i8, xo_r8, xo_i7, xo_r7, xo_i6, xo_r6, xo_i5, xo_r5, xo_i4, xo_r4, xo_i3, xo_r3, xo_i2, xo_r2, Option.toList_some, Option.toList_none, List.cons_append, List.nil_append, bI_t, bI_f, bI_0, bI_n0, if_true, if_false, true_and, and_true, ne_eq, not_true_eq_false, not_false_eq_true, one_ne0, reduceCtorEq]
  refine hc _ (fun h1 hh => ?_)
  obtain ⟨hE1, ⟨l, hM⟩, hr1⟩ := hr h1 hh
  have rb1 : h1.2.2.1 b = .inl (7, xis L xs) := (hE1 b hb).trans eb
  simp only [s243_1467, s243_1467n, s243_1468, s243_1469, s243_1470, s243_1471, s243_1472, s243_1473, rb1, hM, nI_1, XA7 (show i + 1 < L by omega) hL, XG_1, XO_some, XV_1, xo_n, xo_i8, xo_r8, xo_i7, xo_r7, xo_i6, xo_r6, xo_i5, xo_r5, xo_i4, xo_r4, xo_i3, xo_r3, xo_i2, xo_r2, Option.toList_some, Option.toList_none, List.cons_append, List.nil_append, bI_t, bI_f, bI_0, bI_n0, if_true, if_false, true_and, and_true, ne_eq, not_true_eq_false, not_false_eq_true, one_ne0, reduceCtorEq]
  refine hr1 _ (fun h2 S2 k1 k2 => ?_)
  simp only [s243_1476, XG_1, XO_some, XV_1, xo_n, xo_i8, xo_r8, xo_i7, xo_r7, xo_i6, xo_r6, xo_i5, xo_r5, xo_i4, xo_r4, xo_i3, xo_r3, xo_i2, xo_r2, Option.toList_some, Option.toList_none, List.cons_append, List.nil_append, bI_t, bI_f, bI_0, bI_n0, if_true, if_false, true_and, and_true, ne_eq, not_true_eq_false, not_false_eq_true, one_ne0, reduceCtorEq]
  exact K h2 S2 k1 k2
theorem bk_41 (hb : b < B) (S : REP B E g0 h) (eb : E b = .inl (7, xis L xs)) (hi : i + 6 ≤ L) (hL : L ≤ 3072) (ok : OK B E g0 1 h 119 222 [.int (xs (i + 1))]) : BK B b L i E g0 xs h Q 1481 := by
  intro K
  have rb : h.2.2.1 b = .inl (7, xis L xs) := (S.2.1 b hb).trans eb
  obtain ⟨⟨n, T, p, s, m, f, w, g, q, R, I, RR, M, X⟩, -⟩ := S
  have hO := X.1.1.1
  obtain ⟨v, H1, hc, hr⟩ := ok
  simp only [s243_1481, s243_1481n, s243_1482, s243_1483, s243_1484, s243_1485, s243_1486, s243_1487, rb, hO, nI_1, XA7 (show i + 1 < L by omega) hL, XG_1, XO_some, XV_1, xo_n, xo_i8, xo_r8, xo_i7, xo_r7, xo_i6, xo_r6, xo_i5, xo_r5, xo_i4, xo_r4, xo_i3, xo_r3, xo_i2, xo_r2, Option.toList_some, Option.toList_none, List.cons_append, List.nil_append, bI_t, bI_f, bI_0, bI_n0, if_true, if_false, true_and, and_true, ne_eq, not_true_eq_false, not_false_eq_true, one_ne0, reduceCtorEq]
  refine hc _ (fun h1 hh => ?_)
  obtain ⟨hE1, ⟨l, hM⟩, hr1⟩ := hr h1 hh
  have rb1 : h1.2.2.1 b = .inl (7, xis L xs) := (hE1 b hb).trans eb
  simp only [s243_1490, s243_1490n, s243_1491, s243_1492, s243_1493, s243_1494, s243_1495, s243_1496, rb1, hM, nI_1, XA7 (show i + 1 < L by omega) hL, XG_1, XO_some, XV_1, xo_n, xo_i8, xo_r8, xo_i7, xo_r7, xo_i6, xo_r6, xo_i5, xo_r5, xo_i4, xo_r4, xo_i3, xo_r3, xo_i2, xo_r2, Option.toList_some, Option.toList_none, List.cons_append, List.nil_append, bI_t, bI_f, bI_0, bI_n0, if_true, if_false, true_and, and_true, ne_eq, not_true_eq_false, not_false_eq_true, one_ne0, reduceCtorEq]
  refine hr1 _ (fun h2 S2 k1 k2 => ?_)
  simp only [s243_1499, XG_1, XO_some, XV_1, xo_n, xo_i8, xo_r8, xo_i7, xo_r7, xo_i6, xo_r6, xo_i5, xo_r5, xo_i4, xo_r4, xo_i3, xo_r3, xo_i2, xo_r2, Option.toList_some, Option.toList_none, List.cons_append, List.nil_append, bI_t, bI_f, bI_0, bI_n0, if_true, if_false, true_and, and_true, ne_eq, not_true_eq_false, not_false_eq_true, one_ne0, reduceCtorEq]
  exact K h2 S2 k1 k2
theorem bk_42 (hb : b < B) (S : REP B E g0 h) (eb : E b = .inl (7, xis L xs)) (hi : i + 6 ≤ L) (hL : L ≤ 3072) (ok : OK B E g0 1 h 120 223 []) : BK B b L i E g0 xs h Q 1504 := by
  intro K
  have rb : h.2.2.1 b = .inl (7, xis L xs) := (S.2.1 b hb).trans eb
  obtain ⟨⟨n, T, p, s, m, f, w, g, q, R, I, RR, M, X⟩, -⟩ := S
  have hO := X.1.1.1
  obtain ⟨v, H1, hc, hr⟩ := ok
  simp only [s243_1504, s243_1504n, s243_1505, rb, hO, XG_1, XO_some, XV_1, xo_n, xo_i8, xo_r8, xo_i7, xo_r7, xo_i6, xo_r6, xo_i5, xo_r5, xo_i4, xo_r4, xo_i3, xo_r3, xo_i2, xo_r2, Option.toList_some, Option.toList_none, List.cons_append, List.nil_append, bI_t, bI_f, bI_0, bI_n0, if_true, if_false, true_and, and_true, ne_eq, not_true_eq_false, not_false_eq_true, one_ne0, reduceCtorEq]
  refine hc _ (fun h1 hh => ?_)
  obtain ⟨hE1, ⟨l, hM⟩, hr1⟩ := hr h1 hh
  have rb1 : h1.2.2.1 b = .inl (7, xis L xs) := (hE1 b hb).trans eb
  simp only [s243_1508, s243_1508n, s243_1509, rb1, hM, XG_1, XO_some, XV_1, xo_n, xo_i8, xo_r8, xo_i7, xo_r7, xo_i6, xo_r6, xo_i5, xo_r5, xo_i4, xo_r4, xo_i3, xo_r3, xo_i2, xo_r2, Option.toList_some, Option.toList_none, List.cons_append, List.nil_append, bI_t, bI_f, bI_0, bI_n0, if_true, if_false, true_and, and_true, ne_eq, not_true_eq_false, not_false_eq_true, one_ne0, reduceCtorEq]
  refine hr1 _ (fun h2 S2 k1 k2 => ?_)
  simp only [s243_1512, XG_1, XO_some, XV_1, xo_n, xo_i8, xo_r8, xo_i7, xo_r7, xo_i6, xo_r6, xo_i5, xo_r5, xo_i4, xo_r4, xo_i3, xo_r3, xo_i2, xo_r2, Option.toList_some, Option.toList_none, List.cons_append, List.nil_append, bI_t, bI_f, bI_0, bI_n0, if_true, if_false, true_and, and_true, ne_eq, not_true_eq_false, not_false_eq_true, one_ne0, reduceCtorEq]
  exact K h2 S2 k1 k2
theorem bk_43 (hb : b < B) (S : REP B E g0 h) (eb : E b = .inl (7, xis L xs)) (hi : i + 6 ≤ L) (hL : L ≤ 3072) (ok : OK B E g0 1 h 121 224 []) : BK B b L i E g0 xs h Q 1517 := by
  intro K
  have rb : h.2.2.1 b = .inl (7, xis L xs) := (S.2.1 b hb).trans eb
  obtain ⟨⟨n, T, p, s, m, f, w, g, q, R, I, RR, M, X⟩, -⟩ := S
  have hO := X.1.1.1
  obtain ⟨v, H1, hc, hr⟩ := ok
  simp only [s243_1517, s243_1517n, s243_1518, rb, hO, XG_1, XO_some, XV_1, xo_n, xo_i8, xo_r8, xo_i7, xo_r7, xo_i6, xo_r6, xo_i5, xo_r5, xo_i4, xo_r4, xo_i3, xo_r3, xo_i2, xo_r2, Option.toList_some, Option.toList_none, List.cons_append, List.nil_append, bI_t, bI_f, bI_0, bI_n0, if_true, if_false, true_and, and_true, ne_eq, not_true_eq_false, not_false_eq_true, one_ne0, reduceCtorEq]
  refine hc _ (fun h1 hh => ?_)
  obtain ⟨hE1, ⟨l, hM⟩, hr1⟩ := hr h1 hh
  have rb1 : h1.2.2.1 b = .inl (7, xis L xs) := (hE1 b hb).trans eb
  simp only [s243_1521, s243_1521n, s243_1522, rb1, hM, XG_1, XO_some, XV_1, xo_n, xo_i8, xo_r8, xo_i7, xo_r7, xo_i6, xo_r6, xo_i5, xo_r5, xo_i4, xo_r4, xo_i3, xo_r3, xo_i2, xo_r2, Option.toList_some, Option.toList_none, List.cons_append, List.nil_append, bI_t, bI_f, bI_0, bI_n0, if_true, if_false, true_and, and_true, ne_eq, not_true_eq_false, not_false_eq_true, one_ne0, reduceCtorEq]
  refine hr1 _ (fun h2 S2 k1 k2 => ?_)
  simp only [s243_1525, XG_1, XO_some, XV_1, xo_n, xo_i8, xo_r8, xo_i7, xo_r7, xo_i6, xo_r6, xo_i5, xo_r5, xo_i4, xo_r4, xo_i3, xo_r3, xo_i2, xo_r2, Option.toList_some, Option.toList_none, List.cons_append, List.nil_append, bI_t, bI_f, bI_0, bI_n0, if_true, if_false, true_and, and_true, ne_eq, not_true_eq_false, not_false_eq_true, one_ne0, reduceCtorEq]
  exact K h2 S2 k1 k2
theorem bk_44 (hb : b < B) (S : REP B E g0 h) (eb : E b = .inl (7, xis L xs)) (hi : i + 6 ≤ L) (hL : L ≤ 3072) (ok : OK B E g0 1 h 122 225 [.int (xs (i + 1))]) : BK B b L i E g0 xs h Q 1530 := by
  intro K
  have rb : h.2.2.1 b = .inl (7, xis L xs) := (S.2.1 b hb).trans eb
  obtain ⟨⟨n, T, p, s, m, f, w, g, q, R, I, RR, M, X⟩, -⟩ := S
  have hO := X.1.1.1
  obtain ⟨v, H1, hc, hr⟩ := ok
  simp only [s243_1530, s243_1530n, s243_1531, s243_1532, s243_1533, s243_1534, s243_1535, s243_1536, rb, hO, nI_1, XA7 (show i + 1 < L by omega) hL, XG_1, XO_some, XV_1, xo_n, xo_i8, xo_r8, xo_i7, xo_r7, xo_i6, xo_r6, xo_i5, xo_r5, xo_i4, xo_r4, xo_i3, xo_r3, xo_i2, xo_r2, Option.toList_some, Option.toList_none, List.cons_append, List.nil_append, bI_t, bI_f, bI_0, bI_n0, if_true, if_false, true_and, and_true, ne_eq, not_true_eq_false, not_false_eq_true, one_ne0, reduceCtorEq]
  refine hc _ (fun h1 hh => ?_)
  obtain ⟨hE1, ⟨l, hM⟩, hr1⟩ := hr h1 hh
  have rb1 : h1.2.2.1 b = .inl (7, xis L xs) := (hE1 b hb).trans eb
  simp only [s243_1539, s243_1539n, s243_1540, s243_1541, s243_1542, s243_1543, s243_1544, s243_1545, rb1, hM, nI_1, XA7 (show i + 1 < L by omega) hL, XG_1, XO_some, XV_1, xo_n, xo_i8, xo_r8, xo_i7, xo_r7, xo_i6, xo_r6, xo_i5, xo_r5, xo_i4, xo_r4, xo_i3, xo_r3, xo_i2, xo_r2, Option.toList_some, Option.toList_none, List.cons_append, List.nil_append, bI_t, bI_f, bI_0, bI_n0, if_true, if_false, true_and, and_true, ne_eq, not_true_eq_false, not_false_eq_true, one_ne0, reduceCtorEq]
  refine hr1 _ (fun h2 S2 k1 k2 => ?_)
  simp only [s243_1548, XG_1, XO_some, XV_1, xo_n, xo_i8, xo_r8, xo_i7, xo_r7, xo_i6, xo_r6, xo_i5, xo_r5, xo_i4, xo_r4, xo_i3, xo_r3, xo_i2, xo_r2, Option.toList_some, Option.toList_none, List.cons_append, List.nil_append, bI_t, bI_f, bI_0, bI_n0, if_true, if_false, true_and, and_true, ne_eq, not_true_eq_false, not_false_eq_true, one_ne0, reduceCtorEq]
  exact K h2 S2 k1 k2
theorem l_law (St : ∃ adK adV, STR B E g0 adK adV) (hb : b < B) (eb : E b = .inl (7, xis L xs)) (hL : L ≤ 3072) {S0 : Nat} (hS : S0 ≤ 7000000) : ∀ fu j h, L < 6 * (fu + j) → j ≤ 512 → REP B E g0 h → h.1 ≤ B + 79 + 3 * j → h.2.1 ≤ S0 + 200 * j → XE 13 243 18 (LL b B (6 * j)) [] h (fun v h' => v = some (.int 1) ∧ h'.1 ≤ B + 600000 ∧ h'.2.1 ≤ 7302250) := by
  obtain ⟨adK, adV, St⟩ := St
  have main : ∀ j h, j ≤ 512 → REP B E g0 h → h.1 ≤ B + 79 + 3 * j → h.2.1 ≤ S0 + 200 * j → (6 * j + 6 ≤ L → ∀ h2, REP B E g0 h2 → h2.1 ≤ h.1 + 3 → h2.2.1 ≤ h.2.1 + 200 → XE 13 243 18 (LL b B (6 * (j + 1))) [] h2 (fun v h' => v = some (.int 1) ∧ h'.1 ≤ B + 600000 ∧ h'.2.1 ≤ 7302250)) → XE 13 243 18 (LL b B (6 * j)) [] h (fun v h' => v = some (.int 1) ∧ h'.1 ≤ B + 600000 ∧ h'.2.1 ≤ 7302250) := by
    intro j h hj S k1 k2 K
    have rb : h.2.2.1 b = .inl (7, xis L xs) := (S.2.1 b hb).trans eb
    have hx : ∀ {F : Int32 → Prop}, XL (.inl (7, xis L xs)) F ↔ F (nI L) := fun {F} => XL_i (by decide)
    have t6 : (nI L - 6).toInt = (L : Int) - 6 := pk_sub_toInt (b := 6) (by omega) (by decide)
    by_cases c : L < 6 * j + 6
    · have lt : nI L - 6 < nI (6 * j) := by
        rw [Int32.lt_iff_toInt_lt, t6, nI_toInt (by omega)]; omega
      simp only [s243_18, s243_19, s243_20, s243_21, s243_23, s243_24, s243_1559, s243_1560, s243_1560t, s243_1560b, rb, hx, lt, XG_1, XO_some, XV_1, xo_n, xo_i8, xo_r8, xo_i7, xo_r7, xo_i6, xo_r6, xo_i5, xo_r5, xo_i4, xo_r4, xo_i3, xo_r3, xo_i2, xo_r2, Option.toList_some, Option.toList_none, List.cons_append, List.nil_append, bI_t, bI_f, bI_0, bI_n0, if_true, if_false, true_and, and_true, ne_eq, not_true_eq_false, not_false_eq_true, one_ne0, reduceCtorEq]
      exact ⟨by omega, by omega⟩
    · have lt : ¬ nI L - 6 < nI (6 * j) := by
        rw [Int32.lt_iff_toInt_lt, t6, nI_toInt (by omega)]; omega
      have h6 : 6 * j + 6 ≤ L := by omega
      have K1 : ∀ h2, REP B E g0 h2 → h2.1 ≤ h.1 + 3 → h2.2.1 ≤ h.2.1 + 200 → XE 13 243 1553 (LL b B (6 * j)) [] h2 (fun v h' => v = some (.int 1) ∧ h'.1 ≤ B + 600000 ∧ h'.2.1 ≤ 7302250) := fun h2 S2 q1 q2 => by
        have K2 := K h6 h2 S2 q1 q2
        have e6 : nI (6 * j) + 6 = nI (6 * (j + 1)) := nI_add (6 * j) 6
        rw [s243_1553, s243_1556, e6]
        exact K2
      simp only [s243_18, s243_19, s243_20, s243_21, s243_23, s243_24, s243_27, s243_28, s243_29, s243_30, s243_32, rb, hx, lt, XA7 (show 6 * j < L by omega) hL, XG_1, XO_some, XV_1, xo_n, xo_i8, xo_r8, xo_i7, xo_r7, xo_i6, xo_r6, xo_i5, xo_r5, xo_i4, xo_r4, xo_i3, xo_r3, xo_i2, xo_r2, Option.toList_some, Option.toList_none, List.cons_append, List.nil_append, bI_t, bI_f, bI_0, bI_n0, if_true, if_false, true_and, and_true, ne_eq, not_true_eq_false, not_false_eq_true, one_ne0, reduceCtorEq]
      rw [s243_33]
      by_cases x0 : xs (6 * j) &&& 63 = 0
      · exact (xsw_eq x0).mpr (bk_0 hb S eb h6 hL (ok_house S) K1)
      refine (xsw_ne x0).mpr ?_
      by_cases x1 : xs (6 * j) &&& 63 = 1
      · exact (xsw_eq x1).mpr (bk_1 hb S eb h6 hL (ok_houseTold S) K1)
      refine (xsw_ne x1).mpr ?_
      by_cases x2 : xs (6 * j) &&& 63 = 2
      · exact (xsw_eq x2).mpr (bk_2 hb S eb h6 hL (ok_change S) K1)
      refine (xsw_ne x2).mpr ?_
      by_cases x3 : xs (6 * j) &&& 63 = 3
      · exact (xsw_eq x3).mpr (bk_3 hb S eb h6 hL (ok_agree S) K1)
      refine (xsw_ne x3).mpr ?_
      by_cases x4 : xs (6 * j) &&& 63 = 4
      · exact (xsw_eq x4).mpr (bk_4 hb S eb h6 hL (ok_patience S) K1)
      refine (xsw_ne x4).mpr ?_
      by_cases x5 : xs (6 * j) &&& 63 = 5
      · exact (xsw_eq x5).mpr (bk_5 hb S eb h6 hL (ok_deal S) K1)
      refine (xsw_ne x5).mpr ?_
      by_cases x6 : xs (6 * j) &&& 63 = 6
      · exact (xsw_eq x6).mpr (bk_6 hb S eb h6 hL (ok_door S) K1)
      refine (xsw_ne x6).mpr ?_
      by_cases x7 : xs (6 * j) &&& 63 = 7
      · exact (xsw_eq x7).mpr (bk_7 hb S eb h6 hL (ok_doorTold S) K1)
      refine (xsw_ne x7).mpr ?_
      by_cases x8 : xs (6 * j) &&& 63 = 8
      · exact (xsw_eq x8).mpr (bk_8 hb S eb h6 hL (ok_set S) K1)
      refine (xsw_ne x8).mpr ?_
      by_cases x9 : xs (6 * j) &&& 63 = 9
      · exact (xsw_eq x9).mpr (bk_9 hb S eb h6 hL (ok_wire S) K1)
      refine (xsw_ne x9).mpr ?_
      by_cases x10 : xs (6 * j) &&& 63 = 10
      · exact (xsw_eq x10).mpr (bk_10 hb S eb h6 hL (ok_thief S) K1)
      refine (xsw_ne x10).mpr ?_
      by_cases x11 : xs (6 * j) &&& 63 = 11
      · exact (xsw_eq x11).mpr (bk_11 hb S eb h6 hL (ok_told S) K1)
      refine (xsw_ne x11).mpr ?_
      by_cases x12 : xs (6 * j) &&& 63 = 12
      · exact (xsw_eq x12).mpr (bk_12 hb S eb h6 hL (ok_as S) K1)
      refine (xsw_ne x12).mpr ?_
      by_cases x13 : xs (6 * j) &&& 63 = 13
      · exact (xsw_eq x13).mpr (bk_13 hb S eb h6 hL (ok_turns S) K1)
      refine (xsw_ne x13).mpr ?_
      by_cases x14 : xs (6 * j) &&& 63 = 14
      · exact (xsw_eq x14).mpr (bk_14 hb S eb h6 hL (ok_at S) K1)
      refine (xsw_ne x14).mpr ?_
      by_cases x15 : xs (6 * j) &&& 63 = 15
      · exact (xsw_eq x15).mpr (bk_15 hb S eb h6 hL (ok_heed S) K1)
      refine (xsw_ne x15).mpr ?_
      by_cases x16 : xs (6 * j) &&& 63 = 16
      · exact (xsw_eq x16).mpr (bk_16 hb S eb h6 hL (ok_choice S) K1)
      refine (xsw_ne x16).mpr ?_
      by_cases x17 : xs (6 * j) &&& 63 = 17
      · exact (xsw_eq x17).mpr (bk_17 hb S eb h6 hL (ok_nights S) K1)
      refine (xsw_ne x17).mpr ?_
      by_cases x18 : xs (6 * j) &&& 63 = 18
      · exact (xsw_eq x18).mpr (bk_18 hb S eb h6 hL (ok_seed S) K1)
      refine (xsw_ne x18).mpr ?_
      by_cases x19 : xs (6 * j) &&& 63 = 19
      · exact (xsw_eq x19).mpr (bk_19 hb S eb h6 hL (ok_pair S) K1)
      refine (xsw_ne x19).mpr ?_
      by_cases x20 : xs (6 * j) &&& 63 = 20
      · exact (xsw_eq x20).mpr (bk_20 hb S eb h6 hL (ok_wiring S) K1)
      refine (xsw_ne x20).mpr ?_
      by_cases x21 : xs (6 * j) &&& 63 = 21
      · exact (xsw_eq x21).mpr (bk_21 hb S eb h6 hL (ok_unlawful S) K1)
      refine (xsw_ne x21).mpr ?_
      by_cases x22 : xs (6 * j) &&& 63 = 22
      · exact (xsw_eq x22).mpr (bk_22 hb S eb h6 hL (ok_worst S) K1)
      refine (xsw_ne x22).mpr ?_
      by_cases x23 : xs (6 * j) &&& 63 = 23
      · exact (xsw_eq x23).mpr (bk_23 hb S eb h6 hL (ok_heard S) K1)
      refine (xsw_ne x23).mpr ?_
      by_cases x24 : xs (6 * j) &&& 63 = 24
      · exact (xsw_eq x24).mpr (bk_24 hb S eb h6 hL (ok_fewest S) K1)
      refine (xsw_ne x24).mpr ?_
      by_cases x25 : xs (6 * j) &&& 63 = 25
      · exact (xsw_eq x25).mpr (bk_25 hb S eb h6 hL (ok_alike S) K1)
      refine (xsw_ne x25).mpr ?_
      by_cases x26 : xs (6 * j) &&& 63 = 26
      · exact (xsw_eq x26).mpr (bk_26 hb S eb h6 hL (ok_feed S) K1)
      refine (xsw_ne x26).mpr ?_
      by_cases x27 : xs (6 * j) &&& 63 = 27
      · exact (xsw_eq x27).mpr (bk_27 hb S eb h6 hL (ok_trim S) K1)
      refine (xsw_ne x27).mpr ?_
      by_cases x28 : xs (6 * j) &&& 63 = 28
      · exact (xsw_eq x28).mpr (bk_28 hb S eb h6 hL (ok_text S St) K1)
      refine (xsw_ne x28).mpr ?_
      by_cases x29 : xs (6 * j) &&& 63 = 29
      · exact (xsw_eq x29).mpr (bk_29 hb S eb h6 hL (ok_textTold S) K1)
      refine (xsw_ne x29).mpr ?_
      by_cases x30 : xs (6 * j) &&& 63 = 30
      · exact (xsw_eq x30).mpr (bk_30 hb S eb h6 hL (ok_why S) K1)
      refine (xsw_ne x30).mpr ?_
      by_cases x31 : xs (6 * j) &&& 63 = 31
      · exact (xsw_eq x31).mpr (bk_31 hb S eb h6 hL (ok_sheet S) K1)
      refine (xsw_ne x31).mpr ?_
      by_cases x32 : xs (6 * j) &&& 63 = 32
      · exact (xsw_eq x32).mpr (bk_32 hb S eb h6 hL (ok_mark S) K1)
      refine (xsw_ne x32).mpr ?_
      by_cases x33 : xs (6 * j) &&& 63 = 33
      · exact (xsw_eq x33).mpr (bk_33 hb S eb h6 hL (ok_pour S) K1)
      refine (xsw_ne x33).mpr ?_
      by_cases x34 : xs (6 * j) &&& 63 = 34
      · exact (xsw_eq x34).mpr (bk_34 hb S eb h6 hL (ok_reads S) K1)
      refine (xsw_ne x34).mpr ?_
      by_cases x35 : xs (6 * j) &&& 63 = 35
      · exact (xsw_eq x35).mpr (bk_35 hb S eb h6 hL (ok_copy S) K1)
      refine (xsw_ne x35).mpr ?_
      by_cases x36 : xs (6 * j) &&& 63 = 36
      · exact (xsw_eq x36).mpr (bk_36 hb S eb h6 hL (ok_lay S) K1)
      refine (xsw_ne x36).mpr ?_
      by_cases x37 : xs (6 * j) &&& 63 = 37
      · exact (xsw_eq x37).mpr (bk_37 hb S eb h6 hL (ok_ask S) K1)
      refine (xsw_ne x37).mpr ?_
      by_cases x38 : xs (6 * j) &&& 63 = 38
      · exact (xsw_eq x38).mpr (bk_38 hb S eb h6 hL (ok_item S) K1)
      refine (xsw_ne x38).mpr ?_
      by_cases x39 : xs (6 * j) &&& 63 = 39
      · exact (xsw_eq x39).mpr (bk_39 hb S eb h6 hL (ok_rest S) K1)
      refine (xsw_ne x39).mpr ?_
      by_cases x40 : xs (6 * j) &&& 63 = 40
      · exact (xsw_eq x40).mpr (bk_40 hb S eb h6 hL (ok_tell S) K1)
      refine (xsw_ne x40).mpr ?_
      by_cases x41 : xs (6 * j) &&& 63 = 41
      · exact (xsw_eq x41).mpr (bk_41 hb S eb h6 hL (ok_check S) K1)
      refine (xsw_ne x41).mpr ?_
      by_cases x42 : xs (6 * j) &&& 63 = 42
      · exact (xsw_eq x42).mpr (bk_42 hb S eb h6 hL (ok_keep S) K1)
      refine (xsw_ne x42).mpr ?_
      by_cases x43 : xs (6 * j) &&& 63 = 43
      · exact (xsw_eq x43).mpr (bk_43 hb S eb h6 hL (ok_back S) K1)
      refine (xsw_ne x43).mpr ?_
      by_cases x44 : xs (6 * j) &&& 63 = 44
      · exact (xsw_eq x44).mpr (bk_44 hb S eb h6 hL (ok_count S) K1)
      refine (xsw_ne x44).mpr ?_
      exact K1 h S (by omega) (by omega)
  intro fu
  induction fu with
  | zero =>
    intro j h hL2 hj S k1 k2
    exact main j h hj S k1 k2 (fun h6 => by omega)
  | succ fu ih =>
    intro j h hL2 hj S k1 k2
    exact main j h hj S k1 k2 (fun h6 h2 S2 q1 q2 => ih (j + 1) h2 (by omega) (by omega) S2 (by omega) (by omega))
end LAW
