/-! ===== 58: a sheet becomes another ===== -/
section SHB
variable {d : Nat} {h : xH} {Q : Option Value → xH → Prop}
theorem c_become16 {a b pa pb : Nat} {v1 v2 w1 w2 : Int32} {f g : Nat → Int32} (hab : a ≠ b) (h1 : a ≠ pa) (h2 : a ≠ pb) (hA : h.2.2.1 a = .inr (5, [.int v1, .int v2, .ref pa])) (hB : h.2.2.1 b = .inr (5, [.int w1, .int w2, .ref pb])) (hPa : h.2.2.1 pa = .inl (0, xis 24 g)) (hPb : h.2.2.1 pb = .inl (0, xis 24 f)) : XC (d + 1) 16 [.ref a, .ref b] h Q ↔ Q none (xset (xset h a (.inr (5, [.int w1, .int w2, .ref pa]))) pa (.inl (0, xis 24 (cpf f g 24)))) := by
  have L0 : ∀ v1 v2 v3 : Value, 0 < ([v1, v2, v3] : List Value).length := fun _ _ _ => by rw [ls3L]; decide
  have L1 : ∀ v1 v2 v3 : Value, 1 < ([v1, v2, v3] : List Value).length := fun _ _ _ => by rw [ls3L]; decide
  have eb : ∀ e, (xset h a e).2.2.1 b = .inr (5, [.int w1, .int w2, .ref pb]) := fun e => by rw [xset_ne (Ne.symm hab)]; exact hB
  have ep : ∀ e, (xset h a e).2.2.1 pa = .inl (0, xis 24 g) := fun e => by rw [xset_ne (Ne.symm h1)]; exact hPa
  have eq : ∀ e, (xset h a e).2.2.1 pb = .inl (0, xis 24 f) := fun e => by rw [xset_ne (Ne.symm h2)]; exact hPb
  rw [e16]
  simp only [s16_0, s16_1, s16_1n, s16_2, s16_5, s16_8, s16_9, s16_9n, s16_10, s16_13, s16_16, s16_16n, s16_17, s16_20, s16_21, s16_22, s16_25, hA, hB, l3_0, l3_1, l3_2, eb, xset_self, XP_1 (L0 _ _ _), XP_1 (L1 _ _ _), ls0, ls1, xset_twice, XG_1, XO_some, XV_1, xo_n, xo_i8, xo_r8, xo_i7, xo_r7, xo_i6, xo_r6, xo_i5, xo_r5, xo_i4, xo_r4, xo_i3, xo_r3, xo_i2, xo_r2, Option.toList_some, Option.toList_none, List.cons_append, List.nil_append, bI_t, bI_f, bI_0, bI_n0, if_true, if_false, true_and, and_true, ne_eq, not_true_eq_false, not_false_eq_true, one_ne0, reduceCtorEq]
  simp only [s16_26]
  rw [s16_28 rfl]
  simp only [s16_31, ep, eq, XCp24]
end SHB
