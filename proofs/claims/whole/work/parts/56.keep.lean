/-! ===== 56: the reference's row copied ===== -/
def cpf (f g : Nat → Int32) (i : Nat) : Nat → Int32 := fun k => if k < i then f k else g k
theorem cpf_s {f g : Nat → Int32} {i : Nat} : upd (cpf f g i) i (f i) = cpf f g (i + 1) := by
  funext k
  unfold upd cpf
  by_cases e : k = i
  · rw [if_pos e, if_pos (by omega), e]
  · rw [if_neg e]
    by_cases e2 : k < i
    · rw [if_pos e2, if_pos (by omega)]
    · rw [if_neg e2, if_neg (by omega)]
theorem cpf_0 {f g : Nat → Int32} : cpf f g 0 = g := by funext k; exact if_neg (by omega)
section KEE
variable {d : Nat} {h : xH} {Q : Option Value → xH → Prop}
theorem l_copyAll {a b : Nat} (hab : a ≠ b) {f g : Nat → Int32} (hA : h.2.2.1 a = .inl (0, xis 1482 f)) : ∀ k i, i + k = 1482 → (XE d 134 2 [.val (.ref a), .val (.ref b), .val (.int (nI i))] [] (xset h b (.inl (0, xis 1482 (cpf f g i)))) Q ↔ Q none (xset h b (.inl (0, xis 1482 (cpf f g 1482))))) := by
  have ea : ∀ e, (xset h b e).2.2.1 a = .inl (0, xis 1482 f) := fun e => by rw [xset_ne hab]; exact hA
  intro k
  induction k with
  | zero =>
    intro i hi
    rw [show i = 1482 by omega, s134_2]
    simp only [s134_0, s134_1, s134_3, s134_6, s134_9, s134_9n, s134_10, s134_11, s134_12, s134_13, s134_14, s134_15, s134_18, s134_21, show ((nI 1482 : Int32) < 1482) = False from eq_false (by decide), XG_1, XO_some, XV_1, xo_n, xo_i8, xo_r8, xo_i7, xo_r7, xo_i6, xo_r6, xo_i5, xo_r5, xo_i4, xo_r4, xo_i3, xo_r3, xo_i2, xo_r2, Option.toList_some, Option.toList_none, List.cons_append, List.nil_append, bI_t, bI_f, bI_0, bI_n0, if_true, if_false, true_and, and_true, ne_eq, not_true_eq_false, not_false_eq_true, one_ne0, reduceCtorEq]
  | succ k ih =>
    intro i hi
    have hlt : nI i < 1482 := nI_lt (b := 1482) (by omega) (by decide)
    have hm : i < 1482 := by omega
    rw [s134_2]
    simp only [s134_0, s134_1, s134_3, s134_6, s134_9, s134_9n, s134_10, s134_11, s134_12, s134_13, s134_14, s134_15, s134_18, s134_21, hlt, ea, xset_self, XAm hm, XSm hm, xset_twice, cpf_s, nI_1, XG_1, XO_some, XV_1, xo_n, xo_i8, xo_r8, xo_i7, xo_r7, xo_i6, xo_r6, xo_i5, xo_r5, xo_i4, xo_r4, xo_i3, xo_r3, xo_i2, xo_r2, Option.toList_some, Option.toList_none, List.cons_append, List.nil_append, bI_t, bI_f, bI_0, bI_n0, if_true, if_false, true_and, and_true, ne_eq, not_true_eq_false, not_false_eq_true, one_ne0, reduceCtorEq]
    exact ih (i + 1) (by omega)
theorem e134x {a b : Nat} : XC (d + 1) 134 [.ref a, .ref b] h Q ↔ XE d 134 0 [.val (.ref a), .val (.ref b), .unset] [] h Q := XC_in rfl
theorem c_copyAll {a b : Nat} (hab : a ≠ b) {f g : Nat → Int32} (hA : h.2.2.1 a = .inl (0, xis 1482 f)) (hB : h.2.2.1 b = .inl (0, xis 1482 g)) : XC (d + 1) 134 [.ref a, .ref b] h Q ↔ Q none (xset h b (.inl (0, xis 1482 (cpf f g 1482)))) := by
  rw [e134x]
  simp only [s134_0, s134_1]
  have := l_copyAll (d := d) (Q := Q) hab (g := g) hA 1482 0 (by omega)
  rw [cpf_0, ← hB, xset_id] at this
  exact this
end KEE
