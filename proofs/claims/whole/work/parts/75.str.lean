/-! ===== 75: the class's words that are kept as strings ===== -/
def STR (B : Nat) (E : Nat → va_E) (g : Nat → Value) (adK adV : Nat → Nat) : Prop := g 7 = .int 1 ∧ xv1 (g 0) = true ∧ ∀ i, i < 6 → g (1 + i) = .ref (adK i) ∧ g (100 + 3 * adK i) = .int 20 ∧ g (101 + 3 * adK i) = .ref (adV i) ∧ g (102 + 3 * adK i) = .int 0 ∧ adV i < B ∧ E (adV i) = sby i
/-- the strings as a heap holds them -/
def STH (h : xH) (adK adV : Nat → Nat) : Prop := h.2.2.2 7 = .int 1 ∧ xv1 (h.2.2.2 0) = true ∧ ∀ i, i < 6 → h.2.2.2 (1 + i) = .ref (adK i) ∧ h.2.2.2 (100 + 3 * adK i) = .int 20 ∧ h.2.2.2 (101 + 3 * adK i) = .ref (adV i) ∧ h.2.2.2 (102 + 3 * adK i) = .int 0 ∧ h.2.2.1 (adV i) = sby i
theorem sth_of {B : Nat} {E : Nat → va_E} {g : Nat → Value} {adK adV : Nat → Nat} {h : xH} (S : STR B E g adK adV) (hg : h.2.2.2 = g) (hE : ∀ a, a < B → h.2.2.1 a = E a) : STH h adK adV := by
  unfold STH
  rw [hg]
  exact ⟨S.1, S.2.1, fun i hi => ⟨(S.2.2 i hi).1, (S.2.2 i hi).2.1, (S.2.2 i hi).2.2.1, (S.2.2 i hi).2.2.2.1, (hE _ (S.2.2 i hi).2.2.2.2.1).trans (S.2.2 i hi).2.2.2.2.2⟩⟩
def sch (i j : Nat) : Int32 := (sbt.getD i []).getD j 0
def sle (i : Nat) : Nat := sln.getD i 0
theorem sch_and : ∀ i, i < 6 → ∀ j, j < sle i → sch i j &&& 255 = sch i j ∧ ((sch i j &&& 255).toUInt32 % 65536).toInt32 = sch i j := by decide
theorem sch_nar : ∀ i, i < 6 → ∀ j, j < sle i → narrow .char (.int (sch i j)) = .int (sch i j) := by decide
theorem sle_le : ∀ i, i < 6 → 2 ≤ sle i ∧ sle i ≤ 4 := by decide
theorem sle_shr : ∀ i, i < 6 → xshr (nI (sle i)) 0 = nI (sle i) := by decide
theorem XA_8 {N j : Nat} {f : Nat → Int32} {F : Int32 → Prop} (hj : j < N) (hN : N < 2 ^ 31) : XA [1, 8] (.inl (8, xis N f)) (nI j) F ↔ F (f j) := by
  refine (XA_i (by decide) (xin_nI hj hN)).trans ?_
  rw [nI_clamp (by omega)]
def ixf (i : Nat) (v : Int32) : Nat → Nat → Int32
  | 0, _ => -1
  | c + 1, j => if v = sch i j then nI j else ixf i v c (j + 1)
theorem i2b_l : ∀ k, k < 128 → (nI k).toInt8.toInt32 = nI k := by decide +kernel
theorem i2c_l : ∀ k, k < 128 → ((nI k).toUInt32 % 65536).toInt32 = nI k := by decide +kernel
section STG
variable {d : Nat} {h : xH} {Q : Option Value → xH → Prop} {adK adV : Nat → Nat} {i j : Nat}
theorem c_233 (S : STH h adK adV) (hi : i < 6) : XC (d + 1) 233 [.ref (adK i)] h Q ↔ Q (some (.int 0)) h := by
  obtain ⟨s1, s2, s3⟩ := S
  obtain ⟨a1, a2, a3, a4, a5⟩ := s3 i hi
  rw [e233]
  simp only [s233_0, s233_3, s233_6, s233_7, s233_10, s233_13, s1, a2, a4, q10, true_and, XG_1, XO_some, XV_1, xo_n, xo_i8, xo_r8, xo_i7, xo_r7, xo_i6, xo_r6, xo_i5, xo_r5, xo_i4, xo_r4, xo_i3, xo_r3, xo_i2, xo_r2, Option.toList_some, Option.toList_none, List.cons_append, List.nil_append, bI_t, bI_f, bI_0, bI_n0, if_true, if_false, true_and, and_true, ne_eq, not_true_eq_false, not_false_eq_true, one_ne0, reduceCtorEq]
  rw [s233_14 rfl]
theorem c_234 (S : STH h adK adV) (hi : i < 6) : XC (d + 1) 234 [.ref (adK i)] h Q ↔ Q (some (.int 1)) h := by
  obtain ⟨s1, s2, s3⟩ := S
  obtain ⟨a1, a2, a3, a4, a5⟩ := s3 i hi
  rw [e234]
  simp only [s234_0, s234_3, s234_6, s234_7, s234_10, s234_13, s234_14, s234_17, s234_18, s234_18t, s234_18b, s1, a2, a4, q10, true_and, XG_1, XO_some, XV_1, xo_n, xo_i8, xo_r8, xo_i7, xo_r7, xo_i6, xo_r6, xo_i5, xo_r5, xo_i4, xo_r4, xo_i3, xo_r3, xo_i2, xo_r2, Option.toList_some, Option.toList_none, List.cons_append, List.nil_append, bI_t, bI_f, bI_0, bI_n0, if_true, if_false, true_and, and_true, ne_eq, not_true_eq_false, not_false_eq_true, one_ne0, reduceCtorEq]
theorem c_229 (S : STH h adK adV) (hi : i < 6) : XC (d + 2) 229 [.ref (adK i)] h Q ↔ Q (some (.int (nI (sle i)))) h := by
  have S0 := S
  obtain ⟨s1, s2, s3⟩ := S
  obtain ⟨a1, a2, a3, a4, a5⟩ := s3 i hi
  have hx : ∀ {F : Int32 → Prop}, XL (h.2.2.1 (adV i)) F ↔ F (nI (sle i)) := fun {F} => by rw [a5]; exact XL_i (by decide)
  rw [e229]
  simp only [s229_0, s229_1, s229_4, s229_5, s229_6, s229_9, s229_10, a2, a3, hx, c_233 S0 hi, sle_shr i hi, true_and, XG_1, XO_some, XV_1, xo_n, xo_i8, xo_r8, xo_i7, xo_r7, xo_i6, xo_r6, xo_i5, xo_r5, xo_i4, xo_r4, xo_i3, xo_r3, xo_i2, xo_r2, Option.toList_some, Option.toList_none, List.cons_append, List.nil_append, bI_t, bI_f, bI_0, bI_n0, if_true, if_false, true_and, and_true, ne_eq, not_true_eq_false, not_false_eq_true, one_ne0, reduceCtorEq]
theorem c_242 {x : Value} (hj : j < sle i) (hi : i < 6) : XC (d + 1) 242 [.int (nI j), .int (nI (sle i)), x] h Q ↔ Q (some (.int (nI j))) h := by
  have hl := sle_le i hi
  have h1 : ¬ nI j < 0 := nI_nlt (b := 0) (by omega) (by omega)
  have h2 : nI j < nI (sle i) := nI_lt hj (by omega)
  rw [e242]
  simp only [s242_0, s242_1, s242_4, s242_5, s242_6, s242_16, s242_17, h1, h2, XG_1, XO_some, XV_1, xo_n, xo_i8, xo_r8, xo_i7, xo_r7, xo_i6, xo_r6, xo_i5, xo_r5, xo_i4, xo_r4, xo_i3, xo_r3, xo_i2, xo_r2, Option.toList_some, Option.toList_none, List.cons_append, List.nil_append, bI_t, bI_f, bI_0, bI_n0, if_true, if_false, true_and, and_true, ne_eq, not_true_eq_false, not_false_eq_true, one_ne0, reduceCtorEq]
theorem c_235 (S : STH h adK adV) (hj : j < sle i) (hi : i < 6) : XC (d + 2) 235 [.int (nI j), .int (nI (sle i))] h Q ↔ Q none h := by
  rw [e235]
  simp only [s235_0, s235_1, s235_2]
  rw [s235_5 S.2.1]
  simp only [s235_0, s235_1, s235_2, s235_8, s235_9, c_242 hj hi, true_and, XG_1, XO_some, XV_1, xo_n, xo_i8, xo_r8, xo_i7, xo_r7, xo_i6, xo_r6, xo_i5, xo_r5, xo_i4, xo_r4, xo_i3, xo_r3, xo_i2, xo_r2, Option.toList_some, Option.toList_none, List.cons_append, List.nil_append, bI_t, bI_f, bI_0, bI_n0, if_true, if_false, true_and, and_true, ne_eq, not_true_eq_false, not_false_eq_true, one_ne0, reduceCtorEq]
theorem c_230 (S : STH h adK adV) (hi : i < 6) (hj : j < sle i) : XC (d + 5) 230 [.ref (adK i), .int (nI j)] h Q ↔ Q (some (.int (sch i j))) h := by
  have S0 := S
  obtain ⟨s1, s2, s3⟩ := S
  obtain ⟨a1, a2, a3, a4, a5⟩ := s3 i hi
  have hl := sle_le i hi
  have hx : ∀ {F : Int32 → Prop}, XL (h.2.2.1 (adV i)) F ↔ F (nI (sle i)) := fun {F} => by rw [a5]; exact XL_i (by decide)
  have hy : ∀ {F : Int32 → Prop}, XA [1, 8] (h.2.2.1 (adV i)) (nI j) F ↔ F (sch i j) := fun {F} => by rw [a5]; exact XA_8 hj (by show sle i < 2 ^ 31; omega)
  have c236 : ∀ {Q : Option Value → xH → Prop}, XC (d + 4) 236 [.ref (adV i), .int (nI j)] h Q ↔ Q (some (.int (sch i j))) h := fun {Q} => by
    rw [e236]
    simp only [s236_0, s236_1, s236_2, s236_3, s236_6, s236_7, s236_8, s236_9, s236_12, s236_13, hx, hy, c_235 S0 hj hi, (sch_and i hi j hj).2, true_and, XG_1, XO_some, XV_1, xo_n, xo_i8, xo_r8, xo_i7, xo_r7, xo_i6, xo_r6, xo_i5, xo_r5, xo_i4, xo_r4, xo_i3, xo_r3, xo_i2, xo_r2, Option.toList_some, Option.toList_none, List.cons_append, List.nil_append, bI_t, bI_f, bI_0, bI_n0, if_true, if_false, true_and, and_true, ne_eq, not_true_eq_false, not_false_eq_true, one_ne0, reduceCtorEq]
    rw [s236_14 (sch_nar i hi j hj)]
  rw [e230]
  simp only [s230_0, s230_1, s230_4, s230_7, s230_8, s230_11, s230_12, a2, a3, c_234 S0 hi, c236, one_ne0, true_and, XG_1, XO_some, XV_1, xo_n, xo_i8, xo_r8, xo_i7, xo_r7, xo_i6, xo_r6, xo_i5, xo_r5, xo_i4, xo_r4, xo_i3, xo_r3, xo_i2, xo_r2, Option.toList_some, Option.toList_none, List.cons_append, List.nil_append, bI_t, bI_f, bI_0, bI_n0, if_true, if_false, true_and, and_true, ne_eq, not_true_eq_false, not_false_eq_true, one_ne0, reduceCtorEq]
  rw [s230_15 (sch_nar i hi j hj)]
theorem l_239 {v : Int32} (S : STH h adK adV) (hi : i < 6) {c1 c2 : Slot} : ∀ c j, j + c = sle i → (XE d 239 7 [.val (.ref (adV i)), c1, c2, .val (.int (nI (sle i))), .val (.int v), .val (.int (nI j))] [] h Q ↔ Q (some (.int (ixf i v c j))) h) := by
  obtain ⟨s1, s2, s3⟩ := S
  obtain ⟨a1, a2, a3, a4, a5⟩ := s3 i hi
  have hl := sle_le i hi
  intro c
  induction c with
  | zero =>
    intro j hj
    have hlt : ¬ nI j < nI (sle i) := nI_nlt (by omega) (by omega)
    rw [s239_7]
    simp only [s239_0, s239_1, s239_2, s239_4, s239_5, s239_9, s239_10, s239_13, s239_14, s239_16, s239_17, s239_19, s239_22, s239_24, s239_25, s239_28, s239_31, s239_32, hlt, XG_1, XO_some, XV_1, xo_n, xo_i8, xo_r8, xo_i7, xo_r7, xo_i6, xo_r6, xo_i5, xo_r5, xo_i4, xo_r4, xo_i3, xo_r3, xo_i2, xo_r2, Option.toList_some, Option.toList_none, List.cons_append, List.nil_append, bI_t, bI_f, bI_0, bI_n0, if_true, if_false, true_and, and_true, ne_eq, not_true_eq_false, not_false_eq_true, one_ne0, reduceCtorEq]
    exact Iff.rfl
  | succ c ih =>
    intro j hj
    have hlt : nI j < nI (sle i) := nI_lt (by omega) (by omega)
    have hy : ∀ {F : Int32 → Prop}, XA [1, 8] (h.2.2.1 (adV i)) (nI j) F ↔ F (sch i j) := fun {F} => by rw [a5]; exact XA_8 (by show j < sle i; omega) (by show sle i < 2 ^ 31; omega)
    rw [s239_7, show ixf i v (c + 1) j = if v = sch i j then nI j else ixf i v c (j + 1) from rfl]
    by_cases e : v = sch i j
    · have e2 : sch i j = v := e.symm
      simp only [s239_0, s239_1, s239_2, s239_4, s239_5, s239_9, s239_10, s239_13, s239_14, s239_16, s239_17, s239_19, s239_22, s239_24, s239_25, s239_28, s239_31, s239_32, hlt, hy, e2, XG_1, XO_some, XV_1, xo_n, xo_i8, xo_r8, xo_i7, xo_r7, xo_i6, xo_r6, xo_i5, xo_r5, xo_i4, xo_r4, xo_i3, xo_r3, xo_i2, xo_r2, Option.toList_some, Option.toList_none, List.cons_append, List.nil_append, bI_t, bI_f, bI_0, bI_n0, if_true, if_false, true_and, and_true, ne_eq, not_true_eq_false, not_false_eq_true, one_ne0, reduceCtorEq]
    · have e2 : ¬ sch i j = v := fun q => e q.symm
      simp only [s239_0, s239_1, s239_2, s239_4, s239_5, s239_9, s239_10, s239_13, s239_14, s239_16, s239_17, s239_19, s239_22, s239_24, s239_25, s239_28, s239_31, s239_32, hlt, hy, e, e2, nI_1, XG_1, XO_some, XV_1, xo_n, xo_i8, xo_r8, xo_i7, xo_r7, xo_i6, xo_r6, xo_i5, xo_r5, xo_i4, xo_r4, xo_i3, xo_r3, xo_i2, xo_r2, Option.toList_some, Option.toList_none, List.cons_append, List.nil_append, bI_t, bI_f, bI_0, bI_n0, if_true, if_false, true_and, and_true, ne_eq, not_true_eq_false, not_false_eq_true, one_ne0, reduceCtorEq]
      exact ih (j + 1) (by omega)
theorem c_231 {k : Nat} (S : STH h adK adV) (hi : i < 6) (hk : k < 128) : XC (d + 5) 231 [.ref (adK i), .int (nI k)] h Q ↔ Q (some (.int (ixf i (nI k) (sle i) 0))) h := by
  have S0 := S
  obtain ⟨s1, s2, s3⟩ := S
  obtain ⟨a1, a2, a3, a4, a5⟩ := s3 i hi
  have hl := sle_le i hi
  have hx : ∀ {F : Int32 → Prop}, XL (h.2.2.1 (adV i)) F ↔ F (nI (sle i)) := fun {F} => by rw [a5]; exact XL_i (by decide)
  have k0 : ¬ nI k < 0 := nI_nlt (b := 0) (by omega) (by omega)
  have k1 : ¬ (255 : Int32) < nI k := nI_nlt (a := 255) (by omega) (by decide)
  have l0 : ¬ (0 : Int32) < 0 := by decide
  have l1 : ¬ nI (sle i) < nI (sle i) := nI_nlt (by omega) (by omega)
  have l2 : (0 : Int32) < nI (sle i) := nI_lt (a := 0) (by omega) (by omega)
  have c237 : ∀ {d : Nat} {Q : Option Value → xH → Prop}, XC (d + 1) 237 [.int (nI k)] h Q ↔ Q (some (.int 1)) h := fun {d Q} => by
    rw [e237]; simp only [s237_0, s237_1, s237_4, s237_5, s237_8, s237_11, s237_12, s237_15, s237_16, s237_16t, s237_16b, k0, k1, XG_1, XO_some, XV_1, xo_n, xo_i8, xo_r8, xo_i7, xo_r7, xo_i6, xo_r6, xo_i5, xo_r5, xo_i4, xo_r4, xo_i3, xo_r3, xo_i2, xo_r2, Option.toList_some, Option.toList_none, List.cons_append, List.nil_append, bI_t, bI_f, bI_0, bI_n0, if_true, if_false, true_and, and_true, ne_eq, not_true_eq_false, not_false_eq_true, one_ne0, reduceCtorEq]
  have c239 : ∀ {Q : Option Value → xH → Prop}, XC (d + 2) 239 [.ref (adV i), .int (nI k), .int 0, .int (nI (sle i))] h Q ↔ Q (some (.int (ixf i (nI k) (sle i) 0))) h := fun {Q} => by
    rw [e239]; simp only [s239_0, s239_1, s239_2, s239_4, s239_5, i2b_l k hk]
    exact l_239 S0 hi (sle i) 0 (by omega)
  have c238 : ∀ {Q : Option Value → xH → Prop}, XC (d + 3) 238 [.ref (adV i), .int (nI k), .int 0, .int (nI (sle i))] h Q ↔ Q (some (.int (ixf i (nI k) (sle i) 0))) h := fun {Q} => by
    rw [e238]; simp only [s238_0, s238_1, s238_4, s238_7, s238_8, s238_9, s238_10, s238_11, s238_14, s238_15, s238_16, s238_17, s238_18, s238_21, s238_22, s238_23, s238_24, s238_27, s238_28, s238_29, s238_30, s238_31, s238_32, s238_33, s238_36, c237, hx, l0, l1, l2, c239, one_ne0, true_and, XG_1, XO_some, XV_1, xo_n, xo_i8, xo_r8, xo_i7, xo_r7, xo_i6, xo_r6, xo_i5, xo_r5, xo_i4, xo_r4, xo_i3, xo_r3, xo_i2, xo_r2, Option.toList_some, Option.toList_none, List.cons_append, List.nil_append, bI_t, bI_f, bI_0, bI_n0, if_true, if_false, true_and, and_true, ne_eq, not_true_eq_false, not_false_eq_true, one_ne0, reduceCtorEq]
  have c232 : ∀ {Q : Option Value → xH → Prop}, XC (d + 4) 232 [.ref (adK i), .int (nI k), .int 0] h Q ↔ Q (some (.int (ixf i (nI k) (sle i) 0))) h := fun {Q} => by
    rw [e232]; simp only [s232_0, s232_1, s232_4, s232_7, s232_8, s232_11, s232_12, s232_13, s232_14, s232_17, s232_20, s232_36, a2, a3, c_234 S0 hi, c_229 S0 hi, c238, one_ne0, true_and, XG_1, XO_some, XV_1, xo_n, xo_i8, xo_r8, xo_i7, xo_r7, xo_i6, xo_r6, xo_i5, xo_r5, xo_i4, xo_r4, xo_i3, xo_r3, xo_i2, xo_r2, Option.toList_some, Option.toList_none, List.cons_append, List.nil_append, bI_t, bI_f, bI_0, bI_n0, if_true, if_false, true_and, and_true, ne_eq, not_true_eq_false, not_false_eq_true, one_ne0, reduceCtorEq]
  rw [e231]
  simp only [s231_0, s231_1, s231_2, s231_3, s231_6, a2, c232, true_and, XG_1, XO_some, XV_1, xo_n, xo_i8, xo_r8, xo_i7, xo_r7, xo_i6, xo_r6, xo_i5, xo_r5, xo_i4, xo_r4, xo_i3, xo_r3, xo_i2, xo_r2, Option.toList_some, Option.toList_none, List.cons_append, List.nil_append, bI_t, bI_f, bI_0, bI_n0, if_true, if_false, true_and, and_true, ne_eq, not_true_eq_false, not_false_eq_true, one_ne0, reduceCtorEq]
end STG
theorem ixf_3 (v : Int32) : ixf 3 v (sle 3) 0 = nmv 0 v := rfl
theorem ixf_4 (v : Int32) : ixf 4 v (sle 4) 0 = nmv 1 v := rfl
theorem ixf_5 (v : Int32) : ixf 5 v (sle 5) 0 = nmv 2 v := rfl
