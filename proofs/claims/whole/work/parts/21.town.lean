/-! ===== 21: the town: reading it ===== -/
theorem l2m {k : Nat} : (2 : Int32) * nI k = nI (2 * k) := pk_mul 2 k
theorem l2d {k : Nat} (h : k < 2 ^ 31) : nI k / 2 = nI (k / 2) := pk_div (d := 2) h (by decide) (by decide)
theorem z2 : ((2 : Int32) = 0) = False := by simp
theorem z100 : ((100 : Int32) = 0) = False := by simp
theorem z101 : ((101 : Int32) = 0) = False := by simp
theorem z10000 : ((10000 : Int32) = 0) = False := by simp
theorem z12 : ((12 : Int32) = 0) = False := by simp
theorem z1000 : ((1000 : Int32) = 0) = False := by simp
theorem z4 : ((4 : Int32) = 0) = False := by simp
section XAs
variable {j : Nat} {f : Nat → Int32} {x : Int32} {F : Int32 → Prop} {G : va_E → Prop}
theorem XA4 (h : j < 4) : XA [0, 7] (.inl (0, xis 4 f)) (nI j) F ↔ F (f j) := XA_0 h (by decide)
theorem XA5 (h : j < 5) : XA [0, 7] (.inl (0, xis 5 f)) (nI j) F ↔ F (f j) := XA_0 h (by decide)
theorem XA10 (h : j < 10) : XA [0, 7] (.inl (0, xis 10 f)) (nI j) F ↔ F (f j) := XA_0 h (by decide)
theorem XA12 (h : j < 12) : XA [0, 7] (.inl (0, xis 12 f)) (nI j) F ↔ F (f j) := XA_0 h (by decide)
theorem XA24 (h : j < 24) : XA [0, 7] (.inl (0, xis 24 f)) (nI j) F ↔ F (f j) := XA_0 h (by decide)
theorem XA60 (h : j < 60) : XA [0, 7] (.inl (0, xis 60 f)) (nI j) F ↔ F (f j) := XA_0 h (by decide)
theorem XA72 (h : j < 72) : XA [0, 7] (.inl (0, xis 72 f)) (nI j) F ↔ F (f j) := XA_0 h (by decide)
theorem XA96 (h : j < 96) : XA [0, 7] (.inl (0, xis 96 f)) (nI j) F ↔ F (f j) := XA_0 h (by decide)
theorem XA120 (h : j < 120) : XA [0, 7] (.inl (0, xis 120 f)) (nI j) F ↔ F (f j) := XA_0 h (by decide)
theorem XAm (h : j < 1482) : XA [0, 7] (.inl (0, xis 1482 f)) (nI j) F ↔ F (f j) := XA_0 h (by decide)
theorem XS4 (h : j < 4) : XS 0 (.inl (0, xis 4 f)) (nI j) x G ↔ G (.inl (0, xis 4 (upd f j x))) := XS_0 h (by decide)
theorem XS5 (h : j < 5) : XS 0 (.inl (0, xis 5 f)) (nI j) x G ↔ G (.inl (0, xis 5 (upd f j x))) := XS_0 h (by decide)
theorem XS10 (h : j < 10) : XS 0 (.inl (0, xis 10 f)) (nI j) x G ↔ G (.inl (0, xis 10 (upd f j x))) := XS_0 h (by decide)
theorem XS12 (h : j < 12) : XS 0 (.inl (0, xis 12 f)) (nI j) x G ↔ G (.inl (0, xis 12 (upd f j x))) := XS_0 h (by decide)
theorem XS24 (h : j < 24) : XS 0 (.inl (0, xis 24 f)) (nI j) x G ↔ G (.inl (0, xis 24 (upd f j x))) := XS_0 h (by decide)
theorem XS60 (h : j < 60) : XS 0 (.inl (0, xis 60 f)) (nI j) x G ↔ G (.inl (0, xis 60 (upd f j x))) := XS_0 h (by decide)
theorem XS72 (h : j < 72) : XS 0 (.inl (0, xis 72 f)) (nI j) x G ↔ G (.inl (0, xis 72 (upd f j x))) := XS_0 h (by decide)
theorem XS96 (h : j < 96) : XS 0 (.inl (0, xis 96 f)) (nI j) x G ↔ G (.inl (0, xis 96 (upd f j x))) := XS_0 h (by decide)
theorem XS120 (h : j < 120) : XS 0 (.inl (0, xis 120 f)) (nI j) x G ↔ G (.inl (0, xis 120 (upd f j x))) := XS_0 h (by decide)
theorem XSm (h : j < 1482) : XS 0 (.inl (0, xis 1482 f)) (nI j) x G ↔ G (.inl (0, xis 1482 (upd f j x))) := XS_0 h (by decide)
end XAs
def kcl (k : Nat) : Nat := [9, 2, 0, 3, 4, 1].getD k 9
def thf (c : Nat → va_E) (a : Nat) (k hm : Int32) : Prop := ∃ kn, kn ≤ 5 ∧ k = nI kn ∧ c a = .inr (kcl kn, [.int k, .int hm])
/-- a text's code as the class has it, out of the reference's -/
def cenc (x : Int32) : Int32 := if x < 0 then (if x = -1 then -1124 else if x = -2 then -1038 else if x = -3 then -1060 else if x = -4 then -1061 else if x = -5 then -1062 else if x = -6 then -1043 else if x = -7 then -1045 else if x = -8 then -1042 else if x = -9 then -1047 else -1033) else if x < 10000 then x else -1 - (x - 10000)
def txt (c : Nat → va_E) (a : Nat) (key tm : Int32) (us : Int32) (cd : Nat → Int32) : Prop := ∃ u : Nat, us = nI u ∧ u ≤ 95 ∧ c a = .inr (8, [.int key, .int tm, .ref (a + 1), .ref (a + 2)]) ∧ (∃ f, c (a + 1) = .inl (0, xis u f) ∧ ∀ k, k < u → f k = cenc (cd k)) ∧ ∃ g, c (a + 2) = .inl (0, xis u g)
def RT (Dy : Nat) (c : Nat → va_E) (t : Nat) (n : Nat → Nat) (T : Nat → Nat → Int32) (p : Nat → Nat → Option Nat) (s : Nat → Nat → Int32) : Prop :=
  c t = .inr (10, townF t n T) ∧ c (t + 1) = .inl (0, xis 10 (T 1)) ∧ c (t + 2) = .inl (0, xis 10 (T 2)) ∧ c (t + 3) = .inl (0, xis 10 (T 3)) ∧ c (t + 4) = .inl (0, xis 12 (T 4)) ∧ c (t + 5) = .inl (0, xis 12 (T 5)) ∧ c (t + 6) = .inl (0, xis 12 (T 6)) ∧ c (t + 7) = .inl (0, xis 24 (T 7)) ∧
  c (t + 8) = .inl (6, xrs 6 (p 0)) ∧ c (t + 9) = .inl (5, xrs 14 (p 1)) ∧ c (t + 10) = .inl (0, xis 10 (s 0)) ∧ c (t + 11) = .inl (0, xis 72 (s 1)) ∧ c (t + 12) = .inl (0, xis 72 (s 2)) ∧
  (n 0 ≤ 10 ∧ n 1 ≤ 12 ∧ n 2 ≤ 6 ∧ n 3 ≤ 14) ∧ (∀ i, i < n 2 → ∃ a, p 0 i = some a ∧ Dy ≤ a ∧ thf c a (T 8 i) (T 9 i)) ∧ (∀ i, i < n 3 → ∃ a, p 1 i = some a ∧ Dy ≤ a ∧ txt c a (T 10 i) (T 11 i) (T 12 i) (fun k => T 13 (96 * i + k))) ∧ (∀ i, n 2 ≤ i → i < 6 → p 0 i = none) ∧ ∀ i, n 3 ≤ i → i < 14 → p 1 i = none
section TR
variable {Dy : Nat} {c : Nat → va_E} {t : Nat} {n : Nat → Nat} {T : Nat → Nat → Int32} {p : Nat → Nat → Option Nat} {s : Nat → Nat → Int32}
theorem RT.o (R : RT Dy c t n T p s) : c t = .inr (10, townF t n T) := R.1
theorem RT.aw (R : RT Dy c t n T p s) : c (t + 1) = .inl (0, xis 10 (T 1)) := R.2.1
theorem RT.ca (R : RT Dy c t n T p s) : c (t + 2) = .inl (0, xis 10 (T 2)) := R.2.2.1
theorem RT.ag (R : RT Dy c t n T p s) : c (t + 3) = .inl (0, xis 10 (T 3)) := R.2.2.2.1
theorem RT.ow (R : RT Dy c t n T p s) : c (t + 4) = .inl (0, xis 12 (T 4)) := R.2.2.2.2.1
theorem RT.wo (R : RT Dy c t n T p s) : c (t + 5) = .inl (0, xis 12 (T 5)) := R.2.2.2.2.2.1
theorem RT.no (R : RT Dy c t n T p s) : c (t + 6) = .inl (0, xis 12 (T 6)) := R.2.2.2.2.2.2.1
theorem RT.be (R : RT Dy c t n T p s) : c (t + 7) = .inl (0, xis 24 (T 7)) := R.2.2.2.2.2.2.2.1
theorem RT.ba (R : RT Dy c t n T p s) : c (t + 8) = .inl (6, xrs 6 (p 0)) := R.2.2.2.2.2.2.2.2.1
theorem RT.la (R : RT Dy c t n T p s) : c (t + 9) = .inl (5, xrs 14 (p 1)) := R.2.2.2.2.2.2.2.2.2.1
theorem RT.co (R : RT Dy c t n T p s) : c (t + 10) = .inl (0, xis 10 (s 0)) := R.2.2.2.2.2.2.2.2.2.2.1
theorem RT.mi (R : RT Dy c t n T p s) : c (t + 11) = .inl (0, xis 72 (s 1)) := R.2.2.2.2.2.2.2.2.2.2.2.1
theorem RT.ga (R : RT Dy c t n T p s) : c (t + 12) = .inl (0, xis 72 (s 2)) := R.2.2.2.2.2.2.2.2.2.2.2.2.1
theorem RT.nn (R : RT Dy c t n T p s) : n 0 ≤ 10 ∧ n 1 ≤ 12 ∧ n 2 ≤ 6 ∧ n 3 ≤ 14 := R.2.2.2.2.2.2.2.2.2.2.2.2.2.1
theorem RT.th (R : RT Dy c t n T p s) : ∀ i, i < n 2 → ∃ a, p 0 i = some a ∧ Dy ≤ a ∧ thf c a (T 8 i) (T 9 i) := R.2.2.2.2.2.2.2.2.2.2.2.2.2.2.1
theorem RT.tx (R : RT Dy c t n T p s) : ∀ i, i < n 3 → ∃ a, p 1 i = some a ∧ Dy ≤ a ∧ txt c a (T 10 i) (T 11 i) (T 12 i) (fun k => T 13 (96 * i + k)) := R.2.2.2.2.2.2.2.2.2.2.2.2.2.2.2.1
theorem RT.tn (R : RT Dy c t n T p s) : (∀ i, n 2 ≤ i → i < 6 → p 0 i = none) ∧ ∀ i, n 3 ≤ i → i < 14 → p 1 i = none := R.2.2.2.2.2.2.2.2.2.2.2.2.2.2.2.2
end TR
def ldc (bl : Nat → Int32) (hs wo : Int32) : Nat → Int32
  | 0 => 0
  | i + 1 => if bl i = hs ∧ ¬ nI (i / 2) = wo then ldc bl hs wo i + 1 else ldc bl hs wo i
def hrs (bl no : Nat → Int32) (hs : Int32) : Nat → Int32
  | 0 => 0
  | i + 1 => if bl i = hs then hrs bl no hs i + no (i / 2) else hrs bl no hs i
section TM
variable {Dy d : Nat} {h : xH} {t : Nat} {n : Nat → Nat} {T : Nat → Nat → Int32} {p : Nat → Nat → Option Nat} {s : Nat → Nat → Int32} {Q : Option Value → xH → Prop} {x y z : Int32}
theorem c_isHouse (R : RT Dy h.2.2.1 t n T p s) : XC (d + 1) 52 [.ref t, .int x] h Q ↔ Q (some (.int (bI (isI x (n 0))))) h := by
  rw [e52]
  simp only [s52_0, s52_1, s52_4, s52_5, s52_6, s52_9, s52_12, s52_13, s52_16, s52_17, s52_17t, s52_17b, R.o, tf0, XG_1, XO_some, XV_1, xo_n, xo_i8, xo_r8, xo_i7, xo_r7, xo_i6, xo_r6, xo_i5, xo_r5, xo_i4, xo_r4, xo_i3, xo_r3, xo_i2, xo_r2, Option.toList_some, Option.toList_none, List.cons_append, List.nil_append, bI_t, bI_f, bI_0, bI_n0, if_true, if_false, true_and, and_true, ne_eq, not_true_eq_false, not_false_eq_true, one_ne0, reduceCtorEq]
  unfold isI
  by_cases h1 : x < 0
  · simp only [h1, if_true, not_true_eq_false, decide_false, Bool.false_and, bI_f]
  · by_cases h2 : x < nI (n 0)
    · simp only [h1, h2, if_true, if_false, not_false_eq_true, decide_true, Bool.and_self, bI_t]
    · simp only [h1, h2, if_false, not_false_eq_true, decide_true, decide_false, Bool.and_false, bI_f]
theorem c_isDoor (R : RT Dy h.2.2.1 t n T p s) : XC (d + 1) 53 [.ref t, .int x] h Q ↔ Q (some (.int (bI (isI x (n 1))))) h := by
  rw [e53]
  simp only [s53_0, s53_1, s53_4, s53_5, s53_6, s53_9, s53_12, s53_13, s53_16, s53_17, s53_17t, s53_17b, R.o, tf1, XG_1, XO_some, XV_1, xo_n, xo_i8, xo_r8, xo_i7, xo_r7, xo_i6, xo_r6, xo_i5, xo_r5, xo_i4, xo_r4, xo_i3, xo_r3, xo_i2, xo_r2, Option.toList_some, Option.toList_none, List.cons_append, List.nil_append, bI_t, bI_f, bI_0, bI_n0, if_true, if_false, true_and, and_true, ne_eq, not_true_eq_false, not_false_eq_true, one_ne0, reduceCtorEq]
  unfold isI
  by_cases h1 : x < 0
  · simp only [h1, if_true, not_true_eq_false, decide_false, Bool.false_and, bI_f]
  · by_cases h2 : x < nI (n 1)
    · simp only [h1, h2, if_true, if_false, not_false_eq_true, decide_true, Bool.and_self, bI_t]
    · simp only [h1, h2, if_false, not_false_eq_true, decide_true, decide_false, Bool.and_false, bI_f]
theorem l_load (R : RT Dy h.2.2.1 t n T p s) : ∀ k i, i + k = 2 * n 1 → (XE d 60 5 [.val (.ref t), .val (.int x), .val (.int y), .val (.int (ldc (T 7) x y i)), .val (.int (nI i))] [] h Q ↔ Q (some (.int (ldc (T 7) x y (2 * n 1)))) h) := by
  have hn := R.nn.2.1
  intro k
  induction k with
  | zero =>
    intro i hi
    have hlt : ¬ nI i < nI (2 * n 1) := nI_nlt (by omega) (by omega)
    rw [s60_5]
    simp only [s60_0, s60_1, s60_2, s60_3, s60_7, s60_8, s60_9, s60_12, s60_13, s60_16, s60_17, s60_20, s60_22, s60_23, s60_24, s60_27, s60_29, s60_30, s60_31, s60_32, s60_35, s60_38, s60_41, s60_44, s60_45, R.o, tf1, XG_1, XO_some, XV_1, xo_n, xo_i8, xo_r8, xo_i7, xo_r7, xo_i6, xo_r6, xo_i5, xo_r5, xo_i4, xo_r4, xo_i3, xo_r3, xo_i2, xo_r2, Option.toList_some, Option.toList_none, List.cons_append, List.nil_append, bI_t, bI_f, bI_0, bI_n0, if_true, if_false, true_and, and_true, ne_eq, not_true_eq_false, not_false_eq_true, one_ne0, reduceCtorEq, l2m, hlt]
    rw [show i = 2 * n 1 by omega]
  | succ k ih =>
    intro i hi
    have hlt : nI i < nI (2 * n 1) := nI_lt (by omega) (by omega)
    have h24 : i < 24 := by omega
    have hd : nI i / 2 = nI (i / 2) := l2d (by omega)
    have ih1 := ih (i + 1) (by omega)
    rw [s60_5]
    simp only [s60_0, s60_1, s60_2, s60_3, s60_7, s60_8, s60_9, s60_12, s60_13, s60_16, s60_17, s60_20, s60_22, s60_23, s60_24, s60_27, s60_29, s60_30, s60_31, s60_32, s60_35, s60_38, s60_41, s60_44, s60_45, R.o, R.be, tf1, tf14, XG_1, XO_some, XV_1, xo_n, xo_i8, xo_r8, xo_i7, xo_r7, xo_i6, xo_r6, xo_i5, xo_r5, xo_i4, xo_r4, xo_i3, xo_r3, xo_i2, xo_r2, Option.toList_some, Option.toList_none, List.cons_append, List.nil_append, bI_t, bI_f, bI_0, bI_n0, if_true, if_false, true_and, and_true, ne_eq, not_true_eq_false, not_false_eq_true, one_ne0, reduceCtorEq, l2m, hlt, XA24 h24, z2, hd]
    rw [show ldc (T 7) x y (i + 1) = if T 7 i = x ∧ ¬ nI (i / 2) = y then ldc (T 7) x y i + 1 else ldc (T 7) x y i from rfl] at ih1
    by_cases hb : T 7 i = x
    · by_cases hw : nI (i / 2) = y
      · simp only [hb, hw, not_true_eq_false, and_false, if_false] at ih1
        simp only [hb, hw, if_true, nI_1]
        exact ih1
      · simp only [hb, hw, not_false_eq_true, and_true, if_true] at ih1
        simp only [hb, hw, if_true, if_false, nI_1]
        exact ih1
    · simp only [hb, false_and, if_false] at ih1
      simp only [hb, if_false, nI_1]
      exact ih1
theorem c_load (R : RT Dy h.2.2.1 t n T p s) : XC (d + 1) 60 [.ref t, .int x, .int y] h Q ↔ Q (some (.int (ldc (T 7) x y (2 * n 1)))) h := by
  rw [e60]
  simp only [s60_0, s60_1, s60_2, s60_3]
  exact l_load R (2 * n 1) 0 (by omega)
theorem l_hears (R : RT Dy h.2.2.1 t n T p s) : ∀ k i, i + k = 2 * n 1 → (XE d 61 4 [.val (.ref t), .val (.int x), .val (.int (hrs (T 7) (T 6) x i)), .val (.int (nI i))] [] h Q ↔ Q (some (.int (hrs (T 7) (T 6) x (2 * n 1)))) h) := by
  have hn := R.nn.2.1
  intro k
  induction k with
  | zero =>
    intro i hi
    have hlt : ¬ nI i < nI (2 * n 1) := nI_nlt (by omega) (by omega)
    rw [s61_4]
    simp only [s61_0, s61_1, s61_2, s61_3, s61_5, s61_6, s61_7, s61_10, s61_11, s61_14, s61_15, s61_18, s61_19, s61_20, s61_21, s61_24, s61_25, s61_26, s61_29, s61_30, s61_31, s61_32, s61_33, s61_34, s61_35, s61_38, s61_41, s61_42, R.o, tf1, XG_1, XO_some, XV_1, xo_n, xo_i8, xo_r8, xo_i7, xo_r7, xo_i6, xo_r6, xo_i5, xo_r5, xo_i4, xo_r4, xo_i3, xo_r3, xo_i2, xo_r2, Option.toList_some, Option.toList_none, List.cons_append, List.nil_append, bI_t, bI_f, bI_0, bI_n0, if_true, if_false, true_and, and_true, ne_eq, not_true_eq_false, not_false_eq_true, one_ne0, reduceCtorEq, l2m, hlt]
    rw [show i = 2 * n 1 by omega]
  | succ k ih =>
    intro i hi
    have hlt : nI i < nI (2 * n 1) := nI_lt (by omega) (by omega)
    have h24 : i < 24 := by omega
    have h12 : i / 2 < 12 := by omega
    have hd : nI i / 2 = nI (i / 2) := l2d (by omega)
    have ih1 := ih (i + 1) (by omega)
    rw [s61_4]
    simp only [s61_0, s61_1, s61_2, s61_3, s61_5, s61_6, s61_7, s61_10, s61_11, s61_14, s61_15, s61_18, s61_19, s61_20, s61_21, s61_24, s61_25, s61_26, s61_29, s61_30, s61_31, s61_32, s61_33, s61_34, s61_35, s61_38, s61_41, s61_42, R.o, R.be, R.no, tf1, tf13, tf14, XG_1, XO_some, XV_1, xo_n, xo_i8, xo_r8, xo_i7, xo_r7, xo_i6, xo_r6, xo_i5, xo_r5, xo_i4, xo_r4, xo_i3, xo_r3, xo_i2, xo_r2, Option.toList_some, Option.toList_none, List.cons_append, List.nil_append, bI_t, bI_f, bI_0, bI_n0, if_true, if_false, true_and, and_true, ne_eq, not_true_eq_false, not_false_eq_true, one_ne0, reduceCtorEq, l2m, hlt, XA24 h24, XA12 h12, z2, hd]
    rw [show hrs (T 7) (T 6) x (i + 1) = if T 7 i = x then hrs (T 7) (T 6) x i + T 6 (i / 2) else hrs (T 7) (T 6) x i from rfl] at ih1
    by_cases hb : T 7 i = x
    · simp only [hb, if_true] at ih1
      simp only [hb, if_true, nI_1]
      exact ih1
    · simp only [hb, if_false] at ih1
      simp only [hb, if_false, nI_1]
      exact ih1
theorem c_hears (R : RT Dy h.2.2.1 t n T p s) : XC (d + 1) 61 [.ref t, .int x] h Q ↔ Q (some (.int (hrs (T 7) (T 6) x (2 * n 1)))) h := by
  rw [e61]
  simp only [s61_0, s61_1, s61_2, s61_3]
  exact l_hears R (2 * n 1) 0 (by omega)
end TM
