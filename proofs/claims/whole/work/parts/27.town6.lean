/-! ===== 27: wirings; writing a town ===== -/
def lwD (n : Nat → Nat) (T : Nat → Nat → Int32) (dd : Nat) : Bool := lwB n T dd (T 7 (2 * dd)) (T 7 (2 * dd + 1))
def hmu (n : Nat → Nat) (T : Nat → Nat → Int32) : Nat → Int32
  | 0 => 0
  | k + 1 => if lwD n T k = true then hmu n T k else hmu n T k + 1
def fru (n : Nat → Nat) (T : Nat → Nat → Int32) : Nat → Nat → Option Nat
  | 0, _ => none
  | k + 1, i => if lwD n T i = true then fru n T k (i + 1) else some i
def lds (n : Nat → Nat) (T : Nat → Nat → Int32) (dd p q : Nat) : Int32 := ldc (T 7) (nI p) (nI dd) (2 * n 1) + ldc (T 7) (nI q) (nI dd) (2 * n 1)
def bps (n : Nat → Nat) (T : Nat → Nat → Int32) (dd p q : Nat) (a : Option Nat × Int32) : Option Nat × Int32 := if (a.1 = none ∨ lds n T dd p q < a.2) ∧ lwB n T dd (nI p) (nI q) = true then (some (100 * p + q), lds n T dd p q) else a
def bpi (n : Nat → Nat) (T : Nat → Nat → Int32) (dd p : Nat) (a : Option Nat × Int32) : Nat → Option Nat × Int32
  | 0 => a
  | k + 1 => bps n T dd p (p + 1 + k) (bpi n T dd p a k)
def bpo (n : Nat → Nat) (T : Nat → Nat → Int32) (dd : Nat) : Nat → Option Nat × Int32
  | 0 => (none, 0)
  | p + 1 => bpi n T dd p (bpo n T dd p) (n 0 - (p + 1))
def bpr (n : Nat → Nat) (T : Nat → Nat → Int32) (dd : Nat) : Option Nat := (bpo n T dd (n 0)).1
theorem bpi_lt {n : Nat → Nat} {T : Nat → Nat → Int32} {dd p : Nat} {a : Option Nat × Int32} (hp : p < 10) (ha : ∀ v, a.1 = some v → v < 1000) : ∀ k, p + 1 + k ≤ 10 → ∀ v, (bpi n T dd p a k).1 = some v → v < 1000 := by
  intro k
  induction k with
  | zero => intro _; exact ha
  | succ k ih =>
    intro hk v hv
    unfold bpi bps at hv
    split at hv
    · cases hv; omega
    · exact ih (by omega) v hv
theorem bpo_lt {n : Nat → Nat} {T : Nat → Nat → Int32} {dd : Nat} (hn : n 0 ≤ 10) : ∀ p, p ≤ n 0 → ∀ v, (bpo n T dd p).1 = some v → v < 1000 := by
  intro p
  induction p with
  | zero => intro _ v hv; cases hv
  | succ p ih =>
    intro hp
    exact bpi_lt (by omega) (ih (by omega)) _ (by omega)
def orb (n : Nat → Nat) (T : Nat → Nat → Int32) (j : Nat) (s : Int32) : Int32 := if isI (T 7 j) (n 0) = true then s ||| xshl 1 (T 7 j) else s
def rgs (n : Nat → Nat) (T : Nat → Nat → Int32) (dd : Nat) : Int32 := orb n T (2 * dd + 1) (orb n T (2 * dd) 0)
abbrev Pt (t : Nat) : Nat → Prop := fun a => t ≤ a ∧ a ≤ t + 12
theorem l100 {p : Nat} : (100 : Int32) * nI p = nI (100 * p) := pk_mul 100 p
theorem tq0_1 {t : Nat} : (t = t + 1) = False := eq_false (by omega)
theorem tq0_2 {t : Nat} : (t = t + 2) = False := eq_false (by omega)
theorem tq0_3 {t : Nat} : (t = t + 3) = False := eq_false (by omega)
theorem tq0_4 {t : Nat} : (t = t + 4) = False := eq_false (by omega)
theorem tq0_5 {t : Nat} : (t = t + 5) = False := eq_false (by omega)
theorem tq0_6 {t : Nat} : (t = t + 6) = False := eq_false (by omega)
theorem tq0_7 {t : Nat} : (t = t + 7) = False := eq_false (by omega)
theorem tq0_8 {t : Nat} : (t = t + 8) = False := eq_false (by omega)
theorem tq0_9 {t : Nat} : (t = t + 9) = False := eq_false (by omega)
theorem tq0_10 {t : Nat} : (t = t + 10) = False := eq_false (by omega)
theorem tq0_11 {t : Nat} : (t = t + 11) = False := eq_false (by omega)
theorem tq0_12 {t : Nat} : (t = t + 12) = False := eq_false (by omega)
theorem tq1_0 {t : Nat} : (t + 1 = t) = False := eq_false (by omega)
theorem tq1_2 {t : Nat} : (t + 1 = t + 2) = False := eq_false (by omega)
theorem tq1_3 {t : Nat} : (t + 1 = t + 3) = False := eq_false (by omega)
theorem tq1_4 {t : Nat} : (t + 1 = t + 4) = False := eq_false (by omega)
theorem tq1_5 {t : Nat} : (t + 1 = t + 5) = False := eq_false (by omega)
theorem tq1_6 {t : Nat} : (t + 1 = t + 6) = False := eq_false (by omega)
theorem tq1_7 {t : Nat} : (t + 1 = t + 7) = False := eq_false (by omega)
theorem tq1_8 {t : Nat} : (t + 1 = t + 8) = False := eq_false (by omega)
theorem tq1_9 {t : Nat} : (t + 1 = t + 9) = False := eq_false (by omega)
theorem tq1_10 {t : Nat} : (t + 1 = t + 10) = False := eq_false (by omega)
theorem tq1_11 {t : Nat} : (t + 1 = t + 11) = False := eq_false (by omega)
theorem tq1_12 {t : Nat} : (t + 1 = t + 12) = False := eq_false (by omega)
theorem tq2_0 {t : Nat} : (t + 2 = t) = False := eq_false (by omega)
theorem tq2_1 {t : Nat} : (t + 2 = t + 1) = False := eq_false (by omega)
theorem tq2_3 {t : Nat} : (t + 2 = t + 3) = False := eq_false (by omega)
theorem tq2_4 {t : Nat} : (t + 2 = t + 4) = False := eq_false (by omega)
theorem tq2_5 {t : Nat} : (t + 2 = t + 5) = False := eq_false (by omega)
theorem tq2_6 {t : Nat} : (t + 2 = t + 6) = False := eq_false (by omega)
theorem tq2_7 {t : Nat} : (t + 2 = t + 7) = False := eq_false (by omega)
theorem tq2_8 {t : Nat} : (t + 2 = t + 8) = False := eq_false (by omega)
theorem tq2_9 {t : Nat} : (t + 2 = t + 9) = False := eq_false (by omega)
theorem tq2_10 {t : Nat} : (t + 2 = t + 10) = False := eq_false (by omega)
theorem tq2_11 {t : Nat} : (t + 2 = t + 11) = False := eq_false (by omega)
theorem tq2_12 {t : Nat} : (t + 2 = t + 12) = False := eq_false (by omega)
theorem tq3_0 {t : Nat} : (t + 3 = t) = False := eq_false (by omega)
theorem tq3_1 {t : Nat} : (t + 3 = t + 1) = False := eq_false (by omega)
theorem tq3_2 {t : Nat} : (t + 3 = t + 2) = False := eq_false (by omega)
theorem tq3_4 {t : Nat} : (t + 3 = t + 4) = False := eq_false (by omega)
theorem tq3_5 {t : Nat} : (t + 3 = t + 5) = False := eq_false (by omega)
theorem tq3_6 {t : Nat} : (t + 3 = t + 6) = False := eq_false (by omega)
theorem tq3_7 {t : Nat} : (t + 3 = t + 7) = False := eq_false (by omega)
theorem tq3_8 {t : Nat} : (t + 3 = t + 8) = False := eq_false (by omega)
theorem tq3_9 {t : Nat} : (t + 3 = t + 9) = False := eq_false (by omega)
theorem tq3_10 {t : Nat} : (t + 3 = t + 10) = False := eq_false (by omega)
theorem tq3_11 {t : Nat} : (t + 3 = t + 11) = False := eq_false (by omega)
theorem tq3_12 {t : Nat} : (t + 3 = t + 12) = False := eq_false (by omega)
theorem tq4_0 {t : Nat} : (t + 4 = t) = False := eq_false (by omega)
theorem tq4_1 {t : Nat} : (t + 4 = t + 1) = False := eq_false (by omega)
theorem tq4_2 {t : Nat} : (t + 4 = t + 2) = False := eq_false (by omega)
theorem tq4_3 {t : Nat} : (t + 4 = t + 3) = False := eq_false (by omega)
theorem tq4_5 {t : Nat} : (t + 4 = t + 5) = False := eq_false (by omega)
theorem tq4_6 {t : Nat} : (t + 4 = t + 6) = False := eq_false (by omega)
theorem tq4_7 {t : Nat} : (t + 4 = t + 7) = False := eq_false (by omega)
theorem tq4_8 {t : Nat} : (t + 4 = t + 8) = False := eq_false (by omega)
theorem tq4_9 {t : Nat} : (t + 4 = t + 9) = False := eq_false (by omega)
theorem tq4_10 {t : Nat} : (t + 4 = t + 10) = False := eq_false (by omega)
theorem tq4_11 {t : Nat} : (t + 4 = t + 11) = False := eq_false (by omega)
theorem tq4_12 {t : Nat} : (t + 4 = t + 12) = False := eq_false (by omega)
theorem tq5_0 {t : Nat} : (t + 5 = t) = False := eq_false (by omega)
theorem tq5_1 {t : Nat} : (t + 5 = t + 1) = False := eq_false (by omega)
theorem tq5_2 {t : Nat} : (t + 5 = t + 2) = False := eq_false (by omega)
theorem tq5_3 {t : Nat} : (t + 5 = t + 3) = False := eq_false (by omega)
theorem tq5_4 {t : Nat} : (t + 5 = t + 4) = False := eq_false (by omega)
theorem tq5_6 {t : Nat} : (t + 5 = t + 6) = False := eq_false (by omega)
theorem tq5_7 {t : Nat} : (t + 5 = t + 7) = False := eq_false (by omega)
theorem tq5_8 {t : Nat} : (t + 5 = t + 8) = False := eq_false (by omega)
theorem tq5_9 {t : Nat} : (t + 5 = t + 9) = False := eq_false (by omega)
theorem tq5_10 {t : Nat} : (t + 5 = t + 10) = False := eq_false (by omega)
theorem tq5_11 {t : Nat} : (t + 5 = t + 11) = False := eq_false (by omega)
theorem tq5_12 {t : Nat} : (t + 5 = t + 12) = False := eq_false (by omega)
theorem tq6_0 {t : Nat} : (t + 6 = t) = False := eq_false (by omega)
theorem tq6_1 {t : Nat} : (t + 6 = t + 1) = False := eq_false (by omega)
theorem tq6_2 {t : Nat} : (t + 6 = t + 2) = False := eq_false (by omega)
theorem tq6_3 {t : Nat} : (t + 6 = t + 3) = False := eq_false (by omega)
theorem tq6_4 {t : Nat} : (t + 6 = t + 4) = False := eq_false (by omega)
theorem tq6_5 {t : Nat} : (t + 6 = t + 5) = False := eq_false (by omega)
theorem tq6_7 {t : Nat} : (t + 6 = t + 7) = False := eq_false (by omega)
theorem tq6_8 {t : Nat} : (t + 6 = t + 8) = False := eq_false (by omega)
theorem tq6_9 {t : Nat} : (t + 6 = t + 9) = False := eq_false (by omega)
theorem tq6_10 {t : Nat} : (t + 6 = t + 10) = False := eq_false (by omega)
theorem tq6_11 {t : Nat} : (t + 6 = t + 11) = False := eq_false (by omega)
theorem tq6_12 {t : Nat} : (t + 6 = t + 12) = False := eq_false (by omega)
theorem tq7_0 {t : Nat} : (t + 7 = t) = False := eq_false (by omega)
theorem tq7_1 {t : Nat} : (t + 7 = t + 1) = False := eq_false (by omega)
theorem tq7_2 {t : Nat} : (t + 7 = t + 2) = False := eq_false (by omega)
theorem tq7_3 {t : Nat} : (t + 7 = t + 3) = False := eq_false (by omega)
theorem tq7_4 {t : Nat} : (t + 7 = t + 4) = False := eq_false (by omega)
theorem tq7_5 {t : Nat} : (t + 7 = t + 5) = False := eq_false (by omega)
theorem tq7_6 {t : Nat} : (t + 7 = t + 6) = False := eq_false (by omega)
theorem tq7_8 {t : Nat} : (t + 7 = t + 8) = False := eq_false (by omega)
theorem tq7_9 {t : Nat} : (t + 7 = t + 9) = False := eq_false (by omega)
theorem tq7_10 {t : Nat} : (t + 7 = t + 10) = False := eq_false (by omega)
theorem tq7_11 {t : Nat} : (t + 7 = t + 11) = False := eq_false (by omega)
theorem tq7_12 {t : Nat} : (t + 7 = t + 12) = False := eq_false (by omega)
theorem tq8_0 {t : Nat} : (t + 8 = t) = False := eq_false (by omega)
theorem tq8_1 {t : Nat} : (t + 8 = t + 1) = False := eq_false (by omega)
theorem tq8_2 {t : Nat} : (t + 8 = t + 2) = False := eq_false (by omega)
theorem tq8_3 {t : Nat} : (t + 8 = t + 3) = False := eq_false (by omega)
theorem tq8_4 {t : Nat} : (t + 8 = t + 4) = False := eq_false (by omega)
theorem tq8_5 {t : Nat} : (t + 8 = t + 5) = False := eq_false (by omega)
theorem tq8_6 {t : Nat} : (t + 8 = t + 6) = False := eq_false (by omega)
theorem tq8_7 {t : Nat} : (t + 8 = t + 7) = False := eq_false (by omega)
theorem tq8_9 {t : Nat} : (t + 8 = t + 9) = False := eq_false (by omega)
theorem tq8_10 {t : Nat} : (t + 8 = t + 10) = False := eq_false (by omega)
theorem tq8_11 {t : Nat} : (t + 8 = t + 11) = False := eq_false (by omega)
theorem tq8_12 {t : Nat} : (t + 8 = t + 12) = False := eq_false (by omega)
theorem tq9_0 {t : Nat} : (t + 9 = t) = False := eq_false (by omega)
theorem tq9_1 {t : Nat} : (t + 9 = t + 1) = False := eq_false (by omega)
theorem tq9_2 {t : Nat} : (t + 9 = t + 2) = False := eq_false (by omega)
theorem tq9_3 {t : Nat} : (t + 9 = t + 3) = False := eq_false (by omega)
theorem tq9_4 {t : Nat} : (t + 9 = t + 4) = False := eq_false (by omega)
theorem tq9_5 {t : Nat} : (t + 9 = t + 5) = False := eq_false (by omega)
theorem tq9_6 {t : Nat} : (t + 9 = t + 6) = False := eq_false (by omega)
theorem tq9_7 {t : Nat} : (t + 9 = t + 7) = False := eq_false (by omega)
theorem tq9_8 {t : Nat} : (t + 9 = t + 8) = False := eq_false (by omega)
theorem tq9_10 {t : Nat} : (t + 9 = t + 10) = False := eq_false (by omega)
theorem tq9_11 {t : Nat} : (t + 9 = t + 11) = False := eq_false (by omega)
theorem tq9_12 {t : Nat} : (t + 9 = t + 12) = False := eq_false (by omega)
theorem tq10_0 {t : Nat} : (t + 10 = t) = False := eq_false (by omega)
theorem tq10_1 {t : Nat} : (t + 10 = t + 1) = False := eq_false (by omega)
theorem tq10_2 {t : Nat} : (t + 10 = t + 2) = False := eq_false (by omega)
theorem tq10_3 {t : Nat} : (t + 10 = t + 3) = False := eq_false (by omega)
theorem tq10_4 {t : Nat} : (t + 10 = t + 4) = False := eq_false (by omega)
theorem tq10_5 {t : Nat} : (t + 10 = t + 5) = False := eq_false (by omega)
theorem tq10_6 {t : Nat} : (t + 10 = t + 6) = False := eq_false (by omega)
theorem tq10_7 {t : Nat} : (t + 10 = t + 7) = False := eq_false (by omega)
theorem tq10_8 {t : Nat} : (t + 10 = t + 8) = False := eq_false (by omega)
theorem tq10_9 {t : Nat} : (t + 10 = t + 9) = False := eq_false (by omega)
theorem tq10_11 {t : Nat} : (t + 10 = t + 11) = False := eq_false (by omega)
theorem tq10_12 {t : Nat} : (t + 10 = t + 12) = False := eq_false (by omega)
theorem tq11_0 {t : Nat} : (t + 11 = t) = False := eq_false (by omega)
theorem tq11_1 {t : Nat} : (t + 11 = t + 1) = False := eq_false (by omega)
theorem tq11_2 {t : Nat} : (t + 11 = t + 2) = False := eq_false (by omega)
theorem tq11_3 {t : Nat} : (t + 11 = t + 3) = False := eq_false (by omega)
theorem tq11_4 {t : Nat} : (t + 11 = t + 4) = False := eq_false (by omega)
theorem tq11_5 {t : Nat} : (t + 11 = t + 5) = False := eq_false (by omega)
theorem tq11_6 {t : Nat} : (t + 11 = t + 6) = False := eq_false (by omega)
theorem tq11_7 {t : Nat} : (t + 11 = t + 7) = False := eq_false (by omega)
theorem tq11_8 {t : Nat} : (t + 11 = t + 8) = False := eq_false (by omega)
theorem tq11_9 {t : Nat} : (t + 11 = t + 9) = False := eq_false (by omega)
theorem tq11_10 {t : Nat} : (t + 11 = t + 10) = False := eq_false (by omega)
theorem tq11_12 {t : Nat} : (t + 11 = t + 12) = False := eq_false (by omega)
theorem tq12_0 {t : Nat} : (t + 12 = t) = False := eq_false (by omega)
theorem tq12_1 {t : Nat} : (t + 12 = t + 1) = False := eq_false (by omega)
theorem tq12_2 {t : Nat} : (t + 12 = t + 2) = False := eq_false (by omega)
theorem tq12_3 {t : Nat} : (t + 12 = t + 3) = False := eq_false (by omega)
theorem tq12_4 {t : Nat} : (t + 12 = t + 4) = False := eq_false (by omega)
theorem tq12_5 {t : Nat} : (t + 12 = t + 5) = False := eq_false (by omega)
theorem tq12_6 {t : Nat} : (t + 12 = t + 6) = False := eq_false (by omega)
theorem tq12_7 {t : Nat} : (t + 12 = t + 7) = False := eq_false (by omega)
theorem tq12_8 {t : Nat} : (t + 12 = t + 8) = False := eq_false (by omega)
theorem tq12_9 {t : Nat} : (t + 12 = t + 9) = False := eq_false (by omega)
theorem tq12_10 {t : Nat} : (t + 12 = t + 10) = False := eq_false (by omega)
theorem tq12_11 {t : Nat} : (t + 12 = t + 11) = False := eq_false (by omega)
section TM6
variable {Dy d : Nat} {h h1 : xH} {t : Nat} {n n2 : Nat → Nat} {T T2 : Nat → Nat → Int32} {p : Nat → Nat → Option Nat} {s sx : Nat → Nat → Int32} {Q : Option Value → xH → Prop} {x y z : Int32}
theorem c_isLawful (R : RT Dy h.2.2.1 t n T p s) (I : IV n T) {dd : Nat} (hd : dd < n 1) (K : ∀ h', FR Dy P0 h h' → Q (some (.int (bI (lwD n T dd)))) h') : XC (d + 4) 73 [.ref t, .int (nI dd)] h Q := by
  have hn := R.nn
  have h24 : 2 * dd < 24 := by omega
  have h24' : 2 * dd + 1 < 24 := by omega
  have hI := isI_n hd (show n 1 < 2 ^ 31 by omega)
  rw [e73]
  simp only [s73_0, s73_1, s73_2, s73_5, s73_8, s73_9, s73_10, s73_11, s73_14, s73_15, s73_16, s73_17, s73_18, s73_19, s73_22, s73_23, s73_24, s73_25, s73_26, s73_27, s73_28, R.o, R.be, tf14, XG_1, XO_some, XV_1, xo_n, xo_i8, xo_r8, xo_i7, xo_r7, xo_i6, xo_r6, xo_i5, xo_r5, xo_i4, xo_r4, xo_i3, xo_r3, xo_i2, xo_r2, Option.toList_some, Option.toList_none, List.cons_append, List.nil_append, bI_t, bI_f, bI_0, bI_n0, if_true, if_false, true_and, and_true, ne_eq, not_true_eq_false, not_false_eq_true, one_ne0, reduceCtorEq, c_isDoor R, hI, l2m, nI_1, XA24 h24, XA24 h24', Bool.true_eq_false]
  refine c_would R I hd fun h1 F1 => ?_
  have := K h1 F1
  unfold lwD at this
  cases hw : lwB n T dd (T 7 (2 * dd)) (T 7 (2 * dd + 1)) with
  | true => rw [hw] at this; simp only [s73_0, s73_1, s73_2, s73_5, s73_8, s73_9, s73_10, s73_11, s73_14, s73_15, s73_16, s73_17, s73_18, s73_19, s73_22, s73_23, s73_24, s73_25, s73_26, s73_27, s73_28, s73_31, s73_34, s73_35, s73_38, s73_39, s73_39t, s73_39b, XG_1, XO_some, XV_1, xo_n, xo_i8, xo_r8, xo_i7, xo_r7, xo_i6, xo_r6, xo_i5, xo_r5, xo_i4, xo_r4, xo_i3, xo_r3, xo_i2, xo_r2, Option.toList_some, Option.toList_none, List.cons_append, List.nil_append, bI_t, bI_f, bI_0, bI_n0, if_true, if_false, true_and, and_true, ne_eq, not_true_eq_false, not_false_eq_true, one_ne0, reduceCtorEq, Bool.true_eq_false]; exact this
  | false => rw [hw] at this; simp only [s73_0, s73_1, s73_2, s73_5, s73_8, s73_9, s73_10, s73_11, s73_14, s73_15, s73_16, s73_17, s73_18, s73_19, s73_22, s73_23, s73_24, s73_25, s73_26, s73_27, s73_28, s73_31, s73_34, s73_35, s73_38, s73_39, s73_39t, s73_39b, XG_1, XO_some, XV_1, xo_n, xo_i8, xo_r8, xo_i7, xo_r7, xo_i6, xo_r6, xo_i5, xo_r5, xo_i4, xo_r4, xo_i3, xo_r3, xo_i2, xo_r2, Option.toList_some, Option.toList_none, List.cons_append, List.nil_append, bI_t, bI_f, bI_0, bI_n0, if_true, if_false, true_and, and_true, ne_eq, not_true_eq_false, not_false_eq_true, one_ne0, reduceCtorEq]; exact this
theorem l_hmu (I : IV n T) (ht : t + 12 < Dy) : ∀ k i h s, i + k = n 1 → RT Dy h.2.2.1 t n T p s → (∀ h', FR Dy P0 h h' → Q (some (.int (hmu n T (n 1)))) h') → XE (d + 4) 74 4 [.val (.ref t), .val (.int (hmu n T i)), .val (.int (nI i))] [] h Q := by
  have hn := I.nn
  intro k
  induction k with
  | zero =>
    intro i h s hi R K
    have hlt : ¬ nI i < nI (n 1) := nI_nlt (by omega) (by omega)
    rw [s74_4]
    simp only [s74_0, s74_1, s74_2, s74_3, s74_5, s74_6, s74_9, s74_12, s74_13, s74_14, s74_17, s74_20, s74_23, s74_26, s74_29, s74_30, R.o, tf1, XG_1, XO_some, XV_1, xo_n, xo_i8, xo_r8, xo_i7, xo_r7, xo_i6, xo_r6, xo_i5, xo_r5, xo_i4, xo_r4, xo_i3, xo_r3, xo_i2, xo_r2, Option.toList_some, Option.toList_none, List.cons_append, List.nil_append, bI_t, bI_f, bI_0, bI_n0, if_true, if_false, true_and, and_true, ne_eq, not_true_eq_false, not_false_eq_true, one_ne0, reduceCtorEq, hlt]
    rw [show i = n 1 by omega]
    exact K h FR.refl
  | succ k ih =>
    intro i h s hi R K
    have hlt : nI i < nI (n 1) := nI_lt (by omega) (by omega)
    rw [s74_4]
    simp only [s74_0, s74_1, s74_2, s74_3, s74_5, s74_6, s74_9, s74_12, s74_13, s74_14, s74_17, s74_20, s74_23, s74_26, s74_29, s74_30, R.o, tf1, XG_1, XO_some, XV_1, xo_n, xo_i8, xo_r8, xo_i7, xo_r7, xo_i6, xo_r6, xo_i5, xo_r5, xo_i4, xo_r4, xo_i3, xo_r3, xo_i2, xo_r2, Option.toList_some, Option.toList_none, List.cons_append, List.nil_append, bI_t, bI_f, bI_0, bI_n0, if_true, if_false, true_and, and_true, ne_eq, not_true_eq_false, not_false_eq_true, one_ne0, reduceCtorEq, hlt]
    refine c_isLawful R I (by omega) fun h1 F1 => ?_
    have ih1 := ih (i + 1) h1 s (by omega) (R.fr0 F1 ht) (fun h' F' => K h' (F1.trans F'))
    rw [show hmu n T (i + 1) = if lwD n T i = true then hmu n T i else hmu n T i + 1 from rfl] at ih1
    cases hw : lwD n T i with
    | true => rw [hw] at ih1; simp only [s74_0, s74_1, s74_2, s74_3, s74_5, s74_6, s74_9, s74_12, s74_13, s74_14, s74_17, s74_20, s74_23, s74_26, s74_29, s74_30, XG_1, XO_some, XV_1, xo_n, xo_i8, xo_r8, xo_i7, xo_r7, xo_i6, xo_r6, xo_i5, xo_r5, xo_i4, xo_r4, xo_i3, xo_r3, xo_i2, xo_r2, Option.toList_some, Option.toList_none, List.cons_append, List.nil_append, bI_t, bI_f, bI_0, bI_n0, if_true, if_false, true_and, and_true, ne_eq, not_true_eq_false, not_false_eq_true, one_ne0, reduceCtorEq, nI_1, Bool.true_eq_false]; exact ih1
    | false => rw [hw] at ih1; simp only [s74_0, s74_1, s74_2, s74_3, s74_5, s74_6, s74_9, s74_12, s74_13, s74_14, s74_17, s74_20, s74_23, s74_26, s74_29, s74_30, XG_1, XO_some, XV_1, xo_n, xo_i8, xo_r8, xo_i7, xo_r7, xo_i6, xo_r6, xo_i5, xo_r5, xo_i4, xo_r4, xo_i3, xo_r3, xo_i2, xo_r2, Option.toList_some, Option.toList_none, List.cons_append, List.nil_append, bI_t, bI_f, bI_0, bI_n0, if_true, if_false, true_and, and_true, ne_eq, not_true_eq_false, not_false_eq_true, one_ne0, reduceCtorEq, nI_1]; exact ih1
theorem c_howMany (I : IV n T) (ht : t + 12 < Dy) (R : RT Dy h.2.2.1 t n T p s) (K : ∀ h', FR Dy P0 h h' → Q (some (.int (hmu n T (n 1)))) h') : XC (d + 5) 74 [.ref t] h Q := by
  rw [e74]
  simp only [s74_0, s74_1, s74_2, s74_3]
  exact l_hmu I ht (n 1) 0 h s (by omega) R K
theorem l_fru (I : IV n T) (ht : t + 12 < Dy) : ∀ k i h s, i + k = n 1 → RT Dy h.2.2.1 t n T p s → (∀ h', FR Dy P0 h h' → Q (some (.int (oI NONE (fru n T k i)))) h') → XE (d + 4) 75 2 [.val (.ref t), .val (.int (nI i))] [] h Q := by
  have hn := I.nn
  intro k
  induction k with
  | zero =>
    intro i h s hi R K
    have hlt : ¬ nI i < nI (n 1) := nI_nlt (by omega) (by omega)
    rw [s75_2]
    simp only [s75_0, s75_1, s75_3, s75_4, s75_7, s75_10, s75_11, s75_12, s75_15, s75_18, s75_19, s75_20, s75_23, s75_26, s75_28, R.o, tf1, XG_1, XO_some, XV_1, xo_n, xo_i8, xo_r8, xo_i7, xo_r7, xo_i6, xo_r6, xo_i5, xo_r5, xo_i4, xo_r4, xo_i3, xo_r3, xo_i2, xo_r2, Option.toList_some, Option.toList_none, List.cons_append, List.nil_append, bI_t, bI_f, bI_0, bI_n0, if_true, if_false, true_and, and_true, ne_eq, not_true_eq_false, not_false_eq_true, one_ne0, reduceCtorEq, hlt]
    exact K h FR.refl
  | succ k ih =>
    intro i h s hi R K
    have hlt : nI i < nI (n 1) := nI_lt (by omega) (by omega)
    rw [s75_2]
    simp only [s75_0, s75_1, s75_3, s75_4, s75_7, s75_10, s75_11, s75_12, s75_15, s75_18, s75_19, s75_20, s75_23, s75_26, s75_28, R.o, tf1, XG_1, XO_some, XV_1, xo_n, xo_i8, xo_r8, xo_i7, xo_r7, xo_i6, xo_r6, xo_i5, xo_r5, xo_i4, xo_r4, xo_i3, xo_r3, xo_i2, xo_r2, Option.toList_some, Option.toList_none, List.cons_append, List.nil_append, bI_t, bI_f, bI_0, bI_n0, if_true, if_false, true_and, and_true, ne_eq, not_true_eq_false, not_false_eq_true, one_ne0, reduceCtorEq, hlt]
    refine c_isLawful R I (by omega) fun h1 F1 => ?_
    have ih1 := ih (i + 1) h1 s (by omega) (R.fr0 F1 ht)
    have K1 := K
    rw [show fru n T (k + 1) i = if lwD n T i = true then fru n T k (i + 1) else some i from rfl] at K1
    cases hw : lwD n T i with
    | true =>
      rw [hw] at K1
      simp only [s75_0, s75_1, s75_3, s75_4, s75_7, s75_10, s75_11, s75_12, s75_15, s75_18, s75_19, s75_20, s75_23, s75_26, s75_28, XG_1, XO_some, XV_1, xo_n, xo_i8, xo_r8, xo_i7, xo_r7, xo_i6, xo_r6, xo_i5, xo_r5, xo_i4, xo_r4, xo_i3, xo_r3, xo_i2, xo_r2, Option.toList_some, Option.toList_none, List.cons_append, List.nil_append, bI_t, bI_f, bI_0, bI_n0, if_true, if_false, true_and, and_true, ne_eq, not_true_eq_false, not_false_eq_true, one_ne0, reduceCtorEq, nI_1, Bool.true_eq_false]
      exact ih1 (fun h' F' => K1 h' (F1.trans F'))
    | false =>
      rw [hw] at K1
      simp only [s75_0, s75_1, s75_3, s75_4, s75_7, s75_10, s75_11, s75_12, s75_15, s75_18, s75_19, s75_20, s75_23, s75_26, s75_28, XG_1, XO_some, XV_1, xo_n, xo_i8, xo_r8, xo_i7, xo_r7, xo_i6, xo_r6, xo_i5, xo_r5, xo_i4, xo_r4, xo_i3, xo_r3, xo_i2, xo_r2, Option.toList_some, Option.toList_none, List.cons_append, List.nil_append, bI_t, bI_f, bI_0, bI_n0, if_true, if_false, true_and, and_true, ne_eq, not_true_eq_false, not_false_eq_true, one_ne0, reduceCtorEq]
      exact K1 h1 F1
theorem c_first (I : IV n T) (ht : t + 12 < Dy) (R : RT Dy h.2.2.1 t n T p s) (K : ∀ h', FR Dy P0 h h' → Q (some (.int (oI NONE (fru n T (n 1) 0)))) h') : XC (d + 5) 75 [.ref t] h Q := by
  rw [e75]
  simp only [s75_0, s75_1]
  exact l_fru I ht (n 1) 0 h s (by omega) R K
theorem l_bpi (I : IV n T) (ht : t + 12 < Dy) {dd pp : Nat} (hd : dd < n 1) (hp : pp < n 0) {a : Option Nat × Int32} (ha : ∀ v, a.1 = some v → v < 1000) : ∀ k j h s c6, pp + 1 + j + k = n 0 → RT Dy h.2.2.1 t n T p s → (∀ h' c5 c6, FR Dy P0 h h' → XE (d + 3) 76 8 [.val (.ref t), .val (.int (nI dd)), .val (.int (oI NONE (bpi n T dd pp a (n 0 - (pp + 1))).1)), .val (.int (bpi n T dd pp a (n 0 - (pp + 1))).2), .val (.int (nI (pp + 1))), c5, c6] [] h' Q) → XE (d + 3) 76 23 [.val (.ref t), .val (.int (nI dd)), .val (.int (oI NONE (bpi n T dd pp a j).1)), .val (.int (bpi n T dd pp a j).2), .val (.int (nI pp)), .val (.int (nI (pp + 1 + j))), c6] [] h Q := by
  have hn := I.nn
  intro k
  induction k with
  | zero =>
    intro j h s c6 hi R K
    have hlt : ¬ nI (pp + 1 + j) < nI (n 0) := nI_nlt (by omega) (by omega)
    rw [s76_23]
    simp only [s76_0, s76_2, s76_3, s76_4, s76_5, s76_6, s76_10, s76_11, s76_14, s76_17, s76_19, s76_20, s76_21, s76_25, s76_26, s76_29, s76_32, s76_33, s76_35, s76_36, s76_39, s76_40, s76_42, s76_43, s76_46, s76_47, s76_49, s76_50, s76_52, s76_55, s76_57, s76_58, s76_61, s76_62, s76_63, s76_65, s76_67, s76_70, s76_73, s76_75, s76_77, s76_78, s76_80, s76_81, s76_82, s76_84, s76_85, s76_88, s76_91, s76_94, s76_97, s76_98, R.o, tf0, XG_1, XO_some, XV_1, xo_n, xo_i8, xo_r8, xo_i7, xo_r7, xo_i6, xo_r6, xo_i5, xo_r5, xo_i4, xo_r4, xo_i3, xo_r3, xo_i2, xo_r2, Option.toList_some, Option.toList_none, List.cons_append, List.nil_append, bI_t, bI_f, bI_0, bI_n0, if_true, if_false, true_and, and_true, ne_eq, not_true_eq_false, not_false_eq_true, one_ne0, reduceCtorEq, hlt, nI_1]
    rw [show j = n 0 - (pp + 1) by omega]
    exact K h _ _ FR.refl
  | succ k ih =>
    intro j h s c6 hi R K
    have hlt : nI (pp + 1 + j) < nI (n 0) := nI_lt (by omega) (by omega)
    have hb := bpi_lt (n := n) (T := T) (dd := dd) (show pp < 10 by omega) ha j (by omega)
    rw [s76_23]
    simp only [s76_0, s76_2, s76_3, s76_4, s76_5, s76_6, s76_10, s76_11, s76_14, s76_17, s76_19, s76_20, s76_21, s76_25, s76_26, s76_29, s76_32, s76_33, s76_35, s76_36, s76_39, s76_40, s76_42, s76_43, s76_46, s76_47, s76_49, s76_50, s76_52, s76_55, s76_57, s76_58, R.o, tf0, XG_1, XO_some, XV_1, xo_n, xo_i8, xo_r8, xo_i7, xo_r7, xo_i6, xo_r6, xo_i5, xo_r5, xo_i4, xo_r4, xo_i3, xo_r3, xo_i2, xo_r2, Option.toList_some, Option.toList_none, List.cons_append, List.nil_append, bI_t, bI_f, bI_0, bI_n0, if_true, if_false, true_and, and_true, ne_eq, not_true_eq_false, not_false_eq_true, one_ne0, reduceCtorEq, hlt, c_load R]
    have hs : bpi n T dd pp a (j + 1) = bps n T dd pp (pp + 1 + j) (bpi n T dd pp a j) := rfl
    have step : ∀ h1, FR Dy P0 h h1 → ∀ c6, XE (d + 3) 76 23 [.val (.ref t), .val (.int (nI dd)), .val (.int (oI NONE (bps n T dd pp (pp + 1 + j) (bpi n T dd pp a j)).1)), .val (.int (bps n T dd pp (pp + 1 + j) (bpi n T dd pp a j)).2), .val (.int (nI pp)), .val (.int (nI (pp + 1 + j + 1))), c6] [] h1 Q := fun h1 F1 c6 => by
      have := ih (j + 1) h1 s c6 (by omega) (R.fr0 F1 ht) (fun h' c5 c6 F' => K h' c5 c6 (F1.trans F'))
      rw [hs] at this
      exact this
    generalize bpi n T dd pp a j = b at step hb ⊢
    obtain ⟨o, l⟩ := b
    dsimp only at hb step ⊢
    have take : XE (d + 3) 76 61 [.val (.ref t), .val (.int (nI dd)), .val (.int (oI NONE o)), .val (.int l), .val (.int (nI pp)), .val (.int (nI (pp + 1 + j))), .val (.int (lds n T dd pp (pp + 1 + j)))] [] h Q ∨ ¬ (o = none ∨ lds n T dd pp (pp + 1 + j) < l) := by
      by_cases hc : o = none ∨ lds n T dd pp (pp + 1 + j) < l
      · refine Or.inl ?_
        simp only [s76_61, s76_62, s76_63, s76_65, s76_67, R.o, XG_1, XO_some, XV_1, xo_n, xo_i8, xo_r8, xo_i7, xo_r7, xo_i6, xo_r6, xo_i5, xo_r5, xo_i4, xo_r4, xo_i3, xo_r3, xo_i2, xo_r2, Option.toList_some, Option.toList_none, List.cons_append, List.nil_append, bI_t, bI_f, bI_0, bI_n0, if_true, if_false, true_and, and_true, ne_eq, not_true_eq_false, not_false_eq_true, one_ne0, reduceCtorEq]
        refine c_would R I hd fun h1 F1 => ?_
        have st := step h1 F1
        unfold bps at st
        cases hw : lwB n T dd (nI pp) (nI (pp + 1 + j)) with
        | true =>
          rw [hw, if_pos ⟨hc, rfl⟩] at st
          simp only [s76_0, s76_2, s76_3, s76_4, s76_5, s76_6, s76_10, s76_11, s76_14, s76_17, s76_19, s76_20, s76_21, s76_25, s76_26, s76_29, s76_32, s76_33, s76_35, s76_36, s76_39, s76_40, s76_42, s76_43, s76_46, s76_47, s76_49, s76_50, s76_52, s76_55, s76_57, s76_58, s76_61, s76_62, s76_63, s76_65, s76_67, s76_70, s76_73, s76_75, s76_77, s76_78, s76_80, s76_81, s76_82, s76_84, s76_85, s76_88, s76_91, s76_94, s76_97, s76_98, XG_1, XO_some, XV_1, xo_n, xo_i8, xo_r8, xo_i7, xo_r7, xo_i6, xo_r6, xo_i5, xo_r5, xo_i4, xo_r4, xo_i3, xo_r3, xo_i2, xo_r2, Option.toList_some, Option.toList_none, List.cons_append, List.nil_append, bI_t, bI_f, bI_0, bI_n0, if_true, if_false, true_and, and_true, ne_eq, not_true_eq_false, not_false_eq_true, one_ne0, reduceCtorEq, nI_1, l100, nI_add, Bool.true_eq_false]
          exact st _
        | false =>
          rw [hw, if_neg (fun q => by cases q.2)] at st
          simp only [s76_0, s76_2, s76_3, s76_4, s76_5, s76_6, s76_10, s76_11, s76_14, s76_17, s76_19, s76_20, s76_21, s76_25, s76_26, s76_29, s76_32, s76_33, s76_35, s76_36, s76_39, s76_40, s76_42, s76_43, s76_46, s76_47, s76_49, s76_50, s76_52, s76_55, s76_57, s76_58, s76_61, s76_62, s76_63, s76_65, s76_67, s76_70, s76_73, s76_75, s76_77, s76_78, s76_80, s76_81, s76_82, s76_84, s76_85, s76_88, s76_91, s76_94, s76_97, s76_98, XG_1, XO_some, XV_1, xo_n, xo_i8, xo_r8, xo_i7, xo_r7, xo_i6, xo_r6, xo_i5, xo_r5, xo_i4, xo_r4, xo_i3, xo_r3, xo_i2, xo_r2, Option.toList_some, Option.toList_none, List.cons_append, List.nil_append, bI_t, bI_f, bI_0, bI_n0, if_true, if_false, true_and, and_true, ne_eq, not_true_eq_false, not_false_eq_true, one_ne0, reduceCtorEq, nI_1]
          exact st _
      · exact Or.inr hc
    have skip : ¬ (o = none ∨ lds n T dd pp (pp + 1 + j) < l) → XE (d + 3) 76 85 [.val (.ref t), .val (.int (nI dd)), .val (.int (oI NONE o)), .val (.int l), .val (.int (nI pp)), .val (.int (nI (pp + 1 + j))), .val (.int (lds n T dd pp (pp + 1 + j)))] [] h Q := by
      intro hc
      have st := step h FR.refl
      unfold bps at st
      rw [if_neg (fun q => hc q.1)] at st
      simp only [s76_0, s76_2, s76_3, s76_4, s76_5, s76_6, s76_10, s76_11, s76_14, s76_17, s76_19, s76_20, s76_21, s76_25, s76_26, s76_29, s76_32, s76_33, s76_35, s76_36, s76_39, s76_40, s76_42, s76_43, s76_46, s76_47, s76_49, s76_50, s76_52, s76_55, s76_57, s76_58, s76_61, s76_62, s76_63, s76_65, s76_67, s76_70, s76_73, s76_75, s76_77, s76_78, s76_80, s76_81, s76_82, s76_84, s76_85, s76_88, s76_91, s76_94, s76_97, s76_98, XG_1, XO_some, XV_1, xo_n, xo_i8, xo_r8, xo_i7, xo_r7, xo_i6, xo_r6, xo_i5, xo_r5, xo_i4, xo_r4, xo_i3, xo_r3, xo_i2, xo_r2, Option.toList_some, Option.toList_none, List.cons_append, List.nil_append, bI_t, bI_f, bI_0, bI_n0, if_true, if_false, true_and, and_true, ne_eq, not_true_eq_false, not_false_eq_true, one_ne0, reduceCtorEq, nI_1]
      exact st _
    cases o with
    | none =>
      simp only [oI, if_true]
      rcases take with tk | tk
      · exact tk
      · exact absurd (Or.inl rfl) tk
    | some v =>
      simp only [oI, nI_NONE (show v < 2 ^ 31 by have := hb v rfl; omega), if_false]
      by_cases hc : lds n T dd pp (pp + 1 + j) < l
      · rcases take with tk | tk
        · simp only [show ldc (T 7) (nI pp) (nI dd) (2 * n 1) + ldc (T 7) (nI (pp + 1 + j)) (nI dd) (2 * n 1) = lds n T dd pp (pp + 1 + j) from rfl, hc, if_true]
          exact tk
        · exact absurd (Or.inr hc) tk
      · simp only [show ldc (T 7) (nI pp) (nI dd) (2 * n 1) + ldc (T 7) (nI (pp + 1 + j)) (nI dd) (2 * n 1) = lds n T dd pp (pp + 1 + j) from rfl, hc, if_false]
        exact skip (fun q => by rcases q with q | q; cases q; exact hc q)
theorem l_bpo (I : IV n T) (ht : t + 12 < Dy) {dd : Nat} (hd : dd < n 1) : ∀ k pp h s c5 c6, pp + k = n 0 → RT Dy h.2.2.1 t n T p s → (∀ h', FR Dy P0 h h' → Q (some (.int (oI NONE (bpr n T dd)))) h') → XE (d + 3) 76 8 [.val (.ref t), .val (.int (nI dd)), .val (.int (oI NONE (bpo n T dd pp).1)), .val (.int (bpo n T dd pp).2), .val (.int (nI pp)), c5, c6] [] h Q := by
  have hn := I.nn
  intro k
  induction k with
  | zero =>
    intro pp h s c5 c6 hi R K
    have hlt : ¬ nI pp < nI (n 0) := nI_nlt (by omega) (by omega)
    rw [s76_8]
    simp only [s76_0, s76_2, s76_3, s76_4, s76_5, s76_6, s76_10, s76_11, s76_14, s76_17, s76_19, s76_20, s76_21, s76_25, s76_26, s76_29, s76_32, s76_33, s76_35, s76_36, s76_39, s76_40, s76_42, s76_43, s76_46, s76_47, s76_49, s76_50, s76_52, s76_55, s76_57, s76_58, s76_61, s76_62, s76_63, s76_65, s76_67, s76_70, s76_73, s76_75, s76_77, s76_78, s76_80, s76_81, s76_82, s76_84, s76_85, s76_88, s76_91, s76_94, s76_97, s76_98, R.o, tf0, XG_1, XO_some, XV_1, xo_n, xo_i8, xo_r8, xo_i7, xo_r7, xo_i6, xo_r6, xo_i5, xo_r5, xo_i4, xo_r4, xo_i3, xo_r3, xo_i2, xo_r2, Option.toList_some, Option.toList_none, List.cons_append, List.nil_append, bI_t, bI_f, bI_0, bI_n0, if_true, if_false, true_and, and_true, ne_eq, not_true_eq_false, not_false_eq_true, one_ne0, reduceCtorEq, hlt]
    rw [show pp = n 0 by omega]
    exact K h FR.refl
  | succ k ih =>
    intro pp h s c5 c6 hi R K
    have hlt : nI pp < nI (n 0) := nI_lt (by omega) (by omega)
    rw [s76_8]
    simp only [s76_0, s76_2, s76_3, s76_4, s76_5, s76_6, s76_10, s76_11, s76_14, s76_17, s76_19, s76_20, s76_21, s76_25, s76_26, s76_29, s76_32, s76_33, s76_35, s76_36, s76_39, s76_40, s76_42, s76_43, s76_46, s76_47, s76_49, s76_50, s76_52, s76_55, s76_57, s76_58, s76_61, s76_62, s76_63, s76_65, s76_67, s76_70, s76_73, s76_75, s76_77, s76_78, s76_80, s76_81, s76_82, s76_84, s76_85, s76_88, s76_91, s76_94, s76_97, s76_98, R.o, tf0, XG_1, XO_some, XV_1, xo_n, xo_i8, xo_r8, xo_i7, xo_r7, xo_i6, xo_r6, xo_i5, xo_r5, xo_i4, xo_r4, xo_i3, xo_r3, xo_i2, xo_r2, Option.toList_some, Option.toList_none, List.cons_append, List.nil_append, bI_t, bI_f, bI_0, bI_n0, if_true, if_false, true_and, and_true, ne_eq, not_true_eq_false, not_false_eq_true, one_ne0, reduceCtorEq, hlt, nI_1]
    refine l_bpi I ht hd (by omega) (bpo_lt hn.1 pp (by omega)) (n 0 - (pp + 1)) 0 h s _ (by omega) R fun h1 c5 c6 F1 => ?_
    exact ih (pp + 1) h1 s c5 c6 (by omega) (R.fr0 F1 ht) (fun h' F' => K h' (F1.trans F'))
theorem c_bestPair (I : IV n T) (ht : t + 12 < Dy) (R : RT Dy h.2.2.1 t n T p s) {dd : Nat} (hd : dd < n 1) (K : ∀ h', FR Dy P0 h h' → Q (some (.int (oI NONE (bpr n T dd)))) h') : XC (d + 4) 76 [.ref t, .int (nI dd)] h Q := by
  rw [e76]
  simp only [s76_0, s76_2, s76_3, s76_4, s76_5, s76_6]
  exact l_bpo I ht hd (n 0) 0 h s _ _ (by omega) R K
theorem c_rings (R : RT Dy h.2.2.1 t n T p s) {dd : Nat} (hd : dd < n 1) : XC (d + 2) 62 [.ref t, .int (nI dd)] h Q ↔ Q (some (.int (rgs n T dd))) h := by
  have hn := R.nn
  have hI := isI_n hd (show n 1 < 2 ^ 31 by omega)
  have step : ∀ (b : Nat) (acc : Int32) (c4 : Slot), b < 2 → (XE (d + 1) 62 4 [.val (.ref t), .val (.int (nI dd)), .val (.int acc), .val (.int (nI b)), c4] [] h Q ↔ XE (d + 1) 62 4 [.val (.ref t), .val (.int (nI dd)), .val (.int (orb n T (2 * dd + b) acc)), .val (.int (nI (b + 1))), .val (.int (T 7 (2 * dd + b)))] [] h Q) := by
    intro b acc c4 hb
    have h24 : 2 * dd + b < 24 := by omega
    have hlt : nI b < 2 := nI_lt (b := 2) hb (by decide)
    rw [s62_4]
    simp only [s62_0, s62_1, s62_2, s62_3, s62_5, s62_6, s62_9, s62_10, s62_11, s62_14, s62_17, s62_18, s62_21, s62_22, s62_23, s62_24, s62_25, s62_26, s62_27, s62_29, s62_30, s62_32, s62_35, R.o, R.be, tf14, XG_1, XO_some, XV_1, xo_n, xo_i8, xo_r8, xo_i7, xo_r7, xo_i6, xo_r6, xo_i5, xo_r5, xo_i4, xo_r4, xo_i3, xo_r3, xo_i2, xo_r2, Option.toList_some, Option.toList_none, List.cons_append, List.nil_append, bI_t, bI_f, bI_0, bI_n0, if_true, if_false, true_and, and_true, ne_eq, not_true_eq_false, not_false_eq_true, one_ne0, reduceCtorEq, hlt, c_isDoor R, c_isHouse R, hI, l2m, nI_add, XA24 h24, Bool.true_eq_false]
    unfold orb
    cases hx : isI (T 7 (2 * dd + b)) (n 0) with
    | false => simp only [s62_0, s62_1, s62_2, s62_3, s62_5, s62_6, s62_9, s62_10, s62_11, s62_14, s62_17, s62_18, s62_21, s62_22, s62_23, s62_24, s62_25, s62_26, s62_27, s62_29, s62_30, s62_32, s62_35, s62_38, s62_39, s62_40, s62_42, s62_43, s62_44, s62_45, s62_48, s62_51, s62_52, XG_1, XO_some, XV_1, xo_n, xo_i8, xo_r8, xo_i7, xo_r7, xo_i6, xo_r6, xo_i5, xo_r5, xo_i4, xo_r4, xo_i3, xo_r3, xo_i2, xo_r2, Option.toList_some, Option.toList_none, List.cons_append, List.nil_append, bI_t, bI_f, bI_0, bI_n0, if_true, if_false, true_and, and_true, ne_eq, not_true_eq_false, not_false_eq_true, one_ne0, reduceCtorEq, nI_1, Bool.false_eq_true]
    | true => simp only [s62_0, s62_1, s62_2, s62_3, s62_5, s62_6, s62_9, s62_10, s62_11, s62_14, s62_17, s62_18, s62_21, s62_22, s62_23, s62_24, s62_25, s62_26, s62_27, s62_29, s62_30, s62_32, s62_35, s62_38, s62_39, s62_40, s62_42, s62_43, s62_44, s62_45, s62_48, s62_51, s62_52, XG_1, XO_some, XV_1, xo_n, xo_i8, xo_r8, xo_i7, xo_r7, xo_i6, xo_r6, xo_i5, xo_r5, xo_i4, xo_r4, xo_i3, xo_r3, xo_i2, xo_r2, Option.toList_some, Option.toList_none, List.cons_append, List.nil_append, bI_t, bI_f, bI_0, bI_n0, if_true, if_false, true_and, and_true, ne_eq, not_true_eq_false, not_false_eq_true, one_ne0, reduceCtorEq, nI_1, Bool.true_eq_false]
  rw [e62]
  simp only [s62_0, s62_1, s62_2, s62_3]
  refine (step 0 0 _ (by decide)).trans ?_
  refine (step 1 _ _ (by decide)).trans ?_
  have hlt : ¬ nI (1 + 1) < 2 := by decide
  rw [s62_4]
  simp only [s62_0, s62_1, s62_2, s62_3, s62_5, s62_6, s62_9, s62_10, s62_11, s62_14, s62_17, s62_18, s62_21, s62_22, s62_23, s62_24, s62_25, s62_26, s62_27, s62_29, s62_30, s62_32, s62_35, s62_38, s62_39, s62_40, s62_42, s62_43, s62_44, s62_45, s62_48, s62_51, s62_52, XG_1, XO_some, XV_1, xo_n, xo_i8, xo_r8, xo_i7, xo_r7, xo_i6, xo_r6, xo_i5, xo_r5, xo_i4, xo_r4, xo_i3, xo_r3, xo_i2, xo_r2, Option.toList_some, Option.toList_none, List.cons_append, List.nil_append, bI_t, bI_f, bI_0, bI_n0, if_true, if_false, true_and, and_true, ne_eq, not_true_eq_false, not_false_eq_true, one_ne0, reduceCtorEq, hlt]
  rfl
/-- a town written anew -/
theorem RT.gen (R : RT Dy h.2.2.1 t n T p s) (F : FR Dy (Pt t) h h1) (c0 : h1.2.2.1 t = .inr (10, townF t n2 T2)) (c1 : h1.2.2.1 (t + 1) = .inl (0, xis 10 (T2 1))) (c2 : h1.2.2.1 (t + 2) = .inl (0, xis 10 (T2 2))) (c3 : h1.2.2.1 (t + 3) = .inl (0, xis 10 (T2 3))) (c4 : h1.2.2.1 (t + 4) = .inl (0, xis 12 (T2 4))) (c5 : h1.2.2.1 (t + 5) = .inl (0, xis 12 (T2 5))) (c6 : h1.2.2.1 (t + 6) = .inl (0, xis 12 (T2 6))) (c7 : h1.2.2.1 (t + 7) = .inl (0, xis 24 (T2 7)))
    (c8 : h1.2.2.1 (t + 8) = h.2.2.1 (t + 8)) (c9 : h1.2.2.1 (t + 9) = h.2.2.1 (t + 9)) (c10 : h1.2.2.1 (t + 10) = h.2.2.1 (t + 10)) (c11 : h1.2.2.1 (t + 11) = h.2.2.1 (t + 11)) (c12 : h1.2.2.1 (t + 12) = h.2.2.1 (t + 12)) (hn : n2 0 ≤ 10 ∧ n2 1 ≤ 12) (e2 : n2 2 = n 2) (e3 : n2 3 = n 3) (e8 : T2 8 = T 8) (e9 : T2 9 = T 9) (e10 : T2 10 = T 10) (e11 : T2 11 = T 11) (e12 : T2 12 = T 12) (e13 : T2 13 = T 13) : RT Dy h1.2.2.1 t n2 T2 p s := by
  refine ⟨c0, c1, c2, c3, c4, c5, c6, c7, c8.trans R.ba, c9.trans R.la, c10.trans R.co, c11.trans R.mi, c12.trans R.ga, ⟨hn.1, hn.2, by rw [e2]; exact R.nn.2.2.1, by rw [e3]; exact R.nn.2.2.2⟩, fun i hi => ?_, fun i hi => ?_, by rw [e2, e3]; exact R.tn⟩
  · rw [e2] at hi
    obtain ⟨a, q1, q2, q3⟩ := R.th i hi
    rw [e8, e9]
    exact ⟨a, q1, q2, F.2.2.2.2.1 _ _ _ q2 q3⟩
  · rw [e3] at hi
    obtain ⟨a, q1, q2, q3⟩ := R.tx i hi
    rw [e10, e11, e12, e13]
    exact ⟨a, q1, q2, F.2.2.2.2.2.1 _ _ _ _ _ q2 q3⟩
theorem FR.pt {a : Nat} {e : va_E} (ht : t + 12 < Dy) (hD : Dy ≤ h.1) (ha : t ≤ a ∧ a ≤ t + 12) : FR Dy (Pt t) h (xset h a e) := FR.set (by omega) ha (by omega)
def addH (n : Nat → Nat) (T : Nat → Nat → Int32) (x y : Int32) : Nat → Nat → Int32 := sup (sup (sup T 1 (n 0) x) 2 (n 0) y) 3 (n 0) 0
theorem c_addHouse (R : RT Dy h.2.2.1 t n T p s) (ht : t + 12 < Dy) (hD : Dy ≤ h.1) (h0 : n 0 < 10) (K : ∀ h', FR Dy (Pt t) h h' → RT Dy h'.2.2.1 t (va_up n 0 (n 0 + 1)) (addH n T x y) p s → Q (some (.int (nI (n 0)))) h') : XC (d + 1) 56 [.ref t, .int x, .int y] h Q := by
  have hn := R.nn
  have hlt : nI (n 0) < 10 := nI_lt (b := 10) h0 (by decide)
  rw [e56]
  simp only [s56_0, s56_1, s56_4, s56_6, s56_9, s56_11, s56_12, s56_13, s56_16, s56_17, s56_20, s56_21, s56_22, s56_23, s56_26, s56_27, s56_30, s56_31, s56_32, s56_33, s56_36, s56_37, s56_40, s56_41, s56_42, s56_43, s56_43r, s56_44, s56_47, s56_48, s56_49, s56_52, s56_53, s56_56, s56_57, s56_58, R.o, R.aw, R.ca, R.ag, tf0, tf8, tf9, tf10, XG_1, XO_some, XV_1, xo_n, xo_i8, xo_r8, xo_i7, xo_r7, xo_i6, xo_r6, xo_i5, xo_r5, xo_i4, xo_r4, xo_i3, xo_r3, xo_i2, xo_r2, Option.toList_some, Option.toList_none, List.cons_append, List.nil_append, bI_t, bI_f, bI_0, bI_n0, if_true, if_false, true_and, and_true, ne_eq, not_true_eq_false, not_false_eq_true, one_ne0, reduceCtorEq, hlt, XS10 h0, tq0_1, tq0_2, tq0_3, tq0_4, tq0_5, tq0_6, tq0_7, tq0_8, tq0_9, tq0_10, tq0_11, tq0_12, tq1_0, tq1_2, tq1_3, tq1_4, tq1_5, tq1_6, tq1_7, tq1_8, tq1_9, tq1_10, tq1_11, tq1_12, tq2_0, tq2_1, tq2_3, tq2_4, tq2_5, tq2_6, tq2_7, tq2_8, tq2_9, tq2_10, tq2_11, tq2_12, tq3_0, tq3_1, tq3_2, tq3_4, tq3_5, tq3_6, tq3_7, tq3_8, tq3_9, tq3_10, tq3_11, tq3_12, tq4_0, tq4_1, tq4_2, tq4_3, tq4_5, tq4_6, tq4_7, tq4_8, tq4_9, tq4_10, tq4_11, tq4_12, tq5_0, tq5_1, tq5_2, tq5_3, tq5_4, tq5_6, tq5_7, tq5_8, tq5_9, tq5_10, tq5_11, tq5_12, tq6_0, tq6_1, tq6_2, tq6_3, tq6_4, tq6_5, tq6_7, tq6_8, tq6_9, tq6_10, tq6_11, tq6_12, tq7_0, tq7_1, tq7_2, tq7_3, tq7_4, tq7_5, tq7_6, tq7_8, tq7_9, tq7_10, tq7_11, tq7_12, tq8_0, tq8_1, tq8_2, tq8_3, tq8_4, tq8_5, tq8_6, tq8_7, tq8_9, tq8_10, tq8_11, tq8_12, tq9_0, tq9_1, tq9_2, tq9_3, tq9_4, tq9_5, tq9_6, tq9_7, tq9_8, tq9_10, tq9_11, tq9_12, tq10_0, tq10_1, tq10_2, tq10_3, tq10_4, tq10_5, tq10_6, tq10_7, tq10_8, tq10_9, tq10_11, tq10_12, tq11_0, tq11_1, tq11_2, tq11_3, tq11_4, tq11_5, tq11_6, tq11_7, tq11_8, tq11_9, tq11_10, tq11_12, tq12_0, tq12_1, tq12_2, tq12_3, tq12_4, tq12_5, tq12_6, tq12_7, tq12_8, tq12_9, tq12_10, tq12_11, eq_self, xset_at, XP_1 (show 0 < (townF t n T).length by rw [tfL]; decide), nI_1, ts0, show va_up n 0 (n 0 + 1) 0 = n 0 + 1 from rfl, nI_pred]
  refine K _ (FR.trans (FR.pt ht hD ⟨by omega, by omega⟩) (FR.trans (FR.pt ht hD ⟨by omega, by omega⟩) (FR.trans (FR.pt ht hD ⟨by omega, by omega⟩) (FR.pt ht hD ⟨by omega, by omega⟩)))) ?_
  refine R.gen (FR.trans (FR.pt ht hD ⟨by omega, by omega⟩) (FR.trans (FR.pt ht hD ⟨by omega, by omega⟩) (FR.trans (FR.pt ht hD ⟨by omega, by omega⟩) (FR.pt ht hD ⟨by omega, by omega⟩)))) ?_ ?_ ?_ ?_ ?_ ?_ ?_ ?_ ?_ ?_ ?_ ?_ ?_ ⟨by show n 0 + 1 ≤ 10; omega, hn.2.1⟩ rfl rfl rfl rfl rfl rfl rfl rfl
  · rw [xset_self]; rfl
  · rw [xset_ne (by omega), xset_ne (by omega), xset_ne (by omega), xset_self]; unfold addH; rw [sup_ne (by decide), sup_ne (by decide), sup_row]
  · rw [xset_ne (by omega), xset_ne (by omega), xset_self]; unfold addH; rw [sup_ne (by decide), sup_row, sup_ne (by decide)]
  · rw [xset_ne (by omega), xset_self]; unfold addH; rw [sup_row, sup_ne (by decide), sup_ne (by decide)]
  · rw [xset_ne (by omega), xset_ne (by omega), xset_ne (by omega), xset_ne (by omega)]; exact R.ow
  · rw [xset_ne (by omega), xset_ne (by omega), xset_ne (by omega), xset_ne (by omega)]; exact R.wo
  · rw [xset_ne (by omega), xset_ne (by omega), xset_ne (by omega), xset_ne (by omega)]; exact R.no
  · rw [xset_ne (by omega), xset_ne (by omega), xset_ne (by omega), xset_ne (by omega)]; exact R.be
  · rw [xset_ne (by omega), xset_ne (by omega), xset_ne (by omega), xset_ne (by omega)]
  · rw [xset_ne (by omega), xset_ne (by omega), xset_ne (by omega), xset_ne (by omega)]
  · rw [xset_ne (by omega), xset_ne (by omega), xset_ne (by omega), xset_ne (by omega)]
  · rw [xset_ne (by omega), xset_ne (by omega), xset_ne (by omega), xset_ne (by omega)]
  · rw [xset_ne (by omega), xset_ne (by omega), xset_ne (by omega), xset_ne (by omega)]
theorem c_addHouseF (R : RT Dy h.2.2.1 t n T p s) (h0 : n 0 = 10) : XC (d + 1) 56 [.ref t, .int x, .int y] h Q ↔ Q (some (.int (-1000000003))) h := by
  have hlt : ¬ nI (n 0) < 10 := by rw [h0]; decide
  rw [e56]
  simp only [s56_0, s56_1, s56_4, s56_6, s56_9, s56_11, s56_12, s56_13, s56_16, s56_17, s56_20, s56_21, s56_22, s56_23, s56_26, s56_27, s56_30, s56_31, s56_32, s56_33, s56_36, s56_37, s56_40, s56_41, s56_42, s56_43, s56_43r, s56_44, s56_47, s56_48, s56_49, s56_52, s56_53, s56_56, s56_57, s56_58, R.o, tf0, XG_1, XO_some, XV_1, xo_n, xo_i8, xo_r8, xo_i7, xo_r7, xo_i6, xo_r6, xo_i5, xo_r5, xo_i4, xo_r4, xo_i3, xo_r3, xo_i2, xo_r2, Option.toList_some, Option.toList_none, List.cons_append, List.nil_append, bI_t, bI_f, bI_0, bI_n0, if_true, if_false, true_and, and_true, ne_eq, not_true_eq_false, not_false_eq_true, one_ne0, reduceCtorEq, hlt]
def addD (n : Nat → Nat) (T : Nat → Nat → Int32) (x y : Int32) : Nat → Nat → Int32 := sup (sup (sup (sup (sup T 4 (n 1) x) 5 (n 1) y) 6 (n 1) 1) 7 (2 * n 1) NONE) 7 (2 * n 1 + 1) NONE
theorem c_addDoor (R : RT Dy h.2.2.1 t n T p s) (ht : t + 12 < Dy) (hD : Dy ≤ h.1) (h0 : n 1 < 12) (K : ∀ h', FR Dy (Pt t) h h' → RT Dy h'.2.2.1 t (va_up n 1 (n 1 + 1)) (addD n T x y) p s → Q (some (.int (nI (n 1)))) h') : XC (d + 1) 57 [.ref t, .int x, .int y] h Q := by
  have hn := R.nn
  have hlt : nI (n 1) < 12 := nI_lt (b := 12) h0 (by decide)
  have h24 : 2 * n 1 < 24 := by omega
  have h25 : 2 * n 1 + 1 < 24 := by omega
  rw [e57]
  simp only [s57_0, s57_1, s57_4, s57_6, s57_9, s57_11, s57_12, s57_13, s57_16, s57_17, s57_20, s57_21, s57_22, s57_23, s57_26, s57_27, s57_30, s57_31, s57_32, s57_33, s57_36, s57_37, s57_40, s57_41, s57_42, s57_43, s57_46, s57_47, s57_48, s57_51, s57_52, s57_54, s57_55, s57_56, s57_59, s57_60, s57_61, s57_64, s57_65, s57_66, s57_67, s57_69, s57_70, s57_71, s57_71r, s57_72, s57_75, s57_76, s57_77, s57_80, s57_81, s57_84, s57_85, s57_86, R.o, R.ow, R.wo, R.no, R.be, tf1, tf11, tf12, tf13, tf14, XG_1, XO_some, XV_1, xo_n, xo_i8, xo_r8, xo_i7, xo_r7, xo_i6, xo_r6, xo_i5, xo_r5, xo_i4, xo_r4, xo_i3, xo_r3, xo_i2, xo_r2, Option.toList_some, Option.toList_none, List.cons_append, List.nil_append, bI_t, bI_f, bI_0, bI_n0, if_true, if_false, true_and, and_true, ne_eq, not_true_eq_false, not_false_eq_true, one_ne0, reduceCtorEq, hlt, l2m, nI_1, XS12 h0, XS24 h24, XS24 h25, tq0_1, tq0_2, tq0_3, tq0_4, tq0_5, tq0_6, tq0_7, tq0_8, tq0_9, tq0_10, tq0_11, tq0_12, tq1_0, tq1_2, tq1_3, tq1_4, tq1_5, tq1_6, tq1_7, tq1_8, tq1_9, tq1_10, tq1_11, tq1_12, tq2_0, tq2_1, tq2_3, tq2_4, tq2_5, tq2_6, tq2_7, tq2_8, tq2_9, tq2_10, tq2_11, tq2_12, tq3_0, tq3_1, tq3_2, tq3_4, tq3_5, tq3_6, tq3_7, tq3_8, tq3_9, tq3_10, tq3_11, tq3_12, tq4_0, tq4_1, tq4_2, tq4_3, tq4_5, tq4_6, tq4_7, tq4_8, tq4_9, tq4_10, tq4_11, tq4_12, tq5_0, tq5_1, tq5_2, tq5_3, tq5_4, tq5_6, tq5_7, tq5_8, tq5_9, tq5_10, tq5_11, tq5_12, tq6_0, tq6_1, tq6_2, tq6_3, tq6_4, tq6_5, tq6_7, tq6_8, tq6_9, tq6_10, tq6_11, tq6_12, tq7_0, tq7_1, tq7_2, tq7_3, tq7_4, tq7_5, tq7_6, tq7_8, tq7_9, tq7_10, tq7_11, tq7_12, tq8_0, tq8_1, tq8_2, tq8_3, tq8_4, tq8_5, tq8_6, tq8_7, tq8_9, tq8_10, tq8_11, tq8_12, tq9_0, tq9_1, tq9_2, tq9_3, tq9_4, tq9_5, tq9_6, tq9_7, tq9_8, tq9_10, tq9_11, tq9_12, tq10_0, tq10_1, tq10_2, tq10_3, tq10_4, tq10_5, tq10_6, tq10_7, tq10_8, tq10_9, tq10_11, tq10_12, tq11_0, tq11_1, tq11_2, tq11_3, tq11_4, tq11_5, tq11_6, tq11_7, tq11_8, tq11_9, tq11_10, tq11_12, tq12_0, tq12_1, tq12_2, tq12_3, tq12_4, tq12_5, tq12_6, tq12_7, tq12_8, tq12_9, tq12_10, tq12_11, eq_self, xset_at, XP_1 (show 1 < (townF t n T).length by rw [tfL]; decide), ts1, show va_up n 1 (n 1 + 1) 1 = n 1 + 1 from rfl, nI_pred, xset_twice]
  have F : ∀ {a b c e f : va_E}, FR Dy (Pt t) h (xset (xset (xset (xset (xset h (t + 4) a) (t + 5) b) (t + 6) c) (t + 7) e) t f) := fun {a b c e f} => FR.trans (FR.pt ht hD ⟨by omega, by omega⟩) (FR.trans (FR.pt ht hD ⟨by omega, by omega⟩) (FR.trans (FR.pt ht hD ⟨by omega, by omega⟩) (FR.trans (FR.pt ht hD ⟨by omega, by omega⟩) (FR.pt ht hD ⟨by omega, by omega⟩))))
  refine K _ F (R.gen F ?_ ?_ ?_ ?_ ?_ ?_ ?_ ?_ ?_ ?_ ?_ ?_ ?_ ⟨hn.1, by show n 1 + 1 ≤ 12; omega⟩ rfl rfl rfl rfl rfl rfl rfl rfl)
  · rw [xset_self]; rfl
  · simp only [tq0_1, tq0_2, tq0_3, tq0_4, tq0_5, tq0_6, tq0_7, tq0_8, tq0_9, tq0_10, tq0_11, tq0_12, tq1_0, tq1_2, tq1_3, tq1_4, tq1_5, tq1_6, tq1_7, tq1_8, tq1_9, tq1_10, tq1_11, tq1_12, tq2_0, tq2_1, tq2_3, tq2_4, tq2_5, tq2_6, tq2_7, tq2_8, tq2_9, tq2_10, tq2_11, tq2_12, tq3_0, tq3_1, tq3_2, tq3_4, tq3_5, tq3_6, tq3_7, tq3_8, tq3_9, tq3_10, tq3_11, tq3_12, tq4_0, tq4_1, tq4_2, tq4_3, tq4_5, tq4_6, tq4_7, tq4_8, tq4_9, tq4_10, tq4_11, tq4_12, tq5_0, tq5_1, tq5_2, tq5_3, tq5_4, tq5_6, tq5_7, tq5_8, tq5_9, tq5_10, tq5_11, tq5_12, tq6_0, tq6_1, tq6_2, tq6_3, tq6_4, tq6_5, tq6_7, tq6_8, tq6_9, tq6_10, tq6_11, tq6_12, tq7_0, tq7_1, tq7_2, tq7_3, tq7_4, tq7_5, tq7_6, tq7_8, tq7_9, tq7_10, tq7_11, tq7_12, tq8_0, tq8_1, tq8_2, tq8_3, tq8_4, tq8_5, tq8_6, tq8_7, tq8_9, tq8_10, tq8_11, tq8_12, tq9_0, tq9_1, tq9_2, tq9_3, tq9_4, tq9_5, tq9_6, tq9_7, tq9_8, tq9_10, tq9_11, tq9_12, tq10_0, tq10_1, tq10_2, tq10_3, tq10_4, tq10_5, tq10_6, tq10_7, tq10_8, tq10_9, tq10_11, tq10_12, tq11_0, tq11_1, tq11_2, tq11_3, tq11_4, tq11_5, tq11_6, tq11_7, tq11_8, tq11_9, tq11_10, tq11_12, tq12_0, tq12_1, tq12_2, tq12_3, tq12_4, tq12_5, tq12_6, tq12_7, tq12_8, tq12_9, tq12_10, tq12_11, eq_self, xset_at, if_false]; exact R.aw
  · simp only [tq0_1, tq0_2, tq0_3, tq0_4, tq0_5, tq0_6, tq0_7, tq0_8, tq0_9, tq0_10, tq0_11, tq0_12, tq1_0, tq1_2, tq1_3, tq1_4, tq1_5, tq1_6, tq1_7, tq1_8, tq1_9, tq1_10, tq1_11, tq1_12, tq2_0, tq2_1, tq2_3, tq2_4, tq2_5, tq2_6, tq2_7, tq2_8, tq2_9, tq2_10, tq2_11, tq2_12, tq3_0, tq3_1, tq3_2, tq3_4, tq3_5, tq3_6, tq3_7, tq3_8, tq3_9, tq3_10, tq3_11, tq3_12, tq4_0, tq4_1, tq4_2, tq4_3, tq4_5, tq4_6, tq4_7, tq4_8, tq4_9, tq4_10, tq4_11, tq4_12, tq5_0, tq5_1, tq5_2, tq5_3, tq5_4, tq5_6, tq5_7, tq5_8, tq5_9, tq5_10, tq5_11, tq5_12, tq6_0, tq6_1, tq6_2, tq6_3, tq6_4, tq6_5, tq6_7, tq6_8, tq6_9, tq6_10, tq6_11, tq6_12, tq7_0, tq7_1, tq7_2, tq7_3, tq7_4, tq7_5, tq7_6, tq7_8, tq7_9, tq7_10, tq7_11, tq7_12, tq8_0, tq8_1, tq8_2, tq8_3, tq8_4, tq8_5, tq8_6, tq8_7, tq8_9, tq8_10, tq8_11, tq8_12, tq9_0, tq9_1, tq9_2, tq9_3, tq9_4, tq9_5, tq9_6, tq9_7, tq9_8, tq9_10, tq9_11, tq9_12, tq10_0, tq10_1, tq10_2, tq10_3, tq10_4, tq10_5, tq10_6, tq10_7, tq10_8, tq10_9, tq10_11, tq10_12, tq11_0, tq11_1, tq11_2, tq11_3, tq11_4, tq11_5, tq11_6, tq11_7, tq11_8, tq11_9, tq11_10, tq11_12, tq12_0, tq12_1, tq12_2, tq12_3, tq12_4, tq12_5, tq12_6, tq12_7, tq12_8, tq12_9, tq12_10, tq12_11, eq_self, xset_at, if_false]; exact R.ca
  · simp only [tq0_1, tq0_2, tq0_3, tq0_4, tq0_5, tq0_6, tq0_7, tq0_8, tq0_9, tq0_10, tq0_11, tq0_12, tq1_0, tq1_2, tq1_3, tq1_4, tq1_5, tq1_6, tq1_7, tq1_8, tq1_9, tq1_10, tq1_11, tq1_12, tq2_0, tq2_1, tq2_3, tq2_4, tq2_5, tq2_6, tq2_7, tq2_8, tq2_9, tq2_10, tq2_11, tq2_12, tq3_0, tq3_1, tq3_2, tq3_4, tq3_5, tq3_6, tq3_7, tq3_8, tq3_9, tq3_10, tq3_11, tq3_12, tq4_0, tq4_1, tq4_2, tq4_3, tq4_5, tq4_6, tq4_7, tq4_8, tq4_9, tq4_10, tq4_11, tq4_12, tq5_0, tq5_1, tq5_2, tq5_3, tq5_4, tq5_6, tq5_7, tq5_8, tq5_9, tq5_10, tq5_11, tq5_12, tq6_0, tq6_1, tq6_2, tq6_3, tq6_4, tq6_5, tq6_7, tq6_8, tq6_9, tq6_10, tq6_11, tq6_12, tq7_0, tq7_1, tq7_2, tq7_3, tq7_4, tq7_5, tq7_6, tq7_8, tq7_9, tq7_10, tq7_11, tq7_12, tq8_0, tq8_1, tq8_2, tq8_3, tq8_4, tq8_5, tq8_6, tq8_7, tq8_9, tq8_10, tq8_11, tq8_12, tq9_0, tq9_1, tq9_2, tq9_3, tq9_4, tq9_5, tq9_6, tq9_7, tq9_8, tq9_10, tq9_11, tq9_12, tq10_0, tq10_1, tq10_2, tq10_3, tq10_4, tq10_5, tq10_6, tq10_7, tq10_8, tq10_9, tq10_11, tq10_12, tq11_0, tq11_1, tq11_2, tq11_3, tq11_4, tq11_5, tq11_6, tq11_7, tq11_8, tq11_9, tq11_10, tq11_12, tq12_0, tq12_1, tq12_2, tq12_3, tq12_4, tq12_5, tq12_6, tq12_7, tq12_8, tq12_9, tq12_10, tq12_11, eq_self, xset_at, if_false]; exact R.ag
  · simp only [tq0_1, tq0_2, tq0_3, tq0_4, tq0_5, tq0_6, tq0_7, tq0_8, tq0_9, tq0_10, tq0_11, tq0_12, tq1_0, tq1_2, tq1_3, tq1_4, tq1_5, tq1_6, tq1_7, tq1_8, tq1_9, tq1_10, tq1_11, tq1_12, tq2_0, tq2_1, tq2_3, tq2_4, tq2_5, tq2_6, tq2_7, tq2_8, tq2_9, tq2_10, tq2_11, tq2_12, tq3_0, tq3_1, tq3_2, tq3_4, tq3_5, tq3_6, tq3_7, tq3_8, tq3_9, tq3_10, tq3_11, tq3_12, tq4_0, tq4_1, tq4_2, tq4_3, tq4_5, tq4_6, tq4_7, tq4_8, tq4_9, tq4_10, tq4_11, tq4_12, tq5_0, tq5_1, tq5_2, tq5_3, tq5_4, tq5_6, tq5_7, tq5_8, tq5_9, tq5_10, tq5_11, tq5_12, tq6_0, tq6_1, tq6_2, tq6_3, tq6_4, tq6_5, tq6_7, tq6_8, tq6_9, tq6_10, tq6_11, tq6_12, tq7_0, tq7_1, tq7_2, tq7_3, tq7_4, tq7_5, tq7_6, tq7_8, tq7_9, tq7_10, tq7_11, tq7_12, tq8_0, tq8_1, tq8_2, tq8_3, tq8_4, tq8_5, tq8_6, tq8_7, tq8_9, tq8_10, tq8_11, tq8_12, tq9_0, tq9_1, tq9_2, tq9_3, tq9_4, tq9_5, tq9_6, tq9_7, tq9_8, tq9_10, tq9_11, tq9_12, tq10_0, tq10_1, tq10_2, tq10_3, tq10_4, tq10_5, tq10_6, tq10_7, tq10_8, tq10_9, tq10_11, tq10_12, tq11_0, tq11_1, tq11_2, tq11_3, tq11_4, tq11_5, tq11_6, tq11_7, tq11_8, tq11_9, tq11_10, tq11_12, tq12_0, tq12_1, tq12_2, tq12_3, tq12_4, tq12_5, tq12_6, tq12_7, tq12_8, tq12_9, tq12_10, tq12_11, eq_self, xset_at, if_false, if_true]; unfold addD; rw [sup_ne (by decide), sup_ne (by decide), sup_ne (by decide), sup_ne (by decide), sup_row]
  · simp only [tq0_1, tq0_2, tq0_3, tq0_4, tq0_5, tq0_6, tq0_7, tq0_8, tq0_9, tq0_10, tq0_11, tq0_12, tq1_0, tq1_2, tq1_3, tq1_4, tq1_5, tq1_6, tq1_7, tq1_8, tq1_9, tq1_10, tq1_11, tq1_12, tq2_0, tq2_1, tq2_3, tq2_4, tq2_5, tq2_6, tq2_7, tq2_8, tq2_9, tq2_10, tq2_11, tq2_12, tq3_0, tq3_1, tq3_2, tq3_4, tq3_5, tq3_6, tq3_7, tq3_8, tq3_9, tq3_10, tq3_11, tq3_12, tq4_0, tq4_1, tq4_2, tq4_3, tq4_5, tq4_6, tq4_7, tq4_8, tq4_9, tq4_10, tq4_11, tq4_12, tq5_0, tq5_1, tq5_2, tq5_3, tq5_4, tq5_6, tq5_7, tq5_8, tq5_9, tq5_10, tq5_11, tq5_12, tq6_0, tq6_1, tq6_2, tq6_3, tq6_4, tq6_5, tq6_7, tq6_8, tq6_9, tq6_10, tq6_11, tq6_12, tq7_0, tq7_1, tq7_2, tq7_3, tq7_4, tq7_5, tq7_6, tq7_8, tq7_9, tq7_10, tq7_11, tq7_12, tq8_0, tq8_1, tq8_2, tq8_3, tq8_4, tq8_5, tq8_6, tq8_7, tq8_9, tq8_10, tq8_11, tq8_12, tq9_0, tq9_1, tq9_2, tq9_3, tq9_4, tq9_5, tq9_6, tq9_7, tq9_8, tq9_10, tq9_11, tq9_12, tq10_0, tq10_1, tq10_2, tq10_3, tq10_4, tq10_5, tq10_6, tq10_7, tq10_8, tq10_9, tq10_11, tq10_12, tq11_0, tq11_1, tq11_2, tq11_3, tq11_4, tq11_5, tq11_6, tq11_7, tq11_8, tq11_9, tq11_10, tq11_12, tq12_0, tq12_1, tq12_2, tq12_3, tq12_4, tq12_5, tq12_6, tq12_7, tq12_8, tq12_9, tq12_10, tq12_11, eq_self, xset_at, if_false, if_true]; unfold addD; rw [sup_ne (by decide), sup_ne (by decide), sup_ne (by decide), sup_row, sup_ne (by decide)]
  · simp only [tq0_1, tq0_2, tq0_3, tq0_4, tq0_5, tq0_6, tq0_7, tq0_8, tq0_9, tq0_10, tq0_11, tq0_12, tq1_0, tq1_2, tq1_3, tq1_4, tq1_5, tq1_6, tq1_7, tq1_8, tq1_9, tq1_10, tq1_11, tq1_12, tq2_0, tq2_1, tq2_3, tq2_4, tq2_5, tq2_6, tq2_7, tq2_8, tq2_9, tq2_10, tq2_11, tq2_12, tq3_0, tq3_1, tq3_2, tq3_4, tq3_5, tq3_6, tq3_7, tq3_8, tq3_9, tq3_10, tq3_11, tq3_12, tq4_0, tq4_1, tq4_2, tq4_3, tq4_5, tq4_6, tq4_7, tq4_8, tq4_9, tq4_10, tq4_11, tq4_12, tq5_0, tq5_1, tq5_2, tq5_3, tq5_4, tq5_6, tq5_7, tq5_8, tq5_9, tq5_10, tq5_11, tq5_12, tq6_0, tq6_1, tq6_2, tq6_3, tq6_4, tq6_5, tq6_7, tq6_8, tq6_9, tq6_10, tq6_11, tq6_12, tq7_0, tq7_1, tq7_2, tq7_3, tq7_4, tq7_5, tq7_6, tq7_8, tq7_9, tq7_10, tq7_11, tq7_12, tq8_0, tq8_1, tq8_2, tq8_3, tq8_4, tq8_5, tq8_6, tq8_7, tq8_9, tq8_10, tq8_11, tq8_12, tq9_0, tq9_1, tq9_2, tq9_3, tq9_4, tq9_5, tq9_6, tq9_7, tq9_8, tq9_10, tq9_11, tq9_12, tq10_0, tq10_1, tq10_2, tq10_3, tq10_4, tq10_5, tq10_6, tq10_7, tq10_8, tq10_9, tq10_11, tq10_12, tq11_0, tq11_1, tq11_2, tq11_3, tq11_4, tq11_5, tq11_6, tq11_7, tq11_8, tq11_9, tq11_10, tq11_12, tq12_0, tq12_1, tq12_2, tq12_3, tq12_4, tq12_5, tq12_6, tq12_7, tq12_8, tq12_9, tq12_10, tq12_11, eq_self, xset_at, if_false, if_true]; unfold addD; rw [sup_ne (by decide), sup_ne (by decide), sup_row, sup_ne (by decide), sup_ne (by decide)]
  · simp only [tq0_1, tq0_2, tq0_3, tq0_4, tq0_5, tq0_6, tq0_7, tq0_8, tq0_9, tq0_10, tq0_11, tq0_12, tq1_0, tq1_2, tq1_3, tq1_4, tq1_5, tq1_6, tq1_7, tq1_8, tq1_9, tq1_10, tq1_11, tq1_12, tq2_0, tq2_1, tq2_3, tq2_4, tq2_5, tq2_6, tq2_7, tq2_8, tq2_9, tq2_10, tq2_11, tq2_12, tq3_0, tq3_1, tq3_2, tq3_4, tq3_5, tq3_6, tq3_7, tq3_8, tq3_9, tq3_10, tq3_11, tq3_12, tq4_0, tq4_1, tq4_2, tq4_3, tq4_5, tq4_6, tq4_7, tq4_8, tq4_9, tq4_10, tq4_11, tq4_12, tq5_0, tq5_1, tq5_2, tq5_3, tq5_4, tq5_6, tq5_7, tq5_8, tq5_9, tq5_10, tq5_11, tq5_12, tq6_0, tq6_1, tq6_2, tq6_3, tq6_4, tq6_5, tq6_7, tq6_8, tq6_9, tq6_10, tq6_11, tq6_12, tq7_0, tq7_1, tq7_2, tq7_3, tq7_4, tq7_5, tq7_6, tq7_8, tq7_9, tq7_10, tq7_11, tq7_12, tq8_0, tq8_1, tq8_2, tq8_3, tq8_4, tq8_5, tq8_6, tq8_7, tq8_9, tq8_10, tq8_11, tq8_12, tq9_0, tq9_1, tq9_2, tq9_3, tq9_4, tq9_5, tq9_6, tq9_7, tq9_8, tq9_10, tq9_11, tq9_12, tq10_0, tq10_1, tq10_2, tq10_3, tq10_4, tq10_5, tq10_6, tq10_7, tq10_8, tq10_9, tq10_11, tq10_12, tq11_0, tq11_1, tq11_2, tq11_3, tq11_4, tq11_5, tq11_6, tq11_7, tq11_8, tq11_9, tq11_10, tq11_12, tq12_0, tq12_1, tq12_2, tq12_3, tq12_4, tq12_5, tq12_6, tq12_7, tq12_8, tq12_9, tq12_10, tq12_11, eq_self, xset_at, if_false, if_true]; unfold addD; rw [sup_row, sup_row, sup_ne (by decide), sup_ne (by decide), sup_ne (by decide)]
  · simp only [tq0_1, tq0_2, tq0_3, tq0_4, tq0_5, tq0_6, tq0_7, tq0_8, tq0_9, tq0_10, tq0_11, tq0_12, tq1_0, tq1_2, tq1_3, tq1_4, tq1_5, tq1_6, tq1_7, tq1_8, tq1_9, tq1_10, tq1_11, tq1_12, tq2_0, tq2_1, tq2_3, tq2_4, tq2_5, tq2_6, tq2_7, tq2_8, tq2_9, tq2_10, tq2_11, tq2_12, tq3_0, tq3_1, tq3_2, tq3_4, tq3_5, tq3_6, tq3_7, tq3_8, tq3_9, tq3_10, tq3_11, tq3_12, tq4_0, tq4_1, tq4_2, tq4_3, tq4_5, tq4_6, tq4_7, tq4_8, tq4_9, tq4_10, tq4_11, tq4_12, tq5_0, tq5_1, tq5_2, tq5_3, tq5_4, tq5_6, tq5_7, tq5_8, tq5_9, tq5_10, tq5_11, tq5_12, tq6_0, tq6_1, tq6_2, tq6_3, tq6_4, tq6_5, tq6_7, tq6_8, tq6_9, tq6_10, tq6_11, tq6_12, tq7_0, tq7_1, tq7_2, tq7_3, tq7_4, tq7_5, tq7_6, tq7_8, tq7_9, tq7_10, tq7_11, tq7_12, tq8_0, tq8_1, tq8_2, tq8_3, tq8_4, tq8_5, tq8_6, tq8_7, tq8_9, tq8_10, tq8_11, tq8_12, tq9_0, tq9_1, tq9_2, tq9_3, tq9_4, tq9_5, tq9_6, tq9_7, tq9_8, tq9_10, tq9_11, tq9_12, tq10_0, tq10_1, tq10_2, tq10_3, tq10_4, tq10_5, tq10_6, tq10_7, tq10_8, tq10_9, tq10_11, tq10_12, tq11_0, tq11_1, tq11_2, tq11_3, tq11_4, tq11_5, tq11_6, tq11_7, tq11_8, tq11_9, tq11_10, tq11_12, tq12_0, tq12_1, tq12_2, tq12_3, tq12_4, tq12_5, tq12_6, tq12_7, tq12_8, tq12_9, tq12_10, tq12_11, eq_self, xset_at, if_false]
  · simp only [tq0_1, tq0_2, tq0_3, tq0_4, tq0_5, tq0_6, tq0_7, tq0_8, tq0_9, tq0_10, tq0_11, tq0_12, tq1_0, tq1_2, tq1_3, tq1_4, tq1_5, tq1_6, tq1_7, tq1_8, tq1_9, tq1_10, tq1_11, tq1_12, tq2_0, tq2_1, tq2_3, tq2_4, tq2_5, tq2_6, tq2_7, tq2_8, tq2_9, tq2_10, tq2_11, tq2_12, tq3_0, tq3_1, tq3_2, tq3_4, tq3_5, tq3_6, tq3_7, tq3_8, tq3_9, tq3_10, tq3_11, tq3_12, tq4_0, tq4_1, tq4_2, tq4_3, tq4_5, tq4_6, tq4_7, tq4_8, tq4_9, tq4_10, tq4_11, tq4_12, tq5_0, tq5_1, tq5_2, tq5_3, tq5_4, tq5_6, tq5_7, tq5_8, tq5_9, tq5_10, tq5_11, tq5_12, tq6_0, tq6_1, tq6_2, tq6_3, tq6_4, tq6_5, tq6_7, tq6_8, tq6_9, tq6_10, tq6_11, tq6_12, tq7_0, tq7_1, tq7_2, tq7_3, tq7_4, tq7_5, tq7_6, tq7_8, tq7_9, tq7_10, tq7_11, tq7_12, tq8_0, tq8_1, tq8_2, tq8_3, tq8_4, tq8_5, tq8_6, tq8_7, tq8_9, tq8_10, tq8_11, tq8_12, tq9_0, tq9_1, tq9_2, tq9_3, tq9_4, tq9_5, tq9_6, tq9_7, tq9_8, tq9_10, tq9_11, tq9_12, tq10_0, tq10_1, tq10_2, tq10_3, tq10_4, tq10_5, tq10_6, tq10_7, tq10_8, tq10_9, tq10_11, tq10_12, tq11_0, tq11_1, tq11_2, tq11_3, tq11_4, tq11_5, tq11_6, tq11_7, tq11_8, tq11_9, tq11_10, tq11_12, tq12_0, tq12_1, tq12_2, tq12_3, tq12_4, tq12_5, tq12_6, tq12_7, tq12_8, tq12_9, tq12_10, tq12_11, eq_self, xset_at, if_false]
  · simp only [tq0_1, tq0_2, tq0_3, tq0_4, tq0_5, tq0_6, tq0_7, tq0_8, tq0_9, tq0_10, tq0_11, tq0_12, tq1_0, tq1_2, tq1_3, tq1_4, tq1_5, tq1_6, tq1_7, tq1_8, tq1_9, tq1_10, tq1_11, tq1_12, tq2_0, tq2_1, tq2_3, tq2_4, tq2_5, tq2_6, tq2_7, tq2_8, tq2_9, tq2_10, tq2_11, tq2_12, tq3_0, tq3_1, tq3_2, tq3_4, tq3_5, tq3_6, tq3_7, tq3_8, tq3_9, tq3_10, tq3_11, tq3_12, tq4_0, tq4_1, tq4_2, tq4_3, tq4_5, tq4_6, tq4_7, tq4_8, tq4_9, tq4_10, tq4_11, tq4_12, tq5_0, tq5_1, tq5_2, tq5_3, tq5_4, tq5_6, tq5_7, tq5_8, tq5_9, tq5_10, tq5_11, tq5_12, tq6_0, tq6_1, tq6_2, tq6_3, tq6_4, tq6_5, tq6_7, tq6_8, tq6_9, tq6_10, tq6_11, tq6_12, tq7_0, tq7_1, tq7_2, tq7_3, tq7_4, tq7_5, tq7_6, tq7_8, tq7_9, tq7_10, tq7_11, tq7_12, tq8_0, tq8_1, tq8_2, tq8_3, tq8_4, tq8_5, tq8_6, tq8_7, tq8_9, tq8_10, tq8_11, tq8_12, tq9_0, tq9_1, tq9_2, tq9_3, tq9_4, tq9_5, tq9_6, tq9_7, tq9_8, tq9_10, tq9_11, tq9_12, tq10_0, tq10_1, tq10_2, tq10_3, tq10_4, tq10_5, tq10_6, tq10_7, tq10_8, tq10_9, tq10_11, tq10_12, tq11_0, tq11_1, tq11_2, tq11_3, tq11_4, tq11_5, tq11_6, tq11_7, tq11_8, tq11_9, tq11_10, tq11_12, tq12_0, tq12_1, tq12_2, tq12_3, tq12_4, tq12_5, tq12_6, tq12_7, tq12_8, tq12_9, tq12_10, tq12_11, eq_self, xset_at, if_false]
  · simp only [tq0_1, tq0_2, tq0_3, tq0_4, tq0_5, tq0_6, tq0_7, tq0_8, tq0_9, tq0_10, tq0_11, tq0_12, tq1_0, tq1_2, tq1_3, tq1_4, tq1_5, tq1_6, tq1_7, tq1_8, tq1_9, tq1_10, tq1_11, tq1_12, tq2_0, tq2_1, tq2_3, tq2_4, tq2_5, tq2_6, tq2_7, tq2_8, tq2_9, tq2_10, tq2_11, tq2_12, tq3_0, tq3_1, tq3_2, tq3_4, tq3_5, tq3_6, tq3_7, tq3_8, tq3_9, tq3_10, tq3_11, tq3_12, tq4_0, tq4_1, tq4_2, tq4_3, tq4_5, tq4_6, tq4_7, tq4_8, tq4_9, tq4_10, tq4_11, tq4_12, tq5_0, tq5_1, tq5_2, tq5_3, tq5_4, tq5_6, tq5_7, tq5_8, tq5_9, tq5_10, tq5_11, tq5_12, tq6_0, tq6_1, tq6_2, tq6_3, tq6_4, tq6_5, tq6_7, tq6_8, tq6_9, tq6_10, tq6_11, tq6_12, tq7_0, tq7_1, tq7_2, tq7_3, tq7_4, tq7_5, tq7_6, tq7_8, tq7_9, tq7_10, tq7_11, tq7_12, tq8_0, tq8_1, tq8_2, tq8_3, tq8_4, tq8_5, tq8_6, tq8_7, tq8_9, tq8_10, tq8_11, tq8_12, tq9_0, tq9_1, tq9_2, tq9_3, tq9_4, tq9_5, tq9_6, tq9_7, tq9_8, tq9_10, tq9_11, tq9_12, tq10_0, tq10_1, tq10_2, tq10_3, tq10_4, tq10_5, tq10_6, tq10_7, tq10_8, tq10_9, tq10_11, tq10_12, tq11_0, tq11_1, tq11_2, tq11_3, tq11_4, tq11_5, tq11_6, tq11_7, tq11_8, tq11_9, tq11_10, tq11_12, tq12_0, tq12_1, tq12_2, tq12_3, tq12_4, tq12_5, tq12_6, tq12_7, tq12_8, tq12_9, tq12_10, tq12_11, eq_self, xset_at, if_false]
  · simp only [tq0_1, tq0_2, tq0_3, tq0_4, tq0_5, tq0_6, tq0_7, tq0_8, tq0_9, tq0_10, tq0_11, tq0_12, tq1_0, tq1_2, tq1_3, tq1_4, tq1_5, tq1_6, tq1_7, tq1_8, tq1_9, tq1_10, tq1_11, tq1_12, tq2_0, tq2_1, tq2_3, tq2_4, tq2_5, tq2_6, tq2_7, tq2_8, tq2_9, tq2_10, tq2_11, tq2_12, tq3_0, tq3_1, tq3_2, tq3_4, tq3_5, tq3_6, tq3_7, tq3_8, tq3_9, tq3_10, tq3_11, tq3_12, tq4_0, tq4_1, tq4_2, tq4_3, tq4_5, tq4_6, tq4_7, tq4_8, tq4_9, tq4_10, tq4_11, tq4_12, tq5_0, tq5_1, tq5_2, tq5_3, tq5_4, tq5_6, tq5_7, tq5_8, tq5_9, tq5_10, tq5_11, tq5_12, tq6_0, tq6_1, tq6_2, tq6_3, tq6_4, tq6_5, tq6_7, tq6_8, tq6_9, tq6_10, tq6_11, tq6_12, tq7_0, tq7_1, tq7_2, tq7_3, tq7_4, tq7_5, tq7_6, tq7_8, tq7_9, tq7_10, tq7_11, tq7_12, tq8_0, tq8_1, tq8_2, tq8_3, tq8_4, tq8_5, tq8_6, tq8_7, tq8_9, tq8_10, tq8_11, tq8_12, tq9_0, tq9_1, tq9_2, tq9_3, tq9_4, tq9_5, tq9_6, tq9_7, tq9_8, tq9_10, tq9_11, tq9_12, tq10_0, tq10_1, tq10_2, tq10_3, tq10_4, tq10_5, tq10_6, tq10_7, tq10_8, tq10_9, tq10_11, tq10_12, tq11_0, tq11_1, tq11_2, tq11_3, tq11_4, tq11_5, tq11_6, tq11_7, tq11_8, tq11_9, tq11_10, tq11_12, tq12_0, tq12_1, tq12_2, tq12_3, tq12_4, tq12_5, tq12_6, tq12_7, tq12_8, tq12_9, tq12_10, tq12_11, eq_self, xset_at, if_false]
theorem c_addDoorF (R : RT Dy h.2.2.1 t n T p s) (h0 : n 1 = 12) : XC (d + 1) 57 [.ref t, .int x, .int y] h Q ↔ Q (some (.int (-1000000003))) h := by
  have hlt : ¬ nI (n 1) < 12 := by rw [h0]; decide
  rw [e57]
  simp only [s57_0, s57_1, s57_4, s57_6, s57_9, s57_11, s57_12, s57_13, s57_16, s57_17, s57_20, s57_21, s57_22, s57_23, s57_26, s57_27, s57_30, s57_31, s57_32, s57_33, s57_36, s57_37, s57_40, s57_41, s57_42, s57_43, s57_46, s57_47, s57_48, s57_51, s57_52, s57_54, s57_55, s57_56, s57_59, s57_60, s57_61, s57_64, s57_65, s57_66, s57_67, s57_69, s57_70, s57_71, s57_71r, s57_72, s57_75, s57_76, s57_77, s57_80, s57_81, s57_84, s57_85, s57_86, R.o, tf1, XG_1, XO_some, XV_1, xo_n, xo_i8, xo_r8, xo_i7, xo_r7, xo_i6, xo_r6, xo_i5, xo_r5, xo_i4, xo_r4, xo_i3, xo_r3, xo_i2, xo_r2, Option.toList_some, Option.toList_none, List.cons_append, List.nil_append, bI_t, bI_f, bI_0, bI_n0, if_true, if_false, true_and, and_true, ne_eq, not_true_eq_false, not_false_eq_true, one_ne0, reduceCtorEq, hlt]
end TM6
