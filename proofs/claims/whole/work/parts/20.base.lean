/-! ===== 20: numbers, the state, small methods ===== -/
theorem bI_t : bI true = 1 := rfl
theorem bI_f : bI false = 0 := rfl
theorem bI_0 {q : Bool} : (bI q = 0) = (q = false) := by cases q <;> simp [bI]
theorem bI_n0 {q : Bool} : (bI q = 1) = (q = true) := by cases q <;> simp [bI]
theorem one_ne0 : ((1 : Int32) = 0) = False := by simp
theorem XV_1 {c m : Nat} {fs : List Value} {F : Nat → Prop} : XV [(c, m)] (.inr (c, fs)) F ↔ F m := by
  unfold XV xvm; dsimp only; rw [if_pos rfl]
abbrev NONE : Int32 := -1000000005
abbrev BAD : Int32 := -1000000001
theorem xin_nI {j N : Nat} (h : j < N) (hN : N < 2 ^ 31) : xin (nI j) N := ⟨nI_pos' (Nat.lt_trans h hN), by rw [nI_clamp (Nat.lt_trans h hN)]; exact h⟩
/-- a read of a row of ints -/
theorem XA_n {ka j N : Nat} {ks : List Nat} {f : Nat → Int32} {F : Int32 → Prop} (hk : ka ∈ ks) (hj : j < N) (hN : N < 2 ^ 31) : XA ks (.inl (ka, xis N f)) (nI j) F ↔ F (f j) := by
  rw [XA_i hk (xin_nI hj hN), nI_clamp (Nat.lt_trans hj hN)]
theorem XA_0 {j N : Nat} {f : Nat → Int32} {F : Int32 → Prop} (hj : j < N) (hN : N < 2 ^ 31) : XA [0, 7] (.inl (0, xis N f)) (nI j) F ↔ F (f j) := XA_n (by decide) hj hN
theorem XS_0 {j N : Nat} {f : Nat → Int32} {x : Int32} {F : va_E → Prop} (hj : j < N) (hN : N < 2 ^ 31) : XS 0 (.inl (0, xis N f)) (nI j) x F ↔ F (.inl (0, xis N (upd f j x))) := by
  unfold XS
  dsimp only
  rw [nI_clamp (Nat.lt_trans hj hN)]
  exact ⟨fun q => q.2, fun q => ⟨⟨rfl, xin_nI hj hN, fun w => absurd w (by decide), fun w => absurd w (by decide)⟩, q⟩⟩
theorem XL_0 {N : Nat} {f : Nat → Int32} {F : Int32 → Prop} : XL (.inl (0, xis N f)) F ↔ F (nI N) := XL_i (by decide)
theorem xset_at {h : xH} {a b : Nat} {e : va_E} : (xset h a e).2.2.1 b = if b = a then e else h.2.2.1 b := rfl
theorem xset_self {h : xH} {a : Nat} {e : va_E} : (xset h a e).2.2.1 a = e := by rw [xset_at, if_pos rfl]
theorem xset_ne {h : xH} {a b : Nat} {e : va_E} (hn : b ≠ a) : (xset h a e).2.2.1 b = h.2.2.1 b := by rw [xset_at, if_neg hn]
theorem xset_1 {h : xH} {a : Nat} {e : va_E} : (xset h a e).1 = h.1 := rfl
theorem xset_2 {h : xH} {a : Nat} {e : va_E} : (xset h a e).2.1 = h.2.1 := rfl
theorem xset_4 {h : xH} {a : Nat} {e : va_E} : (xset h a e).2.2.2 = h.2.2.2 := rfl
theorem xset_twice {h : xH} {a : Nat} {e f : va_E} : xset (xset h a e) a f = xset h a f := by
  unfold xset va_up
  dsimp only
  congr 3
  funext j
  by_cases hj : j = a <;> simp [hj]
/-- a number of things there are k of -/
def isI (x : Int32) (k : Nat) : Bool := decide (¬ x < 0) && decide (x < nI k)
def wiB (v lo hi : Int32) : Bool := decide (¬ v < lo) && decide (¬ hi < v)
theorem isI_t {x : Int32} {k : Nat} (h : isI x k = true) (hk : k < 2 ^ 31) : ∃ j, j < k ∧ x = nI j := by
  unfold isI at h
  simp only [Bool.and_eq_true, decide_eq_true_eq] at h
  rcases pk_ix x hk with h1 | h1 | h1
  · exact absurd h1 h.1
  · exact absurd h.2 (Int32.not_lt.mpr h1)
  · exact h1
theorem isI_n {j k : Nat} (hj : j < k) (hk : k < 2 ^ 31) : isI (nI j) k = true := by
  unfold isI
  simp only [Bool.and_eq_true, decide_eq_true_eq]
  exact ⟨nI_pos (Nat.lt_trans hj hk), nI_lt hj hk⟩
theorem isI_f {j k : Nat} (hj : k ≤ j) (hk : j < 2 ^ 31) : isI (nI j) k = false := by
  unfold isI
  simp only [Bool.and_eq_false_iff, decide_eq_false_iff_not]
  exact Or.inr (nI_nlt hj hk)
theorem isI_NONE {k : Nat} : isI NONE k = false := by
  unfold isI
  simp only [Bool.and_eq_false_iff, decide_eq_false_iff_not]
  exact Or.inl (by decide)
theorem isI_m1 {k : Nat} : isI (-1) k = false := by
  unfold isI
  simp only [Bool.and_eq_false_iff, decide_eq_false_iff_not]
  exact Or.inl (by decide)
theorem wiB_isI {x : Int32} {k : Nat} (hk : k < 2 ^ 30) : wiB x 0 (nI k - 1) = isI x k := by
  unfold wiB isI
  congr 1
  have h1 : (nI k - 1).toInt = (k : Int) - 1 := pk_sub_toInt hk (by decide : 1 < 2 ^ 30)
  have h2 : (nI k).toInt = k := nI_toInt (by omega)
  have : (¬ nI k - 1 < x) ↔ x < nI k := by
    rw [Int32.lt_iff_toInt_lt, Int32.lt_iff_toInt_lt, h1, h2]
    omega
  exact decide_eq_decide.mpr this
def sup (T : Nat → Nat → Int32) (i j : Nat) (v : Int32) : Nat → Nat → Int32 := fun a b => if a = i ∧ b = j then v else T a b
theorem sup_row {T : Nat → Nat → Int32} {i j : Nat} {v : Int32} : sup T i j v i = upd (T i) j v := by
  funext b
  by_cases hb : b = j <;> simp [sup, upd, hb]
theorem sup_ne {T : Nat → Nat → Int32} {i j k : Nat} {v : Int32} (h : k ≠ i) : sup T i j v k = T k := by
  funext b
  simp [sup, h]
theorem sup_at {T : Nat → Nat → Int32} {i j : Nat} {v : Int32} : sup T i j v i j = v := by simp [sup]
theorem upd_at {f : Nat → Int32} {j : Nat} {v : Int32} : upd f j v j = v := by simp [upd]
theorem upd_ne {f : Nat → Int32} {j k : Nat} {v : Int32} (h : k ≠ j) : upd f j v k = f k := by simp [upd, h]
/-- a town's fields -/
def townF (t : Nat) (n : Nat → Nat) (T : Nat → Nat → Int32) : List Value := [.int (nI (n 0)), .int (nI (n 1)), .int (nI (n 2)), .int (nI (n 3)), .int (T 0 4), .int (T 0 5), .int (T 0 6), .int (T 0 7), .ref (t + 1), .ref (t + 2), .ref (t + 3), .ref (t + 4), .ref (t + 5), .ref (t + 6), .ref (t + 7), .ref (t + 8), .ref (t + 9), .ref (t + 10), .ref (t + 11), .ref (t + 12)]
section TF
variable {t : Nat} {n : Nat → Nat} {T : Nat → Nat → Int32} {v : Int32} {k : Nat}
theorem tf0 : (townF t n T)[0]? = some (.int (nI (n 0))) := rfl
theorem tf1 : (townF t n T)[1]? = some (.int (nI (n 1))) := rfl
theorem tf2 : (townF t n T)[2]? = some (.int (nI (n 2))) := rfl
theorem tf3 : (townF t n T)[3]? = some (.int (nI (n 3))) := rfl
theorem tf4 : (townF t n T)[4]? = some (.int (T 0 4)) := rfl
theorem tf5 : (townF t n T)[5]? = some (.int (T 0 5)) := rfl
theorem tf6 : (townF t n T)[6]? = some (.int (T 0 6)) := rfl
theorem tf7 : (townF t n T)[7]? = some (.int (T 0 7)) := rfl
theorem tf8 : (townF t n T)[8]? = some (.ref (t + 1)) := rfl
theorem tf9 : (townF t n T)[9]? = some (.ref (t + 2)) := rfl
theorem tf10 : (townF t n T)[10]? = some (.ref (t + 3)) := rfl
theorem tf11 : (townF t n T)[11]? = some (.ref (t + 4)) := rfl
theorem tf12 : (townF t n T)[12]? = some (.ref (t + 5)) := rfl
theorem tf13 : (townF t n T)[13]? = some (.ref (t + 6)) := rfl
theorem tf14 : (townF t n T)[14]? = some (.ref (t + 7)) := rfl
theorem tf15 : (townF t n T)[15]? = some (.ref (t + 8)) := rfl
theorem tf16 : (townF t n T)[16]? = some (.ref (t + 9)) := rfl
theorem tf17 : (townF t n T)[17]? = some (.ref (t + 10)) := rfl
theorem tf18 : (townF t n T)[18]? = some (.ref (t + 11)) := rfl
theorem tf19 : (townF t n T)[19]? = some (.ref (t + 12)) := rfl
theorem tfL : (townF t n T).length = 20 := rfl
theorem ts0 : (townF t n T).set 0 (.int (nI k)) = townF t (va_up n 0 k) T := by simp [townF, va_up]
theorem ts1 : (townF t n T).set 1 (.int (nI k)) = townF t (va_up n 1 k) T := by simp [townF, va_up]
theorem ts2 : (townF t n T).set 2 (.int (nI k)) = townF t (va_up n 2 k) T := by simp [townF, va_up]
theorem ts3 : (townF t n T).set 3 (.int (nI k)) = townF t (va_up n 3 k) T := by simp [townF, va_up]
theorem ts4 : (townF t n T).set 4 (.int v) = townF t n (sup T 0 4 v) := by simp [townF, sup]
theorem ts5 : (townF t n T).set 5 (.int v) = townF t n (sup T 0 5 v) := by simp [townF, sup]
theorem ts6 : (townF t n T).set 6 (.int v) = townF t n (sup T 0 6 v) := by simp [townF, sup]
theorem ts7 : (townF t n T).set 7 (.int v) = townF t n (sup T 0 7 v) := by simp [townF, sup]
end TF
-- small static methods
section SM
variable {d : Nat} {h : xH} {Q : Option Value → xH → Prop} {x y z : Int32}
theorem c_within : XC (d + 1) 123 [.int x, .int y, .int z] h Q ↔ Q (some (.int (bI (wiB x y z)))) h := by
  rw [e123]
  simp only [s123_0, s123_1, s123_2, s123_5, s123_6, s123_7, s123_10, s123_11, s123_14, s123_15, s123_15t, s123_15b]
  unfold wiB
  by_cases h1 : x < y
  · simp only [h1, if_true, not_true_eq_false, decide_false, Bool.false_and, bI_f]
  · by_cases h2 : z < x
    · simp only [h1, h2, if_true, if_false, not_true_eq_false, not_false_eq_true, decide_false, decide_true, Bool.and_false, bI_f]
    · simp only [h1, h2, if_false, not_false_eq_true, decide_true, Bool.and_self, bI_t]
theorem c_in : XC (d + 1) 132 [.int x, .int y, .int z] h Q ↔ Q (some (.int (bI (wiB x y z)))) h := by
  rw [e132]
  simp only [s132_0, s132_1, s132_2, s132_5, s132_6, s132_7, s132_10, s132_11, s132_14, s132_15, s132_15t, s132_15b]
  unfold wiB
  by_cases h1 : x < y
  · simp only [h1, if_true, not_true_eq_false, decide_false, Bool.false_and, bI_f]
  · by_cases h2 : z < x
    · simp only [h1, h2, if_true, if_false, not_true_eq_false, not_false_eq_true, decide_false, decide_true, Bool.and_false, bI_f]
    · simp only [h1, h2, if_false, not_false_eq_true, decide_true, Bool.and_self, bI_t]
def hld (v lo hi : Int32) : Int32 := if v < lo then lo else if hi < v then hi else v
theorem c_within2 : XC (d + 1) 133 [.int x, .int y, .int z] h Q ↔ Q (some (.int (hld x y z))) h := by
  rw [e133]
  simp only [s133_0, s133_1, s133_2, s133_5, s133_6, s133_9, s133_10, s133_11, s133_14, s133_15, s133_18, s133_19]
  unfold hld
  by_cases h1 : x < y
  · simp only [h1, if_true]
  · by_cases h2 : z < x
    · simp only [h1, h2, if_true, if_false]
    · simp only [h1, h2, if_false]
theorem c_held (hyz : ¬ z < y) : XC (d + 1) 124 [.int x, .int y, .int z] h Q ↔ Q (some (.int (hld x y z))) h := by
  rw [e124]
  simp (disch := first | with_unfolding_all rfl | omega) only [s124_0, s124_1, s124_2, s124_3, s124_6, s124_9, XG_1, XO_some, XV_1, xo_n, xo_i8, xo_r8, xo_i7, xo_r7, xo_i6, xo_r6, xo_i5, xo_r5, xo_i4, xo_r4, xo_i3, xo_r3, xo_i2, xo_r2, Option.toList_some, Option.toList_none, List.cons_append, List.nil_append, bI_t, bI_f, bI_0, bI_n0, if_true, if_false, true_and, and_true, ne_eq, not_true_eq_false, not_false_eq_true, one_ne0, reduceCtorEq]
  have : (if y < (if x < z then x else z) then (if x < z then x else z) else y) = hld x y z := by
    unfold hld
    simp only [Int32.lt_iff_toInt_lt] at *
    split <;> split <;> split <;> first | with_unfolding_all rfl | omega | (split <;> first | with_unfolding_all rfl | omega | (apply Int32.toInt_inj.mp; omega))
  rw [this]
theorem c_isKind : XC (d + 2) 125 [.int x] h Q ↔ Q (some (.int (bI (wiB x 0 5)))) h := by
  rw [e125]
  simp (disch := first | with_unfolding_all rfl | omega) only [s125_0, s125_1, s125_2, s125_3, s125_6, s125_6t, s125_6b, c_within, XG_1, XO_some, XV_1, xo_n, xo_i8, xo_r8, xo_i7, xo_r7, xo_i6, xo_r6, xo_i5, xo_r5, xo_i4, xo_r4, xo_i3, xo_r3, xo_i2, xo_r2, Option.toList_some, Option.toList_none, List.cons_append, List.nil_append, bI_t, bI_f, bI_0, bI_n0, if_true, if_false, true_and, and_true, ne_eq, not_true_eq_false, not_false_eq_true, one_ne0, reduceCtorEq]
theorem c_told0 : XC (d + 1) 135 [.int x] h Q ↔ Q (some (.int (if x < 0 then NONE else x))) h := by
  rw [e135]
  simp only [s135_0, s135_1, s135_4, s135_6, s135_9, s135_10]
  split <;> rfl
end SM
