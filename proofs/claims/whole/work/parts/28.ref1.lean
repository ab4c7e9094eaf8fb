/-! ===== 28: the reference: reading ===== -/
def modelF (r : Nat) (m : Nat → Int32) : List Value := [.ref (r + 1), .ref (r + 2), .ref (r + 3), .int (m 3), .ref (r + 4), .int (m 5), .int (m 6), .int (m 7), .int (m 8), .int (m 9), .int (m 10), .int (m 11), .ref (r + 5), .ref (r + 6), .ref (r + 7), .int (m 15), .int (m 16), .ref (r + 8), .int (m 18), .ref (r + 9), .ref (r + 10), .ref (r + 11), .ref (r + 12), .ref (r + 13), .ref (r + 14), .ref (r + 15), .ref (r + 16), .ref (r + 17), .ref (r + 18), .ref (r + 19), .ref (r + 20), .int (m 31)]
section MF
variable {r : Nat} {m : Nat → Int32} {v : Int32}
theorem mf0 : (modelF r m)[0]? = some (.ref (r + 1)) := rfl
theorem mf1 : (modelF r m)[1]? = some (.ref (r + 2)) := rfl
theorem mf2 : (modelF r m)[2]? = some (.ref (r + 3)) := rfl
theorem mf3 : (modelF r m)[3]? = some (.int (m 3)) := rfl
theorem ms3 : (modelF r m).set 3 (.int v) = modelF r (upd m 3 v) := by simp [modelF, upd]
theorem mf4 : (modelF r m)[4]? = some (.ref (r + 4)) := rfl
theorem mf5 : (modelF r m)[5]? = some (.int (m 5)) := rfl
theorem ms5 : (modelF r m).set 5 (.int v) = modelF r (upd m 5 v) := by simp [modelF, upd]
theorem mf6 : (modelF r m)[6]? = some (.int (m 6)) := rfl
theorem ms6 : (modelF r m).set 6 (.int v) = modelF r (upd m 6 v) := by simp [modelF, upd]
theorem mf7 : (modelF r m)[7]? = some (.int (m 7)) := rfl
theorem ms7 : (modelF r m).set 7 (.int v) = modelF r (upd m 7 v) := by simp [modelF, upd]
theorem mf8 : (modelF r m)[8]? = some (.int (m 8)) := rfl
theorem ms8 : (modelF r m).set 8 (.int v) = modelF r (upd m 8 v) := by simp [modelF, upd]
theorem mf9 : (modelF r m)[9]? = some (.int (m 9)) := rfl
theorem ms9 : (modelF r m).set 9 (.int v) = modelF r (upd m 9 v) := by simp [modelF, upd]
theorem mf10 : (modelF r m)[10]? = some (.int (m 10)) := rfl
theorem ms10 : (modelF r m).set 10 (.int v) = modelF r (upd m 10 v) := by simp [modelF, upd]
theorem mf11 : (modelF r m)[11]? = some (.int (m 11)) := rfl
theorem ms11 : (modelF r m).set 11 (.int v) = modelF r (upd m 11 v) := by simp [modelF, upd]
theorem mf12 : (modelF r m)[12]? = some (.ref (r + 5)) := rfl
theorem mf13 : (modelF r m)[13]? = some (.ref (r + 6)) := rfl
theorem mf14 : (modelF r m)[14]? = some (.ref (r + 7)) := rfl
theorem mf15 : (modelF r m)[15]? = some (.int (m 15)) := rfl
theorem ms15 : (modelF r m).set 15 (.int v) = modelF r (upd m 15 v) := by simp [modelF, upd]
theorem mf16 : (modelF r m)[16]? = some (.int (m 16)) := rfl
theorem ms16 : (modelF r m).set 16 (.int v) = modelF r (upd m 16 v) := by simp [modelF, upd]
theorem mf17 : (modelF r m)[17]? = some (.ref (r + 8)) := rfl
theorem mf18 : (modelF r m)[18]? = some (.int (m 18)) := rfl
theorem ms18 : (modelF r m).set 18 (.int v) = modelF r (upd m 18 v) := by simp [modelF, upd]
theorem mf19 : (modelF r m)[19]? = some (.ref (r + 9)) := rfl
theorem mf20 : (modelF r m)[20]? = some (.ref (r + 10)) := rfl
theorem mf21 : (modelF r m)[21]? = some (.ref (r + 11)) := rfl
theorem mf22 : (modelF r m)[22]? = some (.ref (r + 12)) := rfl
theorem mf23 : (modelF r m)[23]? = some (.ref (r + 13)) := rfl
theorem mf24 : (modelF r m)[24]? = some (.ref (r + 14)) := rfl
theorem mf25 : (modelF r m)[25]? = some (.ref (r + 15)) := rfl
theorem mf26 : (modelF r m)[26]? = some (.ref (r + 16)) := rfl
theorem mf27 : (modelF r m)[27]? = some (.ref (r + 17)) := rfl
theorem mf28 : (modelF r m)[28]? = some (.ref (r + 18)) := rfl
theorem mf29 : (modelF r m)[29]? = some (.ref (r + 19)) := rfl
theorem mf30 : (modelF r m)[30]? = some (.ref (r + 20)) := rfl
theorem mf31 : (modelF r m)[31]? = some (.int (m 31)) := rfl
theorem ms31 : (modelF r m).set 31 (.int v) = modelF r (upd m 31 v) := by simp [modelF, upd]
theorem mfL : (modelF r m).length = 32 := rfl
end MF
def benc (x : Int32) : Int32 := if x = NONE then -1 else x
def MR (n : Nat → Nat) (T : Nat → Nat → Int32) (f : Nat → Int32) : Prop := (f 0 = T 0 7 ∧ f 1 = nI (n 0) ∧ f 2 = nI (n 1) ∧ f 3 = nI (n 2) ∧ f 4 = T 0 5 ∧ f 5 = T 0 6 ∧ f 6 = T 0 4 ∧ f 7 = nI (n 3)) ∧ (∀ i, i < 10 → f (8 + 3 * i) = T 1 i ∧ f (8 + 3 * i + 1) = T 2 i ∧ f (8 + 3 * i + 2) = T 3 i) ∧ (∀ i, i < 12 → f (38 + 5 * i) = T 4 i ∧ f (38 + 5 * i + 1) = T 5 i ∧ f (38 + 5 * i + 2) = T 6 i ∧ f (38 + 5 * i + 3) = benc (T 7 (2 * i)) ∧ f (38 + 5 * i + 4) = benc (T 7 (2 * i + 1))) ∧
  (∀ i, i < n 2 → f (98 + 2 * i) = T 8 i ∧ f (98 + 2 * i + 1) = T 9 i) ∧ (∀ i, i < n 3 → f (110 + 2 * i) = 1000 * T 10 i + T 12 i ∧ f (110 + 2 * i + 1) = T 11 i) ∧ ∀ k, k < 1344 → f (138 + k) = T 13 k
def RM (c : Nat → va_E) (r : Nat) (m f w g : Nat → Int32) : Prop := c r = .inr (12, modelF r m) ∧ c (r + 1) = .inl (0, xis 1482 f) ∧ c (r + 10) = .inl (0, xis 96 w) ∧ c (r + 11) = .inl (0, xis 4 g)
abbrev Pf (r : Nat) : Nat → Prop := fun a => a = r + 10 ∨ a = r + 11
theorem lA {a b : Nat} : nI a + nI b = nI (a + b) := nI_add a b
theorem i8 {k : Nat} : (8 : Int32) + nI k = nI (8 + k) := nI_add 8 k
theorem i3 {k : Nat} : (3 : Int32) + nI k = nI (3 + k) := nI_add 3 k
theorem i38 {k : Nat} : (38 : Int32) + nI k = nI (38 + k) := nI_add 38 k
theorem i98 {k : Nat} : (98 : Int32) + nI k = nI (98 + k) := nI_add 98 k
theorem i110 {k : Nat} : (110 : Int32) + nI k = nI (110 + k) := nI_add 110 k
theorem i138 {k : Nat} : (138 : Int32) + nI k = nI (138 + k) := nI_add 138 k
theorem p2 {k : Nat} : nI k + 2 = nI (k + 2) := nI_add k 2
theorem p3 {k : Nat} : nI k + 3 = nI (k + 3) := nI_add k 3
theorem p4 {k : Nat} : nI k + 4 = nI (k + 4) := nI_add k 4
theorem p0 {k : Nat} : nI k + 0 = nI k := by rw [Int32.add_zero]
theorem m3 {k : Nat} : (3 : Int32) * nI k = nI (3 * k) := pk_mul 3 k
theorem m5 {k : Nat} : (5 : Int32) * nI k = nI (5 * k) := pk_mul 5 k
theorem m96 {k : Nat} : (96 : Int32) * nI k = nI (96 * k) := pk_mul 96 k
theorem m24 {k : Nat} : (24 : Int32) * nI k = nI (24 * k) := pk_mul 24 k
section XAl
variable {f : Nat → Int32} {x : Int32} {F : Int32 → Prop} {G : va_E → Prop}
theorem A0 : XA [0, 7] (.inl (0, xis 1482 f)) 0 F ↔ F (f 0) := XAm (j := 0) (by decide)
theorem A1 : XA [0, 7] (.inl (0, xis 1482 f)) 1 F ↔ F (f 1) := XAm (j := 1) (by decide)
theorem A2 : XA [0, 7] (.inl (0, xis 1482 f)) 2 F ↔ F (f 2) := XAm (j := 2) (by decide)
theorem A3 : XA [0, 7] (.inl (0, xis 1482 f)) 3 F ↔ F (f 3) := XAm (j := 3) (by decide)
theorem A4 : XA [0, 7] (.inl (0, xis 1482 f)) 4 F ↔ F (f 4) := XAm (j := 4) (by decide)
theorem A5 : XA [0, 7] (.inl (0, xis 1482 f)) 5 F ↔ F (f 5) := XAm (j := 5) (by decide)
theorem A6 : XA [0, 7] (.inl (0, xis 1482 f)) 6 F ↔ F (f 6) := XAm (j := 6) (by decide)
theorem A7 : XA [0, 7] (.inl (0, xis 1482 f)) 7 F ↔ F (f 7) := XAm (j := 7) (by decide)
theorem S0 : XS 0 (.inl (0, xis 1482 f)) 0 x G ↔ G (.inl (0, xis 1482 (upd f 0 x))) := XSm (j := 0) (by decide)
theorem S1 : XS 0 (.inl (0, xis 1482 f)) 1 x G ↔ G (.inl (0, xis 1482 (upd f 1 x))) := XSm (j := 1) (by decide)
theorem S2 : XS 0 (.inl (0, xis 1482 f)) 2 x G ↔ G (.inl (0, xis 1482 (upd f 2 x))) := XSm (j := 2) (by decide)
theorem S3 : XS 0 (.inl (0, xis 1482 f)) 3 x G ↔ G (.inl (0, xis 1482 (upd f 3 x))) := XSm (j := 3) (by decide)
theorem S4 : XS 0 (.inl (0, xis 1482 f)) 4 x G ↔ G (.inl (0, xis 1482 (upd f 4 x))) := XSm (j := 4) (by decide)
theorem S5 : XS 0 (.inl (0, xis 1482 f)) 5 x G ↔ G (.inl (0, xis 1482 (upd f 5 x))) := XSm (j := 5) (by decide)
theorem S6 : XS 0 (.inl (0, xis 1482 f)) 6 x G ↔ G (.inl (0, xis 1482 (upd f 6 x))) := XSm (j := 6) (by decide)
theorem S7 : XS 0 (.inl (0, xis 1482 f)) 7 x G ↔ G (.inl (0, xis 1482 (upd f 7 x))) := XSm (j := 7) (by decide)
theorem F0s : XS 0 (.inl (0, xis 4 f)) 0 x G ↔ G (.inl (0, xis 4 (upd f 0 x))) := XS4 (j := 0) (by decide)
theorem F1s : XS 0 (.inl (0, xis 4 f)) 1 x G ↔ G (.inl (0, xis 4 (upd f 1 x))) := XS4 (j := 1) (by decide)
theorem F2s : XS 0 (.inl (0, xis 4 f)) 2 x G ↔ G (.inl (0, xis 4 (upd f 2 x))) := XS4 (j := 2) (by decide)
theorem F3s : XS 0 (.inl (0, xis 4 f)) 3 x G ↔ G (.inl (0, xis 4 (upd f 3 x))) := XS4 (j := 3) (by decide)
theorem W0 : XA [0, 7] (.inl (0, xis 96 f)) 0 F ↔ F (f 0) := XA96 (j := 0) (by decide)
end XAl
theorem benc_eq {x : Int32} {i : Nat} (hi : i < 2 ^ 31) : (benc x = nI i) = (x = nI i) := by
  unfold benc
  split
  next e =>
    rw [e]
    refine propext ⟨fun q => absurd ?_ (nI_pos hi), fun q => absurd ?_ (nI_pos hi)⟩
    · rw [← q]; decide
    · rw [← q]; decide
  next => rfl
theorem benc_neg {x : Int32} {k : Nat} (h : x = NONE ∨ ∃ j, j < k ∧ x = nI j) (hk : k < 2 ^ 31) : (benc x < 0 ∧ x = NONE ∧ isI x k = false) ∨ ∃ j, j < k ∧ x = nI j ∧ ¬ benc x < 0 ∧ benc x = nI j ∧ isI x k = true := by
  rcases h with rfl | ⟨j, hj, rfl⟩
  · exact Or.inl ⟨by decide, rfl, isI_NONE⟩
  · refine Or.inr ⟨j, hj, rfl, ?_⟩
    have hb : benc (nI j) = nI j := by unfold benc; rw [if_neg (by rw [nI_NONE (by omega)]; exact id)]
    rw [hb]
    exact ⟨nI_pos (by omega), rfl, isI_n hj hk⟩
theorem and1 (x : Int32) : x &&& 1 = 0 ∨ x &&& 1 = 1 := by
  obtain ⟨j, hj, e⟩ := pk_andE x (m := 1) 1 (by decide)
  rcases (show j = 0 ∨ j = 1 by omega) with rfl | rfl
  · exact Or.inl e
  · exact Or.inr e
section RR
variable {Dy d : Nat} {h h1 : xH} {r : Nat} {m f w g : Nat → Int32} {n : Nat → Nat} {T : Nat → Nat → Int32} {Q : Option Value → xH → Prop} {x y z : Int32}
theorem r_isHouse (R : RM h.2.2.1 r m f w g) (M : MR n T f) (I : IV n T) : XC (d + 2) 136 [.ref r, .int x] h Q ↔ Q (some (.int (bI (isI x (n 0))))) h := by
  have hn := I.nn
  rw [e136]
  simp only [s136_0, s136_1, s136_2, s136_3, s136_6, s136_7, s136_8, s136_9, s136_10, s136_13, s136_13t, s136_13b, R.1, R.2.1, mf0, XG_1, XO_some, XV_1, xo_n, xo_i8, xo_r8, xo_i7, xo_r7, xo_i6, xo_r6, xo_i5, xo_r5, xo_i4, xo_r4, xo_i3, xo_r3, xo_i2, xo_r2, Option.toList_some, Option.toList_none, List.cons_append, List.nil_append, bI_t, bI_f, bI_0, bI_n0, if_true, if_false, true_and, and_true, ne_eq, not_true_eq_false, not_false_eq_true, one_ne0, reduceCtorEq, A1, M.1.2.1, c_in, wiB_isI (show n 0 < 2 ^ 30 by omega)]
theorem r_isDoor (R : RM h.2.2.1 r m f w g) (M : MR n T f) (I : IV n T) : XC (d + 2) 137 [.ref r, .int x] h Q ↔ Q (some (.int (bI (isI x (n 1))))) h := by
  have hn := I.nn
  rw [e137]
  simp only [s137_0, s137_1, s137_2, s137_3, s137_6, s137_7, s137_8, s137_9, s137_10, s137_13, s137_13t, s137_13b, R.1, R.2.1, mf0, XG_1, XO_some, XV_1, xo_n, xo_i8, xo_r8, xo_i7, xo_r7, xo_i6, xo_r6, xo_i5, xo_r5, xo_i4, xo_r4, xo_i3, xo_r3, xo_i2, xo_r2, Option.toList_some, Option.toList_none, List.cons_append, List.nil_append, bI_t, bI_f, bI_0, bI_n0, if_true, if_false, true_and, and_true, ne_eq, not_true_eq_false, not_false_eq_true, one_ne0, reduceCtorEq, A2, M.1.2.2.1, c_in, wiB_isI (show n 1 < 2 ^ 30 by omega)]
theorem r_isThief (R : RM h.2.2.1 r m f w g) (M : MR n T f) (I : IV n T) : XC (d + 2) 138 [.ref r, .int x] h Q ↔ Q (some (.int (bI (isI x (n 2))))) h := by
  have hn := I.nn
  rw [e138]
  simp only [s138_0, s138_1, s138_2, s138_3, s138_6, s138_7, s138_8, s138_9, s138_10, s138_13, s138_13t, s138_13b, R.1, R.2.1, mf0, XG_1, XO_some, XV_1, xo_n, xo_i8, xo_r8, xo_i7, xo_r7, xo_i6, xo_r6, xo_i5, xo_r5, xo_i4, xo_r4, xo_i3, xo_r3, xo_i2, xo_r2, Option.toList_some, Option.toList_none, List.cons_append, List.nil_append, bI_t, bI_f, bI_0, bI_n0, if_true, if_false, true_and, and_true, ne_eq, not_true_eq_false, not_false_eq_true, one_ne0, reduceCtorEq, A3, M.1.2.2.2.1, c_in, wiB_isI (show n 2 < 2 ^ 30 by omega)]
theorem r_houseOf (R : RM h.2.2.1 r m f w g) {i k : Nat} (hi : i < 10) (hk : k < 3) : XC (d + 1) 139 [.ref r, .int (nI i), .int (nI k)] h Q ↔ Q (some (.int (f (8 + 3 * i + k)))) h := by
  have hx : 8 + 3 * i + k < 1482 := by omega
  rw [e139]
  simp only [s139_0, s139_1, s139_4, s139_6, s139_7, s139_8, s139_9, s139_10, s139_11, s139_12, s139_13, R.1, R.2.1, mf0, XG_1, XO_some, XV_1, xo_n, xo_i8, xo_r8, xo_i7, xo_r7, xo_i6, xo_r6, xo_i5, xo_r5, xo_i4, xo_r4, xo_i3, xo_r3, xo_i2, xo_r2, Option.toList_some, Option.toList_none, List.cons_append, List.nil_append, bI_t, bI_f, bI_0, bI_n0, if_true, if_false, true_and, and_true, ne_eq, not_true_eq_false, not_false_eq_true, one_ne0, reduceCtorEq, m3, i8, lA, XAm hx]
theorem r_house0 (R : RM h.2.2.1 r m f w g) (M : MR n T f) {i : Nat} (hi : i < 10) : XC (d + 1) 139 [.ref r, .int (nI i), .int 0] h Q ↔ Q (some (.int (T 1 i))) h := by
  rw [← (M.2.1 i hi).1]; exact r_houseOf (k := 0) R hi (by decide)
theorem r_house1 (R : RM h.2.2.1 r m f w g) (M : MR n T f) {i : Nat} (hi : i < 10) : XC (d + 1) 139 [.ref r, .int (nI i), .int 1] h Q ↔ Q (some (.int (T 2 i))) h := by
  rw [← (M.2.1 i hi).2.1]; exact r_houseOf (k := 1) R hi (by decide)
theorem r_house2 (R : RM h.2.2.1 r m f w g) (M : MR n T f) {i : Nat} (hi : i < 10) : XC (d + 1) 139 [.ref r, .int (nI i), .int 2] h Q ↔ Q (some (.int (T 3 i))) h := by
  rw [← (M.2.1 i hi).2.2]; exact r_houseOf (k := 2) R hi (by decide)
theorem r_doorOf (R : RM h.2.2.1 r m f w g) {i k : Nat} (hi : i < 12) (hk : k < 5) : XC (d + 1) 140 [.ref r, .int (nI i), .int (nI k)] h Q ↔ Q (some (.int (f (38 + 5 * i + k)))) h := by
  have hx : 38 + 5 * i + k < 1482 := by omega
  rw [e140]
  simp only [s140_0, s140_1, s140_4, s140_6, s140_7, s140_8, s140_9, s140_10, s140_11, s140_12, s140_13, R.1, R.2.1, mf0, XG_1, XO_some, XV_1, xo_n, xo_i8, xo_r8, xo_i7, xo_r7, xo_i6, xo_r6, xo_i5, xo_r5, xo_i4, xo_r4, xo_i3, xo_r3, xo_i2, xo_r2, Option.toList_some, Option.toList_none, List.cons_append, List.nil_append, bI_t, bI_f, bI_0, bI_n0, if_true, if_false, true_and, and_true, ne_eq, not_true_eq_false, not_false_eq_true, one_ne0, reduceCtorEq, m5, i38, lA, XAm hx]
theorem r_door0 (R : RM h.2.2.1 r m f w g) (M : MR n T f) {i : Nat} (hi : i < 12) : XC (d + 1) 140 [.ref r, .int (nI i), .int 0] h Q ↔ Q (some (.int (T 4 i))) h := by
  rw [← (M.2.2.1 i hi).1]; exact r_doorOf (k := 0) R hi (by decide)
theorem r_door1 (R : RM h.2.2.1 r m f w g) (M : MR n T f) {i : Nat} (hi : i < 12) : XC (d + 1) 140 [.ref r, .int (nI i), .int 1] h Q ↔ Q (some (.int (T 5 i))) h := by
  rw [← (M.2.2.1 i hi).2.1]; exact r_doorOf (k := 1) R hi (by decide)
theorem r_door2 (R : RM h.2.2.1 r m f w g) (M : MR n T f) {i : Nat} (hi : i < 12) : XC (d + 1) 140 [.ref r, .int (nI i), .int 2] h Q ↔ Q (some (.int (T 6 i))) h := by
  rw [← (M.2.2.1 i hi).2.2.1]; exact r_doorOf (k := 2) R hi (by decide)
theorem r_doorb (R : RM h.2.2.1 r m f w g) (M : MR n T f) {i b : Nat} (hi : i < 12) (hb : b < 2) : XC (d + 1) 140 [.ref r, .int (nI i), .int (nI (3 + b))] h Q ↔ Q (some (.int (benc (T 7 (2 * i + b))))) h := by
  rcases (show b = 0 ∨ b = 1 by omega) with rfl | rfl
  · rw [show benc (T 7 (2 * i + 0)) = f (38 + 5 * i + 3) from (M.2.2.1 i hi).2.2.2.1.symm]; exact r_doorOf (k := 3) R hi (by decide)
  · rw [← (M.2.2.1 i hi).2.2.2.2]; exact r_doorOf (k := 4) R hi (by decide)
theorem r_kindOf (R : RM h.2.2.1 r m f w g) (M : MR n T f) (I : IV n T) {i : Nat} (hi : i < n 2) : XC (d + 1) 141 [.ref r, .int (nI i)] h Q ↔ Q (some (.int (T 8 i))) h := by
  have hn := I.nn
  have hx : 98 + 2 * i < 1482 := by omega
  rw [e141]
  simp only [s141_0, s141_1, s141_4, s141_6, s141_7, s141_8, s141_9, s141_10, s141_11, R.1, R.2.1, mf0, XG_1, XO_some, XV_1, xo_n, xo_i8, xo_r8, xo_i7, xo_r7, xo_i6, xo_r6, xo_i5, xo_r5, xo_i4, xo_r4, xo_i3, xo_r3, xo_i2, xo_r2, Option.toList_some, Option.toList_none, List.cons_append, List.nil_append, bI_t, bI_f, bI_0, bI_n0, if_true, if_false, true_and, and_true, ne_eq, not_true_eq_false, not_false_eq_true, one_ne0, reduceCtorEq, l2m, i98, XAm hx, (M.2.2.2.1 i hi).1]
theorem r_homeOf (R : RM h.2.2.1 r m f w g) (M : MR n T f) (I : IV n T) {i : Nat} (hi : i < n 2) : XC (d + 1) 142 [.ref r, .int (nI i)] h Q ↔ Q (some (.int (T 9 i))) h := by
  have hn := I.nn
  have hx : 98 + 2 * i + 1 < 1482 := by omega
  rw [e142]
  simp only [s142_0, s142_1, s142_4, s142_6, s142_7, s142_8, s142_9, s142_10, s142_11, s142_12, s142_13, R.1, R.2.1, mf0, XG_1, XO_some, XV_1, xo_n, xo_i8, xo_r8, xo_i7, xo_r7, xo_i6, xo_r6, xo_i5, xo_r5, xo_i4, xo_r4, xo_i3, xo_r3, xo_i2, xo_r2, Option.toList_some, Option.toList_none, List.cons_append, List.nil_append, bI_t, bI_f, bI_0, bI_n0, if_true, if_false, true_and, and_true, ne_eq, not_true_eq_false, not_false_eq_true, one_ne0, reduceCtorEq, l2m, i98, nI_1, XAm hx, (M.2.2.2.1 i hi).2]
theorem r_doAgree (R : RM h.2.2.1 r m f w g) (M : MR n T f) {i j : Nat} (hi : i < 10) : XC (d + 2) 151 [.ref r, .int (nI i), .int (nI j)] h Q ↔ Q (some (.int (bI (agB (T 3) i j)))) h := by
  rw [e151]
  simp only [s151_0, s151_1, s151_2, s151_3, s151_6, s151_7, s151_8, s151_9, s151_10, s151_11, s151_14, s151_15, s151_18, s151_19, s151_19t, s151_19b, R.1, XG_1, XO_some, XV_1, xo_n, xo_i8, xo_r8, xo_i7, xo_r7, xo_i6, xo_r6, xo_i5, xo_r5, xo_i4, xo_r4, xo_i3, xo_r3, xo_i2, xo_r2, Option.toList_some, Option.toList_none, List.cons_append, List.nil_append, bI_t, bI_f, bI_0, bI_n0, if_true, if_false, true_and, and_true, ne_eq, not_true_eq_false, not_false_eq_true, one_ne0, reduceCtorEq, r_house2 R M hi]
  unfold agB
  rcases and1 (xshr (T 3 i) (nI j)) with e | e
  · rw [e]; simp [bI]
  · rw [e]; simp [bI]
theorem ldc_s {bl : Nat → Int32} {hs wo : Int32} {i : Nat} : ldc bl hs wo (i + 1) = if bl i = hs ∧ ¬ nI (i / 2) = wo then ldc bl hs wo i + 1 else ldc bl hs wo i := rfl
theorem ldc_wo {bl : Nat → Int32} {hs : Int32} : ∀ k, k ≤ 24 → ldc bl hs (-1) k = ldc bl hs NONE k := by
  intro k
  induction k with
  | zero => intro _; rfl
  | succ k ih =>
    intro hk
    unfold ldc
    rw [ih (by omega)]
    have h1 : ¬ nI (k / 2) = -1 := fun e => nI_pos (show k / 2 < 2 ^ 31 by omega) (by rw [e]; decide)
    have h2 : ¬ nI (k / 2) = NONE := by rw [nI_NONE (by omega)]; exact id
    simp only [h1, h2, not_false_eq_true]
/-- bells of all doors but one -/
theorem l_bells (R : RM h.2.2.1 r m f w g) (M : MR n T f) (I : IV n T) {hs : Nat} (hhs : hs < 2 ^ 31) : ∀ k i, i + k = n 1 → ∀ c6, (XE (d + 1) 147 6 [.val (.ref r), .val (.int (nI hs)), .val (.int y), .val (.int 0), .val (.int (ldc (T 7) (nI hs) y (2 * i))), .val (.int (nI i)), c6] [] h Q ↔ Q (some (.int (ldc (T 7) (nI hs) y (2 * n 1)))) h) := by
  have hn := I.nn
  intro k
  induction k with
  | zero =>
    intro i hi c6
    have hlt : ¬ nI i < nI (n 1) := nI_nlt (by omega) (by omega)
    rw [s147_6]
    simp only [s147_0, s147_1, s147_3, s147_4, s147_8, s147_9, s147_12, s147_13, s147_14, s147_17, s147_18, s147_22, s147_23, s147_26, s147_28, s147_29, s147_32, s147_34, s147_35, s147_37, s147_38, s147_40, s147_41, s147_44, s147_45, s147_48, s147_49, s147_52, s147_53, s147_56, s147_57, s147_59, s147_60, s147_63, s147_66, s147_67, s147_68, s147_70, s147_73, s147_76, s147_79, s147_82, s147_84, R.1, R.2.1, mf0, A2, M.1.2.2.1, XG_1, XO_some, XV_1, xo_n, xo_i8, xo_r8, xo_i7, xo_r7, xo_i6, xo_r6, xo_i5, xo_r5, xo_i4, xo_r4, xo_i3, xo_r3, xo_i2, xo_r2, Option.toList_some, Option.toList_none, List.cons_append, List.nil_append, bI_t, bI_f, bI_0, bI_n0, if_true, if_false, true_and, and_true, ne_eq, not_true_eq_false, not_false_eq_true, one_ne0, reduceCtorEq, hlt]
    rw [show i = n 1 by omega]
  | succ k ih =>
    intro i hi c6
    have hlt : nI i < nI (n 1) := nI_lt (by omega) (by omega)
    have h12 : i < 12 := by omega
    have step : ∀ (b : Nat), b < 2 → ¬ nI i = y → (XE (d + 1) 147 20 [.val (.ref r), .val (.int (nI hs)), .val (.int y), .val (.int 0), .val (.int (ldc (T 7) (nI hs) y (2 * i + b))), .val (.int (nI i)), .val (.int (nI b))] [] h Q ↔ XE (d + 1) 147 20 [.val (.ref r), .val (.int (nI hs)), .val (.int y), .val (.int 0), .val (.int (ldc (T 7) (nI hs) y (2 * i + b + 1))), .val (.int (nI i)), .val (.int (nI (b + 1)))] [] h Q) := by
      intro b hb hy
      have hlt2 : nI b < 2 := nI_lt (b := 2) hb (by decide)
      have hd2 : (2 * i + b) / 2 = i := by omega
      rw [s147_20]
      simp only [s147_0, s147_1, s147_3, s147_4, s147_8, s147_9, s147_12, s147_13, s147_14, s147_17, s147_18, s147_22, s147_23, s147_26, s147_28, s147_29, s147_32, s147_34, s147_35, s147_37, s147_38, s147_40, s147_41, s147_44, s147_45, s147_48, s147_49, s147_52, s147_53, s147_56, s147_57, s147_59, s147_60, s147_63, s147_66, s147_67, s147_68, s147_70, s147_73, s147_76, s147_79, s147_82, s147_84, R.1, XG_1, XO_some, XV_1, xo_n, xo_i8, xo_r8, xo_i7, xo_r7, xo_i6, xo_r6, xo_i5, xo_r5, xo_i4, xo_r4, xo_i3, xo_r3, xo_i2, xo_r2, Option.toList_some, Option.toList_none, List.cons_append, List.nil_append, bI_t, bI_f, bI_0, bI_n0, if_true, if_false, true_and, and_true, ne_eq, not_true_eq_false, not_false_eq_true, one_ne0, reduceCtorEq, hlt2, hy, i3, r_doorb R M h12 hb, benc_eq hhs]
      rw [show ldc (T 7) (nI hs) y (2 * i + b + 1) = if T 7 (2 * i + b) = nI hs ∧ ¬ nI ((2 * i + b) / 2) = y then ldc (T 7) (nI hs) y (2 * i + b) + 1 else ldc (T 7) (nI hs) y (2 * i + b) from rfl, hd2]
      by_cases hc : T 7 (2 * i + b) = nI hs
      · simp only [hc, hy, not_false_eq_true, and_self, if_true, nI_1]
      · simp only [hc, false_and, if_false, nI_1, Int32.add_zero]
    have ih1 := ih (i + 1) (by omega)
    rw [s147_6]
    simp only [s147_0, s147_1, s147_3, s147_4, s147_8, s147_9, s147_12, s147_13, s147_14, s147_17, s147_18, s147_22, s147_23, s147_26, s147_28, s147_29, s147_32, s147_34, s147_35, s147_37, s147_38, s147_40, s147_41, s147_44, s147_45, s147_48, s147_49, s147_52, s147_53, s147_56, s147_57, s147_59, s147_60, s147_63, s147_66, s147_67, s147_68, s147_70, s147_73, s147_76, s147_79, s147_82, s147_84, R.1, R.2.1, mf0, A2, M.1.2.2.1, XG_1, XO_some, XV_1, xo_n, xo_i8, xo_r8, xo_i7, xo_r7, xo_i6, xo_r6, xo_i5, xo_r5, xo_i4, xo_r4, xo_i3, xo_r3, xo_i2, xo_r2, Option.toList_some, Option.toList_none, List.cons_append, List.nil_append, bI_t, bI_f, bI_0, bI_n0, if_true, if_false, true_and, and_true, ne_eq, not_true_eq_false, not_false_eq_true, one_ne0, reduceCtorEq, hlt]
    by_cases hy : nI i = y
    · rw [s147_20]
      simp only [s147_0, s147_1, s147_3, s147_4, s147_8, s147_9, s147_12, s147_13, s147_14, s147_17, s147_18, s147_22, s147_23, s147_26, s147_28, s147_29, s147_32, s147_34, s147_35, s147_37, s147_38, s147_40, s147_41, s147_44, s147_45, s147_48, s147_49, s147_52, s147_53, s147_56, s147_57, s147_59, s147_60, s147_63, s147_66, s147_67, s147_68, s147_70, s147_73, s147_76, s147_79, s147_82, s147_84, XG_1, XO_some, XV_1, xo_n, xo_i8, xo_r8, xo_i7, xo_r7, xo_i6, xo_r6, xo_i5, xo_r5, xo_i4, xo_r4, xo_i3, xo_r3, xo_i2, xo_r2, Option.toList_some, Option.toList_none, List.cons_append, List.nil_append, bI_t, bI_f, bI_0, bI_n0, if_true, if_false, true_and, and_true, ne_eq, not_true_eq_false, not_false_eq_true, one_ne0, reduceCtorEq, hy, show (0 : Int32) < 2 by decide, if_true]
      have e1 : ldc (T 7) (nI hs) y (2 * (i + 1)) = ldc (T 7) (nI hs) y (2 * i) := by
        rw [show 2 * (i + 1) = 2 * i + 1 + 1 by omega, ldc_s, ldc_s, show (2 * i + 1) / 2 = i by omega, show (2 * i) / 2 = i by omega]
        simp only [hy, not_true_eq_false, and_false, if_false]
      rw [e1] at ih1
      rw [← hy, nI_1]
      rw [← hy] at ih1
      exact ih1 _
    · refine (step 0 (by decide) hy).trans ?_
      refine (step 1 (by decide) hy).trans ?_
      rw [s147_20]
      simp only [s147_0, s147_1, s147_3, s147_4, s147_8, s147_9, s147_12, s147_13, s147_14, s147_17, s147_18, s147_22, s147_23, s147_26, s147_28, s147_29, s147_32, s147_34, s147_35, s147_37, s147_38, s147_40, s147_41, s147_44, s147_45, s147_48, s147_49, s147_52, s147_53, s147_56, s147_57, s147_59, s147_60, s147_63, s147_66, s147_67, s147_68, s147_70, s147_73, s147_76, s147_79, s147_82, s147_84, XG_1, XO_some, XV_1, xo_n, xo_i8, xo_r8, xo_i7, xo_r7, xo_i6, xo_r6, xo_i5, xo_r5, xo_i4, xo_r4, xo_i3, xo_r3, xo_i2, xo_r2, Option.toList_some, Option.toList_none, List.cons_append, List.nil_append, bI_t, bI_f, bI_0, bI_n0, if_true, if_false, true_and, and_true, ne_eq, not_true_eq_false, not_false_eq_true, one_ne0, reduceCtorEq, show ¬ nI (1 + 1) < 2 by decide, nI_1]
      exact ih1 _
theorem r_bells (R : RM h.2.2.1 r m f w g) (M : MR n T f) (I : IV n T) {hs : Nat} (hhs : hs < 2 ^ 31) : XC (d + 2) 147 [.ref r, .int (nI hs), .int y, .int 0] h Q ↔ Q (some (.int (ldc (T 7) (nI hs) y (2 * n 1)))) h := by
  rw [e147]
  simp only [s147_0, s147_1, s147_3, s147_4]
  exact l_bells R M I hhs (n 1) 0 (by omega) _
theorem r_load (R : RM h.2.2.1 r m f w g) (M : MR n T f) (I : IV n T) {hs : Nat} (hhs : hs < 2 ^ 31) : XC (d + 2) 147 [.ref r, .int (nI hs), .int (-1), .int 0] h Q ↔ Q (some (.int (ldv n T hs))) h := by
  have hn := I.nn
  rw [r_bells R M I hhs, ldc_wo _ (by omega)]
  rfl
theorem l_noise (R : RM h.2.2.1 r m f w g) (M : MR n T f) (I : IV n T) {hs : Nat} (hhs : hs < 2 ^ 31) : ∀ k i, i + k = n 1 → ∀ c6, (XE (d + 1) 147 6 [.val (.ref r), .val (.int (nI hs)), .val (.int (-1)), .val (.int 1), .val (.int (hrs (T 7) (T 6) (nI hs) (2 * i))), .val (.int (nI i)), c6] [] h Q ↔ Q (some (.int (hrs (T 7) (T 6) (nI hs) (2 * n 1)))) h) := by
  have hn := I.nn
  intro k
  induction k with
  | zero =>
    intro i hi c6
    have hlt : ¬ nI i < nI (n 1) := nI_nlt (by omega) (by omega)
    rw [s147_6]
    simp only [s147_0, s147_1, s147_3, s147_4, s147_8, s147_9, s147_12, s147_13, s147_14, s147_17, s147_18, s147_22, s147_23, s147_26, s147_28, s147_29, s147_32, s147_34, s147_35, s147_37, s147_38, s147_40, s147_41, s147_44, s147_45, s147_48, s147_49, s147_52, s147_53, s147_56, s147_57, s147_59, s147_60, s147_63, s147_66, s147_67, s147_68, s147_70, s147_73, s147_76, s147_79, s147_82, s147_84, R.1, R.2.1, mf0, A2, M.1.2.2.1, XG_1, XO_some, XV_1, xo_n, xo_i8, xo_r8, xo_i7, xo_r7, xo_i6, xo_r6, xo_i5, xo_r5, xo_i4, xo_r4, xo_i3, xo_r3, xo_i2, xo_r2, Option.toList_some, Option.toList_none, List.cons_append, List.nil_append, bI_t, bI_f, bI_0, bI_n0, if_true, if_false, true_and, and_true, ne_eq, not_true_eq_false, not_false_eq_true, one_ne0, reduceCtorEq, hlt]
    rw [show i = n 1 by omega]
  | succ k ih =>
    intro i hi c6
    have hlt : nI i < nI (n 1) := nI_lt (by omega) (by omega)
    have h12 : i < 12 := by omega
    have hy : ¬ nI i = -1 := fun e => nI_pos (show i < 2 ^ 31 by omega) (by rw [e]; decide)
    have step : ∀ (b : Nat), b < 2 → (XE (d + 1) 147 20 [.val (.ref r), .val (.int (nI hs)), .val (.int (-1)), .val (.int 1), .val (.int (hrs (T 7) (T 6) (nI hs) (2 * i + b))), .val (.int (nI i)), .val (.int (nI b))] [] h Q ↔ XE (d + 1) 147 20 [.val (.ref r), .val (.int (nI hs)), .val (.int (-1)), .val (.int 1), .val (.int (hrs (T 7) (T 6) (nI hs) (2 * i + b + 1))), .val (.int (nI i)), .val (.int (nI (b + 1)))] [] h Q) := by
      intro b hb
      have hlt2 : nI b < 2 := nI_lt (b := 2) hb (by decide)
      have hd2 : (2 * i + b) / 2 = i := by omega
      rw [s147_20]
      simp only [s147_0, s147_1, s147_3, s147_4, s147_8, s147_9, s147_12, s147_13, s147_14, s147_17, s147_18, s147_22, s147_23, s147_26, s147_28, s147_29, s147_32, s147_34, s147_35, s147_37, s147_38, s147_40, s147_41, s147_44, s147_45, s147_48, s147_49, s147_52, s147_53, s147_56, s147_57, s147_59, s147_60, s147_63, s147_66, s147_67, s147_68, s147_70, s147_73, s147_76, s147_79, s147_82, s147_84, R.1, XG_1, XO_some, XV_1, xo_n, xo_i8, xo_r8, xo_i7, xo_r7, xo_i6, xo_r6, xo_i5, xo_r5, xo_i4, xo_r4, xo_i3, xo_r3, xo_i2, xo_r2, Option.toList_some, Option.toList_none, List.cons_append, List.nil_append, bI_t, bI_f, bI_0, bI_n0, if_true, if_false, true_and, and_true, ne_eq, not_true_eq_false, not_false_eq_true, one_ne0, reduceCtorEq, hlt2, hy, i3, r_doorb R M h12 hb, r_door2 R M h12, benc_eq hhs]
      rw [show hrs (T 7) (T 6) (nI hs) (2 * i + b + 1) = if T 7 (2 * i + b) = nI hs then hrs (T 7) (T 6) (nI hs) (2 * i + b) + T 6 ((2 * i + b) / 2) else hrs (T 7) (T 6) (nI hs) (2 * i + b) from rfl, hd2]
      by_cases hc : T 7 (2 * i + b) = nI hs
      · simp only [hc, if_true, nI_1]
      · simp only [hc, if_false, nI_1, Int32.add_zero]
    have ih1 := ih (i + 1) (by omega)
    rw [s147_6]
    simp only [s147_0, s147_1, s147_3, s147_4, s147_8, s147_9, s147_12, s147_13, s147_14, s147_17, s147_18, s147_22, s147_23, s147_26, s147_28, s147_29, s147_32, s147_34, s147_35, s147_37, s147_38, s147_40, s147_41, s147_44, s147_45, s147_48, s147_49, s147_52, s147_53, s147_56, s147_57, s147_59, s147_60, s147_63, s147_66, s147_67, s147_68, s147_70, s147_73, s147_76, s147_79, s147_82, s147_84, R.1, R.2.1, mf0, A2, M.1.2.2.1, XG_1, XO_some, XV_1, xo_n, xo_i8, xo_r8, xo_i7, xo_r7, xo_i6, xo_r6, xo_i5, xo_r5, xo_i4, xo_r4, xo_i3, xo_r3, xo_i2, xo_r2, Option.toList_some, Option.toList_none, List.cons_append, List.nil_append, bI_t, bI_f, bI_0, bI_n0, if_true, if_false, true_and, and_true, ne_eq, not_true_eq_false, not_false_eq_true, one_ne0, reduceCtorEq, hlt]
    refine (step 0 (by decide)).trans ?_
    refine (step 1 (by decide)).trans ?_
    rw [s147_20]
    simp only [s147_0, s147_1, s147_3, s147_4, s147_8, s147_9, s147_12, s147_13, s147_14, s147_17, s147_18, s147_22, s147_23, s147_26, s147_28, s147_29, s147_32, s147_34, s147_35, s147_37, s147_38, s147_40, s147_41, s147_44, s147_45, s147_48, s147_49, s147_52, s147_53, s147_56, s147_57, s147_59, s147_60, s147_63, s147_66, s147_67, s147_68, s147_70, s147_73, s147_76, s147_79, s147_82, s147_84, XG_1, XO_some, XV_1, xo_n, xo_i8, xo_r8, xo_i7, xo_r7, xo_i6, xo_r6, xo_i5, xo_r5, xo_i4, xo_r4, xo_i3, xo_r3, xo_i2, xo_r2, Option.toList_some, Option.toList_none, List.cons_append, List.nil_append, bI_t, bI_f, bI_0, bI_n0, if_true, if_false, true_and, and_true, ne_eq, not_true_eq_false, not_false_eq_true, one_ne0, reduceCtorEq, show ¬ nI (1 + 1) < 2 by decide, nI_1]
    exact ih1 _
theorem r_noise (R : RM h.2.2.1 r m f w g) (M : MR n T f) (I : IV n T) {hs : Nat} (hhs : hs < 2 ^ 31) : XC (d + 2) 147 [.ref r, .int (nI hs), .int (-1), .int 1] h Q ↔ Q (some (.int (hrs (T 7) (T 6) (nI hs) (2 * n 1)))) h := by
  rw [e147]
  simp only [s147_0, s147_1, s147_3, s147_4]
  exact l_noise R M I hhs (n 1) 0 (by omega) _
theorem key_of (I : IV n T) {i : Nat} (hi : i < n 3) : (1000 * T 10 i + T 12 i) / 1000 = T 10 i ∧ (1000 * T 10 i + T 12 i) % 1000 = T 12 i := by
  obtain ⟨ky, u, q1, q2, q3, q4, -⟩ := I.tx i hi
  rw [q2, q3, show (1000 : Int32) = nI 1000 from rfl, pk_mul, nI_add, pk_div (by omega) (by decide) (by decide), nI_mod (by omega) (by decide)]
  exact ⟨congrArg nI (by omega), congrArg nI (by omega)⟩
theorem l_counts (R : RM h.2.2.1 r m f w g) (M : MR n T f) (I : IV n T) : ∀ k, k ≤ n 3 → (XE d 206 10 [.val (.ref r), .val (.int x), .val (.int (nI k - 1))] [] h Q ↔ Q (some (.int (oI (-1) (lst (T 10) x k)))) h) := by
  have hn := I.nn
  intro k
  induction k with
  | zero =>
    intro _
    rw [s206_10]
    simp only [s206_0, s206_1, s206_4, s206_6, s206_7, s206_8, s206_9, s206_11, s206_14, s206_15, s206_18, s206_20, s206_21, s206_22, s206_23, s206_24, s206_25, s206_28, s206_29, s206_30, s206_33, s206_34, s206_35, s206_38, s206_41, s206_42, XG_1, XO_some, XV_1, xo_n, xo_i8, xo_r8, xo_i7, xo_r7, xo_i6, xo_r6, xo_i5, xo_r5, xo_i4, xo_r4, xo_i3, xo_r3, xo_i2, xo_r2, Option.toList_some, Option.toList_none, List.cons_append, List.nil_append, bI_t, bI_f, bI_0, bI_n0, if_true, if_false, true_and, and_true, ne_eq, not_true_eq_false, not_false_eq_true, one_ne0, reduceCtorEq, show nI 0 - 1 < 0 by decide]
    rfl
  | succ k ih =>
    intro hk
    have hlt : ¬ nI k < 0 := nI_pos (by omega)
    have hx : 110 + 2 * k < 1482 := by omega
    have ih1 := ih (by omega)
    rw [s206_10]
    simp only [s206_0, s206_1, s206_4, s206_6, s206_7, s206_8, s206_9, s206_11, s206_14, s206_15, s206_18, s206_20, s206_21, s206_22, s206_23, s206_24, s206_25, s206_28, s206_29, s206_30, s206_33, s206_34, s206_35, s206_38, s206_41, s206_42, R.1, R.2.1, mf0, XG_1, XO_some, XV_1, xo_n, xo_i8, xo_r8, xo_i7, xo_r7, xo_i6, xo_r6, xo_i5, xo_r5, xo_i4, xo_r4, xo_i3, xo_r3, xo_i2, xo_r2, Option.toList_some, Option.toList_none, List.cons_append, List.nil_append, bI_t, bI_f, bI_0, bI_n0, if_true, if_false, true_and, and_true, ne_eq, not_true_eq_false, not_false_eq_true, one_ne0, reduceCtorEq, nI_pred, hlt, l2m, i110, XAm hx, (M.2.2.2.2.1 k (by omega)).1, z1000, (key_of I (show k < n 3 by omega)).1]
    rw [show lst (T 10) x (k + 1) = if T 10 k = x then some k else lst (T 10) x k from rfl]
    by_cases hb : T 10 k = x
    · simp only [hb, if_true, oI]
    · simp only [hb, if_false]
      rw [Int32.sub_eq_add_neg] at ih1
      exact ih1
theorem r_counts (R : RM h.2.2.1 r m f w g) (M : MR n T f) (I : IV n T) : XC (d + 1) 206 [.ref r, .int x] h Q ↔ Q (some (.int (oI (-1) (lst (T 10) x (n 3))))) h := by
  rw [e206]
  simp only [s206_0, s206_1, s206_4, s206_6, s206_7, s206_8, s206_9, R.1, R.2.1, mf0, XG_1, XO_some, XV_1, xo_n, xo_i8, xo_r8, xo_i7, xo_r7, xo_i6, xo_r6, xo_i5, xo_r5, xo_i4, xo_r4, xo_i3, xo_r3, xo_i2, xo_r2, Option.toList_some, Option.toList_none, List.cons_append, List.nil_append, bI_t, bI_f, bI_0, bI_n0, if_true, if_false, true_and, and_true, ne_eq, not_true_eq_false, not_false_eq_true, one_ne0, reduceCtorEq, A7, M.1.2.2.2.2.2.2.2]
  exact l_counts R M I (n 3) (Nat.le_refl _)
end RR
