/-! ===== 26: choosing and nights ===== -/
theorem nI_NONE {b : Nat} (h : b < 2 ^ 31) : (nI b = NONE) = False := by
  refine eq_false (fun e => nI_pos h ?_)
  rw [e]; decide
def gst (ow r : Nat → Int32) (hm : Int32) : Nat → Option Nat
  | 0 => none
  | k + 1 => if ow k = hm then gst ow r hm k else match gst ow r hm k with
    | none => some k
    | some b => if r b < r k then some k else some b
theorem gst_lt {ow r : Nat → Int32} {hm : Int32} {b : Nat} : ∀ {k}, gst ow r hm k = some b → b < k ∧ ow b ≠ hm := by
  intro k
  induction k with
  | zero => intro h; cases h
  | succ k ih =>
    intro h
    unfold gst at h
    split at h
    next e => obtain ⟨a, c⟩ := ih h; exact ⟨by omega, c⟩
    next e =>
      cases hg : gst ow r hm k with
      | none => rw [hg] at h; cases h; exact ⟨Nat.lt_succ_self _, e⟩
      | some b2 =>
        rw [hg] at h
        dsimp only at h
        split at h
        next => cases h; exact ⟨Nat.lt_succ_self _, e⟩
        next => cases h; obtain ⟨a, c⟩ := ih hg; exact ⟨by omega, c⟩
theorem gst_congr {ow r r2 : Nat → Int32} {hm : Int32} : ∀ {k}, (∀ j, j < k → r j = r2 j) → gst ow r hm k = gst ow r2 hm k := by
  intro k
  induction k with
  | zero => intro _; rfl
  | succ k ih =>
    intro h
    have ih1 := ih (fun j hj => h j (by omega))
    unfold gst
    rw [ih1]
    split
    · rfl
    · cases hg : gst ow r2 hm k with
      | none => rfl
      | some b =>
        dsimp only
        rw [h b (by have := (gst_lt hg).1; omega), h k (by omega)]
theorem gst_none {ow r r2 : Nat → Int32} {hm : Int32} : ∀ {k}, gst ow r hm k = none → gst ow r2 hm k = none ∧ ∀ j, j < k → ow j = hm := by
  intro k
  induction k with
  | zero => intro _; exact ⟨rfl, fun j hj => absurd hj (Nat.not_lt_zero j)⟩
  | succ k ih =>
    intro h
    unfold gst at h ⊢
    split at h
    next e =>
      obtain ⟨a, b⟩ := ih h
      refine ⟨by rw [if_pos e]; exact a, fun j hj => ?_⟩
      by_cases hjk : j = k
      · rw [hjk]; exact e
      · exact b j (by omega)
    next e =>
      cases hg : gst ow r hm k with
      | none => rw [hg] at h; cases h
      | some b => rw [hg] at h; dsimp only at h; split at h <;> cases h
def fnd (ow : Nat → Int32) (hm : Int32) (nd f0 : Nat) : Nat → Nat → Option Nat
  | 0, _ => none
  | k + 1, i => if ow ((f0 + i) % nd) = hm then fnd ow hm nd f0 k (i + 1) else some ((f0 + i) % nd)
def dq (z : Int32) : Nat := (drw z).toBitVec.toNat / 256
theorem drv_eq (z : Int32) : drv z = nI (dq z) := by
  unfold drv dq
  generalize drw z = w
  have hw : w = nI w.toBitVec.toNat := by
    unfold nI
    apply Int32.toBitVec_inj.mp
    simp
  conv => lhs; rw [hw]
  unfold xushr
  have := pk_ushrN (n := w.toBitVec.toNat) w.toBitVec.isLt 8 8 (by decide)
  exact this
theorem dq_lt (z : Int32) : dq z < 2 ^ 24 := by
  unfold dq
  have := (drw z).toBitVec.isLt
  omega
theorem nI_mod {a b : Nat} (ha : a < 2 ^ 31) (hb : b < 2 ^ 31) : nI a % nI b = nI (a % b) := by
  apply Int32.toInt_inj.mp
  rw [Int32.toInt_mod, nI_toInt ha, nI_toInt hb, nI_toInt (Nat.lt_of_le_of_lt (Nat.mod_le a b) ha)]
  exact (Int.ofNat_tmod a b).symm
def chz (n : Nat → Nat) (T : Nat → Nat → Int32) (i : Nat) (z : Int32) : Option Nat × Int32 :=
  if knd T i = 1 ∨ knd T i = 3 then (gst (T 4) (gnT n T i) (T 9 i) (n 1), z) else if knd T i = 4 then (gst (T 4) (T 5) (T 9 i) (n 1), z) else match gst (T 4) (T 5) (T 9 i) (n 1) with
  | none => (none, z)
  | some _ => (fnd (T 4) (T 9 i) (n 1) (dq z % n 1) (n 1) 0, drw z)
def setS (T : Nat → Nat → Int32) (q : Int32 × Int32 × Int32) : Nat → Nat → Int32 := fun a b => if a = 0 then (if b = 7 then q.1 else if b = 5 then q.2.1 else if b = 6 then q.2.2 else T 0 b) else T a b
theorem setS7 {T : Nat → Nat → Int32} {z tk ct v : Int32} : sup (setS T (z, tk, ct)) 0 7 v = setS T (v, tk, ct) := by
  funext a b; unfold sup setS; by_cases ha : a = 0 <;> by_cases hb : b = 7 <;> simp [ha, hb]
theorem setS5 {T : Nat → Nat → Int32} {z tk ct v : Int32} : sup (setS T (z, tk, ct)) 0 5 v = setS T (z, v, ct) := by
  funext a b; unfold sup setS; by_cases ha : a = 0 <;> by_cases hb : b = 5 <;> simp [ha, hb]
theorem setS6 {T : Nat → Nat → Int32} {z tk ct v : Int32} : sup (setS T (z, tk, ct)) 0 6 v = setS T (z, tk, v) := by
  funext a b; unfold sup setS; by_cases ha : a = 0 <;> by_cases hb : b = 6 <;> simp [ha, hb]
theorem setS_id {T : Nat → Nat → Int32} : setS T (T 0 7, T 0 5, T 0 6) = T := by
  funext a b
  unfold setS
  dsimp only
  by_cases ha : a = 0
  · subst ha
    simp only [if_true]
    split
    next e => rw [e]
    next => split
            next e => rw [e]
            next => split
                    next e => rw [e]
                    next => rfl
  · simp only [ha, if_false]
theorem sup_id {T : Nat → Nat → Int32} {i j : Nat} : sup T i j (T i j) = T := by
  funext a b
  unfold sup
  split
  next e => rw [e.1, e.2]
  next => rfl
def nst (n : Nat → Nat) (T : Nat → Nat → Int32) (i : Nat) (q : Int32 × Int32 × Int32) : Int32 × Int32 × Int32 := match chz n T i q.1 with
  | (none, z1) => (z1, q.2.1, q.2.2)
  | (some dd, z1) => if drv z1 % 10000 < msT n T i dd then (drw z1, q.2.1 + T 5 dd, q.2.2) else (drw z1, q.2.1, q.2.2 + 1)
def ngt (n : Nat → Nat) (T : Nat → Nat → Int32) (q : Int32 × Int32 × Int32) : Nat → Int32 × Int32 × Int32
  | 0 => q
  | i + 1 => nst n T i (ngt n T q i)
section TM5
variable {Dy d : Nat} {h h1 : xH} {t : Nat} {n : Nat → Nat} {T : Nat → Nat → Int32} {p : Nat → Nat → Option Nat} {s : Nat → Nat → Int32} {Q : Option Value → xH → Prop} {x y z : Int32}
theorem l_greatest (R : RT Dy h.2.2.1 t n T p s) {rr fr N : Nat} {f : Nat → Int32} (hr : h.2.2.1 rr = .inl (0, xis N f)) (hf : fr + n 1 ≤ N) (hN : N ≤ 72) : ∀ k i, i + k = n 1 → (XE d 69 25 [.val (.ref t), .val (.int x), .val (.ref rr), .val (.int (nI fr)), .val (.int (oI NONE (gst (T 4) (fun k => f (fr + k)) x i))), .val (.int (nI i))] [] h Q ↔ Q (some (.int (oI NONE (gst (T 4) (fun k => f (fr + k)) x (n 1))))) h) := by
  have hn := R.nn
  intro k
  induction k with
  | zero =>
    intro i hi
    have hlt : ¬ nI i < nI (n 1) := nI_nlt (by omega) (by omega)
    rw [s69_25]
    simp only [s69_0, s69_2, s69_4, s69_5, s69_8, s69_9, s69_9n, s69_10, s69_11, s69_12, s69_15, s69_16, s69_19, s69_21, s69_22, s69_23, s69_27, s69_28, s69_31, s69_34, s69_35, s69_38, s69_40, s69_41, s69_42, s69_45, s69_47, s69_49, s69_52, s69_52n, s69_53, s69_54, s69_56, s69_57, s69_58, s69_58n, s69_59, s69_60, s69_62, s69_63, s69_64, s69_67, s69_69, s69_71, s69_74, s69_77, s69_79, R.o, tf1, XG_1, XO_some, XV_1, xo_n, xo_i8, xo_r8, xo_i7, xo_r7, xo_i6, xo_r6, xo_i5, xo_r5, xo_i4, xo_r4, xo_i3, xo_r3, xo_i2, xo_r2, Option.toList_some, Option.toList_none, List.cons_append, List.nil_append, bI_t, bI_f, bI_0, bI_n0, if_true, if_false, true_and, and_true, ne_eq, not_true_eq_false, not_false_eq_true, one_ne0, reduceCtorEq, hlt]
    rw [show i = n 1 by omega]
  | succ k ih =>
    intro i hi
    have hlt : nI i < nI (n 1) := nI_lt (by omega) (by omega)
    have h12 : i < 12 := by omega
    have hA : ∀ {j : Nat} {F : Int32 → Prop}, j < n 1 → (XA [0, 7] (.inl (0, xis N f)) (nI (fr + j)) F ↔ F (f (fr + j))) := fun {j F} hj => XA_0 (by omega) (by omega)
    have ih1 := ih (i + 1) (by omega)
    rw [show gst (T 4) (fun k => f (fr + k)) x (i + 1) = if T 4 i = x then gst (T 4) (fun k => f (fr + k)) x i else match gst (T 4) (fun k => f (fr + k)) x i with
      | none => some i
      | some b => if f (fr + b) < f (fr + i) then some i else some b from rfl] at ih1
    rw [s69_25]
    simp only [s69_0, s69_2, s69_4, s69_5, s69_8, s69_9, s69_9n, s69_10, s69_11, s69_12, s69_15, s69_16, s69_19, s69_21, s69_22, s69_23, s69_27, s69_28, s69_31, s69_34, s69_35, s69_38, s69_40, s69_41, s69_42, s69_45, s69_47, s69_49, s69_52, s69_52n, s69_53, s69_54, s69_56, s69_57, s69_58, s69_58n, s69_59, s69_60, s69_62, s69_63, s69_64, s69_67, s69_69, s69_71, s69_74, s69_77, s69_79, R.o, R.ow, tf1, tf11, XG_1, XO_some, XV_1, xo_n, xo_i8, xo_r8, xo_i7, xo_r7, xo_i6, xo_r6, xo_i5, xo_r5, xo_i4, xo_r4, xo_i3, xo_r3, xo_i2, xo_r2, Option.toList_some, Option.toList_none, List.cons_append, List.nil_append, bI_t, bI_f, bI_0, bI_n0, if_true, if_false, true_and, and_true, ne_eq, not_true_eq_false, not_false_eq_true, one_ne0, reduceCtorEq, hlt, XA12 h12, hr, nI_1, nI_add, hA (show i < n 1 by omega)]
    by_cases hb : T 4 i = x
    · simp only [hb, if_true] at ih1 ⊢
      exact ih1
    · simp only [hb, if_false] at ih1 ⊢
      cases hg : gst (T 4) (fun k => f (fr + k)) x i with
      | none =>
        simp only [hg, oI] at ih1 ⊢
        simp only [if_true]
        exact ih1
      | some b =>
        have hbi := (gst_lt hg).1
        rw [hg] at ih1
        dsimp only at ih1
        simp only [oI, nI_NONE (show b < 2 ^ 31 by omega), if_false, nI_add, hA (show b < n 1 by omega)]
        by_cases hc : f (fr + b) < f (fr + i)
        · simp only [hc, if_true, oI] at ih1 ⊢; exact ih1
        · simp only [hc, if_false, oI] at ih1 ⊢; exact ih1
theorem c_greatest (R : RT Dy h.2.2.1 t n T p s) {rr fr N : Nat} {f : Nat → Int32} (hr : h.2.2.1 rr = .inl (0, xis N f)) (hf : fr + n 1 ≤ N) (hN : N ≤ 72) : XC (d + 1) 69 [.ref t, .int x, .ref rr, .int (nI fr)] h Q ↔ Q (some (.int (oI NONE (gst (T 4) (fun k => f (fr + k)) x (n 1))))) h := by
  have hn := R.nn
  have h0 : ¬ nI fr < 0 := nI_pos (by omega)
  have hs : nI N - nI (n 1) = nI (N - n 1) := pk_sub (by omega)
  have h1 : ¬ nI (N - n 1) < nI fr := nI_nlt (by omega) (by omega)
  rw [e69]
  simp only [s69_0, s69_2, s69_4, s69_5, s69_8, s69_9, s69_9n, s69_10, s69_11, s69_12, s69_15, s69_16, s69_19, s69_21, s69_22, s69_23, s69_27, s69_28, s69_31, s69_34, s69_35, s69_38, s69_40, s69_41, s69_42, s69_45, s69_47, s69_49, s69_52, s69_52n, s69_53, s69_54, s69_56, s69_57, s69_58, s69_58n, s69_59, s69_60, s69_62, s69_63, s69_64, s69_67, s69_69, s69_71, s69_74, s69_77, s69_79, R.o, tf1, XG_1, XO_some, XV_1, xo_n, xo_i8, xo_r8, xo_i7, xo_r7, xo_i6, xo_r6, xo_i5, xo_r5, xo_i4, xo_r4, xo_i3, xo_r3, xo_i2, xo_r2, Option.toList_some, Option.toList_none, List.cons_append, List.nil_append, bI_t, bI_f, bI_0, bI_n0, if_true, if_false, true_and, and_true, ne_eq, not_true_eq_false, not_false_eq_true, one_ne0, reduceCtorEq, h0, hr, XL_0, hs, h1]
  exact l_greatest R hr hf hN (n 1) 0 (by omega)
theorem RT.zz (R : RT Dy h.2.2.1 t n T p s) (ht : t + 12 < Dy) (hD : Dy ≤ h.1) {q : Int32 × Int32 × Int32} : RT Dy (xset h t (.inr (10, townF t n (setS T q)))).2.2.1 t n (setS T q) p s ∧ FR Dy (fun a => a = t) h (xset h t (.inr (10, townF t n (setS T q)))) := by
  have F : FR Dy (fun a => a = t) h (xset h t (.inr (10, townF t n (setS T q)))) := FR.set (by omega) rfl (by omega)
  have e : ∀ k, 0 < k → (xset h t (.inr (10, townF t n (setS T q)))).2.2.1 (t + k) = h.2.2.1 (t + k) := fun k hk => xset_ne (by omega)
  refine ⟨⟨xset_self, (e 1 (by omega)).trans R.aw, (e 2 (by omega)).trans R.ca, (e 3 (by omega)).trans R.ag, (e 4 (by omega)).trans R.ow, (e 5 (by omega)).trans R.wo, (e 6 (by omega)).trans R.no, (e 7 (by omega)).trans R.be, (e 8 (by omega)).trans R.ba, (e 9 (by omega)).trans R.la, (e 10 (by omega)).trans R.co, (e 11 (by omega)).trans R.mi, (e 12 (by omega)).trans R.ga, R.nn, fun i hi => ?_, fun i hi => ?_, R.tn⟩, F⟩
  · obtain ⟨a, q1, q2, q3⟩ := R.th i hi
    exact ⟨a, q1, q2, F.2.2.2.2.1 _ _ _ q2 q3⟩
  · obtain ⟨a, q1, q2, q3⟩ := R.tx i hi
    exact ⟨a, q1, q2, F.2.2.2.2.2.1 _ _ _ _ _ q2 q3⟩
theorem l_byLot (R : RT Dy h.2.2.1 t n T p s) {f0 : Nat} (hf : f0 < n 1) : ∀ k i, i + k = n 1 → ∀ c4, (XE d 70 37 [.val (.ref t), .val (.int x), .val (.int (nI f0)), .val (.int (nI i)), c4] [] h Q ↔ Q (some (.int (oI NONE (fnd (T 4) x (n 1) f0 k i)))) h) := by
  have hn := R.nn
  intro k
  induction k with
  | zero =>
    intro i hi c4
    have hlt : ¬ nI i < nI (n 1) := nI_nlt (by omega) (by omega)
    rw [s70_37]
    simp only [s70_0, s70_1, s70_4, s70_7, s70_8, s70_9, s70_10, s70_13, s70_14, s70_17, s70_19, s70_22, s70_24, s70_25, s70_26, s70_29, s70_30, s70_33, s70_34, s70_35, s70_36, s70_38, s70_39, s70_42, s70_45, s70_46, s70_47, s70_48, s70_49, s70_52, s70_53, s70_55, s70_56, s70_59, s70_61, s70_62, s70_63, s70_66, s70_68, s70_69, s70_72, s70_75, s70_77, R.o, tf1, XG_1, XO_some, XV_1, xo_n, xo_i8, xo_r8, xo_i7, xo_r7, xo_i6, xo_r6, xo_i5, xo_r5, xo_i4, xo_r4, xo_i3, xo_r3, xo_i2, xo_r2, Option.toList_some, Option.toList_none, List.cons_append, List.nil_append, bI_t, bI_f, bI_0, bI_n0, if_true, if_false, true_and, and_true, ne_eq, not_true_eq_false, not_false_eq_true, one_ne0, reduceCtorEq, hlt]
    rfl
  | succ k ih =>
    intro i hi c4
    have hlt : nI i < nI (n 1) := nI_lt (by omega) (by omega)
    have hm : (f0 + i) % n 1 < n 1 := Nat.mod_lt _ (by omega)
    have h12 : (f0 + i) % n 1 < 12 := by omega
    have hz : (nI (n 1) = 0) = False := eq_false (nI_ne0 (by omega) (by omega))
    have ih1 := ih (i + 1) (by omega)
    rw [s70_37]
    simp only [s70_0, s70_1, s70_4, s70_7, s70_8, s70_9, s70_10, s70_13, s70_14, s70_17, s70_19, s70_22, s70_24, s70_25, s70_26, s70_29, s70_30, s70_33, s70_34, s70_35, s70_36, s70_38, s70_39, s70_42, s70_45, s70_46, s70_47, s70_48, s70_49, s70_52, s70_53, s70_55, s70_56, s70_59, s70_61, s70_62, s70_63, s70_66, s70_68, s70_69, s70_72, s70_75, s70_77, R.o, R.ow, tf1, tf11, XG_1, XO_some, XV_1, xo_n, xo_i8, xo_r8, xo_i7, xo_r7, xo_i6, xo_r6, xo_i5, xo_r5, xo_i4, xo_r4, xo_i3, xo_r3, xo_i2, xo_r2, Option.toList_some, Option.toList_none, List.cons_append, List.nil_append, bI_t, bI_f, bI_0, bI_n0, if_true, if_false, true_and, and_true, ne_eq, not_true_eq_false, not_false_eq_true, one_ne0, reduceCtorEq, hlt, hz, nI_add, nI_mod (show f0 + i < 2 ^ 31 by omega) (show n 1 < 2 ^ 31 by omega), XA12 h12, nI_1]
    rw [show fnd (T 4) x (n 1) f0 (k + 1) i = if T 4 ((f0 + i) % n 1) = x then fnd (T 4) x (n 1) f0 k (i + 1) else some ((f0 + i) % n 1) from rfl]
    by_cases hb : T 4 ((f0 + i) % n 1) = x
    · simp only [hb, if_true]; exact ih1 _
    · simp only [hb, if_false, oI]
theorem c_byLot (R : RT Dy h.2.2.1 t n T p s) (ht : t + 12 < Dy) (hD : Dy ≤ h.1) : XC (d + 2) 70 [.ref t, .int x] h Q ↔ (match gst (T 4) (T 5) x (n 1) with
    | none => Q (some (.int NONE)) h
    | some _ => Q (some (.int (oI NONE (fnd (T 4) x (n 1) (dq (T 0 7) % n 1) (n 1) 0)))) (xset h t (.inr (10, townF t n (sup T 0 7 (drw (T 0 7))))))) := by
  have hn := R.nn
  have hG : ∀ {Q : Option Value → xH → Prop}, XC (d + 1) 69 [.ref t, .int x, .ref (t + 5), .int 0] h Q ↔ Q (some (.int (oI NONE (gst (T 4) (T 5) x (n 1))))) h := fun {Q} => by
    have := c_greatest (d := d) (Q := Q) (x := x) R (rr := t + 5) (fr := 0) (N := 12) R.wo (by omega) (by omega)
    simp only [Nat.zero_add] at this
    exact this
  rw [e70]
  by_cases h0 : n 1 = 0
  · have hz : (nI (n 1) = 0) = True := eq_true (by rw [h0]; rfl)
    simp only [s70_0, s70_1, s70_4, s70_7, s70_8, s70_9, s70_10, s70_13, s70_14, s70_17, s70_19, s70_22, s70_24, s70_25, s70_26, s70_29, s70_30, s70_33, s70_34, s70_35, s70_36, s70_38, s70_39, s70_42, s70_45, s70_46, s70_47, s70_48, s70_49, s70_52, s70_53, s70_55, s70_56, s70_59, s70_61, s70_62, s70_63, s70_66, s70_68, s70_69, s70_72, s70_75, s70_77, R.o, tf1, XG_1, XO_some, XV_1, xo_n, xo_i8, xo_r8, xo_i7, xo_r7, xo_i6, xo_r6, xo_i5, xo_r5, xo_i4, xo_r4, xo_i3, xo_r3, xo_i2, xo_r2, Option.toList_some, Option.toList_none, List.cons_append, List.nil_append, bI_t, bI_f, bI_0, bI_n0, if_true, if_false, true_and, and_true, ne_eq, not_true_eq_false, not_false_eq_true, one_ne0, reduceCtorEq, hz]
    rw [h0]
    rfl
  · have hz : (nI (n 1) = 0) = False := eq_false (nI_ne0 (by omega) (by omega))
    simp only [s70_0, s70_1, s70_4, s70_7, s70_8, s70_9, s70_10, s70_13, s70_14, s70_17, s70_19, R.o, tf1, tf12, XG_1, XO_some, XV_1, xo_n, xo_i8, xo_r8, xo_i7, xo_r7, xo_i6, xo_r6, xo_i5, xo_r5, xo_i4, xo_r4, xo_i3, xo_r3, xo_i2, xo_r2, Option.toList_some, Option.toList_none, List.cons_append, List.nil_append, bI_t, bI_f, bI_0, bI_n0, if_true, if_false, true_and, and_true, ne_eq, not_true_eq_false, not_false_eq_true, one_ne0, reduceCtorEq, hz, hG]
    cases hg : gst (T 4) (T 5) x (n 1) with
    | none => simp only [oI, if_true, s70_0, s70_1, s70_4, s70_7, s70_8, s70_9, s70_10, s70_13, s70_14, s70_17, s70_19, s70_22, s70_24, s70_25, s70_26, s70_29, s70_30, s70_33, s70_34, s70_35, s70_36, s70_38, s70_39, s70_42, s70_45, s70_46, s70_47, s70_48, s70_49, s70_52, s70_53, s70_55, s70_56, s70_59, s70_61, s70_62, s70_63, s70_66, s70_68, s70_69, s70_72, s70_75, s70_77]
    | some b =>
      have hb := (gst_lt hg).1
      simp only [oI, nI_NONE (show b < 2 ^ 31 by omega), if_false]
      obtain ⟨R1, F1⟩ := R.zz ht hD (q := (drw (T 0 7), T 0 5, T 0 6))
      have e7 : sup T 0 7 (drw (T 0 7)) = setS T (drw (T 0 7), T 0 5, T 0 6) := by
        conv => lhs; rw [← setS_id (T := T)]
        rw [setS7]
        rfl
      rw [e7]
      have hd := c_draw (d := d) R (Q := fun v h' => XE (d + 1) 70 29 [.val (.ref t), .val (.int x), .unset, .unset, .unset] (v.toList ++ []) h' Q)
      rw [e7] at hd
      simp only [s70_25, s70_26, R.o, XG_1, XO_some, XV_1, xo_n, xo_i8, xo_r8, xo_i7, xo_r7, xo_i6, xo_r6, xo_i5, xo_r5, xo_i4, xo_r4, xo_i3, xo_r3, xo_i2, xo_r2, Option.toList_some, Option.toList_none, List.cons_append, List.nil_append, bI_t, bI_f, bI_0, bI_n0, if_true, if_false, true_and, and_true, ne_eq, not_true_eq_false, not_false_eq_true, one_ne0, reduceCtorEq]
      refine hd.trans ?_
      have hq := dq_lt (T 0 7)
      simp only [s70_0, s70_1, s70_4, s70_7, s70_8, s70_9, s70_10, s70_13, s70_14, s70_17, s70_19, s70_22, s70_24, s70_25, s70_26, s70_29, s70_30, s70_33, s70_34, s70_35, s70_36, s70_38, s70_39, s70_42, s70_45, s70_46, s70_47, s70_48, s70_49, s70_52, s70_53, s70_55, s70_56, s70_59, s70_61, s70_62, s70_63, s70_66, s70_68, s70_69, s70_72, s70_75, s70_77, R1.o, tf1, XG_1, XO_some, XV_1, xo_n, xo_i8, xo_r8, xo_i7, xo_r7, xo_i6, xo_r6, xo_i5, xo_r5, xo_i4, xo_r4, xo_i3, xo_r3, xo_i2, xo_r2, Option.toList_some, Option.toList_none, List.cons_append, List.nil_append, bI_t, bI_f, bI_0, bI_n0, if_true, if_false, true_and, and_true, ne_eq, not_true_eq_false, not_false_eq_true, one_ne0, reduceCtorEq, hz, drv_eq, nI_mod (show dq (T 0 7) < 2 ^ 31 by omega) (show n 1 < 2 ^ 31 by omega)]
      exact l_byLot R1 (Nat.mod_lt _ (by omega)) (n 1) 0 (by omega) _
/-- picks -/
theorem c_picks (R : RT Dy h.2.2.1 t n (setS T (z, x, y)) p s) (I : IV n T) (ht : t + 12 < Dy) (hD : Dy ≤ h.1) (W : wei n T s) {i a kn home : Nat} (hi : i < n 2) (hk : kn ≤ 5) (hh : home < n 0) (h8 : T 8 i = nI kn) (h9 : T 9 i = nI home) (hA : h.2.2.1 a = .inr (kcl kn, [.int (nI kn), .int (nI home)])) : XV [(0, 48), (1, 48), (2, 7), (3, 7), (4, 13), (9, 48)] (h.2.2.1 a) (fun m' => XC (d + 3) m' [.ref a, .ref t, .int (nI i)] h Q) ↔ Q (some (.int (oI NONE (chz n T i z).1))) (xset h t (.inr (10, townF t n (setS T ((chz n T i z).2, x, y))))) := by
  have hn := R.nn
  have hkn : knd T i = kn := by show (T 8 i).toNatClampNeg = kn; rw [h8, nI_clamp (by omega)]
  have hid : xset h t (.inr (10, townF t n (setS T (z, x, y)))) = h := by rw [← R.o, xset_id]
  rw [hA]
  have hX : ∀ {cs : List Nat} {F : Value → Prop}, kcl kn ∈ cs → (XG cs 1 (.inr (kcl kn, [.int (nI kn), .int (nI home)])) F ↔ F (.int (nI home))) := fun {cs F} hc => XG_c hc
  have lot : kcl kn ∈ [0, 1, 2, 3, 4, 9] → ¬ (kn = 1 ∨ kn = 3) → ¬ kn = 4 → (XC (d + 3) 48 [.ref a, .ref t, .int (nI i)] h Q ↔ Q (some (.int (oI NONE (chz n T i z).1))) (xset h t (.inr (10, townF t n (setS T ((chz n T i z).2, x, y)))))) := by
    intro hc n1 n2
    have hb := c_byLot (d := d) R ht hD (x := nI home) (Q := fun v h' => XE (d + 2) 48 8 [.val (.ref a), .val (.ref t), .val (.int (nI i))] (v.toList ++ []) h' Q)
    rw [e48]
    simp only [s48_0, s48_0n, s48_1, s48_2, s48_5, hA, hX hc, R.o, XG_1, XO_some, XV_1, xo_n, xo_i8, xo_r8, xo_i7, xo_r7, xo_i6, xo_r6, xo_i5, xo_r5, xo_i4, xo_r4, xo_i3, xo_r3, xo_i2, xo_r2, Option.toList_some, Option.toList_none, List.cons_append, List.nil_append, bI_t, bI_f, bI_0, bI_n0, if_true, if_false, true_and, and_true, ne_eq, not_true_eq_false, not_false_eq_true, one_ne0, reduceCtorEq]
    refine hb.trans ?_
    unfold chz
    rw [hkn, if_neg n1, if_neg n2, h9]
    rw [show (setS T (z, x, y)) 4 = T 4 from rfl, show (setS T (z, x, y)) 5 = T 5 from rfl]
    cases gst (T 4) (T 5) (nI home) (n 1) with
    | none => simp only [s48_0, s48_0n, s48_1, s48_2, s48_5, s48_8, XG_1, XO_some, XV_1, xo_n, xo_i8, xo_r8, xo_i7, xo_r7, xo_i6, xo_r6, xo_i5, xo_r5, xo_i4, xo_r4, xo_i3, xo_r3, xo_i2, xo_r2, Option.toList_some, Option.toList_none, List.cons_append, List.nil_append, bI_t, bI_f, bI_0, bI_n0, if_true, if_false, true_and, and_true, ne_eq, not_true_eq_false, not_false_eq_true, one_ne0, reduceCtorEq, hid]; rfl
    | some b =>
      simp only [s48_0, s48_0n, s48_1, s48_2, s48_5, s48_8, XG_1, XO_some, XV_1, xo_n, xo_i8, xo_r8, xo_i7, xo_r7, xo_i6, xo_r6, xo_i5, xo_r5, xo_i4, xo_r4, xo_i3, xo_r3, xo_i2, xo_r2, Option.toList_some, Option.toList_none, List.cons_append, List.nil_append, bI_t, bI_f, bI_0, bI_n0, if_true, if_false, true_and, and_true, ne_eq, not_true_eq_false, not_false_eq_true, one_ne0, reduceCtorEq, setS7]
      rfl
  rcases (show kn = 0 ∨ kn = 1 ∨ kn = 2 ∨ kn = 3 ∨ kn = 4 ∨ kn = 5 by omega) with rfl | rfl | rfl | rfl | rfl | rfl
  · exact lot (by decide) (by decide) (by decide)
  · show XC (d + 3) 7 _ h Q ↔ _
    have hG := c_greatest (d := d + 1) (x := nI home) R R.ga (fr := 12 * i) (by omega) (by omega) (Q := fun v h' => XE (d + 2) 7 16 [.val (.ref a), .val (.ref t), .val (.int (nI i))] (v.toList ++ []) h' Q)
    rw [e7]
    simp only [s7_0, s7_0n, s7_1, s7_2, s7_5, s7_5n, s7_6, s7_9, s7_10, s7_12, s7_13, hA, hX (show kcl 1 ∈ [2, 3] by decide), R.o, tf19, XG_1, XO_some, XV_1, xo_n, xo_i8, xo_r8, xo_i7, xo_r7, xo_i6, xo_r6, xo_i5, xo_r5, xo_i4, xo_r4, xo_i3, xo_r3, xo_i2, xo_r2, Option.toList_some, Option.toList_none, List.cons_append, List.nil_append, bI_t, bI_f, bI_0, bI_n0, if_true, if_false, true_and, and_true, ne_eq, not_true_eq_false, not_false_eq_true, one_ne0, reduceCtorEq, l12]
    refine hG.trans ?_
    simp only [s7_0, s7_0n, s7_1, s7_2, s7_5, s7_5n, s7_6, s7_9, s7_10, s7_12, s7_13, s7_16, XG_1, XO_some, XV_1, xo_n, xo_i8, xo_r8, xo_i7, xo_r7, xo_i6, xo_r6, xo_i5, xo_r5, xo_i4, xo_r4, xo_i3, xo_r3, xo_i2, xo_r2, Option.toList_some, Option.toList_none, List.cons_append, List.nil_append, bI_t, bI_f, bI_0, bI_n0, if_true, if_false, true_and, and_true, ne_eq, not_true_eq_false, not_false_eq_true, one_ne0, reduceCtorEq]
    unfold chz
    rw [hkn, if_pos (Or.inl rfl), h9, hid, show (setS T (z, x, y)) 4 = T 4 from rfl, gst_congr (r2 := gnT n T i) (fun j hj => (W.2 i j hi hj).2)]
  · exact lot (by decide) (by decide) (by decide)
  · show XC (d + 3) 7 _ h Q ↔ _
    have hG := c_greatest (d := d + 1) (x := nI home) R R.ga (fr := 12 * i) (by omega) (by omega) (Q := fun v h' => XE (d + 2) 7 16 [.val (.ref a), .val (.ref t), .val (.int (nI i))] (v.toList ++ []) h' Q)
    rw [e7]
    simp only [s7_0, s7_0n, s7_1, s7_2, s7_5, s7_5n, s7_6, s7_9, s7_10, s7_12, s7_13, hA, hX (show kcl 3 ∈ [2, 3] by decide), R.o, tf19, XG_1, XO_some, XV_1, xo_n, xo_i8, xo_r8, xo_i7, xo_r7, xo_i6, xo_r6, xo_i5, xo_r5, xo_i4, xo_r4, xo_i3, xo_r3, xo_i2, xo_r2, Option.toList_some, Option.toList_none, List.cons_append, List.nil_append, bI_t, bI_f, bI_0, bI_n0, if_true, if_false, true_and, and_true, ne_eq, not_true_eq_false, not_false_eq_true, one_ne0, reduceCtorEq, l12]
    refine hG.trans ?_
    simp only [s7_0, s7_0n, s7_1, s7_2, s7_5, s7_5n, s7_6, s7_9, s7_10, s7_12, s7_13, s7_16, XG_1, XO_some, XV_1, xo_n, xo_i8, xo_r8, xo_i7, xo_r7, xo_i6, xo_r6, xo_i5, xo_r5, xo_i4, xo_r4, xo_i3, xo_r3, xo_i2, xo_r2, Option.toList_some, Option.toList_none, List.cons_append, List.nil_append, bI_t, bI_f, bI_0, bI_n0, if_true, if_false, true_and, and_true, ne_eq, not_true_eq_false, not_false_eq_true, one_ne0, reduceCtorEq]
    unfold chz
    rw [hkn, if_pos (Or.inr rfl), h9, hid, show (setS T (z, x, y)) 4 = T 4 from rfl, gst_congr (r2 := gnT n T i) (fun j hj => (W.2 i j hi hj).2)]
  · show XC (d + 3) 13 _ h Q ↔ _
    have hG := c_greatest (d := d + 1) (x := nI home) R R.wo (fr := 0) (by omega) (by omega) (Q := fun v h' => XE (d + 2) 13 13 [.val (.ref a), .val (.ref t), .val (.int (nI i))] (v.toList ++ []) h' Q)
    rw [e13]
    simp only [s13_0, s13_0n, s13_1, s13_2, s13_5, s13_5n, s13_6, s13_9, s13_10, hA, hX (show kcl 4 ∈ [4] by decide), R.o, tf12, XG_1, XO_some, XV_1, xo_n, xo_i8, xo_r8, xo_i7, xo_r7, xo_i6, xo_r6, xo_i5, xo_r5, xo_i4, xo_r4, xo_i3, xo_r3, xo_i2, xo_r2, Option.toList_some, Option.toList_none, List.cons_append, List.nil_append, bI_t, bI_f, bI_0, bI_n0, if_true, if_false, true_and, and_true, ne_eq, not_true_eq_false, not_false_eq_true, one_ne0, reduceCtorEq]
    refine hG.trans ?_
    simp only [s13_0, s13_0n, s13_1, s13_2, s13_5, s13_5n, s13_6, s13_9, s13_10, s13_13, XG_1, XO_some, XV_1, xo_n, xo_i8, xo_r8, xo_i7, xo_r7, xo_i6, xo_r6, xo_i5, xo_r5, xo_i4, xo_r4, xo_i3, xo_r3, xo_i2, xo_r2, Option.toList_some, Option.toList_none, List.cons_append, List.nil_append, bI_t, bI_f, bI_0, bI_n0, if_true, if_false, true_and, and_true, ne_eq, not_true_eq_false, not_false_eq_true, one_ne0, reduceCtorEq, Nat.zero_add]
    unfold chz
    rw [hkn, if_neg (by decide), if_pos rfl, h9, hid]
    rfl
  · exact lot (by decide) (by decide) (by decide)
theorem fnd_lt {ow : Nat → Int32} {hm : Int32} {nd f0 b : Nat} (h0 : 0 < nd) : ∀ {k i}, fnd ow hm nd f0 k i = some b → b < nd := by
  intro k
  induction k with
  | zero => intro i h; cases h
  | succ k ih =>
    intro i h
    unfold fnd at h
    split at h
    · exact ih h
    · cases h; exact Nat.mod_lt _ h0
theorem chz_lt {i b : Nat} {z : Int32} (h : (chz n T i z).1 = some b) : b < n 1 := by
  unfold chz at h
  split at h
  · exact (gst_lt h).1
  · split at h
    · exact (gst_lt h).1
    · cases hg : gst (T 4) (T 5) (T 9 i) (n 1) with
      | none => rw [hg] at h; cases h
      | some c =>
        rw [hg] at h
        exact fnd_lt (by have := (gst_lt hg).1; omega) h
theorem l_night (I : IV n T) (ht : t + 12 < Dy) (W : wei n T s) {q : Int32 × Int32 × Int32} (hD : Dy ≤ h.1) (R0 : RT Dy h.2.2.1 t n T p s) : ∀ k i, i + k = n 2 → ∀ c2 c3, (XE (d + 3) 71 2 [.val (.ref t), .val (.int (nI i)), c2, c3] [] (xset h t (.inr (10, townF t n (setS T (ngt n T q i))))) Q ↔ Q none (xset h t (.inr (10, townF t n (setS T (ngt n T q (n 2))))))) := by
  have hn := I.nn
  intro k
  induction k with
  | zero =>
    intro i hi c2 c3
    obtain ⟨R, -⟩ := R0.zz ht hD (q := ngt n T q i)
    have hlt : ¬ nI i < nI (n 2) := nI_nlt (by omega) (by omega)
    rw [s71_2]
    simp only [s71_0, s71_1, s71_3, s71_4, s71_7, s71_10, s71_11, s71_14, s71_15, s71_16, s71_16n, s71_17, s71_17n, s71_18, s71_18n, s71_21, s71_23, s71_26, s71_26n, s71_27, s71_28, s71_29, s71_32, s71_33, s71_34, s71_35, s71_38, s71_41, s71_42, s71_45, s71_48, s71_49, s71_50, s71_53, s71_54, s71_56, s71_57, s71_58, s71_59, s71_60, s71_63, s71_64, s71_64r, s71_65, s71_68, s71_69, s71_72, s71_73, s71_74, s71_75, s71_78, s71_81, s71_82, s71_82r, s71_83, s71_86, s71_87, s71_88, s71_91, s71_94, s71_97, R.o, tf2, XG_1, XO_some, XV_1, xo_n, xo_i8, xo_r8, xo_i7, xo_r7, xo_i6, xo_r6, xo_i5, xo_r5, xo_i4, xo_r4, xo_i3, xo_r3, xo_i2, xo_r2, Option.toList_some, Option.toList_none, List.cons_append, List.nil_append, bI_t, bI_f, bI_0, bI_n0, if_true, if_false, true_and, and_true, ne_eq, not_true_eq_false, not_false_eq_true, one_ne0, reduceCtorEq, hlt]
    rw [show i = n 2 by omega]
  | succ k ih =>
    intro i hi c2 c3
    have ih1 := ih (i + 1) (by omega)
    rw [show ngt n T q (i + 1) = nst n T i (ngt n T q i) from rfl] at ih1
    generalize ngt n T q i = qi at ih1 ⊢
    obtain ⟨z, tk, ct⟩ := qi
    obtain ⟨R, F⟩ := R0.zz ht hD (q := (z, tk, ct))
    have hlt : nI i < nI (n 2) := nI_lt (by omega) (by omega)
    have h6 : i < 6 := by omega
    have hi2 : i < n 2 := by omega
    obtain ⟨a, kn, home, q1, q2, q3, q4, q5, q6, -, -, q9⟩ := thiefN R0 I hi2
    have hA : (xset h t (.inr (10, townF t n (setS T (z, tk, ct))))).2.2.1 a = .inr (kcl kn, [.int (nI kn), .int (nI home)]) := by rw [xset_ne (by omega)]; exact q9
    rw [s71_2]
    simp only [s71_0, s71_1, s71_3, s71_4, s71_7, s71_10, s71_11, s71_14, s71_15, s71_16, s71_16n, s71_17, s71_17n, s71_18, s71_18n, s71_21, s71_23, s71_26, s71_26n, s71_27, s71_28, s71_29, R.o, R.ba, tf2, tf15, XG_1, XO_some, XV_1, xo_n, xo_i8, xo_r8, xo_i7, xo_r7, xo_i6, xo_r6, xo_i5, xo_r5, xo_i4, xo_r4, xo_i3, xo_r3, xo_i2, xo_r2, Option.toList_some, Option.toList_none, List.cons_append, List.nil_append, bI_t, bI_f, bI_0, bI_n0, if_true, if_false, true_and, and_true, ne_eq, not_true_eq_false, not_false_eq_true, one_ne0, reduceCtorEq, hlt, XQ6 h6, q1, va_rf_s]
    rw [c_picks R I ht hD W hi2 q3 q4 q5 q6 hA]
    simp only [xset_twice]
    unfold nst at ih1
    dsimp only at ih1
    have hcl : ∀ b, (chz n T i z).1 = some b → b < n 1 := fun b e => chz_lt e
    generalize chz n T i z = cz at ih1 hcl ⊢
    obtain ⟨o, z1⟩ := cz
    obtain ⟨R1, F1⟩ := R0.zz ht hD (q := (z1, tk, ct))
    cases o with
    | none =>
      simp only [s71_0, s71_1, s71_3, s71_4, s71_7, s71_10, s71_11, s71_14, s71_15, s71_16, s71_16n, s71_17, s71_17n, s71_18, s71_18n, s71_21, s71_23, s71_26, s71_26n, s71_27, s71_28, s71_29, s71_32, s71_33, s71_34, s71_35, s71_38, s71_41, s71_42, s71_45, s71_48, s71_49, s71_50, s71_53, s71_54, s71_56, s71_57, s71_58, s71_59, s71_60, s71_63, s71_64, s71_64r, s71_65, s71_68, s71_69, s71_72, s71_73, s71_74, s71_75, s71_78, s71_81, s71_82, s71_82r, s71_83, s71_86, s71_87, s71_88, s71_91, s71_94, s71_97, R1.o, XG_1, XO_some, XV_1, xo_n, xo_i8, xo_r8, xo_i7, xo_r7, xo_i6, xo_r6, xo_i5, xo_r5, xo_i4, xo_r4, xo_i3, xo_r3, xo_i2, xo_r2, Option.toList_some, Option.toList_none, List.cons_append, List.nil_append, bI_t, bI_f, bI_0, bI_n0, if_true, if_false, true_and, and_true, ne_eq, not_true_eq_false, not_false_eq_true, one_ne0, reduceCtorEq, c_isDoor R1, oI, isI_NONE, nI_1]
      exact ih1 _ _
    | some dd =>
      have hdd := hcl dd rfl
      have hI := isI_n hdd (show n 1 < 2 ^ 31 by omega)
      have h72 : 12 * i + dd < 72 := by omega
      have h12 : dd < 12 := by omega
      have hdr := c_draw (d := d + 2) R1 (Q := fun v h' => XE (d + 3) 71 45 [.val (.ref t), .val (.int (nI i)), .val (.ref a), .val (.int (nI dd))] (v.toList ++ []) h' Q)
      rw [setS7, show (setS T (z1, tk, ct)) 0 7 = z1 from rfl, xset_twice] at hdr
      obtain ⟨R2, F2⟩ := R0.zz ht hD (q := (drw z1, tk, ct))
      simp only [s71_32, s71_33, s71_34, s71_35, s71_38, s71_41, s71_42, R1.o, XG_1, XO_some, XV_1, xo_n, xo_i8, xo_r8, xo_i7, xo_r7, xo_i6, xo_r6, xo_i5, xo_r5, xo_i4, xo_r4, xo_i3, xo_r3, xo_i2, xo_r2, Option.toList_some, Option.toList_none, List.cons_append, List.nil_append, bI_t, bI_f, bI_0, bI_n0, if_true, if_false, true_and, and_true, ne_eq, not_true_eq_false, not_false_eq_true, one_ne0, reduceCtorEq, c_isDoor R1, oI, hI, Bool.true_eq_false]
      refine hdr.trans ?_
      simp only [s71_0, s71_1, s71_3, s71_4, s71_7, s71_10, s71_11, s71_14, s71_15, s71_16, s71_16n, s71_17, s71_17n, s71_18, s71_18n, s71_21, s71_23, s71_26, s71_26n, s71_27, s71_28, s71_29, s71_32, s71_33, s71_34, s71_35, s71_38, s71_41, s71_42, s71_45, s71_48, s71_49, s71_50, s71_53, s71_54, s71_56, s71_57, s71_58, s71_59, s71_60, s71_63, s71_64, s71_64r, s71_65, s71_68, s71_69, s71_72, s71_73, s71_74, s71_75, s71_78, s71_81, s71_82, s71_82r, s71_83, s71_86, s71_87, s71_88, s71_91, s71_94, s71_97, R2.o, R2.mi, R2.wo, tf18, tf5, tf6, tf12, XG_1, XO_some, XV_1, xo_n, xo_i8, xo_r8, xo_i7, xo_r7, xo_i6, xo_r6, xo_i5, xo_r5, xo_i4, xo_r4, xo_i3, xo_r3, xo_i2, xo_r2, Option.toList_some, Option.toList_none, List.cons_append, List.nil_append, bI_t, bI_f, bI_0, bI_n0, if_true, if_false, true_and, and_true, ne_eq, not_true_eq_false, not_false_eq_true, one_ne0, reduceCtorEq, z10000, l12, nI_add, XA72 h72, (W.2 i dd hi2 hdd).1, XA12 h12, nI_1, XP_1 (show 5 < (townF t n (setS T (drw z1, tk, ct))).length by rw [tfL]; decide), XP_1 (show 6 < (townF t n (setS T (drw z1, tk, ct))).length by rw [tfL]; decide), ts5, ts6, setS5, setS6, xset_twice]
      by_cases hc : drv z1 % 10000 < msT n T i dd
      · simp only [hc, if_true] at ih1 ⊢
        exact ih1 _ _
      · simp only [hc, if_false] at ih1 ⊢
        exact ih1 _ _
theorem c_night (I : IV n T) (ht : t + 12 < Dy) (W : wei n T s) {q : Int32 × Int32 × Int32} (hD : Dy ≤ h.1) (R0 : RT Dy h.2.2.1 t n T p s) : XC (d + 4) 71 [.ref t] (xset h t (.inr (10, townF t n (setS T q)))) Q ↔ Q none (xset h t (.inr (10, townF t n (setS T (ngt n T q (n 2)))))) := by
  rw [e71]
  simp only [s71_0, s71_1]
  exact l_night I ht W hD R0 (n 2) 0 (by omega) _ _
end TM5
