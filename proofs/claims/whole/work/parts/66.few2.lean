/-! ===== 66: fewest, both sides ===== -/
section FEW
variable {B d : Nat} {E : Nat → va_E} {g0 : Nat → Value} {h h1 : xH} {q : RS} {m f w g : Nat → Int32} {n : Nat → Nat} {T : Nat → Nat → Int32} {p : Nat → Nat → Option Nat} {s : Nat → Nat → Int32} {Q : Option Value → xH → Prop} {x y z : Int32}
theorem l_rung (R : RT (B + 79) h.2.2.1 (B + 1) n T p s) (hD : B + 79 ≤ h.1) {G : Nat → Int32} (hO : h.2.2.1 B = .inr (11, objF B x y)) {c2 : Slot} : ∀ k i, i + k = n 1 → (XE (d + 11) 102 2 [.val (.ref B), .val (.int (nI i)), c2] [] (xset h (B + 34) (.inl (0, xis 12 (cpf (rgs n T) G i)))) Q ↔ XE (d + 11) 102 33 [.val (.ref B), .val (.int (nI (n 1))), c2] [] (xset h (B + 34) (.inl (0, xis 12 (cpf (rgs n T) G (n 1))))) Q) := by
  have hn := R.nn
  have Re : ∀ e, RT (B + 79) (xset h (B + 34) e).2.2.1 (B + 1) n T p s := fun e => R.fr (FR.px (B := B) (a := B + 34) (e := e) hD (Or.inr ⟨by omega, by omega⟩)) (by omega) (fun k hk p => by omega)
  have Oe : ∀ e, (xset h (B + 34) e).2.2.1 B = .inr (11, objF B x y) := fun e => by rw [xset_ne (by omega)]; exact hO
  intro k
  induction k with
  | zero =>
    intro i hi
    have hlt : ¬ nI i < nI (n 1) := nI_nlt (by omega) (by omega)
    rw [s102_2]
    simp only [s102_0, s102_1, s102_3, s102_4, s102_7, s102_10, s102_13, s102_14, s102_17, s102_18, s102_19, s102_22, s102_23, s102_26, s102_27, s102_30, Oe, ob0, (Re _).o, tf1, hlt, XG_1, XO_some, XV_1, xo_n, xo_i8, xo_r8, xo_i7, xo_r7, xo_i6, xo_r6, xo_i5, xo_r5, xo_i4, xo_r4, xo_i3, xo_r3, xo_i2, xo_r2, Option.toList_some, Option.toList_none, List.cons_append, List.nil_append, bI_t, bI_f, bI_0, bI_n0, if_true, if_false, true_and, and_true, ne_eq, not_true_eq_false, not_false_eq_true, one_ne0, reduceCtorEq]
    rw [show i = n 1 by omega]
  | succ k ih =>
    intro i hi
    have hlt : nI i < nI (n 1) := nI_lt (by omega) (by omega)
    have hd : i < n 1 := by omega
    have h12 : i < 12 := by omega
    rw [s102_2]
    simp only [s102_0, s102_1, s102_3, s102_4, s102_7, s102_10, s102_13, s102_14, s102_17, s102_18, s102_19, s102_22, s102_23, s102_26, s102_27, s102_30, Oe, ob0, ob8, (Re _).o, tf1, hlt, c_rings (Re _) hd, xset_self, XS12 h12, xset_twice, cpf_s, nI_1, XG_1, XO_some, XV_1, xo_n, xo_i8, xo_r8, xo_i7, xo_r7, xo_i6, xo_r6, xo_i5, xo_r5, xo_i4, xo_r4, xo_i3, xo_r3, xo_i2, xo_r2, Option.toList_some, Option.toList_none, List.cons_append, List.nil_append, bI_t, bI_f, bI_0, bI_n0, if_true, if_false, true_and, and_true, ne_eq, not_true_eq_false, not_false_eq_true, one_ne0, reduceCtorEq]
    exact ih (i + 1) (by omega)
theorem l_hearsA (R : RT (B + 79) h.2.2.1 (B + 1) n T p s) {G : Nat → Int32} (hO : h.2.2.1 B = .inr (11, objF B x y)) (h34 : h.2.2.1 (B + 34) = .inl (0, xis 12 G)) (hG : ∀ i, i < n 1 → G i = rgs n T i) : ∀ k i, i + k = n 1 → (XE (d + 1) 128 2 [.val (.ref B), .val (.int z), .val (.int (nI i))] [] h Q ↔ Q (some (.int (bI (gdr n T z k i)))) h) := by
  have hn := R.nn
  intro k
  induction k with
  | zero =>
    intro i hi
    have hlt : ¬ nI i < nI (n 1) := nI_nlt (by omega) (by omega)
    rw [s128_2]
    simp only [s128_0, s128_1, s128_3, s128_4, s128_7, s128_10, s128_13, s128_14, s128_17, s128_18, s128_19, s128_22, s128_23, s128_26, s128_27, s128_28, s128_29, s128_30, s128_33, s128_34, s128_34t, s128_34b, s128_35, s128_38, s128_41, s128_42, s128_42t, s128_42b, hO, ob0, R.o, tf1, hlt, XG_1, XO_some, XV_1, xo_n, xo_i8, xo_r8, xo_i7, xo_r7, xo_i6, xo_r6, xo_i5, xo_r5, xo_i4, xo_r4, xo_i3, xo_r3, xo_i2, xo_r2, Option.toList_some, Option.toList_none, List.cons_append, List.nil_append, bI_t, bI_f, bI_0, bI_n0, if_true, if_false, true_and, and_true, ne_eq, not_true_eq_false, not_false_eq_true, one_ne0, reduceCtorEq]
    exact Iff.rfl
  | succ k ih =>
    intro i hi
    have hlt : nI i < nI (n 1) := nI_lt (by omega) (by omega)
    have h12 : i < 12 := by omega
    rw [s128_2, show gdr n T z (k + 1) i = if rgs n T i = 0 then gdr n T z k (i + 1) else if rgs n T i &&& z = 0 then false else gdr n T z k (i + 1) from rfl]
    by_cases e : rgs n T i = 0
    · simp only [s128_0, s128_1, s128_3, s128_4, s128_7, s128_10, s128_13, s128_14, s128_17, s128_18, s128_19, s128_22, s128_23, s128_26, s128_27, s128_28, s128_29, s128_30, s128_33, s128_34, s128_34t, s128_34b, s128_35, s128_38, s128_41, s128_42, s128_42t, s128_42b, hO, ob0, ob8, R.o, tf1, hlt, h34, XA12 h12, hG i (by omega), e, nI_1, XG_1, XO_some, XV_1, xo_n, xo_i8, xo_r8, xo_i7, xo_r7, xo_i6, xo_r6, xo_i5, xo_r5, xo_i4, xo_r4, xo_i3, xo_r3, xo_i2, xo_r2, Option.toList_some, Option.toList_none, List.cons_append, List.nil_append, bI_t, bI_f, bI_0, bI_n0, if_true, if_false, true_and, and_true, ne_eq, not_true_eq_false, not_false_eq_true, one_ne0, reduceCtorEq]
      exact ih (i + 1) (by omega)
    by_cases e2 : rgs n T i &&& z = 0
    · simp only [s128_0, s128_1, s128_3, s128_4, s128_7, s128_10, s128_13, s128_14, s128_17, s128_18, s128_19, s128_22, s128_23, s128_26, s128_27, s128_28, s128_29, s128_30, s128_33, s128_34, s128_34t, s128_34b, s128_35, s128_38, s128_41, s128_42, s128_42t, s128_42b, hO, ob0, ob8, R.o, tf1, hlt, h34, XA12 h12, hG i (by omega), e, e2, nI_1, XG_1, XO_some, XV_1, xo_n, xo_i8, xo_r8, xo_i7, xo_r7, xo_i6, xo_r6, xo_i5, xo_r5, xo_i4, xo_r4, xo_i3, xo_r3, xo_i2, xo_r2, Option.toList_some, Option.toList_none, List.cons_append, List.nil_append, bI_t, bI_f, bI_0, bI_n0, if_true, if_false, true_and, and_true, ne_eq, not_true_eq_false, not_false_eq_true, one_ne0, reduceCtorEq]
    · simp only [s128_0, s128_1, s128_3, s128_4, s128_7, s128_10, s128_13, s128_14, s128_17, s128_18, s128_19, s128_22, s128_23, s128_26, s128_27, s128_28, s128_29, s128_30, s128_33, s128_34, s128_34t, s128_34b, s128_35, s128_38, s128_41, s128_42, s128_42t, s128_42b, hO, ob0, ob8, R.o, tf1, hlt, h34, XA12 h12, hG i (by omega), e, e2, nI_1, XG_1, XO_some, XV_1, xo_n, xo_i8, xo_r8, xo_i7, xo_r7, xo_i6, xo_r6, xo_i5, xo_r5, xo_i4, xo_r4, xo_i3, xo_r3, xo_i2, xo_r2, Option.toList_some, Option.toList_none, List.cons_append, List.nil_append, bI_t, bI_f, bI_0, bI_n0, if_true, if_false, true_and, and_true, ne_eq, not_true_eq_false, not_false_eq_true, one_ne0, reduceCtorEq]
      exact ih (i + 1) (by omega)
theorem c_hearsA (R : RT (B + 79) h.2.2.1 (B + 1) n T p s) {G : Nat → Int32} (hO : h.2.2.1 B = .inr (11, objF B x y)) (h34 : h.2.2.1 (B + 34) = .inl (0, xis 12 G)) (hG : ∀ i, i < n 1 → G i = rgs n T i) : XC (d + 2) 128 [.ref B, .int z] h Q ↔ Q (some (.int (bI (gdr n T z (n 1) 0)))) h := by
  rw [e128]
  simp only [s128_0, s128_1]
  exact l_hearsA R hO h34 hG (n 1) 0 (by omega)
theorem l_few (R : RT (B + 79) h.2.2.1 (B + 1) n T p s) {G : Nat → Int32} (hO : h.2.2.1 B = .inr (11, objF B x y)) (h34 : h.2.2.1 (B + 34) = .inl (0, xis 12 G)) (hG : ∀ i, i < n 1 → G i = rgs n T i) : ∀ k b, k ≤ 1024 → b < 1024 → (XE (d + 11) 102 47 [.val (.ref B), .val (.int (nI b)), .val (.int (nI k - 1))] [] h Q ↔ Q (some (.int (nI (fwf n T k b)))) h) := by
  intro k
  induction k with
  | zero =>
    intro b _ _
    rw [s102_47]
    simp only [s102_48, s102_51, s102_52, s102_55, s102_56, s102_59, s102_62, s102_63, s102_64, s102_67, s102_70, s102_71, s102_72, s102_75, s102_78, s102_79, show ((nI 0 - 1 : Int32) < 0) = True from eq_true (by decide), XG_1, XO_some, XV_1, xo_n, xo_i8, xo_r8, xo_i7, xo_r7, xo_i6, xo_r6, xo_i5, xo_r5, xo_i4, xo_r4, xo_i3, xo_r3, xo_i2, xo_r2, Option.toList_some, Option.toList_none, List.cons_append, List.nil_append, bI_t, bI_f, bI_0, bI_n0, if_true, if_false, true_and, and_true, ne_eq, not_true_eq_false, not_false_eq_true, one_ne0, reduceCtorEq]
    exact Iff.rfl
  | succ k ih =>
    intro b hk hb
    have e1 : nI (k + 1) - 1 = nI k := pk_sub (a := k + 1) (b := 1) (by omega)
    have h0 : ¬ nI k < 0 := nI_nlt (b := 0) (by omega) (by omega)
    have em : nI k + (-1) = nI k - 1 := (Int32.sub_eq_add_neg _ _).symm
    rw [s102_47, e1, show fwf n T (k + 1) b = if bcF (nI b) < bcF (nI k) then fwf n T k b else if gdr n T (nI k) (n 1) 0 = true then fwf n T k k else fwf n T k b from rfl]
    by_cases c1 : bcF (nI b) < bcF (nI k)
    · simp only [s102_48, s102_51, s102_52, s102_55, s102_56, s102_59, s102_62, s102_63, s102_64, s102_67, s102_70, s102_71, s102_72, s102_75, s102_78, s102_79, h0, c_bitCount, c1, em, XG_1, XO_some, XV_1, xo_n, xo_i8, xo_r8, xo_i7, xo_r7, xo_i6, xo_r6, xo_i5, xo_r5, xo_i4, xo_r4, xo_i3, xo_r3, xo_i2, xo_r2, Option.toList_some, Option.toList_none, List.cons_append, List.nil_append, bI_t, bI_f, bI_0, bI_n0, if_true, if_false, true_and, and_true, ne_eq, not_true_eq_false, not_false_eq_true, one_ne0, reduceCtorEq]
      exact ih b (by omega) hb
    · cases c2 : gdr n T (nI k) (n 1) 0 with
      | false =>
        simp only [s102_48, s102_51, s102_52, s102_55, s102_56, s102_59, s102_62, s102_63, s102_64, s102_67, s102_70, s102_71, s102_72, s102_75, s102_78, s102_79, h0, c_bitCount, c1, em, hO, c_hearsA R hO h34 hG, c2, Bool.false_eq_true, XG_1, XO_some, XV_1, xo_n, xo_i8, xo_r8, xo_i7, xo_r7, xo_i6, xo_r6, xo_i5, xo_r5, xo_i4, xo_r4, xo_i3, xo_r3, xo_i2, xo_r2, Option.toList_some, Option.toList_none, List.cons_append, List.nil_append, bI_t, bI_f, bI_0, bI_n0, if_true, if_false, true_and, and_true, ne_eq, not_true_eq_false, not_false_eq_true, one_ne0, reduceCtorEq]
        exact ih b (by omega) hb
      | true =>
        simp only [s102_48, s102_51, s102_52, s102_55, s102_56, s102_59, s102_62, s102_63, s102_64, s102_67, s102_70, s102_71, s102_72, s102_75, s102_78, s102_79, h0, c_bitCount, c1, em, hO, c_hearsA R hO h34 hG, c2, XG_1, XO_some, XV_1, xo_n, xo_i8, xo_r8, xo_i7, xo_r7, xo_i6, xo_r6, xo_i5, xo_r5, xo_i4, xo_r4, xo_i3, xo_r3, xo_i2, xo_r2, Option.toList_some, Option.toList_none, List.cons_append, List.nil_append, bI_t, bI_f, bI_0, bI_n0, if_true, if_false, true_and, and_true, ne_eq, not_true_eq_false, not_false_eq_true, one_ne0, reduceCtorEq]
        exact ih k (by omega) (by omega)
theorem l_rfew (R : RM h.2.2.1 (B + 58) m f w g) (M : MR n T f) (I : IV n T) {c1 : Slot} : ∀ k b, k ≤ 1024 → b < 1024 → (XE (d + 11) 189 22 [.val (.ref (B + 58)), c1, .val (.int (hdb n T (xshl 1 (nI (n 0)) - 1) (n 1))), .val (.int (nI b)), .val (.int (nI k - 1))] [] h Q ↔ Q (some (.int (nI (fwf n T k b)))) h) := by
  have hn := I.nn
  intro k
  induction k with
  | zero =>
    intro b _ _
    rw [s189_22]
    simp only [s189_24, s189_27, s189_29, s189_32, s189_33, s189_36, s189_39, s189_40, s189_42, s189_45, s189_46, s189_49, s189_51, s189_54, s189_55, s189_56, s189_59, s189_62, s189_63, show ((nI 0 - 1 : Int32) < 0) = True from eq_true (by decide), XG_1, XO_some, XV_1, xo_n, xo_i8, xo_r8, xo_i7, xo_r7, xo_i6, xo_r6, xo_i5, xo_r5, xo_i4, xo_r4, xo_i3, xo_r3, xo_i2, xo_r2, Option.toList_some, Option.toList_none, List.cons_append, List.nil_append, bI_t, bI_f, bI_0, bI_n0, if_true, if_false, true_and, and_true, ne_eq, not_true_eq_false, not_false_eq_true, one_ne0, reduceCtorEq]
    exact Iff.rfl
  | succ k ih =>
    intro b hk hb
    have e1 : nI (k + 1) - 1 = nI k := pk_sub (a := k + 1) (b := 1) (by omega)
    have h0 : ¬ nI k < 0 := nI_nlt (b := 0) (by omega) (by omega)
    have em : nI k + (-1) = nI k - 1 := (Int32.sub_eq_add_neg _ _).symm
    obtain ⟨bk1, bk2⟩ := bc_all (k := k) (by omega)
    obtain ⟨bb1, bb2⟩ := bc_all hb
    rw [s189_22, e1, show fwf n T (k + 1) b = if bcF (nI b) < bcF (nI k) then fwf n T k b else if gdr n T (nI k) (n 1) 0 = true then fwf n T k k else fwf n T k b from rfl, bk1, bb1]
    by_cases c1 : btF 10 (nI b) 0 < btF 10 (nI k) 0
    · simp only [s189_24, s189_27, s189_29, s189_32, s189_33, s189_36, s189_39, s189_40, s189_42, s189_45, s189_46, s189_49, s189_51, s189_54, s189_55, s189_56, s189_59, s189_62, s189_63, h0, r_bitsOf bk2, r_bitsOf bb2, c1, em, XG_1, XO_some, XV_1, xo_n, xo_i8, xo_r8, xo_i7, xo_r7, xo_i6, xo_r6, xo_i5, xo_r5, xo_i4, xo_r4, xo_i3, xo_r3, xo_i2, xo_r2, Option.toList_some, Option.toList_none, List.cons_append, List.nil_append, bI_t, bI_f, bI_0, bI_n0, if_true, if_false, true_and, and_true, ne_eq, not_true_eq_false, not_false_eq_true, one_ne0, reduceCtorEq]
      exact ih b (by omega) hb
    · have G := gdr_hdb (n := n) (T := T) (x := nI k) hn.1 hn.2.1
      cases c2 : gdr n T (nI k) (n 1) 0 with
      | false =>
        have G2 : ¬ hdb n T (nI k) (n 1) = hdb n T (xshl 1 (nI (n 0)) - 1) (n 1) := fun e => by rw [G.mp e] at c2; cases c2
        simp only [s189_24, s189_27, s189_29, s189_32, s189_33, s189_36, s189_39, s189_40, s189_42, s189_45, s189_46, s189_49, s189_51, s189_54, s189_55, s189_56, s189_59, s189_62, s189_63, h0, r_bitsOf bk2, r_bitsOf bb2, c1, em, R.1, r_heardBy R M I, G2, Bool.false_eq_true, XG_1, XO_some, XV_1, xo_n, xo_i8, xo_r8, xo_i7, xo_r7, xo_i6, xo_r6, xo_i5, xo_r5, xo_i4, xo_r4, xo_i3, xo_r3, xo_i2, xo_r2, Option.toList_some, Option.toList_none, List.cons_append, List.nil_append, bI_t, bI_f, bI_0, bI_n0, if_true, if_false, true_and, and_true, ne_eq, not_true_eq_false, not_false_eq_true, one_ne0, reduceCtorEq]
        exact ih b (by omega) hb
      | true =>
        have G2 := G.mpr c2
        simp only [s189_24, s189_27, s189_29, s189_32, s189_33, s189_36, s189_39, s189_40, s189_42, s189_45, s189_46, s189_49, s189_51, s189_54, s189_55, s189_56, s189_59, s189_62, s189_63, h0, r_bitsOf bk2, r_bitsOf bb2, c1, em, R.1, r_heardBy R M I, G2, XG_1, XO_some, XV_1, xo_n, xo_i8, xo_r8, xo_i7, xo_r7, xo_i6, xo_r6, xo_i5, xo_r5, xo_i4, xo_r4, xo_i3, xo_r3, xo_i2, xo_r2, Option.toList_some, Option.toList_none, List.cons_append, List.nil_append, bI_t, bI_f, bI_0, bI_n0, if_true, if_false, true_and, and_true, ne_eq, not_true_eq_false, not_false_eq_true, one_ne0, reduceCtorEq]
        exact ih k (by omega) (by omega)
theorem ok_fewest (S : REP B E g0 h) : OK B E g0 d h 102 189 [] := by
  have S0 := S
  obtain ⟨⟨n, T, p, s, m, f, w, g, q, R, I, RR, M, X⟩, hE, hg, hD, hz⟩ := S
  obtain ⟨Xc, ⟨RI, II⟩, Xr, Xm⟩ := X
  have hO := Xc.1.1
  have hn := I.nn
  have hp : 2 ^ n 0 ≤ 1024 := Nat.pow_le_pow_right (n := 2) (by decide) hn.1
  have hp0 : 0 < 2 ^ n 0 := Nat.two_pow_pos _
  have sh : xshl 1 (nI (n 0)) = nI (2 ^ n 0) := shl1 _ hn.1
  have sb : nI (2 ^ n 0) - 1 = nI (2 ^ n 0 - 1) := pk_sub (b := 1) (by omega)
  have h34 : h.2.2.1 (B + 34) = .inl (0, xis 12 (q.xu 5)) := Xc.1.2.2.2.2.2.2.2.2.2.2
  have F1 : FR (B + 79) (PX B) h (xset h (B + 34) (.inl (0, xis 12 (cpf (rgs n T) (q.xu 5) (n 1))))) := FR.px hD (Or.inr ⟨by omega, by omega⟩)
  have X1 := xc_u5 Xc (f := cpf (rgs n T) (q.xu 5) (n 1))
  have Y1 := xr_o Xr (a := B + 34) (e := .inl (0, xis 12 (cpf (rgs n T) (q.xu 5) (n 1)))) (by omega)
  have R1 := rm_o RR (a := B + 34) (e := .inl (0, xis 12 (cpf (rgs n T) (q.xu 5) (n 1)))) (by omega) (by omega) (by omega) (by omega)
  have RT1 : RT (B + 79) (xset h (B + 34) (.inl (0, xis 12 (cpf (rgs n T) (q.xu 5) (n 1))))).2.2.1 (B + 1) n T p s := R.fr F1 (by omega) (fun k hk p => by omega)
  have O1 : (xset h (B + 34) (.inl (0, xis 12 (cpf (rgs n T) (q.xu 5) (n 1))))).2.2.1 B = .inr (11, objF B (bI q.xkp) (nI q.xnw)) := by rw [xset_ne (by omega)]; exact hO
  have S2 : REP B E g0 (xset h (B + 34) (.inl (0, xis 12 (cpf (rgs n T) (q.xu 5) (n 1))))) := rep_px R I hE hg hD hz F1 R1 M X1 RI II (rxr_of (q2 := q.sU 5 (cpf (rgs n T) (q.xu 5) (n 1))) Y1 rfl) (rxm_fr (h := h) (rxm_of Xm rfl rfl rfl rfl rfl rfl rfl rfl rfl rfl rfl rfl rfl rfl rfl rfl rfl rfl rfl Xm.2.1) F1)
  refine ok_w (nI (fwf n T (2 ^ n 0) (2 ^ n 0 - 1))) (fun Q K => ?_) (fun Q K => ?_) (fun a ha => (F1.at (by omega) (by omega)).trans (hE a ha)) ⟨_, R1.1⟩ S2 (by show h.1 ≤ _; omega) (by show h.2.1 ≤ _; omega)
  · have L := l_rung (d := d) (Q := Q) R hD (G := q.xu 5) hO (c2 := .unset) (n 1) 0 (by omega)
    rw [cpf_0, ← h34, xset_id] at L
    rw [e102]
    simp only [s102_0, s102_1]
    refine L.mpr ?_
    simp only [s102_33, s102_34, s102_35, s102_38, s102_41, s102_42, s102_43, s102_44, s102_45, s102_46, O1, ob0, RT1.o, tf0, XG_1, XO_some, XV_1, xo_n, xo_i8, xo_r8, xo_i7, xo_r7, xo_i6, xo_r6, xo_i5, xo_r5, xo_i4, xo_r4, xo_i3, xo_r3, xo_i2, xo_r2, Option.toList_some, Option.toList_none, List.cons_append, List.nil_append, bI_t, bI_f, bI_0, bI_n0, if_true, if_false, true_and, and_true, ne_eq, not_true_eq_false, not_false_eq_true, one_ne0, reduceCtorEq]
    have L2 := l_few (d := d) (Q := Q) RT1 O1 xset_self (fun i hi => if_pos hi) (2 ^ n 0) (2 ^ n 0 - 1) (by omega) (by omega)
    rw [← sb, ← sh] at L2
    exact L2.mpr K
  · have L2 := l_rfew (d := d) (Q := Q) (c1 := .val (.int (xshl 1 (nI (n 0)) - 1))) R1 M I (2 ^ n 0) (2 ^ n 0 - 1) (by omega) (by omega)
    rw [← sb, ← sh] at L2
    rw [e189]
    simp only [s189_0, s189_1, s189_2, s189_5, s189_6, s189_7, s189_8, s189_9, s189_10, s189_11, s189_12, s189_13, s189_16, s189_17, s189_18, s189_19, s189_20, R1.1, mf0, R1.2.1, A1, M.1.2.1, r_heardBy R1 M I, XG_1, XO_some, XV_1, xo_n, xo_i8, xo_r8, xo_i7, xo_r7, xo_i6, xo_r6, xo_i5, xo_r5, xo_i4, xo_r4, xo_i3, xo_r3, xo_i2, xo_r2, Option.toList_some, Option.toList_none, List.cons_append, List.nil_append, bI_t, bI_f, bI_0, bI_n0, if_true, if_false, true_and, and_true, ne_eq, not_true_eq_false, not_false_eq_true, one_ne0, reduceCtorEq]
    exact L2.mpr K
end FEW
