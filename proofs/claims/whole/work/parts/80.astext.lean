/-! ===== 80: the class's whole reading, and the text that is made ===== -/
theorem kyv_c {b : Nat → Int32} {st fr to : Nat} : kyv b st fr to = -1000000005 ∨ ∃ ky, ky < 3 ∧ kyv b st fr to = nI ky ∧ st = 1 ∧ to - fr = sle ky := by
  have key : ∀ i, iwd b st fr to i = true → st = 1 ∧ to - fr = sle i := fun i h => by
    unfold iwd at h
    by_cases e : st = 1 ∧ to - fr = sle i
    · exact e
    · rw [if_neg e] at h; cases h
  unfold kyv
  by_cases h0 : iwd b st fr to 0 = true
  · rw [if_pos h0]; exact Or.inr ⟨0, by decide, rfl, key 0 h0⟩
  rw [if_neg h0]
  by_cases h1 : iwd b st fr to 1 = true
  · rw [if_pos h1]; exact Or.inr ⟨1, by decide, rfl, key 1 h1⟩
  rw [if_neg h1]
  by_cases h2 : iwd b st fr to 2 = true
  · rw [if_pos h2]; exact Or.inr ⟨2, by decide, rfl, key 2 h2⟩
  rw [if_neg h2]; exact Or.inl rfl
theorem pi_0 {nn z p : Nat} (h3 : 3 ≤ p) (hp : p ≤ z) : PI nn z p [] [] 0 true := ⟨trivial, by decide, by show 0 + 0 + 3 ≤ p; omega, hp, trivial, rfl, Nat.le_refl _⟩
section AST
variable {B d : Nat} {h : xH} {Q : Option Value → xH → Prop} {f t s k m u c o n w v x : Int32} {y G O : Nat → Int32} {z : Nat} {adK adV : Nat → Nat}
theorem c_fault (hb : h.2.2.1 (B + 28) = .inl (0, xis 96 y)) (hz : z ≤ 96) (S : STH h adK adV) (ha : ∀ i, i < 6 → adV i < B) (K0 : kyv y (ts y z 0) (tf y z 0) (tn y z 0) = -1000000005 → ∀ f t s k m u c o n w G O, Q (some (.int (nI (tf y z 0)))) (TS h B (nI z) f t s k m u c o n w G O)) (K1 : ∀ ky, ky < 3 → kyv y (ts y z 0) (tf y z 0) (tn y z 0) = nI ky → ∀ r, prs y z ky (z + 1) (tn y z 0) [] [] 0 true = (none, r) → ∀ f t s k m u c o n w G O, Q (some (.int (nI r))) (TS h B (nI z) f t s k m u c o n w G O)) (K2 : ∀ ky, ky < 3 → kyv y (ts y z 0) (tf y z 0) (tn y z 0) = nI ky → ∀ W2 L2 A2 r, prs y z ky (z + 1) (tn y z 0) [] [] 0 true = (some (W2, L2, A2), r) → ∀ f t s o n w G O, SRe asc O W2 → SRe cenc G L2 → Q (some (.int (-1000000005))) (TS h B (nI z) f t s (nI ky) (nI A2) (nI L2.length) (nI W2.length) o n w G O)) : XC (d + 11) 22 [.ref (B + 27)] (TS h B (nI z) f t s k m u c o n w G O) Q := by
  have hl := tn_le (b := y) (z := z) (p := 0) (by omega)
  have hft : tf y z 0 ≤ tn y z 0 := by
    by_cases e : ts y z 0 = 0
    · unfold tn
      by_cases q : tf y z 0 < z
      · have := (ts_0 (b := y) (z := z) (p := 0)).mp e; omega
      · rw [if_neg q]; exact Nat.le_refl _
    · have := tn_gt e; omega
  have e0 : (0 : Int32) = nI 0 := rfl
  rw [e22]
  simp only [s22_0, s22_1, s22_2, s22_5, s22_6, s22_7, s22_10, s22_11, s22_12, s22_15, s22_16, s22_17, s22_20, s22_21, s22_22, s22_25, s22_26, s22_27, s22_30, s22_31, s22_32, s22_35, s22_36, xset_self, tp_3, tp_6, tp_8, tp_10, tp_11, tp_12, tp_13, xset_twice, or_true, XG_1, XO_some, XV_1, xo_n, xo_i8, xo_r8, xo_i7, xo_r7, xo_i6, xo_r6, xo_i5, xo_r5, xo_i4, xo_r4, xo_i3, xo_r3, xo_i2, xo_r2, Option.toList_some, Option.toList_none, List.cons_append, List.nil_append, bI_t, bI_f, bI_0, bI_n0, if_true, if_false, true_and, and_true, ne_eq, not_true_eq_false, not_false_eq_true, one_ne0, reduceCtorEq]
  refine (c_step (p := 0) hb hz (by omega)).mpr ?_
  simp only [s22_39, s22_40, s22_41, xset_self, XG_1, XO_some, XV_1, xo_n, xo_i8, xo_r8, xo_i7, xo_r7, xo_i6, xo_r6, xo_i5, xo_r5, xo_i4, xo_r4, xo_i3, xo_r3, xo_i2, xo_r2, Option.toList_some, Option.toList_none, List.cons_append, List.nil_append, bI_t, bI_f, bI_0, bI_n0, if_true, if_false, true_and, and_true, ne_eq, not_true_eq_false, not_false_eq_true, one_ne0, reduceCtorEq]
  refine (c_keyHere hb hz S ha ts_lt hft hl).mpr ?_
  rcases kyv_c (b := y) (st := ts y z 0) (fr := tf y z 0) (to := tn y z 0) with e | ⟨ky, hk, e, e1, e2⟩
  · simp only [s22_44, s22_47, s22_48, s22_51, s22_53, s22_56, s22_57, s22_60, xset_self, tp_5, tg_5, tg_2, xset_twice, e, XG_1, XO_some, XV_1, xo_n, xo_i8, xo_r8, xo_i7, xo_r7, xo_i6, xo_r6, xo_i5, xo_r5, xo_i4, xo_r4, xo_i3, xo_r3, xo_i2, xo_r2, Option.toList_some, Option.toList_none, List.cons_append, List.nil_append, bI_t, bI_f, bI_0, bI_n0, if_true, if_false, true_and, and_true, ne_eq, not_true_eq_false, not_false_eq_true, one_ne0, reduceCtorEq]
    exact K0 e _ _ _ _ _ _ _ _ _ _ _ _
  · have hne : (nI ky = -1000000005) = False := eq_false (fun q => by
      rcases (show ky = 0 ∨ ky = 1 ∨ ky = 2 by omega) with rfl | rfl | rfl <;> revert q <;> decide)
    have h3 : 3 ≤ tn y z 0 := by
      have : 3 ≤ sle ky := by rcases (show ky = 0 ∨ ky = 1 ∨ ky = 2 by omega) with rfl | rfl | rfl <;> decide
      omega
    simp only [s22_44, s22_47, s22_48, s22_51, s22_53, s22_56, s22_57, s22_60, s22_61, s22_62, xset_self, tp_5, tg_5, xset_twice, e, hne, XG_1, XO_some, XV_1, xo_n, xo_i8, xo_r8, xo_i7, xo_r7, xo_i6, xo_r6, xo_i5, xo_r5, xo_i4, xo_r4, xo_i3, xo_r3, xo_i2, xo_r2, Option.toList_some, Option.toList_none, List.cons_append, List.nil_append, bI_t, bI_f, bI_0, bI_n0, if_true, if_false, true_and, and_true, ne_eq, not_true_eq_false, not_false_eq_true, one_ne0, reduceCtorEq]
    exact l_fault hk hb hz S ha (z + 1) (tn y z 0) [] [] 0 true G O (nI (tf y z 0)) (nI (ts y z 0)) 0 (by omega) (pi_0 h3 hl) trivial trivial (by omega) (fun r q f t s m u c o n w G O => K1 ky hk e r q _ _ _ _ _ _ _ _ _ _ _ _) (fun W2 L2 A2 r q => K2 ky hk e W2 L2 A2 r q)
/-- all that waits is given out -/
theorem l_asT : ∀ W L G r, r ≤ 7 → opn W = 0 → SRe asc O W → SRe cenc G L → sh r W → W.length + L.length ≤ 96 → (∀ G2, (stl 0 W L).1 = [] → SRe cenc G2 (stl 0 W L).2 → XE (d + 1) 23 32 [.val (.ref (B + 27))] [] (TS h B v f t s k m (nI (stl 0 W L).2.length) (nI 0) o n w G2 O) Q) → XE (d + 1) 23 0 [.val (.ref (B + 27))] [] (TS h B v f t s k m (nI L.length) (nI W.length) o n w G O) Q := by
  intro W
  induction W with
  | nil =>
    intro L G r hr ho hO hG hs hl K
    have l0 : ¬ (0 : Int32) < nI ([] : List Int32).length := by decide
    rw [s23_0]
    simp only [s23_1, s23_4, s23_7, s23_8, s23_11, s23_12, s23_15, s23_16, s23_19, s23_20, s23_20r, s23_21, s23_24, s23_25, s23_26, s23_29, xset_self, tg_10, l0, XG_1, XO_some, XV_1, xo_n, xo_i8, xo_r8, xo_i7, xo_r7, xo_i6, xo_r6, xo_i5, xo_r5, xo_i4, xo_r4, xo_i3, xo_r3, xo_i2, xo_r2, Option.toList_some, Option.toList_none, List.cons_append, List.nil_append, bI_t, bI_f, bI_0, bI_n0, if_true, if_false, true_and, and_true, ne_eq, not_true_eq_false, not_false_eq_true, one_ne0, reduceCtorEq]
    exact K G rfl hG
  | cons s1 W ih =>
    intro L G r hr ho hO hG hs hl K
    have hl2 : W.length + 1 + L.length ≤ 96 := hl
    have e1 : O W.length = asc s1 := hO.1
    have l0 : (0 : Int32) < nI (W.length + 1) := nI_lt (a := 0) (by omega) (by omega)
    show XE (d + 1) 23 0 [.val (.ref (B + 27))] [] (TS h B v f t s k m (nI L.length) (nI (W.length + 1)) o n w G O) Q
    rw [s23_0]
    rcases hs with ⟨-, q, -⟩ | ⟨q, q2, q3⟩ | ⟨q, -⟩
    · omega
    · obtain ⟨k1, k2, k3, k4, k5, k6, k7, k8⟩ := rk_9 q
      have es : stl 0 (s1 :: W) L = stl 0 W (s1 :: L) := if_neg (fun e => by rcases e with e | e; exact k4 e; omega)
      rw [es] at K
      simp only [s23_1, s23_4, s23_7, s23_8, s23_11, s23_12, s23_15, s23_16, s23_19, s23_20, s23_20r, s23_21, s23_24, s23_25, s23_26, s23_29, xset_self, tg_10, l0, c_top (show W.length + 1 ≤ 96 by omega), e1, k8, c_emit (show L.length < 96 by omega), tp_10, xset_twice, nI_p1, XG_1, XO_some, XV_1, xo_n, xo_i8, xo_r8, xo_i7, xo_r7, xo_i6, xo_r6, xo_i5, xo_r5, xo_i4, xo_r4, xo_i3, xo_r3, xo_i2, xo_r2, Option.toList_some, Option.toList_none, List.cons_append, List.nil_append, bI_t, bI_f, bI_0, bI_n0, if_true, if_false, true_and, and_true, ne_eq, not_true_eq_false, not_false_eq_true, one_ne0, reduceCtorEq]
      exact ih (s1 :: L) (upd G L.length (cenc s1)) (rk s1) (by omega) (by rw [show opn (s1 :: W) = opn W from if_neg k4] at ho; exact ho) hO.2 (SRe_push hG rfl) q3 (by show W.length + (L.length + 1) ≤ 96; omega) K
    · rw [q] at ho; exact absurd ho (by show ¬ opn W + 1 = 0; omega)
theorem xnew_1 {N : Nat} {e : va_E} : (xnew h N e).1 = h.1 + 1 := rfl
theorem c_copyOf {U a : Nat} (hU : U < 96) (hA : h.2.2.1 a = .inl (0, xis 96 G)) (ha : a < h.1) : XC (d + 1) 241 [.ref a, .int (nI U)] h Q ↔ Q (some (.ref h.1)) (xset (xnew h U (.inl (0, xis U (fun _ => 0)))) h.1 (.inl (0, xis U (cpf G (fun _ => 0) U)))) := by
  have hne : (nI U = nI 96) = False := eq_false (fun q => by have := (nI_eq (by omega) (by decide)).mp q; omega)
  have hcl : (nI U).toNatClampNeg = U := nI_clamp (by omega)
  have h0 : (0 : Int32) ≤ nI U := nI_pos' (by omega)
  have a1 : ∀ e, (xnew h U e).2.2.1 a = .inl (0, xis 96 G) := fun e => by rw [xnew_ne (by omega)]; exact hA
  have mn : (if nI U < nI 96 then nI U else nI 96) = nI U := if_pos (nI_lt hU (by decide))
  have XC' : ∀ {F : va_E → Prop}, XCp (.inl (0, xis U (fun _ => 0))) (.inl (0, xis 96 G)) (nI U) 0 0 F ↔ F (.inl (0, xis U (cpf G (fun _ => 0) U))) := fun {F} => by
    unfold XCp
    dsimp only
    rw [show (0 : Int32).toNatClampNeg = 0 from rfl, hcl, cpy_cpf]
    exact ⟨fun q => q.2, fun q => ⟨⟨rfl, rfl, Int32.le_refl _, Int32.le_refl _, h0, by omega, by omega⟩, q⟩⟩
  rw [e241]
  simp only [s241_0, s241_1, s241_2, s241_3, s241_14, s241_15, s241_17, s241_17n, s241_18, s241_19, s241_20, s241_20n, s241_21, s241_22, s241_23, s241_24, s241_25, hA, XL_0, hne, hcl, h0, a1, mn, show U ≤ 100000 by omega, true_and, and_self, XG_1, XO_some, XV_1, xo_n, xo_i8, xo_r8, xo_i7, xo_r7, xo_i6, xo_r6, xo_i5, xo_r5, xo_i4, xo_r4, xo_i3, xo_r3, xo_i2, xo_r2, Option.toList_some, Option.toList_none, List.cons_append, List.nil_append, bI_t, bI_f, bI_0, bI_n0, if_true, if_false, true_and, and_true, ne_eq, not_true_eq_false, not_false_eq_true, one_ne0, reduceCtorEq]
  rw [s241_28 rfl]
  simp only [xnew_at, a1, XC', s241_31, s241_31n, s241_32, s241_32n, XG_1, XO_some, XV_1, xo_n, xo_i8, xo_r8, xo_i7, xo_r7, xo_i6, xo_r6, xo_i5, xo_r5, xo_i4, xo_r4, xo_i3, xo_r3, xo_i2, xo_r2, Option.toList_some, Option.toList_none, List.cons_append, List.nil_append, bI_t, bI_f, bI_0, bI_n0, if_true, if_false, true_and, and_true, ne_eq, not_true_eq_false, not_false_eq_true, one_ne0, reduceCtorEq]
theorem FW.mk {Dy : Nat} {P : Nat → Prop} {h2 : xH} (hD : Dy ≤ h.1) (hz : ∀ a, h.1 ≤ a → h.2.2.1 a = .inr (99, [])) (hs : ∀ a, a < h.1 → h2.2.2.1 a = h.2.2.1 a) : FW Dy P h h2 := by
  have nz : ∀ a (e : va_E), h.2.2.1 a = e → ¬ e = .inr (99, []) → a < h.1 := fun a e he hn => by
    by_cases q : a < h.1
    · exact q
    · exact absurd (he.symm.trans (hz a (by omega))) hn
  refine ⟨fun a ha _ => hs a (by omega), fun a kk hm ha q => ?_, fun a ky tm us cd ha q => ?_⟩
  · obtain ⟨kn, q1, q2, q3⟩ := q
    have := nz a _ q3 (fun e => by
      have q4 := (Prod.mk.inj (Sum.inr.inj e)).2
      cases q4)
    exact ⟨kn, q1, q2, (hs a this).trans q3⟩
  · obtain ⟨u, q1, q2, q3, ⟨f, q4, q5⟩, g, q6⟩ := q
    have a0 := nz a _ q3 (fun e => by
      have q4 := (Prod.mk.inj (Sum.inr.inj e)).2
      cases q4)
    have a1 := nz (a + 1) _ q4 (fun e => by cases e)
    have a2 := nz (a + 2) _ q6 (fun e => by cases e)
    exact ⟨u, q1, q2, (hs a a0).trans q3, ⟨f, (hs _ a1).trans q4, q5⟩, g, (hs _ a2).trans q6⟩
/-- the text is made -/
theorem l_mkT {U : Nat} {ky A : Int32} (hU : U < 96) (hB : B + 79 ≤ h.1) (K : ∀ h2 : xH, h2.1 = h.1 + 3 → h2.2.1 = h.2.1 + 4 + U + U → h2.2.2.2 = h.2.2.2 → (∀ a, a < h.1 → h2.2.2.1 a = (TS h B v f t s ky A (nI U) c o n w G O).2.2.1 a) → (∀ a, h.1 + 3 ≤ a → h2.2.2.1 a = h.2.2.1 a) → h2.2.2.1 h.1 = .inr (8, [.int ky, .int A, .ref (h.1 + 1), .ref (h.1 + 2)]) → h2.2.2.1 (h.1 + 1) = .inl (0, xis U (cpf G (fun _ => 0) U)) → h2.2.2.1 (h.1 + 2) = .inl (0, xis U (fun _ => 0)) → Q (some (.ref h.1)) h2) : XE (d + 1) 23 32 [.val (.ref (B + 27))] [] (TS h B v f t s ky A (nI U) c o n w G O) Q := by
  have hcl : (nI U).toNatClampNeg = U := nI_clamp (by omega)
  have h0 : (0 : Int32) ≤ nI U := nI_pos' (by omega)
  have ob : ∀ e, (xnew (TS h B v f t s ky A (nI U) c o n w G O) 4 e).2.2.1 (B + 27) = .inr (7, tapG B v f t s ky A (nI U) c o n w) := fun e => by rw [xnew_ne (by show B + 27 ≠ h.1; omega), xset_self]
  have cg : ∀ e, (xnew (TS h B v f t s ky A (nI U) c o n w G O) 4 e).2.2.1 (B + 29) = .inl (0, xis 96 G) := fun e => by rw [xnew_ne (by show B + 29 ≠ h.1; omega), t_29]
  simp only [s23_32, s23_35, s23_35r, s23_36, s23_37, s23_40, s23_41, s23_44, s23_45, s23_48, s23_49, ob, tg_5, tg_6, tg_7, tg_8, XG_1, XO_some, XV_1, xo_n, xo_i8, xo_r8, xo_i7, xo_r7, xo_i6, xo_r6, xo_i5, xo_r5, xo_i4, xo_r4, xo_i3, xo_r3, xo_i2, xo_r2, Option.toList_some, Option.toList_none, List.cons_append, List.nil_append, bI_t, bI_f, bI_0, bI_n0, if_true, if_false, true_and, and_true, ne_eq, not_true_eq_false, not_false_eq_true, one_ne0, reduceCtorEq]
  rw [s23_52]
  refine ⟨rfl, (c_copyOf hU (cg _) (by show B + 29 < h.1 + 1; omega)).mpr ?_⟩
  rw [show (xnew (TS h B v f t s ky A (nI U) c o n w G O) 4 (.inr (8, [.int 0, .int 0, .null, .null]))).1 = h.1 + 1 from rfl, show (TS h B v f t s ky A (nI U) c o n w G O).1 = h.1 from rfl]
  generalize hT : TS h B v f t s ky A (nI U) c o n w G O = hh at *
  have hh1 : hh.1 = h.1 := by rw [← hT]; rfl
  have hh2 : hh.2.1 = h.2.1 := by rw [← hT]; rfl
  have hh3 : hh.2.2.2 = h.2.2.2 := by rw [← hT]; rfl
  have o0 : (xset (xnew (xnew hh 4 (.inr (8, [.int 0, .int 0, .null, .null]))) U (.inl (0, xis U (fun _ => 0)))) (h.1 + 1) (.inl (0, xis U (cpf G (fun _ => 0) U)))).2.2.1 h.1 = .inr (8, [.int 0, .int 0, .null, .null]) := by
    rw [xset_ne (by omega), xnew_ne (by rw [xnew_1, hh1]; omega), ← hh1, xnew_at]
  have r1 : (xset (xnew (xnew hh 4 (.inr (8, [.int 0, .int 0, .null, .null]))) U (.inl (0, xis U (fun _ => 0)))) (h.1 + 1) (.inl (0, xis U (cpf G (fun _ => 0) U)))).2.2.1 (h.1 + 1) = .inl (0, xis U (cpf G (fun _ => 0) U)) := xset_self
  have fs : (xset (xnew (xnew hh 4 (.inr (8, [.int 0, .int 0, .null, .null]))) U (.inl (0, xis U (fun _ => 0)))) (h.1 + 1) (.inl (0, xis U (cpf G (fun _ => 0) U)))).1 = h.1 + 2 := by show hh.1 + 1 + 1 = _; omega
  have f2 : (xset (xnew (xnew hh 4 (.inr (8, [.int 0, .int 0, .null, .null]))) U (.inl (0, xis U (fun _ => 0)))) (h.1 + 1) (.inl (0, xis U (cpf G (fun _ => 0) U)))).2.1 = h.2.1 + 4 + U := by show hh.2.1 + 4 + U = _; omega
  have f3 : (xset (xnew (xnew hh 4 (.inr (8, [.int 0, .int 0, .null, .null]))) U (.inl (0, xis U (fun _ => 0)))) (h.1 + 1) (.inl (0, xis U (cpf G (fun _ => 0) U)))).2.2.2 = h.2.2.2 := hh3
  have fo : ∀ a, ¬ a = h.1 → ¬ a = h.1 + 1 → (xset (xnew (xnew hh 4 (.inr (8, [.int 0, .int 0, .null, .null]))) U (.inl (0, xis U (fun _ => 0)))) (h.1 + 1) (.inl (0, xis U (cpf G (fun _ => 0) U)))).2.2.1 a = hh.2.2.1 a := fun a a1 a2 => by
    rw [xset_ne a2, xnew_ne (by rw [xnew_1, hh1]; exact a2), xnew_ne (by rw [hh1]; exact a1)]
  generalize xset (xnew (xnew hh 4 (.inr (8, [.int 0, .int 0, .null, .null]))) U (.inl (0, xis U (fun _ => 0)))) (h.1 + 1) (.inl (0, xis U (cpf G (fun _ => 0) U))) = g1 at o0 r1 fs f2 f3 fo ⊢
  show XE (d + 1) 23 55 [.val (.ref (B + 27))] [.ref (h.1 + 1), .int A, .int ky, .ref h.1, .ref h.1] g1 Q
  rw [s23_55, o0]
  refine ⟨rfl, XV_1.mpr ?_⟩
  have L : ∀ (k : Nat) (v1 v2 v3 v4 : Value), k < 4 → k < ([v1, v2, v3, v4] : List Value).length := fun k _ _ _ _ hk => by rw [l4L]; exact hk
  have r1' : ∀ e, (xset g1 h.1 e).2.2.1 (h.1 + 1) = .inl (0, xis U (cpf G (fun _ => 0) U)) := fun e => by rw [xset_ne (by omega)]; exact r1
  have l2 : ∀ a b c e v : Value, ([a, b, c, e] : List Value).set 2 v = [a, b, v, e] := fun _ _ _ _ _ => rfl
  have nA : ∀ e e2, (xnew (xset g1 h.1 e) U e2).2.2.1 h.1 = e := fun e e2 => by rw [xnew_ne (by show h.1 ≠ g1.1; omega), xset_self]
  have g11 : ∀ e, (xset g1 h.1 e).1 = h.1 + 2 := fun e => fs
  rw [e40]
  simp only [s40_0, s40_1, s40_4, s40_5, s40_6, s40_9, s40_10, s40_11, s40_14, s40_15, s40_15n, s40_16, s40_16n, s40_19, s40_20, s40_20n, s40_21, s40_22, s40_24, s40_24n, s40_27, o0, XP_1 (L 0 _ _ _ _ (by decide)), XP_1 (L 1 _ _ _ _ (by decide)), XP_1 (L 2 _ _ _ _ (by decide)), XP_1 (L 3 _ _ _ _ (by decide)), l4s0, l4s1, l4s3, l2, xset_self, xset_twice, r1', XL_0, hcl, h0, show U ≤ 100000 by omega, nA, g11, true_and, and_self, s23_58, s23_58n, XG_1, XO_some, XV_1, xo_n, xo_i8, xo_r8, xo_i7, xo_r7, xo_i6, xo_r6, xo_i5, xo_r5, xo_i4, xo_r4, xo_i3, xo_r3, xo_i2, xo_r2, Option.toList_some, Option.toList_none, List.cons_append, List.nil_append, bI_t, bI_f, bI_0, bI_n0, if_true, if_false, true_and, and_true, ne_eq, not_true_eq_false, not_false_eq_true, one_ne0, reduceCtorEq]
  refine K _ ?_ ?_ ?_ (fun a ha => ?_) (fun a ha => ?_) ?_ ?_ ?_
  · show g1.1 + 1 = _; omega
  · show g1.2.1 + U = _; omega
  · exact f3
  · rw [xset_ne (by omega), xnew_ne (by show a ≠ g1.1; omega), xset_ne (by omega), fo a (by omega) (by omega)]
  · rw [xset_ne (by omega), xnew_ne (by show a ≠ g1.1; omega), xset_ne (by omega), fo a (by omega) (by omega), ← hT, xset_ne (by omega), xset_ne (by omega), xset_ne (by omega)]
  · exact xset_self
  · rw [xset_ne (by omega), xnew_ne (by show h.1 + 1 ≠ g1.1; omega), xset_ne (by omega)]; exact r1
  · rw [xset_ne (by omega)]
    have := xnew_at (h := xset g1 h.1 (.inr (8, [.int ky, .int A, .ref (h.1 + 1), .null]))) (N := U) (e := .inl (0, xis U (fun _ => 0)))
    rw [g11] at this
    exact this
end AST
