/-! ===== 55: turns ===== -/
section TUR
variable {B d : Nat} {E : Nat → va_E} {g0 : Nat → Value} {h : xH} {x y : Int32}
theorem upd_id {f : Nat → Int32} {i : Nat} {v : Int32} (e : f i = v) : upd f i v = f := by
  funext j
  by_cases hj : j = i
  · rw [hj, upd_at, e]
  · exact upd_ne hj
theorem ok_turns (S : REP B E g0 h) : OK B E g0 d h 91 166 [.int x, .int y] := by
  have S0 := S
  obtain ⟨⟨n, T, p, s, m, f, w, g, q, R, I, RR, M, X⟩, hE, hg, hD, hz⟩ := S
  have hO := X.1.1.1
  have hn := I.nn
  cases hx : isI x (n 2) with
  | false =>
    refine ok_ro S0 BAD (fun Q K => ?_) (fun Q K => ?_)
    · rw [e91]; simp only [s91_0, s91_1, s91_4, s91_5, s91_8, s91_8n, s91_9, s91_9n, s91_10, s91_10n, s91_13, s91_14, s91_17, s91_20, s91_22, s91_23, s91_24, s91_27, s91_30, s91_31, s91_32, s91_32n, s91_33, s91_36, s91_39, s91_39n, s91_40, s91_40n, s91_41, s91_44, hO, ob0, R.o, c_thiefAt R, hx, Bool.false_eq_true, XG_1, XO_some, XV_1, xo_n, xo_i8, xo_r8, xo_i7, xo_r7, xo_i6, xo_r6, xo_i5, xo_r5, xo_i4, xo_r4, xo_i3, xo_r3, xo_i2, xo_r2, Option.toList_some, Option.toList_none, List.cons_append, List.nil_append, bI_t, bI_f, bI_0, bI_n0, if_true, if_false, true_and, and_true, ne_eq, not_true_eq_false, not_false_eq_true, one_ne0, reduceCtorEq]; exact K
    · rw [e166]; simp only [s166_0, s166_1, s166_2, s166_5, s166_8, s166_9, s166_10, s166_11, s166_14, s166_17, s166_18, s166_20, s166_21, s166_22, s166_23, s166_24, s166_25, s166_28, s166_31, s166_33, RR.1, r_isThief RR M I, hx, XG_1, XO_some, XV_1, xo_n, xo_i8, xo_r8, xo_i7, xo_r7, xo_i6, xo_r6, xo_i5, xo_r5, xo_i4, xo_r4, xo_i3, xo_r3, xo_i2, xo_r2, Option.toList_some, Option.toList_none, List.cons_append, List.nil_append, bI_t, bI_f, bI_0, bI_n0, if_true, if_false, true_and, and_true, ne_eq, not_true_eq_false, not_false_eq_true, one_ne0, reduceCtorEq]; exact K
  | true =>
  obtain ⟨i, hi, rfl⟩ := isI_t hx (by omega)
  have hcl : (nI i).toNatClampNeg = i := nI_clamp (by omega)
  have h6 : i < 6 := by omega
  obtain ⟨a, kn, home, pa, ha, hk, hh, h8, h9, -, -, hT, hA⟩ := th_at R I hi
  cases hy : wiB y 0 5 with
  | false =>
    refine ok_ro S0 BAD (fun Q K => ?_) (fun Q K => ?_)
    · rw [e91]; simp only [s91_0, s91_1, s91_4, s91_5, s91_8, s91_8n, s91_9, s91_9n, s91_10, s91_10n, s91_13, s91_14, s91_17, s91_20, s91_22, s91_23, s91_24, s91_27, s91_30, s91_31, s91_32, s91_32n, s91_33, s91_36, s91_39, s91_39n, s91_40, s91_40n, s91_41, s91_44, hO, ob0, R.o, c_thiefAt R, hx, hcl, pa, va_rf, c_isKind, hy, XG_1, XO_some, XV_1, xo_n, xo_i8, xo_r8, xo_i7, xo_r7, xo_i6, xo_r6, xo_i5, xo_r5, xo_i4, xo_r4, xo_i3, xo_r3, xo_i2, xo_r2, Option.toList_some, Option.toList_none, List.cons_append, List.nil_append, bI_t, bI_f, bI_0, bI_n0, if_true, if_false, true_and, and_true, ne_eq, not_true_eq_false, not_false_eq_true, one_ne0, reduceCtorEq]; exact K
    · rw [e166]; simp only [s166_0, s166_1, s166_2, s166_5, s166_8, s166_9, s166_10, s166_11, s166_14, s166_17, s166_18, s166_20, s166_21, s166_22, s166_23, s166_24, s166_25, s166_28, s166_31, s166_33, RR.1, r_isThief RR M I, hx, c_in, hy, XG_1, XO_some, XV_1, xo_n, xo_i8, xo_r8, xo_i7, xo_r7, xo_i6, xo_r6, xo_i5, xo_r5, xo_i4, xo_r4, xo_i3, xo_r3, xo_i2, xo_r2, Option.toList_some, Option.toList_none, List.cons_append, List.nil_append, bI_t, bI_f, bI_0, bI_n0, if_true, if_false, true_and, and_true, ne_eq, not_true_eq_false, not_false_eq_true, one_ne0, reduceCtorEq, Bool.true_eq_false]; exact K
  | true =>
  obtain ⟨k2, hk2, rfl⟩ := wiB_t (k := 5) hy (by decide)
  obtain ⟨R1, F1⟩ := rt_band R (by omega) hD (hz _ (Nat.le_refl _)) (n2 := n) (T2 := sup T 8 i (nI k2)) (i := i) (y := nI home) hk2 h6 rfl rfl rfl ⟨hn.2.2.1, Nat.le_refl _, hi, fun k hk _ => hk⟩ rfl rfl rfl rfl rfl rfl rfl rfl sup_row ((upd_id h9).symm) rfl rfl rfl rfl
  have ht : (xset (xnew h 2 (.inr (kcl k2, [.int (nI k2), .int (nI home)]))) (B + 1 + 8) (.inl (6, xrs 6 (va_up (p 0) i (some h.1))))).2.2.1 (B + 1) = .inr (10, townF (B + 1) n (sup T 8 i (nI k2))) := by rw [xset_ne (by omega), xnew_ne (by omega)]; exact R.o
  rw [← ht, xset_id] at R1 F1
  have hne : ∀ e, (xnew h 2 e).2.2.1 a = .inr (kcl kn, [.int (nI kn), .int (nI home)]) := fun e => by
    rw [xnew_ne (fun e => ?_)]; exact hA
    have q3 := hz _ (Nat.le_refl _)
    rw [← e, hA] at q3
    have q4 := (Prod.mk.inj (Sum.inr.inj q3)).2
    cases q4
  refine ok_mk RR X hE hg hD hz (v := nI kn) (fun Q K => ?_) F1 rfl rfl rfl (fun a ha => by rw [xset_ne (by omega), xnew_ne (by omega)]) R1 (iv_turn I hk2) (fun RR1 Q K => ?_)
  · have hX0 : ∀ {F : Value → Prop}, XG [0, 1, 2, 3, 4, 9] 0 (.inr (kcl kn, [.int (nI kn), .int (nI home)])) F ↔ F (.int (nI kn)) := fun {F} => XG_c (kcl_in hk)
    have hX1 : ∀ {F : Value → Prop}, XG [0, 1, 2, 3, 4, 9] 1 (.inr (kcl kn, [.int (nI kn), .int (nI home)])) F ↔ F (.int (nI home)) := fun {F} => XG_c (kcl_in hk)
    have b8 : ∀ e, (xnew h 2 e).2.2.1 (B + 1 + 8) = .inl (6, xrs 6 (p 0)) := fun e => by rw [xnew_ne (by omega)]; exact R.ba
    have b9 : ∀ e e2, (xset (xnew h 2 e) (B + 1 + 8) e2).2.2.1 a = .inr (kcl kn, [.int (nI kn), .int (nI home)]) := fun e e2 => by rw [xset_ne (by omega)]; exact hne e
    rw [e91]; simp only [s91_0, s91_1, s91_4, s91_5, s91_8, s91_8n, s91_9, s91_9n, s91_10, s91_10n, s91_13, s91_14, s91_17, s91_20, s91_22, s91_23, s91_24, s91_27, s91_30, s91_31, s91_32, s91_32n, s91_33, s91_36, s91_39, s91_39n, s91_40, s91_40n, s91_41, s91_44, hO, ob0, R.o, tf15, c_thiefAt R, hx, hcl, pa, va_rf, c_isKind, hy, hA, hX1, c_ofKind hk2, b8, xnew_at, XSr_6 (kcl_in hk2) h6, b9, hX0, XG_1, XO_some, XV_1, xo_n, xo_i8, xo_r8, xo_i7, xo_r7, xo_i6, xo_r6, xo_i5, xo_r5, xo_i4, xo_r4, xo_i3, xo_r3, xo_i2, xo_r2, Option.toList_some, Option.toList_none, List.cons_append, List.nil_append, bI_t, bI_f, bI_0, bI_n0, if_true, if_false, true_and, and_true, ne_eq, not_true_eq_false, not_false_eq_true, one_ne0, reduceCtorEq]
    exact K
  · have j0 : 98 + 2 * i < 1482 := by omega
    obtain ⟨R2, F2⟩ := RR1.sf (Dy := B + 79) (by omega) (show B + 79 ≤ h.1 + 1 by omega) (f2 := upd f (98 + 2 * i) (nI k2))
    have f8 : f (98 + 2 * i) = nI kn := (M.2.2.2.1 i hi).1.trans h8
    rw [e166]; simp only [s166_0, s166_1, s166_2, s166_5, s166_8, s166_9, s166_10, s166_11, s166_14, s166_17, s166_18, s166_20, s166_21, s166_22, s166_23, s166_24, s166_25, s166_28, s166_31, s166_33, RR1.1, r_isThief RR1 M I, hx, c_in, hy, l2m, i98, r_becomes RR1 j0, f8, XG_1, XO_some, XV_1, xo_n, xo_i8, xo_r8, xo_i7, xo_r7, xo_i6, xo_r6, xo_i5, xo_r5, xo_i4, xo_r4, xo_i3, xo_r3, xo_i2, xo_r2, Option.toList_some, Option.toList_none, List.cons_append, List.nil_append, bI_t, bI_f, bI_0, bI_n0, if_true, if_false, true_and, and_true, ne_eq, not_true_eq_false, not_false_eq_true, one_ne0, reduceCtorEq, Bool.true_eq_false]
    exact K _ _ w g F2 R2 (mr_turn M hn.2.2.1 hi)
end TUR
