/-! ===== 95: the small machine's run of the law ===== -/
theorem sh_eq {B : Nat} : (va_up (va_up (va_up (va_up (fun _ => none) 0 (some (B + 35))) 1 (some (B + 37))) 2 (some (B + 39))) 3 (some (B + 41))) = shF B := by
  funext i
  match i with
  | 0 => rfl
  | 1 => rfl
  | 2 => rfl
  | 3 => rfl
  | n + 4 => exact (if_neg (by omega)).symm
theorem sl_eq {B : Nat} : (va_up (va_up (va_up (va_up (va_up (fun _ => none) 0 (some (B + 43))) 1 (some (B + 46))) 2 (some (B + 49))) 3 (some (B + 52))) 4 (some (B + 55))) = slF B := by
  funext i
  match i with
  | 0 => rfl
  | 1 => rfl
  | 2 => rfl
  | 3 => rfl
  | 4 => rfl
  | n + 5 => exact (if_neg (by omega)).symm
def LC (B : Nat) : List va_E := cT (B + 1) ++ cT (B + 14) ++ cTp (B + 27) ++ [.inl (0, xis 60 (fun _ => 0))] ++ [.inl (3, xrs 4 (shF B))] ++ .inl (4, xrs 5 (slF B)) :: ([.inl (0, xis 12 (fun _ => 0))] ++ cSh (B + 35) ++ cSh (B + 37) ++ cSh (B + 39) ++ cSh (B + 41) ++ cSl (B + 43) ++ cSl (B + 46) ++ cSl (B + 49) ++ cSl (B + 52) ++ cSl (B + 55))
section PUR
variable {B d s : Nat} {E : Nat → va_E} {g : Nat → Value} {Q : Option Value → xH → Prop}
theorem init77 (K : ∀ s2, s2 ≤ s + 1300 → Q none (hb B E g s2 (.inr (11, ob_11 (.ref (B + 1)) (.ref (B + 14)) (.int 0) (.ref (B + 27)) (.ref (B + 31)) (.int 0) (.ref (B + 32)) (.ref (B + 33)) (.ref (B + 34))) :: LC B))) : XC (d + 3) 77 [.ref B] (hb B E g s [.inr (11, [.null, .null, .int 0, .null, .null, .int 0, .null, .null, .null])]) Q := by
  rw [e77]
  simp only [s77_0, s77_1, XG_1, XO_some, XV_1, xo_n, xo_i8, xo_r8, xo_i7, xo_r7, xo_i6, xo_r6, xo_i5, xo_r5, xo_i4, xo_r4, xo_i3, xo_r3, xo_i2, xo_r2, Option.toList_some, Option.toList_none, List.cons_append, List.nil_append, bI_t, bI_f, bI_0, bI_n0, if_true, if_false, true_and, and_true, ne_eq, not_true_eq_false, not_false_eq_true, one_ne0, reduceCtorEq]
  show XE (d + 2) 77 4 [.val (.ref B), .unset] [] (hb B E g s (.inr (11, ob_11 .null .null (.int 0) .null .null (.int 0) .null .null .null) :: [])) Q
  refine (i77_a (L := []) (k := 0) rfl).mpr ?_
  refine (i77_b (L := cT (B + 1)) (k := 13) rfl).mpr ?_
  refine (i77_c (L := cT (B + 1) ++ cT (B + 14)) (k := 26) rfl).mpr ?_
  refine (i77_d (L := cT (B + 1) ++ cT (B + 14) ++ cTp (B + 27)) (k := 30) rfl).mpr ?_
  refine (i77_s (i := 0) (L1 := cT (B + 1) ++ cT (B + 14) ++ cTp (B + 27) ++ [.inl (0, xis 60 (fun _ => 0))]) (L2 := [.inl (4, xrs 5 (fun _ => none)), .inl (0, xis 12 (fun _ => 0))]) (k := 34) (by decide) rfl rfl).mpr ?_
  refine (i77_s (i := 1) (L1 := cT (B + 1) ++ cT (B + 14) ++ cTp (B + 27) ++ [.inl (0, xis 60 (fun _ => 0))]) (L2 := [.inl (4, xrs 5 (fun _ => none)), .inl (0, xis 12 (fun _ => 0))] ++ cSh (B + 35)) (k := 36) (by decide) rfl rfl).mpr ?_
  refine (i77_s (i := 2) (L1 := cT (B + 1) ++ cT (B + 14) ++ cTp (B + 27) ++ [.inl (0, xis 60 (fun _ => 0))]) (L2 := [.inl (4, xrs 5 (fun _ => none)), .inl (0, xis 12 (fun _ => 0))] ++ cSh (B + 35) ++ cSh (B + 37)) (k := 38) (by decide) rfl rfl).mpr ?_
  refine (i77_s (i := 3) (L1 := cT (B + 1) ++ cT (B + 14) ++ cTp (B + 27) ++ [.inl (0, xis 60 (fun _ => 0))]) (L2 := [.inl (4, xrs 5 (fun _ => none)), .inl (0, xis 12 (fun _ => 0))] ++ cSh (B + 35) ++ cSh (B + 37) ++ cSh (B + 39)) (k := 40) (by decide) rfl rfl).mpr ?_
  rw [s77_81]
  simp only [s77_82, s77_83, s77_86, s77_87, s77_90, s77_91, s77_94, s77_94r, s77_95, s77_98, s77_98n, s77_99, s77_102, s77_105, s77_106, show ((nI (3 + 1) : Int32) < 4) = False from eq_false (by decide), XG_1, XO_some, XV_1, xo_n, xo_i8, xo_r8, xo_i7, xo_r7, xo_i6, xo_r6, xo_i5, xo_r5, xo_i4, xo_r4, xo_i3, xo_r3, xo_i2, xo_r2, Option.toList_some, Option.toList_none, List.cons_append, List.nil_append, bI_t, bI_f, bI_0, bI_n0, if_true, if_false, true_and, and_true, ne_eq, not_true_eq_false, not_false_eq_true, one_ne0, reduceCtorEq]
  have eA : ∀ z : Nat, hb B E g z (.inr (11, ob_11 (.ref (B + 1)) (.ref (B + 14)) (.int 0) (.ref (B + 27)) (.ref (B + 31)) (.int 0) (.ref (B + 32)) (.ref (B + 33)) (.ref (B + 34))) :: (cT (B + 1) ++ cT (B + 14) ++ cTp (B + 27) ++ [.inl (0, xis 60 (fun _ => 0))] ++ .inl (3, xrs 4 (va_up (va_up (va_up (va_up (fun _ => none) 0 (some (B + 35))) 1 (some (B + 37))) 2 (some (B + 39))) 3 (some (B + 41)))) :: ([.inl (4, xrs 5 (fun _ => none)), .inl (0, xis 12 (fun _ => 0))] ++ cSh (B + 35) ++ cSh (B + 37) ++ cSh (B + 39) ++ cSh (B + 41)))) = hb B E g z (.inr (11, ob_11 (.ref (B + 1)) (.ref (B + 14)) (.int 0) (.ref (B + 27)) (.ref (B + 31)) (.int 0) (.ref (B + 32)) (.ref (B + 33)) (.ref (B + 34))) :: (cT (B + 1) ++ cT (B + 14) ++ cTp (B + 27) ++ [.inl (0, xis 60 (fun _ => 0))] ++ [.inl (3, xrs 4 (shF B))] ++ .inl (4, xrs 5 (fun _ => none)) :: ([.inl (0, xis 12 (fun _ => 0))] ++ cSh (B + 35) ++ cSh (B + 37) ++ cSh (B + 39) ++ cSh (B + 41)))) := fun z => by rw [sh_eq]; rfl
  refine Eq.mpr (congrArg (fun H => XE (d + 2) 77 107 [.val (.ref B), .val (.int (nI 0))] [] H Q) (eA _)) ?_
  refine (i77_l (i := 0) (L1 := cT (B + 1) ++ cT (B + 14) ++ cTp (B + 27) ++ [.inl (0, xis 60 (fun _ => 0))] ++ [.inl (3, xrs 4 (shF B))]) (L2 := [.inl (0, xis 12 (fun _ => 0))] ++ cSh (B + 35) ++ cSh (B + 37) ++ cSh (B + 39) ++ cSh (B + 41)) (k := 42) (by decide) rfl rfl).mpr ?_
  refine (i77_l (i := 1) (L1 := cT (B + 1) ++ cT (B + 14) ++ cTp (B + 27) ++ [.inl (0, xis 60 (fun _ => 0))] ++ [.inl (3, xrs 4 (shF B))]) (L2 := [.inl (0, xis 12 (fun _ => 0))] ++ cSh (B + 35) ++ cSh (B + 37) ++ cSh (B + 39) ++ cSh (B + 41) ++ cSl (B + 43)) (k := 45) (by decide) rfl rfl).mpr ?_
  refine (i77_l (i := 2) (L1 := cT (B + 1) ++ cT (B + 14) ++ cTp (B + 27) ++ [.inl (0, xis 60 (fun _ => 0))] ++ [.inl (3, xrs 4 (shF B))]) (L2 := [.inl (0, xis 12 (fun _ => 0))] ++ cSh (B + 35) ++ cSh (B + 37) ++ cSh (B + 39) ++ cSh (B + 41) ++ cSl (B + 43) ++ cSl (B + 46)) (k := 48) (by decide) rfl rfl).mpr ?_
  refine (i77_l (i := 3) (L1 := cT (B + 1) ++ cT (B + 14) ++ cTp (B + 27) ++ [.inl (0, xis 60 (fun _ => 0))] ++ [.inl (3, xrs 4 (shF B))]) (L2 := [.inl (0, xis 12 (fun _ => 0))] ++ cSh (B + 35) ++ cSh (B + 37) ++ cSh (B + 39) ++ cSh (B + 41) ++ cSl (B + 43) ++ cSl (B + 46) ++ cSl (B + 49)) (k := 51) (by decide) rfl rfl).mpr ?_
  refine (i77_l (i := 4) (L1 := cT (B + 1) ++ cT (B + 14) ++ cTp (B + 27) ++ [.inl (0, xis 60 (fun _ => 0))] ++ [.inl (3, xrs 4 (shF B))]) (L2 := [.inl (0, xis 12 (fun _ => 0))] ++ cSh (B + 35) ++ cSh (B + 37) ++ cSh (B + 39) ++ cSh (B + 41) ++ cSl (B + 43) ++ cSl (B + 46) ++ cSl (B + 49) ++ cSl (B + 52)) (k := 54) (by decide) rfl rfl).mpr ?_
  rw [s77_107]
  simp only [s77_108, s77_109, s77_112, s77_113, s77_116, s77_117, s77_120, s77_120r, s77_121, s77_124, s77_124n, s77_125, s77_128, s77_131, show ((nI (4 + 1) : Int32) < 5) = False from eq_false (by decide), XG_1, XO_some, XV_1, xo_n, xo_i8, xo_r8, xo_i7, xo_r7, xo_i6, xo_r6, xo_i5, xo_r5, xo_i4, xo_r4, xo_i3, xo_r3, xo_i2, xo_r2, Option.toList_some, Option.toList_none, List.cons_append, List.nil_append, bI_t, bI_f, bI_0, bI_n0, if_true, if_false, true_and, and_true, ne_eq, not_true_eq_false, not_false_eq_true, one_ne0, reduceCtorEq]
  have eB : ∀ z : Nat, hb B E g z (.inr (11, ob_11 (.ref (B + 1)) (.ref (B + 14)) (.int 0) (.ref (B + 27)) (.ref (B + 31)) (.int 0) (.ref (B + 32)) (.ref (B + 33)) (.ref (B + 34))) :: (cT (B + 1) ++ cT (B + 14) ++ cTp (B + 27) ++ [.inl (0, xis 60 (fun _ => 0))] ++ [.inl (3, xrs 4 (shF B))] ++ .inl (4, xrs 5 (va_up (va_up (va_up (va_up (va_up (fun _ => none) 0 (some (B + 43))) 1 (some (B + 46))) 2 (some (B + 49))) 3 (some (B + 52))) 4 (some (B + 55)))) :: ([.inl (0, xis 12 (fun _ => 0))] ++ cSh (B + 35) ++ cSh (B + 37) ++ cSh (B + 39) ++ cSh (B + 41) ++ cSl (B + 43) ++ cSl (B + 46) ++ cSl (B + 49) ++ cSl (B + 52) ++ cSl (B + 55)))) = hb B E g z (.inr (11, ob_11 (.ref (B + 1)) (.ref (B + 14)) (.int 0) (.ref (B + 27)) (.ref (B + 31)) (.int 0) (.ref (B + 32)) (.ref (B + 33)) (.ref (B + 34))) :: LC B) := fun z => by rw [sl_eq]; rfl
  refine Eq.mpr (congrArg (fun H => Q none H) (eB _)) (K _ (by omega))
theorem cc_model {o : va_E} {L : List va_E} {k : Nat} (hl : L.length = k) : XC (d + 1) 131 [.ref (B + (k + 1))] (hb B E g s (o :: (L ++ [.inr (12, [.null, .null, .null, .int 0, .null, .int 0, .int 0, .int 0, .int 0, .int 0, .int 0, .int 0, .null, .null, .null, .int 0, .int 0, .null, .int 0, .null, .null, .null, .null, .null, .null, .null, .null, .null, .null, .null, .null, .int 0])]))) Q ↔ Q none (hb B E g (s + 5182) (o :: (L ++ cM (B + (k + 1))))) := hb_call (cells := cM) (fun {_ _ _ _} => c_model0) hl
theorem lf_eq {z : Nat} : hb B E g z (.inr (11, ob_11 (.ref (B + 1)) (.ref (B + 14)) (.int 0) (.ref (B + 27)) (.ref (B + 31)) (.int 0) (.ref (B + 32)) (.ref (B + 33)) (.ref (B + 34))) :: (LC B ++ cM (B + (57 + 1)))) = hb B E g z (LF B) := rfl
end PUR
theorem x_pure : xPure := by
  intro B b L xs E g adK adV hL hbB eb hz g7 g00 hs
  have h0 : ((B, 0, E, g) : xH) = hb B E g 0 [] := by
    refine Prod.ext rfl (Prod.ext rfl (Prod.ext ?_ rfl))
    funext a
    show E a = (if a < B then E a else ([] : List va_E).getD (a - B) (.inr (99, [])))
    by_cases c : a < B
    · rw [if_pos c]
    · rw [if_neg c]; exact hz a (by omega)
  show XE 13 243 0 [.val (.ref b), .unset, .unset, .unset] [] (B, 0, E, g) _
  rw [h0]
  have hl57 : (LC B).length = 57 := rfl
  simp only [s243_0, s243_3, s243_3r, s243_4, hb_new, hb_1, hb_a0, List.nil_append, List.length_nil, Nat.add_zero, Nat.zero_add, XG_1, XO_some, XV_1, xo_n, xo_i8, xo_r8, xo_i7, xo_r7, xo_i6, xo_r6, xo_i5, xo_r5, xo_i4, xo_r4, xo_i3, xo_r3, xo_i2, xo_r2, Option.toList_some, Option.toList_none, List.cons_append, List.nil_append, bI_t, bI_f, bI_0, bI_n0, if_true, if_false, true_and, and_true, ne_eq, not_true_eq_false, not_false_eq_true, one_ne0, reduceCtorEq]
  refine init77 (d := 10) (fun s2 hs2 => ?_)
  simp only [s243_7, s243_7n, s243_8, s243_11, s243_11r, s243_12, hb_new, hb_1, List.cons_append, List.length_cons, hl57, hb_last hl57, cc_model hl57, XG_1, XO_some, XV_1, xo_n, xo_i8, xo_r8, xo_i7, xo_r7, xo_i6, xo_r6, xo_i5, xo_r5, xo_i4, xo_r4, xo_i3, xo_r3, xo_i2, xo_r2, Option.toList_some, Option.toList_none, List.cons_append, List.nil_append, bI_t, bI_f, bI_0, bI_n0, if_true, if_false, true_and, and_true, ne_eq, not_true_eq_false, not_false_eq_true, one_ne0, reduceCtorEq]
  rw [lf_eq]
  simp only [s243_15, s243_15n, s243_16, s243_17]
  exact l_law ⟨adK, adV, g7, g00, hs⟩ hbB eb hL (S0 := s2 + 32 + 5182) (by omega) 513 0 _ (by omega) (by omega) (rep_0 hz) (by show B + 79 ≤ _; omega) (by show s2 + 32 + 5182 ≤ _; omega)
