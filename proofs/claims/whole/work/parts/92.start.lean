/-! ===== 92: the two objects at the start ===== -/
def cT (t : Nat) : List va_E := [.inr (10, ob_10 (.int 0) (.int 0) (.int 0) (.int 0) (.int 3) (.int 0) (.int 0) (.int 1) (.ref (t + 1)) (.ref (t + 2)) (.ref (t + 3)) (.ref (t + 4)) (.ref (t + 5)) (.ref (t + 6)) (.ref (t + 7)) (.ref (t + 8)) (.ref (t + 9)) (.ref (t + 10)) (.ref (t + 11)) (.ref (t + 12))), .inl (0, xis 10 (fun _ => 0)), .inl (0, xis 10 (fun _ => 0)), .inl (0, xis 10 (fun _ => 0)), .inl (0, xis 12 (fun _ => 0)), .inl (0, xis 12 (fun _ => 0)), .inl (0, xis 12 (fun _ => 0)), .inl (0, xis 24 (fun _ => 0)), .inl (6, xrs 6 (fun _ => none)), .inl (5, xrs 14 (fun _ => none)), .inl (0, xis 10 (fun _ => 0)), .inl (0, xis 72 (fun _ => 0)), .inl (0, xis 72 (fun _ => 0))]
def cTp (t : Nat) : List va_E := [.inr (7, ob_7 (.int 0) (.ref (t + 1)) (.int 0) (.int 0) (.int 0) (.int 0) (.int 0) (.ref (t + 2)) (.int 0) (.ref (t + 3)) (.int 0) (.int 0) (.int 0) (.int 0)), .inl (0, xis 96 (fun _ => 0)), .inl (0, xis 96 (fun _ => 0)), .inl (0, xis 96 (fun _ => 0))]
def cSh (t : Nat) : List va_E := [.inr (5, ob_5 (.int (-1)) (.int 0) (.ref (t + 1))), .inl (0, xis 24 (fun _ => 0))]
def cSl (t : Nat) : List va_E := [.inr (6, ob_6 (.int 0) .null (.ref (t + 1)) (.int 0)), .inr (5, ob_5 (.int (-1)) (.int 0) (.ref (t + 1 + 1))), .inl (0, xis 24 (fun _ => 0))]
section ST1
variable {d B s k : Nat} {E : Nat → va_E} {g : Nat → Value} {Q : Option Value → xH → Prop} {o e x : va_E} {L L1 L2 : List va_E}
theorem hb_last (hl : L.length = k) : (hb B E g s (o :: (L ++ x :: L2))).2.2.1 (B + (k + 1)) = x := by
  rw [hb_at, List.getD_cons_succ, List.getD_eq_getElem?_getD, List.getElem?_append_right (by omega), hl, Nat.sub_self]
  rfl
theorem hb_lset (hl : L.length = k) : xset (hb B E g s (o :: (L ++ x :: L2))) (B + (k + 1)) e = hb B E g s (o :: (L ++ e :: L2)) := by
  rw [hb_set (by show k + 1 < (L ++ x :: L2).length + 1; rw [List.length_append, hl]; show k + 1 < k + (L2.length + 1) + 1; omega), List.set_cons_succ, List.set_append_right _ _ (by omega), hl, Nat.sub_self]
  rfl
theorem hb_call {m N : Nat} {cells : Nat → List va_E} (C0 : ∀ {t s : Nat} {f : Nat → va_E} {Q : Option Value → xH → Prop}, XC d m [.ref t] (hb t f g s [e]) Q ↔ Q none (hb t f g (s + N) (cells t))) (hl : L.length = k) : XC d m [.ref (B + (k + 1))] (hb B E g s (o :: (L ++ [e]))) Q ↔ Q none (hb B E g (s + N) (o :: (L ++ cells (B + (k + 1))))) := by
  have a1 := hb_app (n0 := B) (E := E) (g := g) (s := s) (s2 := 0) (l := o :: L) (l2 := [e])
  have a2 := hb_app (n0 := B) (E := E) (g := g) (s := s + N) (s2 := 0) (l := o :: L) (l2 := cells (B + (k + 1)))
  rw [show (o :: L).length = k + 1 by rw [List.length_cons, hl]] at a1 a2
  rw [List.cons_append] at a1 a2
  rw [a1, a2]
  exact C0
theorem cc_town (hl : L.length = k) : XC (d + 1) 50 [.ref (B + (k + 1))] (hb B E g s (o :: (L ++ [.inr (10, [.int 0, .int 0, .int 0, .int 0, .int 0, .int 0, .int 0, .int 0, .null, .null, .null, .null, .null, .null, .null, .null, .null, .null, .null, .null])]))) Q ↔ Q none (hb B E g (s + 264) (o :: (L ++ cT (B + (k + 1))))) := hb_call (cells := cT) (fun {_ _ _ _} => c_town0) hl
theorem cc_tape (hl : L.length = k) : XC (d + 1) 20 [.ref (B + (k + 1))] (hb B E g s (o :: (L ++ [.inr (7, [.int 0, .null, .int 0, .int 0, .int 0, .int 0, .int 0, .null, .int 0, .null, .int 0, .int 0, .int 0, .int 0])]))) Q ↔ Q none (hb B E g (s + 288) (o :: (L ++ cTp (B + (k + 1))))) := hb_call (cells := cTp) (fun {_ _ _ _} => c_tape0) hl
theorem cc_sheet (hl : L.length = k) : XC (d + 1) 15 [.ref (B + (k + 1))] (hb B E g s (o :: (L ++ [.inr (5, [.int 0, .int 0, .null])]))) Q ↔ Q none (hb B E g (s + 24) (o :: (L ++ cSh (B + (k + 1))))) := hb_call (cells := cSh) (fun {_ _ _ _} => c_sheet0) hl
theorem cc_slot (hl : L.length = k) : XC (d + 2) 19 [.ref (B + (k + 1))] (hb B E g s (o :: (L ++ [.inr (6, [.int 0, .null, .null, .int 0])]))) Q ↔ Q none (hb B E g (s + 27) (o :: (L ++ cSl (B + (k + 1))))) := hb_call (cells := cSl) (fun {_ _ _ _} => c_slot0) hl
theorem XSr_3 {f : Nat → Option Nat} {i b : Nat} {l : List Value} {F : va_E → Prop} (hi : i < 4) : XSr 3 [5] (.inl (3, xrs 4 f)) (nI i) b (.inr (5, l)) F ↔ F (.inl (3, xrs 4 (va_up f i (some b)))) := by
  unfold XSr
  dsimp only
  rw [nI_clamp (by omega)]
  exact ⟨fun q => q.2, fun q => ⟨⟨rfl, List.mem_cons_self, xin_nI hi (by decide)⟩, q⟩⟩
theorem XSr_4 {f : Nat → Option Nat} {i b : Nat} {l : List Value} {F : va_E → Prop} (hi : i < 5) : XSr 4 [6] (.inl (4, xrs 5 f)) (nI i) b (.inr (6, l)) F ↔ F (.inl (4, xrs 5 (va_up f i (some b)))) := by
  unfold XSr
  dsimp only
  rw [nI_clamp (by omega)]
  exact ⟨fun q => q.2, fun q => ⟨⟨rfl, List.mem_cons_self, xin_nI hi (by decide)⟩, q⟩⟩
variable {a0 a1 a2 a3 a4 a5 a6 a7 a8 : Value} {c1 : Slot}
theorem i77_a (hl : L.length = k) : XE (d + 2) 77 4 [.val (.ref B), c1] [] (hb B E g s (.inr (11, ob_11 a0 a1 a2 a3 a4 a5 a6 a7 a8) :: L)) Q ↔ XE (d + 2) 77 15 [.val (.ref B), c1] [] (hb B E g (s + 20 + 264) (.inr (11, ob_11 (.ref (B + (k + 1))) a1 a2 a3 a4 a5 a6 a7 a8) :: (L ++ cT (B + (k + 1))))) Q := by
  simp only [s77_4, s77_5, s77_8, s77_8r, s77_9, s77_12, s77_12n, hb_new, hb_1, List.cons_append, List.append_assoc, List.nil_append, List.length_cons, hl, hb_last hl, cc_town hl, hb_a0, hb_s0, op_11_0, XG_1, XO_some, XV_1, xo_n, xo_i8, xo_r8, xo_i7, xo_r7, xo_i6, xo_r6, xo_i5, xo_r5, xo_i4, xo_r4, xo_i3, xo_r3, xo_i2, xo_r2, Option.toList_some, Option.toList_none, List.cons_append, List.nil_append, bI_t, bI_f, bI_0, bI_n0, if_true, if_false, true_and, and_true, ne_eq, not_true_eq_false, not_false_eq_true, one_ne0, reduceCtorEq]
theorem i77_b (hl : L.length = k) : XE (d + 2) 77 15 [.val (.ref B), c1] [] (hb B E g s (.inr (11, ob_11 a0 a1 a2 a3 a4 a5 a6 a7 a8) :: L)) Q ↔ XE (d + 2) 77 31 [.val (.ref B), c1] [] (hb B E g (s + 20 + 264) (.inr (11, ob_11 a0 (.ref (B + (k + 1))) (.int 0) a3 a4 a5 a6 a7 a8) :: (L ++ cT (B + (k + 1))))) Q := by
  simp only [s77_15, s77_16, s77_19, s77_19r, s77_20, s77_23, s77_23n, s77_26, s77_27, s77_28, hb_new, hb_1, List.cons_append, List.append_assoc, List.nil_append, List.length_cons, hl, hb_last hl, cc_town hl, hb_a0, hb_s0, op_11_1, op_11_2, true_or, XG_1, XO_some, XV_1, xo_n, xo_i8, xo_r8, xo_i7, xo_r7, xo_i6, xo_r6, xo_i5, xo_r5, xo_i4, xo_r4, xo_i3, xo_r3, xo_i2, xo_r2, Option.toList_some, Option.toList_none, List.cons_append, List.nil_append, bI_t, bI_f, bI_0, bI_n0, if_true, if_false, true_and, and_true, ne_eq, not_true_eq_false, not_false_eq_true, one_ne0, reduceCtorEq]
theorem i77_c (hl : L.length = k) : XE (d + 2) 77 31 [.val (.ref B), c1] [] (hb B E g s (.inr (11, ob_11 a0 a1 a2 a3 a4 a5 a6 a7 a8) :: L)) Q ↔ XE (d + 2) 77 42 [.val (.ref B), c1] [] (hb B E g (s + 14 + 288) (.inr (11, ob_11 a0 a1 a2 (.ref (B + (k + 1))) a4 a5 a6 a7 a8) :: (L ++ cTp (B + (k + 1))))) Q := by
  simp only [s77_31, s77_32, s77_35, s77_35r, s77_36, s77_39, s77_39n, hb_new, hb_1, List.cons_append, List.append_assoc, List.nil_append, List.length_cons, hl, hb_last hl, cc_tape hl, hb_a0, hb_s0, op_11_3, XG_1, XO_some, XV_1, xo_n, xo_i8, xo_r8, xo_i7, xo_r7, xo_i6, xo_r6, xo_i5, xo_r5, xo_i4, xo_r4, xo_i3, xo_r3, xo_i2, xo_r2, Option.toList_some, Option.toList_none, List.cons_append, List.nil_append, bI_t, bI_f, bI_0, bI_n0, if_true, if_false, true_and, and_true, ne_eq, not_true_eq_false, not_false_eq_true, one_ne0, reduceCtorEq]
theorem i77_d (hl : L.length = k) : XE (d + 2) 77 42 [.val (.ref B), c1] [] (hb B E g s (.inr (11, ob_11 a0 a1 a2 a3 a4 a5 a6 a7 a8) :: L)) Q ↔ XE (d + 2) 77 81 [.val (.ref B), .val (.int (nI 0))] [] (hb B E g (s + 60 + 4 + 5 + 12) (.inr (11, ob_11 a0 a1 a2 a3 (.ref (B + (k + 1))) (.int 0) (.ref (B + (k + 1 + 1))) (.ref (B + (k + 2 + 1))) (.ref (B + (k + 3 + 1)))) :: (L ++ [.inl (0, xis 60 (fun _ => 0)), .inl (3, xrs 4 (fun _ => none)), .inl (4, xrs 5 (fun _ => none)), .inl (0, xis 12 (fun _ => 0))]))) Q := by
  have e1 : ∀ x : va_E, (L ++ [x]).length = k + 1 := fun x => by rw [List.length_append, hl]; rfl
  have e2 : ∀ x y : va_E, (L ++ [x, y]).length = k + 2 := fun x y => by rw [List.length_append, hl]; rfl
  have e3 : ∀ x y z : va_E, (L ++ [x, y, z]).length = k + 3 := fun x y z => by rw [List.length_append, hl]; rfl
  simp only [s77_42, s77_43, s77_45, s77_47, s77_47n, s77_50, s77_51, s77_52, s77_55, s77_56, s77_57, s77_60, s77_60n, s77_63, s77_64, s77_65, s77_68, s77_68n, s77_71, s77_72, s77_74, s77_76, s77_76n, s77_79, s77_80, hb_new, hb_1, List.cons_append, List.append_assoc, List.nil_append, List.length_cons, hl, e1, e2, e3, hb_a0, hb_s0, op_11_4, op_11_5, op_11_6, op_11_7, op_11_8, and_self, nw4, nc4, nu4, nw5, nc5, nu5, nw6, nc6, nu6, nw10, nc10, nu10, nw11, nc11, nu11, nw12, nc12, nu12, nw14, nc14, nu14, nw24, nc24, nu24, nw60, nc60, nu60, nw72, nc72, nu72, nw96, nc96, nu96, nw120, nc120, nu120, nw1482, nc1482, nu1482, XG_1, XO_some, XV_1, xo_n, xo_i8, xo_r8, xo_i7, xo_r7, xo_i6, xo_r6, xo_i5, xo_r5, xo_i4, xo_r4, xo_i3, xo_r3, xo_i2, xo_r2, Option.toList_some, Option.toList_none, List.cons_append, List.nil_append, bI_t, bI_f, bI_0, bI_n0, if_true, if_false, true_and, and_true, ne_eq, not_true_eq_false, not_false_eq_true, one_ne0, reduceCtorEq]
  exact Iff.rfl
theorem i77_s {i : Nat} {p : Nat → Option Nat} (hi : i < 4) (h1 : L1.length = 31) (hl : L2.length + 32 = k) : XE (d + 2) 77 81 [.val (.ref B), .val (.int (nI i))] [] (hb B E g s (.inr (11, ob_11 a0 a1 a2 a3 a4 a5 (.ref (B + 32)) a7 a8) :: (L1 ++ .inl (3, xrs 4 p) :: L2))) Q ↔ XE (d + 2) 77 81 [.val (.ref B), .val (.int (nI (i + 1)))] [] (hb B E g (s + 3 + 24) (.inr (11, ob_11 a0 a1 a2 a3 a4 a5 (.ref (B + 32)) a7 a8) :: (L1 ++ .inl (3, xrs 4 (va_up p i (some (B + (k + 1))))) :: (L2 ++ cSh (B + (k + 1)))))) Q := by
  have lt : nI i < 4 := nI_lt (b := 4) hi (by decide)
  have hL : ∀ x : va_E, (L1 ++ x :: L2).length = k := fun x => by rw [List.length_append, h1]; show 31 + (L2.length + 1) = k; omega
  have c0 : ∀ (o x : va_E) (s : Nat) (Q : Option Value → xH → Prop), XC (d + 2) 15 [.ref (B + (k + 1))] (hb B E g s (o :: (L1 ++ x :: (L2 ++ [.inr (5, [.int 0, .int 0, .null])])))) Q ↔ Q none (hb B E g (s + 24) (o :: (L1 ++ x :: (L2 ++ cSh (B + (k + 1)))))) := fun o x s Q => by
    have := cc_sheet (d := d + 1) (B := B) (E := E) (g := g) (s := s) (o := o) (Q := Q) (L := L1 ++ x :: L2) (hL x)
    rw [List.append_assoc, List.append_assoc, List.cons_append, List.cons_append] at this
    exact this
  have v0 : ∀ (o x : va_E) (s : Nat), (hb B E g s (o :: (L1 ++ x :: (L2 ++ [.inr (5, [.int 0, .int 0, .null])])))).2.2.1 (B + (k + 1)) = .inr (5, [.int 0, .int 0, .null]) := fun o x s => by
    have := hb_last (B := B) (E := E) (g := g) (s := s) (o := o) (x := .inr (5, [.int 0, .int 0, .null])) (L2 := []) (L := L1 ++ x :: L2) (hL x)
    rw [List.append_assoc, List.cons_append] at this
    exact this
  have v1 : ∀ (o x : va_E) (s : Nat), (hb B E g s (o :: (L1 ++ x :: (L2 ++ cSh (B + (k + 1)))))).2.2.1 (B + (k + 1)) = .inr (5, ob_5 (.int (-1)) (.int 0) (.ref (B + (k + 1) + 1))) := fun o x s => by
    have := hb_last (B := B) (E := E) (g := g) (s := s) (o := o) (x := .inr (5, ob_5 (.int (-1)) (.int 0) (.ref (B + (k + 1) + 1)))) (L2 := [.inl (0, xis 24 (fun _ => 0))]) (L := L1 ++ x :: L2) (hL x)
    rw [List.append_assoc, List.cons_append] at this
    exact this
  have v2 : ∀ (o x : va_E) (s : Nat) (L3 : List va_E), (hb B E g s (o :: (L1 ++ x :: L3))).2.2.1 (B + 32) = x := fun o x s L3 => hb_last (k := 31) h1
  have v3 : ∀ (o x e : va_E) (s : Nat) (L3 : List va_E), xset (hb B E g s (o :: (L1 ++ x :: L3))) (B + 32) e = hb B E g s (o :: (L1 ++ e :: L3)) := fun o x e s L3 => hb_lset (k := 31) h1
  rw [s77_81]
  simp only [s77_82, s77_83, s77_86, s77_87, s77_90, s77_91, s77_94, s77_94r, s77_95, s77_98, s77_98n, s77_99, s77_102, lt, hb_a0, og_11_6, hb_new, hb_1, List.cons_append, List.append_assoc, List.nil_append, List.length_cons, hL, v0, c0, v2, v1, XSr_3 hi, v3, nI_1, XG_1, XO_some, XV_1, xo_n, xo_i8, xo_r8, xo_i7, xo_r7, xo_i6, xo_r6, xo_i5, xo_r5, xo_i4, xo_r4, xo_i3, xo_r3, xo_i2, xo_r2, Option.toList_some, Option.toList_none, List.cons_append, List.nil_append, bI_t, bI_f, bI_0, bI_n0, if_true, if_false, true_and, and_true, ne_eq, not_true_eq_false, not_false_eq_true, one_ne0, reduceCtorEq]
theorem i77_l {i : Nat} {p : Nat → Option Nat} (hi : i < 5) (h1 : L1.length = 32) (hl : L2.length + 33 = k) : XE (d + 2) 77 107 [.val (.ref B), .val (.int (nI i))] [] (hb B E g s (.inr (11, ob_11 a0 a1 a2 a3 a4 a5 a6 (.ref (B + 33)) a8) :: (L1 ++ .inl (4, xrs 5 p) :: L2))) Q ↔ XE (d + 2) 77 107 [.val (.ref B), .val (.int (nI (i + 1)))] [] (hb B E g (s + 4 + 27) (.inr (11, ob_11 a0 a1 a2 a3 a4 a5 a6 (.ref (B + 33)) a8) :: (L1 ++ .inl (4, xrs 5 (va_up p i (some (B + (k + 1))))) :: (L2 ++ cSl (B + (k + 1)))))) Q := by
  have lt : nI i < 5 := nI_lt (b := 5) hi (by decide)
  have hL : ∀ x : va_E, (L1 ++ x :: L2).length = k := fun x => by rw [List.length_append, h1]; show 32 + (L2.length + 1) = k; omega
  have c0 : ∀ (o x : va_E) (s : Nat) (Q : Option Value → xH → Prop), XC (d + 2) 19 [.ref (B + (k + 1))] (hb B E g s (o :: (L1 ++ x :: (L2 ++ [.inr (6, [.int 0, .null, .null, .int 0])])))) Q ↔ Q none (hb B E g (s + 27) (o :: (L1 ++ x :: (L2 ++ cSl (B + (k + 1)))))) := fun o x s Q => by
    have := cc_slot (d := d) (B := B) (E := E) (g := g) (s := s) (o := o) (Q := Q) (L := L1 ++ x :: L2) (hL x)
    rw [List.append_assoc, List.append_assoc, List.cons_append, List.cons_append] at this
    exact this
  have v0 : ∀ (o x : va_E) (s : Nat), (hb B E g s (o :: (L1 ++ x :: (L2 ++ [.inr (6, [.int 0, .null, .null, .int 0])])))).2.2.1 (B + (k + 1)) = .inr (6, [.int 0, .null, .null, .int 0]) := fun o x s => by
    have := hb_last (B := B) (E := E) (g := g) (s := s) (o := o) (x := .inr (6, [.int 0, .null, .null, .int 0])) (L2 := []) (L := L1 ++ x :: L2) (hL x)
    rw [List.append_assoc, List.cons_append] at this
    exact this
  have v1 : ∀ (o x : va_E) (s : Nat), (hb B E g s (o :: (L1 ++ x :: (L2 ++ cSl (B + (k + 1)))))).2.2.1 (B + (k + 1)) = .inr (6, ob_6 (.int 0) .null (.ref (B + (k + 1) + 1)) (.int 0)) := fun o x s => by
    have := hb_last (B := B) (E := E) (g := g) (s := s) (o := o) (x := .inr (6, ob_6 (.int 0) .null (.ref (B + (k + 1) + 1)) (.int 0))) (L2 := [.inr (5, ob_5 (.int (-1)) (.int 0) (.ref (B + (k + 1) + 1 + 1))), .inl (0, xis 24 (fun _ => 0))]) (L := L1 ++ x :: L2) (hL x)
    rw [List.append_assoc, List.cons_append] at this
    exact this
  have v2 : ∀ (o x : va_E) (s : Nat) (L3 : List va_E), (hb B E g s (o :: (L1 ++ x :: L3))).2.2.1 (B + 33) = x := fun o x s L3 => hb_last (k := 32) h1
  have v3 : ∀ (o x e : va_E) (s : Nat) (L3 : List va_E), xset (hb B E g s (o :: (L1 ++ x :: L3))) (B + 33) e = hb B E g s (o :: (L1 ++ e :: L3)) := fun o x e s L3 => hb_lset (k := 32) h1
  rw [s77_107]
  simp only [s77_108, s77_109, s77_112, s77_113, s77_116, s77_117, s77_120, s77_120r, s77_121, s77_124, s77_124n, s77_125, s77_128, lt, hb_a0, og_11_7, hb_new, hb_1, List.cons_append, List.append_assoc, List.nil_append, List.length_cons, hL, v0, c0, v2, v1, XSr_4 hi, v3, nI_1, XG_1, XO_some, XV_1, xo_n, xo_i8, xo_r8, xo_i7, xo_r7, xo_i6, xo_r6, xo_i5, xo_r5, xo_i4, xo_r4, xo_i3, xo_r3, xo_i2, xo_r2, Option.toList_some, Option.toList_none, List.cons_append, List.nil_append, bI_t, bI_f, bI_0, bI_n0, if_true, if_false, true_and, and_true, ne_eq, not_true_eq_false, not_false_eq_true, one_ne0, reduceCtorEq]
end ST1
