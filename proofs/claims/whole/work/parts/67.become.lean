/-! ===== 67: a town becomes another ===== -/
def rcp (f g : Nat → Option Nat) (i : Nat) : Nat → Option Nat := fun k => if k < i then f k else g k
theorem rcp_s {f g : Nat → Option Nat} {i : Nat} : va_up (rcp f g i) i (f i) = rcp f g (i + 1) := by
  funext k
  by_cases e : k = i
  · rw [e, vau_at]; exact (if_pos (by omega)).symm
  · rw [vau_ne e]
    unfold rcp
    by_cases e2 : k < i
    · rw [if_pos e2, if_pos (by omega)]
    · rw [if_neg e2, if_neg (by omega)]
theorem rcp_0 {f g : Nat → Option Nat} : rcp f g 0 = g := by funext k; exact if_neg (by omega)
theorem XSn_6 {f : Nat → Option Nat} {i : Nat} {F : va_E → Prop} (hi : i < 6) : XSn 6 (.inl (6, xrs 6 f)) (nI i) F ↔ F (.inl (6, xrs 6 (va_up f i none))) := by
  unfold XSn
  dsimp only
  rw [nI_clamp (by omega)]
  exact ⟨fun q => q.2, fun q => ⟨⟨rfl, xin_nI hi (by decide)⟩, q⟩⟩
theorem XSn_5 {f : Nat → Option Nat} {i : Nat} {F : va_E → Prop} (hi : i < 14) : XSn 5 (.inl (5, xrs 14 f)) (nI i) F ↔ F (.inl (5, xrs 14 (va_up f i none))) := by
  unfold XSn
  dsimp only
  rw [nI_clamp (by omega)]
  exact ⟨fun q => q.2, fun q => ⟨⟨rfl, xin_nI hi (by decide)⟩, q⟩⟩
theorem XSr_5 {cs : List Nat} {f : Nat → Option Nat} {i b c : Nat} {l : List Value} {F : va_E → Prop} (hc : c ∈ cs) (hi : i < 14) : XSr 5 cs (.inl (5, xrs 14 f)) (nI i) b (.inr (c, l)) F ↔ F (.inl (5, xrs 14 (va_up f i (some b)))) := by
  unfold XSr
  dsimp only
  rw [nI_clamp (by omega)]
  exact ⟨fun q => q.2, fun q => ⟨⟨rfl, hc, xin_nI hi (by decide)⟩, q⟩⟩
def townG (t : Nat) (a0 a1 a2 a3 a4 a5 a6 a7 : Int32) : List Value := [.int a0, .int a1, .int a2, .int a3, .int a4, .int a5, .int a6, .int a7, .ref (t + 1), .ref (t + 2), .ref (t + 3), .ref (t + 4), .ref (t + 5), .ref (t + 6), .ref (t + 7), .ref (t + 8), .ref (t + 9), .ref (t + 10), .ref (t + 11), .ref (t + 12)]
section TGs
variable {t : Nat} {a0 a1 a2 a3 a4 a5 a6 a7 v : Int32}
theorem tgL : (townG t a0 a1 a2 a3 a4 a5 a6 a7).length = 20 := rfl
theorem tg0 : (townG t a0 a1 a2 a3 a4 a5 a6 a7).set 0 (.int v) = townG t v a1 a2 a3 a4 a5 a6 a7 := rfl
theorem tg1 : (townG t a0 a1 a2 a3 a4 a5 a6 a7).set 1 (.int v) = townG t a0 v a2 a3 a4 a5 a6 a7 := rfl
theorem tg2 : (townG t a0 a1 a2 a3 a4 a5 a6 a7).set 2 (.int v) = townG t a0 a1 v a3 a4 a5 a6 a7 := rfl
theorem tg3 : (townG t a0 a1 a2 a3 a4 a5 a6 a7).set 3 (.int v) = townG t a0 a1 a2 v a4 a5 a6 a7 := rfl
theorem tg4 : (townG t a0 a1 a2 a3 a4 a5 a6 a7).set 4 (.int v) = townG t a0 a1 a2 a3 v a5 a6 a7 := rfl
theorem tg5 : (townG t a0 a1 a2 a3 a4 a5 a6 a7).set 5 (.int v) = townG t a0 a1 a2 a3 a4 v a6 a7 := rfl
theorem tg6 : (townG t a0 a1 a2 a3 a4 a5 a6 a7).set 6 (.int v) = townG t a0 a1 a2 a3 a4 a5 v a7 := rfl
theorem tg7 : (townG t a0 a1 a2 a3 a4 a5 a6 a7).set 7 (.int v) = townG t a0 a1 a2 a3 a4 a5 a6 v := rfl
end TGs
/-- the numbers of a town that has become another -/
def bcT (T1 T0 : Nat → Nat → Int32) : Nat → Nat → Int32
  | 1 => cpf (T1 1) (T0 1) 10
  | 2 => cpf (T1 2) (T0 2) 10
  | 3 => cpf (T1 3) (T0 3) 10
  | 4 => cpf (T1 4) (T0 4) 12
  | 5 => cpf (T1 5) (T0 5) 12
  | 6 => cpf (T1 6) (T0 6) 12
  | 7 => cpf (T1 7) (T0 7) 24
  | k => T1 k
def bcP (p1 p0 : Nat → Nat → Option Nat) : Nat → Nat → Option Nat
  | 0 => rcp (p1 0) (p0 0) 6
  | 1 => rcp (p1 1) (p0 1) 14
  | k => p0 k
theorem iv_bc {n : Nat → Nat} {T1 T0 : Nat → Nat → Int32} (I : IV n T1) : IV n (bcT T1 T0) := by
  have hn := I.nn
  refine ⟨I.nn, I.pt, fun i hi => ?_, fun i hi => ?_, fun i hi => ?_, I.th, fun i j hi hj => ?_, fun i j hi h1 h2 => ?_, I.tx⟩
  · rw [show bcT T1 T0 4 i = T1 4 i from if_pos (by omega)]; exact I.ow i hi
  · rw [show bcT T1 T0 5 i = T1 5 i from if_pos (by omega)]; exact I.wo i hi
  · rw [show bcT T1 T0 7 i = T1 7 i from if_pos (by omega)]; exact I.be i hi
  · have e : ∀ i, i < n 0 → bcT T1 T0 3 i = T1 3 i := fun i hi => if_pos (by omega)
    unfold agB
    rw [e i hi, e j hj]
    exact I.sy i j hi hj
  · have e : bcT T1 T0 3 i = T1 3 i := if_pos (by omega)
    unfold agB
    rw [e]
    exact I.hi i j hi h1 h2
theorem mr_bc {n : Nat → Nat} {T1 T0 : Nat → Nat → Int32} {f g : Nat → Int32} (I : IV n T1) (M : MR n T1 f) : MR n (bcT T1 T0) (cpf f g 1482) := by
  have hn := I.nn
  obtain ⟨⟨m0, m1, m2, m3, m4, m5, m6, m7⟩, mh, md, mt, mx, mc⟩ := M
  have e : ∀ k, k < 1482 → cpf f g 1482 k = f k := fun k hk => if_pos hk
  refine ⟨⟨(e _ (by decide)).trans m0, (e _ (by decide)).trans m1, (e _ (by decide)).trans m2, (e _ (by decide)).trans m3, (e _ (by decide)).trans m4, (e _ (by decide)).trans m5, (e _ (by decide)).trans m6, (e _ (by decide)).trans m7⟩, fun i hi => ?_, fun i hi => ?_, fun i hi => ?_, fun i hi => ?_, fun k hk => ?_⟩
  · rw [e _ (by omega), e _ (by omega), e _ (by omega), show bcT T1 T0 1 i = T1 1 i from if_pos (by omega), show bcT T1 T0 2 i = T1 2 i from if_pos (by omega), show bcT T1 T0 3 i = T1 3 i from if_pos (by omega)]
    exact mh i hi
  · rw [e _ (by omega), e _ (by omega), e _ (by omega), e _ (by omega), e _ (by omega), show bcT T1 T0 4 i = T1 4 i from if_pos (by omega), show bcT T1 T0 5 i = T1 5 i from if_pos (by omega), show bcT T1 T0 6 i = T1 6 i from if_pos (by omega), show bcT T1 T0 7 (2 * i) = T1 7 (2 * i) from if_pos (by omega), show bcT T1 T0 7 (2 * i + 1) = T1 7 (2 * i + 1) from if_pos (by omega)]
    exact md i hi
  · rw [e _ (by omega), e _ (by omega)]; exact mt i hi
  · rw [e _ (by omega), e _ (by omega)]; exact mx i hi
  · rw [e _ (by omega)]; exact mc k hk
section BEC
variable {Dy d t u : Nat} {h : xH} {n n1 : Nat → Nat} {T T1 : Nat → Nat → Int32} {p p1 : Nat → Nat → Option Nat} {s s1 : Nat → Nat → Int32} {Q : Option Value → xH → Prop} {c2 : Slot}
theorem b51_0 (htt : t ≠ u) (ho : h.2.2.1 t = .inr (10, townF t n T)) (hu : h.2.2.1 u = .inr (10, townF u n1 T1)) : XE d 51 0 [.val (.ref t), .val (.ref u), c2] [] h Q ↔ XE d 51 64 [.val (.ref t), .val (.ref u), c2] [] (xset h t (.inr (10, townF t n1 T1))) Q := by
  have eu : ∀ e, (xset h t e).2.2.1 u = .inr (10, townF u n1 T1) := fun e => by rw [xset_ne (Ne.symm htt)]; exact hu
  have ho2 : h.2.2.1 t = .inr (10, townG t (nI (n 0)) (nI (n 1)) (nI (n 2)) (nI (n 3)) (T 0 4) (T 0 5) (T 0 6) (T 0 7)) := ho
  have L : ∀ (k : Nat) (a0 a1 a2 a3 a4 a5 a6 a7 : Int32), k < 20 → k < (townG t a0 a1 a2 a3 a4 a5 a6 a7).length := fun k _ _ _ _ _ _ _ _ hk => by rw [tgL]; exact hk
  rw [show townF t n1 T1 = townG t (nI (n1 0)) (nI (n1 1)) (nI (n1 2)) (nI (n1 3)) (T1 0 4) (T1 0 5) (T1 0 6) (T1 0 7) from rfl]
  simp only [s51_0, s51_1, s51_1n, s51_2, s51_5, s51_8, s51_9, s51_9n, s51_10, s51_13, s51_16, s51_17, s51_17n, s51_18, s51_21, s51_24, s51_25, s51_25n, s51_26, s51_29, s51_32, s51_33, s51_33n, s51_34, s51_37, s51_40, s51_41, s51_41n, s51_42, s51_45, s51_48, s51_49, s51_49n, s51_50, s51_53, s51_56, s51_57, s51_57n, s51_58, s51_61, ho2, hu, eu, tf0, tf1, tf2, tf3, tf4, tf5, tf6, tf7, XP_1 (L 0 _ _ _ _ _ _ _ _ (by decide)), XP_1 (L 1 _ _ _ _ _ _ _ _ (by decide)), XP_1 (L 2 _ _ _ _ _ _ _ _ (by decide)), XP_1 (L 3 _ _ _ _ _ _ _ _ (by decide)), XP_1 (L 4 _ _ _ _ _ _ _ _ (by decide)), XP_1 (L 5 _ _ _ _ _ _ _ _ (by decide)), XP_1 (L 6 _ _ _ _ _ _ _ _ (by decide)), XP_1 (L 7 _ _ _ _ _ _ _ _ (by decide)), tg0, tg1, tg2, tg3, tg4, tg5, tg6, tg7, xset_self, xset_twice, XG_1, XO_some, XV_1, xo_n, xo_i8, xo_r8, xo_i7, xo_r7, xo_i6, xo_r6, xo_i5, xo_r5, xo_i4, xo_r4, xo_i3, xo_r3, xo_i2, xo_r2, Option.toList_some, Option.toList_none, List.cons_append, List.nil_append, bI_t, bI_f, bI_0, bI_n0, if_true, if_false, true_and, and_true, ne_eq, not_true_eq_false, not_false_eq_true, one_ne0, reduceCtorEq]
theorem b51_1 {f g : Nat → Int32} (ho : h.2.2.1 t = .inr (10, townF t n T)) (hu : h.2.2.1 u = .inr (10, townF u n1 T1)) (hr : h.2.2.1 (t + 1) = .inl (0, xis 10 g)) (hv : h.2.2.1 (u + 1) = .inl (0, xis 10 f)) : XE d 51 64 [.val (.ref t), .val (.ref u), c2] [] h Q ↔ XE d 51 79 [.val (.ref t), .val (.ref u), c2] [] (xset h (t + 1) (.inl (0, xis 10 (cpf f g 10)))) Q := by
  simp only [s51_64, s51_64n, s51_65, s51_68, s51_69, s51_70, s51_73, s51_74, ho, hu, tf8, XG_1, XO_some, XV_1, xo_n, xo_i8, xo_r8, xo_i7, xo_r7, xo_i6, xo_r6, xo_i5, xo_r5, xo_i4, xo_r4, xo_i3, xo_r3, xo_i2, xo_r2, Option.toList_some, Option.toList_none, List.cons_append, List.nil_append, bI_t, bI_f, bI_0, bI_n0, if_true, if_false, true_and, and_true, ne_eq, not_true_eq_false, not_false_eq_true, one_ne0, reduceCtorEq]
  rw [s51_76 rfl]
  simp only [hr, hv, XCp10]
theorem b51_2 {f g : Nat → Int32} (ho : h.2.2.1 t = .inr (10, townF t n T)) (hu : h.2.2.1 u = .inr (10, townF u n1 T1)) (hr : h.2.2.1 (t + 2) = .inl (0, xis 10 g)) (hv : h.2.2.1 (u + 2) = .inl (0, xis 10 f)) : XE d 51 79 [.val (.ref t), .val (.ref u), c2] [] h Q ↔ XE d 51 94 [.val (.ref t), .val (.ref u), c2] [] (xset h (t + 2) (.inl (0, xis 10 (cpf f g 10)))) Q := by
  simp only [s51_79, s51_79n, s51_80, s51_83, s51_84, s51_85, s51_88, s51_89, ho, hu, tf9, XG_1, XO_some, XV_1, xo_n, xo_i8, xo_r8, xo_i7, xo_r7, xo_i6, xo_r6, xo_i5, xo_r5, xo_i4, xo_r4, xo_i3, xo_r3, xo_i2, xo_r2, Option.toList_some, Option.toList_none, List.cons_append, List.nil_append, bI_t, bI_f, bI_0, bI_n0, if_true, if_false, true_and, and_true, ne_eq, not_true_eq_false, not_false_eq_true, one_ne0, reduceCtorEq]
  rw [s51_91 rfl]
  simp only [hr, hv, XCp10]
theorem b51_3 {f g : Nat → Int32} (ho : h.2.2.1 t = .inr (10, townF t n T)) (hu : h.2.2.1 u = .inr (10, townF u n1 T1)) (hr : h.2.2.1 (t + 3) = .inl (0, xis 10 g)) (hv : h.2.2.1 (u + 3) = .inl (0, xis 10 f)) : XE d 51 94 [.val (.ref t), .val (.ref u), c2] [] h Q ↔ XE d 51 109 [.val (.ref t), .val (.ref u), c2] [] (xset h (t + 3) (.inl (0, xis 10 (cpf f g 10)))) Q := by
  simp only [s51_94, s51_94n, s51_95, s51_98, s51_99, s51_100, s51_103, s51_104, ho, hu, tf10, XG_1, XO_some, XV_1, xo_n, xo_i8, xo_r8, xo_i7, xo_r7, xo_i6, xo_r6, xo_i5, xo_r5, xo_i4, xo_r4, xo_i3, xo_r3, xo_i2, xo_r2, Option.toList_some, Option.toList_none, List.cons_append, List.nil_append, bI_t, bI_f, bI_0, bI_n0, if_true, if_false, true_and, and_true, ne_eq, not_true_eq_false, not_false_eq_true, one_ne0, reduceCtorEq]
  rw [s51_106 rfl]
  simp only [hr, hv, XCp10]
theorem b51_4 {f g : Nat → Int32} (ho : h.2.2.1 t = .inr (10, townF t n T)) (hu : h.2.2.1 u = .inr (10, townF u n1 T1)) (hr : h.2.2.1 (t + 4) = .inl (0, xis 12 g)) (hv : h.2.2.1 (u + 4) = .inl (0, xis 12 f)) : XE d 51 109 [.val (.ref t), .val (.ref u), c2] [] h Q ↔ XE d 51 124 [.val (.ref t), .val (.ref u), c2] [] (xset h (t + 4) (.inl (0, xis 12 (cpf f g 12)))) Q := by
  simp only [s51_109, s51_109n, s51_110, s51_113, s51_114, s51_115, s51_118, s51_119, ho, hu, tf11, XG_1, XO_some, XV_1, xo_n, xo_i8, xo_r8, xo_i7, xo_r7, xo_i6, xo_r6, xo_i5, xo_r5, xo_i4, xo_r4, xo_i3, xo_r3, xo_i2, xo_r2, Option.toList_some, Option.toList_none, List.cons_append, List.nil_append, bI_t, bI_f, bI_0, bI_n0, if_true, if_false, true_and, and_true, ne_eq, not_true_eq_false, not_false_eq_true, one_ne0, reduceCtorEq]
  rw [s51_121 rfl]
  simp only [hr, hv, XCp12]
theorem b51_5 {f g : Nat → Int32} (ho : h.2.2.1 t = .inr (10, townF t n T)) (hu : h.2.2.1 u = .inr (10, townF u n1 T1)) (hr : h.2.2.1 (t + 5) = .inl (0, xis 12 g)) (hv : h.2.2.1 (u + 5) = .inl (0, xis 12 f)) : XE d 51 124 [.val (.ref t), .val (.ref u), c2] [] h Q ↔ XE d 51 139 [.val (.ref t), .val (.ref u), c2] [] (xset h (t + 5) (.inl (0, xis 12 (cpf f g 12)))) Q := by
  simp only [s51_124, s51_124n, s51_125, s51_128, s51_129, s51_130, s51_133, s51_134, ho, hu, tf12, XG_1, XO_some, XV_1, xo_n, xo_i8, xo_r8, xo_i7, xo_r7, xo_i6, xo_r6, xo_i5, xo_r5, xo_i4, xo_r4, xo_i3, xo_r3, xo_i2, xo_r2, Option.toList_some, Option.toList_none, List.cons_append, List.nil_append, bI_t, bI_f, bI_0, bI_n0, if_true, if_false, true_and, and_true, ne_eq, not_true_eq_false, not_false_eq_true, one_ne0, reduceCtorEq]
  rw [s51_136 rfl]
  simp only [hr, hv, XCp12]
theorem b51_6 {f g : Nat → Int32} (ho : h.2.2.1 t = .inr (10, townF t n T)) (hu : h.2.2.1 u = .inr (10, townF u n1 T1)) (hr : h.2.2.1 (t + 6) = .inl (0, xis 12 g)) (hv : h.2.2.1 (u + 6) = .inl (0, xis 12 f)) : XE d 51 139 [.val (.ref t), .val (.ref u), c2] [] h Q ↔ XE d 51 154 [.val (.ref t), .val (.ref u), c2] [] (xset h (t + 6) (.inl (0, xis 12 (cpf f g 12)))) Q := by
  simp only [s51_139, s51_139n, s51_140, s51_143, s51_144, s51_145, s51_148, s51_149, ho, hu, tf13, XG_1, XO_some, XV_1, xo_n, xo_i8, xo_r8, xo_i7, xo_r7, xo_i6, xo_r6, xo_i5, xo_r5, xo_i4, xo_r4, xo_i3, xo_r3, xo_i2, xo_r2, Option.toList_some, Option.toList_none, List.cons_append, List.nil_append, bI_t, bI_f, bI_0, bI_n0, if_true, if_false, true_and, and_true, ne_eq, not_true_eq_false, not_false_eq_true, one_ne0, reduceCtorEq]
  rw [s51_151 rfl]
  simp only [hr, hv, XCp12]
theorem b51_7 {f g : Nat → Int32} (ho : h.2.2.1 t = .inr (10, townF t n T)) (hu : h.2.2.1 u = .inr (10, townF u n1 T1)) (hr : h.2.2.1 (t + 7) = .inl (0, xis 24 g)) (hv : h.2.2.1 (u + 7) = .inl (0, xis 24 f)) : XE d 51 154 [.val (.ref t), .val (.ref u), c2] [] h Q ↔ XE d 51 169 [.val (.ref t), .val (.ref u), c2] [] (xset h (t + 7) (.inl (0, xis 24 (cpf f g 24)))) Q := by
  simp only [s51_154, s51_154n, s51_155, s51_158, s51_159, s51_160, s51_163, s51_164, ho, hu, tf14, XG_1, XO_some, XV_1, xo_n, xo_i8, xo_r8, xo_i7, xo_r7, xo_i6, xo_r6, xo_i5, xo_r5, xo_i4, xo_r4, xo_i3, xo_r3, xo_i2, xo_r2, Option.toList_some, Option.toList_none, List.cons_append, List.nil_append, bI_t, bI_f, bI_0, bI_n0, if_true, if_false, true_and, and_true, ne_eq, not_true_eq_false, not_false_eq_true, one_ne0, reduceCtorEq]
  rw [s51_166 rfl]
  simp only [hr, hv, XCp24]
theorem l_b6 (htt : t + 13 ≤ u ∨ u + 13 ≤ t) (ho : h.2.2.1 t = .inr (10, townF t n T)) (hu : h.2.2.1 u = .inr (10, townF u n1 T1)) {f g : Nat → Option Nat} (hv : h.2.2.1 (u + 8) = .inl (6, xrs 6 f)) (hf : ∀ i, i < 6 → f i = none ∨ ∃ a c l, f i = some a ∧ a ≠ t + 8 ∧ h.2.2.1 a = .inr (c, l) ∧ c ∈ [0, 1, 2, 3, 4, 9]) : ∀ k i, i + k = 6 → (XE d 51 171 [.val (.ref t), .val (.ref u), .val (.int (nI i))] [] (xset h (t + 8) (.inl (6, xrs 6 (rcp f g i)))) Q ↔ XE d 51 197 [.val (.ref t), .val (.ref u), .val (.int (nI 0))] [] (xset h (t + 8) (.inl (6, xrs 6 (rcp f g 6)))) Q) := by
  have eo : ∀ e, (xset h (t + 8) e).2.2.1 t = .inr (10, townF t n T) := fun e => by rw [xset_ne (by omega)]; exact ho
  have eu : ∀ e, (xset h (t + 8) e).2.2.1 u = .inr (10, townF u n1 T1) := fun e => by rw [xset_ne (by omega)]; exact hu
  have ev : ∀ e, (xset h (t + 8) e).2.2.1 (u + 8) = .inl (6, xrs 6 f) := fun e => by rw [xset_ne (by omega)]; exact hv
  intro k
  induction k with
  | zero =>
    intro i hi
    rw [show i = 6 by omega, s51_171]
    simp only [s51_172, s51_174, s51_177, s51_178, s51_181, s51_182, s51_182n, s51_183, s51_186, s51_187, s51_188, s51_188n, s51_189, s51_192, s51_195, s51_196, show ((nI 6 : Int32) < 6) = False from eq_false (by decide), XG_1, XO_some, XV_1, xo_n, xo_i8, xo_r8, xo_i7, xo_r7, xo_i6, xo_r6, xo_i5, xo_r5, xo_i4, xo_r4, xo_i3, xo_r3, xo_i2, xo_r2, Option.toList_some, Option.toList_none, List.cons_append, List.nil_append, bI_t, bI_f, bI_0, bI_n0, if_true, if_false, true_and, and_true, ne_eq, not_true_eq_false, not_false_eq_true, one_ne0, reduceCtorEq]
    exact Iff.rfl
  | succ k ih =>
    intro i hi
    have hlt : nI i < 6 := nI_lt (b := 6) (by omega) (by decide)
    have h6 : i < 6 := by omega
    have ih1 := ih (i + 1) (by omega)
    rw [← rcp_s] at ih1
    rw [s51_171]
    rcases hf i h6 with e | ⟨a, c, l, e, ha, hc, hm⟩
    · rw [e] at ih1
      simp only [s51_172, s51_174, s51_177, s51_178, s51_181, s51_182, s51_182n, s51_183, s51_186, s51_187, s51_188, s51_188n, s51_189, s51_192, s51_195, s51_196, hlt, eo, eu, ev, tf15, XQ6 h6, e, va_rf, xset_self, XSn_6 h6, xset_twice, nI_1, XG_1, XO_some, XV_1, xo_n, xo_i8, xo_r8, xo_i7, xo_r7, xo_i6, xo_r6, xo_i5, xo_r5, xo_i4, xo_r4, xo_i3, xo_r3, xo_i2, xo_r2, Option.toList_some, Option.toList_none, List.cons_append, List.nil_append, bI_t, bI_f, bI_0, bI_n0, if_true, if_false, true_and, and_true, ne_eq, not_true_eq_false, not_false_eq_true, one_ne0, reduceCtorEq]
      exact ih1
    · rw [e] at ih1
      have ea : ∀ e, (xset h (t + 8) e).2.2.1 a = .inr (c, l) := fun e => by rw [xset_ne ha]; exact hc
      simp only [s51_172, s51_174, s51_177, s51_178, s51_181, s51_182, s51_182n, s51_183, s51_186, s51_187, s51_188, s51_188n, s51_189, s51_192, s51_195, s51_196, hlt, eo, eu, ev, ea, tf15, XQ6 h6, e, va_rf, xset_self, XSr_6 hm h6, xset_twice, nI_1, XG_1, XO_some, XV_1, xo_n, xo_i8, xo_r8, xo_i7, xo_r7, xo_i6, xo_r6, xo_i5, xo_r5, xo_i4, xo_r4, xo_i3, xo_r3, xo_i2, xo_r2, Option.toList_some, Option.toList_none, List.cons_append, List.nil_append, bI_t, bI_f, bI_0, bI_n0, if_true, if_false, true_and, and_true, ne_eq, not_true_eq_false, not_false_eq_true, one_ne0, reduceCtorEq]
      exact ih1
theorem l_b14 (htt : t + 13 ≤ u ∨ u + 13 ≤ t) (ho : h.2.2.1 t = .inr (10, townF t n T)) (hu : h.2.2.1 u = .inr (10, townF u n1 T1)) {f g : Nat → Option Nat} (hv : h.2.2.1 (u + 9) = .inl (5, xrs 14 f)) (hf : ∀ i, i < 14 → f i = none ∨ ∃ a c l, f i = some a ∧ a ≠ t + 9 ∧ h.2.2.1 a = .inr (c, l) ∧ c ∈ [8]) : ∀ k i, i + k = 14 → (XE d 51 197 [.val (.ref t), .val (.ref u), .val (.int (nI i))] [] (xset h (t + 9) (.inl (5, xrs 14 (rcp f g i)))) Q ↔ Q none (xset h (t + 9) (.inl (5, xrs 14 (rcp f g 14))))) := by
  have eo : ∀ e, (xset h (t + 9) e).2.2.1 t = .inr (10, townF t n T) := fun e => by rw [xset_ne (by omega)]; exact ho
  have eu : ∀ e, (xset h (t + 9) e).2.2.1 u = .inr (10, townF u n1 T1) := fun e => by rw [xset_ne (by omega)]; exact hu
  have ev : ∀ e, (xset h (t + 9) e).2.2.1 (u + 9) = .inl (5, xrs 14 f) := fun e => by rw [xset_ne (by omega)]; exact hv
  intro k
  induction k with
  | zero =>
    intro i hi
    rw [show i = 14 by omega, s51_197]
    simp only [s51_198, s51_200, s51_203, s51_204, s51_207, s51_208, s51_208n, s51_209, s51_212, s51_213, s51_214, s51_214n, s51_215, s51_218, s51_221, show ((nI 14 : Int32) < 14) = False from eq_false (by decide), XG_1, XO_some, XV_1, xo_n, xo_i8, xo_r8, xo_i7, xo_r7, xo_i6, xo_r6, xo_i5, xo_r5, xo_i4, xo_r4, xo_i3, xo_r3, xo_i2, xo_r2, Option.toList_some, Option.toList_none, List.cons_append, List.nil_append, bI_t, bI_f, bI_0, bI_n0, if_true, if_false, true_and, and_true, ne_eq, not_true_eq_false, not_false_eq_true, one_ne0, reduceCtorEq]
  | succ k ih =>
    intro i hi
    have hlt : nI i < 14 := nI_lt (b := 14) (by omega) (by decide)
    have h14 : i < 14 := by omega
    have ih1 := ih (i + 1) (by omega)
    rw [← rcp_s] at ih1
    rw [s51_197]
    rcases hf i h14 with e | ⟨a, c, l, e, ha, hc, hm⟩
    · rw [e] at ih1
      simp only [s51_198, s51_200, s51_203, s51_204, s51_207, s51_208, s51_208n, s51_209, s51_212, s51_213, s51_214, s51_214n, s51_215, s51_218, s51_221, hlt, eo, eu, ev, tf16, XQ14 h14, e, va_rf, xset_self, XSn_5 h14, xset_twice, nI_1, XG_1, XO_some, XV_1, xo_n, xo_i8, xo_r8, xo_i7, xo_r7, xo_i6, xo_r6, xo_i5, xo_r5, xo_i4, xo_r4, xo_i3, xo_r3, xo_i2, xo_r2, Option.toList_some, Option.toList_none, List.cons_append, List.nil_append, bI_t, bI_f, bI_0, bI_n0, if_true, if_false, true_and, and_true, ne_eq, not_true_eq_false, not_false_eq_true, one_ne0, reduceCtorEq]
      exact ih1
    · rw [e] at ih1
      have ea : ∀ e, (xset h (t + 9) e).2.2.1 a = .inr (c, l) := fun e => by rw [xset_ne ha]; exact hc
      simp only [s51_198, s51_200, s51_203, s51_204, s51_207, s51_208, s51_208n, s51_209, s51_212, s51_213, s51_214, s51_214n, s51_215, s51_218, s51_221, hlt, eo, eu, ev, ea, tf16, XQ14 h14, e, va_rf, xset_self, XSr_5 hm h14, xset_twice, nI_1, XG_1, XO_some, XV_1, xo_n, xo_i8, xo_r8, xo_i7, xo_r7, xo_i6, xo_r6, xo_i5, xo_r5, xo_i4, xo_r4, xo_i3, xo_r3, xo_i2, xo_r2, Option.toList_some, Option.toList_none, List.cons_append, List.nil_append, bI_t, bI_f, bI_0, bI_n0, if_true, if_false, true_and, and_true, ne_eq, not_true_eq_false, not_false_eq_true, one_ne0, reduceCtorEq]
      exact ih1
theorem c_become51 (R : RT Dy h.2.2.1 t n T p s) (R1 : RT Dy h.2.2.1 u n1 T1 p1 s1) (htt : t + 13 ≤ u ∨ u + 13 ≤ t) (ht : t + 12 < Dy) (hu : u + 12 < Dy) (hD : Dy ≤ h.1) (K : ∀ h2, FR Dy (Pt t) h h2 → RT Dy h2.2.2.1 t n1 (bcT T1 T) (bcP p1 p) s → Q none h2) : XC (d + 1) 51 [.ref t, .ref u] h Q := by
  have hn1 := R1.nn
  have np : ∀ k, k ≤ 12 → ¬ Pt t (u + k) := fun k hk p => by omega
  rw [e51]
  refine (b51_0 (by omega) R.o R1.o).mpr ?_
  have F0 : FR Dy (Pt t) h (xset h t (.inr (10, townF t n1 T1))) := FR.set (by omega) (by omega) (by omega)
  have O0 : (xset h t (.inr (10, townF t n1 T1))).2.2.1 t = .inr (10, townF t n1 T1) := xset_self
  have A1 : (xset h t (.inr (10, townF t n1 T1))).2.2.1 (t + 1) = .inl (0, xis 10 (T 1)) := by rw [xset_ne (by omega)]; exact R.aw
  have U1 := R1.fr F0 hu np
  refine (b51_1 O0 U1.o A1 U1.aw).mpr ?_
  have F1 : FR Dy (Pt t) h (xset (xset h t (.inr (10, townF t n1 T1))) (t + 1) (.inl (0, xis 10 (cpf (T1 1) (T 1) 10)))) := F0.trans (FR.set (by omega) (by omega) (by rw [F0.1]; omega))
  have O1 : (xset (xset h t (.inr (10, townF t n1 T1))) (t + 1) (.inl (0, xis 10 (cpf (T1 1) (T 1) 10)))).2.2.1 t = .inr (10, townF t n1 T1) := by rw [xset_ne (by omega)]; exact O0
  have A2 : (xset (xset h t (.inr (10, townF t n1 T1))) (t + 1) (.inl (0, xis 10 (cpf (T1 1) (T 1) 10)))).2.2.1 (t + 2) = .inl (0, xis 10 (T 2)) := by rw [xset_ne (by omega), xset_ne (by omega)]; exact R.ca
  have U2 := R1.fr F1 hu np
  refine (b51_2 O1 U2.o A2 U2.ca).mpr ?_
  have F2 : FR Dy (Pt t) h (xset (xset (xset h t (.inr (10, townF t n1 T1))) (t + 1) (.inl (0, xis 10 (cpf (T1 1) (T 1) 10)))) (t + 2) (.inl (0, xis 10 (cpf (T1 2) (T 2) 10)))) := F1.trans (FR.set (by omega) (by omega) (by rw [F1.1]; omega))
  have O2 : (xset (xset (xset h t (.inr (10, townF t n1 T1))) (t + 1) (.inl (0, xis 10 (cpf (T1 1) (T 1) 10)))) (t + 2) (.inl (0, xis 10 (cpf (T1 2) (T 2) 10)))).2.2.1 t = .inr (10, townF t n1 T1) := by rw [xset_ne (by omega)]; exact O1
  have A3 : (xset (xset (xset h t (.inr (10, townF t n1 T1))) (t + 1) (.inl (0, xis 10 (cpf (T1 1) (T 1) 10)))) (t + 2) (.inl (0, xis 10 (cpf (T1 2) (T 2) 10)))).2.2.1 (t + 3) = .inl (0, xis 10 (T 3)) := by rw [xset_ne (by omega), xset_ne (by omega), xset_ne (by omega)]; exact R.ag
  have U3 := R1.fr F2 hu np
  refine (b51_3 O2 U3.o A3 U3.ag).mpr ?_
  have F3 : FR Dy (Pt t) h (xset (xset (xset (xset h t (.inr (10, townF t n1 T1))) (t + 1) (.inl (0, xis 10 (cpf (T1 1) (T 1) 10)))) (t + 2) (.inl (0, xis 10 (cpf (T1 2) (T 2) 10)))) (t + 3) (.inl (0, xis 10 (cpf (T1 3) (T 3) 10)))) := F2.trans (FR.set (by omega) (by omega) (by rw [F2.1]; omega))
  have O3 : (xset (xset (xset (xset h t (.inr (10, townF t n1 T1))) (t + 1) (.inl (0, xis 10 (cpf (T1 1) (T 1) 10)))) (t + 2) (.inl (0, xis 10 (cpf (T1 2) (T 2) 10)))) (t + 3) (.inl (0, xis 10 (cpf (T1 3) (T 3) 10)))).2.2.1 t = .inr (10, townF t n1 T1) := by rw [xset_ne (by omega)]; exact O2
  have A4 : (xset (xset (xset (xset h t (.inr (10, townF t n1 T1))) (t + 1) (.inl (0, xis 10 (cpf (T1 1) (T 1) 10)))) (t + 2) (.inl (0, xis 10 (cpf (T1 2) (T 2) 10)))) (t + 3) (.inl (0, xis 10 (cpf (T1 3) (T 3) 10)))).2.2.1 (t + 4) = .inl (0, xis 12 (T 4)) := by rw [xset_ne (by omega), xset_ne (by omega), xset_ne (by omega), xset_ne (by omega)]; exact R.ow
  have U4 := R1.fr F3 hu np
  refine (b51_4 O3 U4.o A4 U4.ow).mpr ?_
  have F4 : FR Dy (Pt t) h (xset (xset (xset (xset (xset h t (.inr (10, townF t n1 T1))) (t + 1) (.inl (0, xis 10 (cpf (T1 1) (T 1) 10)))) (t + 2) (.inl (0, xis 10 (cpf (T1 2) (T 2) 10)))) (t + 3) (.inl (0, xis 10 (cpf (T1 3) (T 3) 10)))) (t + 4) (.inl (0, xis 12 (cpf (T1 4) (T 4) 12)))) := F3.trans (FR.set (by omega) (by omega) (by rw [F3.1]; omega))
  have O4 : (xset (xset (xset (xset (xset h t (.inr (10, townF t n1 T1))) (t + 1) (.inl (0, xis 10 (cpf (T1 1) (T 1) 10)))) (t + 2) (.inl (0, xis 10 (cpf (T1 2) (T 2) 10)))) (t + 3) (.inl (0, xis 10 (cpf (T1 3) (T 3) 10)))) (t + 4) (.inl (0, xis 12 (cpf (T1 4) (T 4) 12)))).2.2.1 t = .inr (10, townF t n1 T1) := by rw [xset_ne (by omega)]; exact O3
  have A5 : (xset (xset (xset (xset (xset h t (.inr (10, townF t n1 T1))) (t + 1) (.inl (0, xis 10 (cpf (T1 1) (T 1) 10)))) (t + 2) (.inl (0, xis 10 (cpf (T1 2) (T 2) 10)))) (t + 3) (.inl (0, xis 10 (cpf (T1 3) (T 3) 10)))) (t + 4) (.inl (0, xis 12 (cpf (T1 4) (T 4) 12)))).2.2.1 (t + 5) = .inl (0, xis 12 (T 5)) := by rw [xset_ne (by omega), xset_ne (by omega), xset_ne (by omega), xset_ne (by omega), xset_ne (by omega)]; exact R.wo
  have U5 := R1.fr F4 hu np
  refine (b51_5 O4 U5.o A5 U5.wo).mpr ?_
  have F5 : FR Dy (Pt t) h (xset (xset (xset (xset (xset (xset h t (.inr (10, townF t n1 T1))) (t + 1) (.inl (0, xis 10 (cpf (T1 1) (T 1) 10)))) (t + 2) (.inl (0, xis 10 (cpf (T1 2) (T 2) 10)))) (t + 3) (.inl (0, xis 10 (cpf (T1 3) (T 3) 10)))) (t + 4) (.inl (0, xis 12 (cpf (T1 4) (T 4) 12)))) (t + 5) (.inl (0, xis 12 (cpf (T1 5) (T 5) 12)))) := F4.trans (FR.set (by omega) (by omega) (by rw [F4.1]; omega))
  have O5 : (xset (xset (xset (xset (xset (xset h t (.inr (10, townF t n1 T1))) (t + 1) (.inl (0, xis 10 (cpf (T1 1) (T 1) 10)))) (t + 2) (.inl (0, xis 10 (cpf (T1 2) (T 2) 10)))) (t + 3) (.inl (0, xis 10 (cpf (T1 3) (T 3) 10)))) (t + 4) (.inl (0, xis 12 (cpf (T1 4) (T 4) 12)))) (t + 5) (.inl (0, xis 12 (cpf (T1 5) (T 5) 12)))).2.2.1 t = .inr (10, townF t n1 T1) := by rw [xset_ne (by omega)]; exact O4
  have A6 : (xset (xset (xset (xset (xset (xset h t (.inr (10, townF t n1 T1))) (t + 1) (.inl (0, xis 10 (cpf (T1 1) (T 1) 10)))) (t + 2) (.inl (0, xis 10 (cpf (T1 2) (T 2) 10)))) (t + 3) (.inl (0, xis 10 (cpf (T1 3) (T 3) 10)))) (t + 4) (.inl (0, xis 12 (cpf (T1 4) (T 4) 12)))) (t + 5) (.inl (0, xis 12 (cpf (T1 5) (T 5) 12)))).2.2.1 (t + 6) = .inl (0, xis 12 (T 6)) := by rw [xset_ne (by omega), xset_ne (by omega), xset_ne (by omega), xset_ne (by omega), xset_ne (by omega), xset_ne (by omega)]; exact R.no
  have U6 := R1.fr F5 hu np
  refine (b51_6 O5 U6.o A6 U6.no).mpr ?_
  have F6 : FR Dy (Pt t) h (xset (xset (xset (xset (xset (xset (xset h t (.inr (10, townF t n1 T1))) (t + 1) (.inl (0, xis 10 (cpf (T1 1) (T 1) 10)))) (t + 2) (.inl (0, xis 10 (cpf (T1 2) (T 2) 10)))) (t + 3) (.inl (0, xis 10 (cpf (T1 3) (T 3) 10)))) (t + 4) (.inl (0, xis 12 (cpf (T1 4) (T 4) 12)))) (t + 5) (.inl (0, xis 12 (cpf (T1 5) (T 5) 12)))) (t + 6) (.inl (0, xis 12 (cpf (T1 6) (T 6) 12)))) := F5.trans (FR.set (by omega) (by omega) (by rw [F5.1]; omega))
  have O6 : (xset (xset (xset (xset (xset (xset (xset h t (.inr (10, townF t n1 T1))) (t + 1) (.inl (0, xis 10 (cpf (T1 1) (T 1) 10)))) (t + 2) (.inl (0, xis 10 (cpf (T1 2) (T 2) 10)))) (t + 3) (.inl (0, xis 10 (cpf (T1 3) (T 3) 10)))) (t + 4) (.inl (0, xis 12 (cpf (T1 4) (T 4) 12)))) (t + 5) (.inl (0, xis 12 (cpf (T1 5) (T 5) 12)))) (t + 6) (.inl (0, xis 12 (cpf (T1 6) (T 6) 12)))).2.2.1 t = .inr (10, townF t n1 T1) := by rw [xset_ne (by omega)]; exact O5
  have A7 : (xset (xset (xset (xset (xset (xset (xset h t (.inr (10, townF t n1 T1))) (t + 1) (.inl (0, xis 10 (cpf (T1 1) (T 1) 10)))) (t + 2) (.inl (0, xis 10 (cpf (T1 2) (T 2) 10)))) (t + 3) (.inl (0, xis 10 (cpf (T1 3) (T 3) 10)))) (t + 4) (.inl (0, xis 12 (cpf (T1 4) (T 4) 12)))) (t + 5) (.inl (0, xis 12 (cpf (T1 5) (T 5) 12)))) (t + 6) (.inl (0, xis 12 (cpf (T1 6) (T 6) 12)))).2.2.1 (t + 7) = .inl (0, xis 24 (T 7)) := by rw [xset_ne (by omega), xset_ne (by omega), xset_ne (by omega), xset_ne (by omega), xset_ne (by omega), xset_ne (by omega), xset_ne (by omega)]; exact R.be
  have U7 := R1.fr F6 hu np
  refine (b51_7 O6 U7.o A7 U7.be).mpr ?_
  have F7 : FR Dy (Pt t) h (xset (xset (xset (xset (xset (xset (xset (xset h t (.inr (10, townF t n1 T1))) (t + 1) (.inl (0, xis 10 (cpf (T1 1) (T 1) 10)))) (t + 2) (.inl (0, xis 10 (cpf (T1 2) (T 2) 10)))) (t + 3) (.inl (0, xis 10 (cpf (T1 3) (T 3) 10)))) (t + 4) (.inl (0, xis 12 (cpf (T1 4) (T 4) 12)))) (t + 5) (.inl (0, xis 12 (cpf (T1 5) (T 5) 12)))) (t + 6) (.inl (0, xis 12 (cpf (T1 6) (T 6) 12)))) (t + 7) (.inl (0, xis 24 (cpf (T1 7) (T 7) 24)))) := F6.trans (FR.set (by omega) (by omega) (by rw [F6.1]; omega))
  have O7 : (xset (xset (xset (xset (xset (xset (xset (xset h t (.inr (10, townF t n1 T1))) (t + 1) (.inl (0, xis 10 (cpf (T1 1) (T 1) 10)))) (t + 2) (.inl (0, xis 10 (cpf (T1 2) (T 2) 10)))) (t + 3) (.inl (0, xis 10 (cpf (T1 3) (T 3) 10)))) (t + 4) (.inl (0, xis 12 (cpf (T1 4) (T 4) 12)))) (t + 5) (.inl (0, xis 12 (cpf (T1 5) (T 5) 12)))) (t + 6) (.inl (0, xis 12 (cpf (T1 6) (T 6) 12)))) (t + 7) (.inl (0, xis 24 (cpf (T1 7) (T 7) 24)))).2.2.1 t = .inr (10, townF t n1 T1) := by rw [xset_ne (by omega)]; exact O6
  have U8 := R1.fr F7 hu np
  have A8 : (xset (xset (xset (xset (xset (xset (xset (xset h t (.inr (10, townF t n1 T1))) (t + 1) (.inl (0, xis 10 (cpf (T1 1) (T 1) 10)))) (t + 2) (.inl (0, xis 10 (cpf (T1 2) (T 2) 10)))) (t + 3) (.inl (0, xis 10 (cpf (T1 3) (T 3) 10)))) (t + 4) (.inl (0, xis 12 (cpf (T1 4) (T 4) 12)))) (t + 5) (.inl (0, xis 12 (cpf (T1 5) (T 5) 12)))) (t + 6) (.inl (0, xis 12 (cpf (T1 6) (T 6) 12)))) (t + 7) (.inl (0, xis 24 (cpf (T1 7) (T 7) 24)))).2.2.1 (t + 8) = .inl (6, xrs 6 (p 0)) := by rw [xset_ne (by omega), xset_ne (by omega), xset_ne (by omega), xset_ne (by omega), xset_ne (by omega), xset_ne (by omega), xset_ne (by omega), xset_ne (by omega)]; exact R.ba
  have L6 := l_b6 (d := d) (Q := Q) htt O7 U8.o U8.ba (g := p 0) (fun i hi => by
    by_cases e : i < n1 2
    · obtain ⟨a, q1, q2, kn, q3, q4, q5⟩ := U8.th i e
      exact Or.inr ⟨a, _, _, q1, by omega, q5, kcl_in q3⟩
    · exact Or.inl (U8.tn.1 i (by omega) hi)) 6 0 (by omega)
  rw [rcp_0, ← A8, xset_id] at L6
  simp only [s51_169, s51_170]
  refine L6.mpr ?_
  have F8 : FR Dy (Pt t) h (xset (xset (xset (xset (xset (xset (xset (xset (xset h t (.inr (10, townF t n1 T1))) (t + 1) (.inl (0, xis 10 (cpf (T1 1) (T 1) 10)))) (t + 2) (.inl (0, xis 10 (cpf (T1 2) (T 2) 10)))) (t + 3) (.inl (0, xis 10 (cpf (T1 3) (T 3) 10)))) (t + 4) (.inl (0, xis 12 (cpf (T1 4) (T 4) 12)))) (t + 5) (.inl (0, xis 12 (cpf (T1 5) (T 5) 12)))) (t + 6) (.inl (0, xis 12 (cpf (T1 6) (T 6) 12)))) (t + 7) (.inl (0, xis 24 (cpf (T1 7) (T 7) 24)))) (t + 8) (.inl (6, xrs 6 (rcp (p1 0) (p 0) 6)))) := F7.trans (FR.set (by omega) (by omega) (by rw [F7.1]; omega))
  have O8 : (xset (xset (xset (xset (xset (xset (xset (xset (xset h t (.inr (10, townF t n1 T1))) (t + 1) (.inl (0, xis 10 (cpf (T1 1) (T 1) 10)))) (t + 2) (.inl (0, xis 10 (cpf (T1 2) (T 2) 10)))) (t + 3) (.inl (0, xis 10 (cpf (T1 3) (T 3) 10)))) (t + 4) (.inl (0, xis 12 (cpf (T1 4) (T 4) 12)))) (t + 5) (.inl (0, xis 12 (cpf (T1 5) (T 5) 12)))) (t + 6) (.inl (0, xis 12 (cpf (T1 6) (T 6) 12)))) (t + 7) (.inl (0, xis 24 (cpf (T1 7) (T 7) 24)))) (t + 8) (.inl (6, xrs 6 (rcp (p1 0) (p 0) 6)))).2.2.1 t = .inr (10, townF t n1 T1) := by rw [xset_ne (by omega)]; exact O7
  have U9 := R1.fr F8 hu np
  have A9 : (xset (xset (xset (xset (xset (xset (xset (xset (xset h t (.inr (10, townF t n1 T1))) (t + 1) (.inl (0, xis 10 (cpf (T1 1) (T 1) 10)))) (t + 2) (.inl (0, xis 10 (cpf (T1 2) (T 2) 10)))) (t + 3) (.inl (0, xis 10 (cpf (T1 3) (T 3) 10)))) (t + 4) (.inl (0, xis 12 (cpf (T1 4) (T 4) 12)))) (t + 5) (.inl (0, xis 12 (cpf (T1 5) (T 5) 12)))) (t + 6) (.inl (0, xis 12 (cpf (T1 6) (T 6) 12)))) (t + 7) (.inl (0, xis 24 (cpf (T1 7) (T 7) 24)))) (t + 8) (.inl (6, xrs 6 (rcp (p1 0) (p 0) 6)))).2.2.1 (t + 9) = .inl (5, xrs 14 (p 1)) := by rw [xset_ne (by omega), xset_ne (by omega), xset_ne (by omega), xset_ne (by omega), xset_ne (by omega), xset_ne (by omega), xset_ne (by omega), xset_ne (by omega), xset_ne (by omega)]; exact R.la
  have L14 := l_b14 (d := d) (Q := Q) htt O8 U9.o U9.la (g := p 1) (fun i hi => by
    by_cases e : i < n1 3
    · obtain ⟨a, q1, q2, u0, q3, q4, q5, -⟩ := U9.tx i e
      exact Or.inr ⟨a, _, _, q1, by omega, q5, List.mem_cons_self⟩
    · exact Or.inl (U9.tn.2 i (by omega) hi)) 14 0 (by omega)
  rw [rcp_0, ← A9, xset_id] at L14
  refine L14.mpr ?_
  have F9 : FR Dy (Pt t) h (xset (xset (xset (xset (xset (xset (xset (xset (xset (xset h t (.inr (10, townF t n1 T1))) (t + 1) (.inl (0, xis 10 (cpf (T1 1) (T 1) 10)))) (t + 2) (.inl (0, xis 10 (cpf (T1 2) (T 2) 10)))) (t + 3) (.inl (0, xis 10 (cpf (T1 3) (T 3) 10)))) (t + 4) (.inl (0, xis 12 (cpf (T1 4) (T 4) 12)))) (t + 5) (.inl (0, xis 12 (cpf (T1 5) (T 5) 12)))) (t + 6) (.inl (0, xis 12 (cpf (T1 6) (T 6) 12)))) (t + 7) (.inl (0, xis 24 (cpf (T1 7) (T 7) 24)))) (t + 8) (.inl (6, xrs 6 (rcp (p1 0) (p 0) 6)))) (t + 9) (.inl (5, xrs 14 (rcp (p1 1) (p 1) 14)))) := F8.trans (FR.set (by omega) (by omega) (by rw [F8.1]; omega))
  refine K _ F9 ⟨by rw [xset_ne (by omega), xset_ne (by omega), xset_ne (by omega), xset_ne (by omega), xset_ne (by omega), xset_ne (by omega), xset_ne (by omega), xset_ne (by omega), xset_ne (by omega), xset_self]; rfl, by rw [xset_ne (by omega), xset_ne (by omega), xset_ne (by omega), xset_ne (by omega), xset_ne (by omega), xset_ne (by omega), xset_ne (by omega), xset_ne (by omega), xset_self]; rfl, by rw [xset_ne (by omega), xset_ne (by omega), xset_ne (by omega), xset_ne (by omega), xset_ne (by omega), xset_ne (by omega), xset_ne (by omega), xset_self]; rfl, by rw [xset_ne (by omega), xset_ne (by omega), xset_ne (by omega), xset_ne (by omega), xset_ne (by omega), xset_ne (by omega), xset_self]; rfl, by rw [xset_ne (by omega), xset_ne (by omega), xset_ne (by omega), xset_ne (by omega), xset_ne (by omega), xset_self]; rfl, by rw [xset_ne (by omega), xset_ne (by omega), xset_ne (by omega), xset_ne (by omega), xset_self]; rfl, by rw [xset_ne (by omega), xset_ne (by omega), xset_ne (by omega), xset_self]; rfl, by rw [xset_ne (by omega), xset_ne (by omega), xset_self]; rfl, by rw [xset_ne (by omega), xset_self]; rfl, xset_self, by rw [xset_ne (by omega), xset_ne (by omega), xset_ne (by omega), xset_ne (by omega), xset_ne (by omega), xset_ne (by omega), xset_ne (by omega), xset_ne (by omega), xset_ne (by omega), xset_ne (by omega)]; exact R.co, by rw [xset_ne (by omega), xset_ne (by omega), xset_ne (by omega), xset_ne (by omega), xset_ne (by omega), xset_ne (by omega), xset_ne (by omega), xset_ne (by omega), xset_ne (by omega), xset_ne (by omega)]; exact R.mi, by rw [xset_ne (by omega), xset_ne (by omega), xset_ne (by omega), xset_ne (by omega), xset_ne (by omega), xset_ne (by omega), xset_ne (by omega), xset_ne (by omega), xset_ne (by omega), xset_ne (by omega)]; exact R.ga, hn1, fun i hi => ?_, fun i hi => ?_, fun i h1 h2 => ?_, fun i h1 h2 => ?_⟩
  · obtain ⟨a, q1, q2, q3⟩ := R1.th i hi
    exact ⟨a, by rw [← q1]; exact if_pos (by omega), q2, F9.2.2.2.2.1 _ _ _ q2 q3⟩
  · obtain ⟨a, q1, q2, q3⟩ := R1.tx i hi
    exact ⟨a, by rw [← q1]; exact if_pos (by omega), q2, F9.2.2.2.2.2.1 _ _ _ _ _ q2 q3⟩
  · rw [← R1.tn.1 i h1 h2]; exact if_pos h2
  · rw [← R1.tn.2 i h1 h2]; exact if_pos h2
end BEC
