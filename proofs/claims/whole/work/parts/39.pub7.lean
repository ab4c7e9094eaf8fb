/-! ===== 39: deal, wiring, worst ===== -/
def dlT (T : Nat → Nat → Int32) : Nat → Nat → Int32 := sup T 0 7 (drw (T 0 7))
def dlx (n : Nat → Nat) (T : Nat → Nat → Int32) : Nat → Nat → Int32 := addH n (dlT (dlT T)) (drv (T 0 7) % 101) (drv (dlT T 0 7) % 101)
def dls : Nat → (Nat → Nat) → (Nat → Nat → Int32) → Nat × (Nat → Nat) × (Nat → Nat → Int32)
  | 0, n, T => (0, n, T)
  | k + 1, n, T => if n 0 < 10 then ((dls k (va_up n 0 (n 0 + 1)) (dlx n T)).1 + 1, (dls k (va_up n 0 (n 0 + 1)) (dlx n T)).2) else (0, n, T)
def wrA (o : Option Nat) : Int32 := match o with
  | none => NONE
  | some v => nI (v / 100)
def wrB (o : Option Nat) : Int32 := match o with
  | none => NONE
  | some v => nI (v % 100)
def wrx (n : Nat → Nat) (T : Nat → Nat → Int32) (i : Nat) : Nat → Nat → Int32 := sup (sup T 7 (2 * i) (wrA (bpr n T i))) 7 (2 * i + 1) (wrB (bpr n T i))
def wrs (n : Nat → Nat) (T : Nat → Nat → Int32) : Nat → Nat → Nat → Int32
  | 0 => T
  | i + 1 => wrx n (wrs n T i) i
section BPI
variable {n : Nat → Nat} {T : Nat → Nat → Int32}
theorem bpi_in {dd pp : Nat} {a : Option Nat × Int32} (hp : pp < n 0) (ha : ∀ v, a.1 = some v → ∃ i j, i < n 0 ∧ j < n 0 ∧ v = 100 * i + j) : ∀ k, pp + 1 + k ≤ n 0 → ∀ v, (bpi n T dd pp a k).1 = some v → ∃ i j, i < n 0 ∧ j < n 0 ∧ v = 100 * i + j := by
  intro k
  induction k with
  | zero => intro _; exact ha
  | succ k ih =>
    intro hk v hv
    unfold bpi bps at hv
    split at hv
    · cases hv; exact ⟨pp, pp + 1 + k, hp, by omega, rfl⟩
    · exact ih (by omega) v hv
theorem bpo_in {dd : Nat} : ∀ k, k ≤ n 0 → ∀ v, (bpo n T dd k).1 = some v → ∃ i j, i < n 0 ∧ j < n 0 ∧ v = 100 * i + j := by
  intro k
  induction k with
  | zero => intro _ v hv; cases hv
  | succ k ih =>
    intro hp
    exact bpi_in (by omega) (ih (by omega)) _ (by omega)
theorem wrA_in (hn : n 0 ≤ 10) {i : Nat} : wrA (bpr n T i) = NONE ∨ ∃ j, j < n 0 ∧ wrA (bpr n T i) = nI j := by
  cases hb : bpr n T i with
  | none => exact Or.inl rfl
  | some v =>
    obtain ⟨a, c, ha, hc, rfl⟩ := bpo_in (dd := i) (n 0) (Nat.le_refl _) v hb
    exact Or.inr ⟨a, ha, congrArg nI (by omega)⟩
theorem wrB_in (hn : n 0 ≤ 10) {i : Nat} : wrB (bpr n T i) = NONE ∨ ∃ j, j < n 0 ∧ wrB (bpr n T i) = nI j := by
  cases hb : bpr n T i with
  | none => exact Or.inl rfl
  | some v =>
    obtain ⟨a, c, ha, hc, rfl⟩ := bpo_in (dd := i) (n 0) (Nat.le_refl _) v hb
    exact Or.inr ⟨c, hc, congrArg nI (by omega)⟩
theorem iv_wrs (I : IV n T) : ∀ i, IV n (wrs n T i) := by
  intro i
  induction i with
  | zero => exact I
  | succ i ih => exact iv_wire (iv_wire ih (wrA_in I.nn.1)) (wrB_in I.nn.1)
end BPI
section PUB7
variable {Dy d b t r : Nat} {h : xH} {n : Nat → Nat} {T : Nat → Nat → Int32} {p : Nat → Nat → Option Nat} {s : Nat → Nat → Int32} {Q : Option Value → xH → Prop} {x y z : Int32} {m f w g : Nat → Int32}
theorem iv_dls : ∀ k n T, IV n T → IV (dls k n T).2.1 (dls k n T).2.2 := by
  intro k
  induction k with
  | zero => intro n T I; exact I
  | succ k ih =>
    intro n T I
    unfold dls
    split
    next h0 => exact ih _ _ (iv_house (T := dlT (dlT T)) I h0)
    next => exact I
theorem l_deal (ht : t + 12 < Dy) (hbt : b < t) {l : List Value} {kk : Nat} (hkk : kk ≤ 10) : ∀ k i n T h c3 c4, i + k = kk → Dy ≤ h.1 → h.2.2.1 b = .inr (11, .ref t :: l) → IV n T → RT Dy h.2.2.1 t n T p s → (∀ h', FR Dy (Pt t) h h' → RT Dy h'.2.2.1 t (dls k n T).2.1 (dls k n T).2.2 p s → Q (some (.int (nI (i + (dls k n T).1)))) h') → XE (d + 11) 83 15 [.val (.ref b), .val (.int (nI kk)), .val (.int (nI i)), c3, c4] [] h Q := by
  intro k
  induction k with
  | zero =>
    intro i n T h c3 c4 hi hD hO I R K
    have hlt : ¬ nI i < nI kk := nI_nlt (by omega) (by omega)
    rw [s83_15]
    simp only [s83_0, s83_1, s83_2, s83_4, s83_7, s83_10, s83_12, s83_13, s83_14, s83_16, s83_17, s83_20, s83_21, s83_24, s83_27, s83_29, s83_32, s83_33, s83_36, s83_39, s83_41, s83_42, s83_43, s83_44, s83_47, s83_50, s83_52, s83_53, s83_55, s83_56, s83_59, s83_60, s83_62, s83_65, s83_66, s83_69, s83_72, s83_73, hlt, XG_1, XO_some, XV_1, xo_n, xo_i8, xo_r8, xo_i7, xo_r7, xo_i6, xo_r6, xo_i5, xo_r5, xo_i4, xo_r4, xo_i3, xo_r3, xo_i2, xo_r2, Option.toList_some, Option.toList_none, List.cons_append, List.nil_append, bI_t, bI_f, bI_0, bI_n0, if_true, if_false, true_and, and_true, ne_eq, not_true_eq_false, not_false_eq_true, one_ne0, reduceCtorEq]
    exact K h FR.refl R
  | succ k ih =>
    intro i n T h c3 c4 hi hD hO I R K
    have hlt : nI i < nI kk := nI_lt (by omega) (by omega)
    unfold dls at K
    by_cases h0 : n 0 < 10
    · rw [if_pos h0] at K
      have h10 : nI (n 0) < 10 := nI_lt (b := 10) h0 (by decide)
      have eb : ∀ (h : xH) e, (xset h t e).2.2.1 b = h.2.2.1 b := fun h e => xset_ne (by omega)
      obtain ⟨R1, F1⟩ := R.w0 ht hD (i := 7) (v := drw (T 0 7))
      obtain ⟨R2, F2⟩ := R1.w0 ht hD (i := 7) (v := drw (sup T 0 7 (drw (T 0 7)) 0 7))
      rw [s83_15]
      simp only [s83_0, s83_1, s83_2, s83_4, s83_7, s83_10, s83_12, s83_13, s83_14, s83_16, s83_17, s83_20, s83_21, s83_24, s83_27, s83_29, s83_32, s83_33, s83_36, hlt, hO, o0, R.o, tf0, h10, XG_1, XO_some, XV_1, xo_n, xo_i8, xo_r8, xo_i7, xo_r7, xo_i6, xo_r6, xo_i5, xo_r5, xo_i4, xo_r4, xo_i3, xo_r3, xo_i2, xo_r2, Option.toList_some, Option.toList_none, List.cons_append, List.nil_append, bI_t, bI_f, bI_0, bI_n0, if_true, if_false, true_and, and_true, ne_eq, not_true_eq_false, not_false_eq_true, one_ne0, reduceCtorEq]
      rw [c_draw R]
      simp only [s83_39, s83_41, s83_42, s83_43, s83_44, s83_47, eb, hO, o0, R1.o, z101, XG_1, XO_some, XV_1, xo_n, xo_i8, xo_r8, xo_i7, xo_r7, xo_i6, xo_r6, xo_i5, xo_r5, xo_i4, xo_r4, xo_i3, xo_r3, xo_i2, xo_r2, Option.toList_some, Option.toList_none, List.cons_append, List.nil_append, bI_t, bI_f, bI_0, bI_n0, if_true, if_false, true_and, and_true, ne_eq, not_true_eq_false, not_false_eq_true, one_ne0, reduceCtorEq]
      rw [c_draw R1]
      simp only [s83_50, s83_52, s83_53, s83_55, s83_56, s83_59, s83_60, s83_62, eb, hO, o0, R2.o, z101, XG_1, XO_some, XV_1, xo_n, xo_i8, xo_r8, xo_i7, xo_r7, xo_i6, xo_r6, xo_i5, xo_r5, xo_i4, xo_r4, xo_i3, xo_r3, xo_i2, xo_r2, Option.toList_some, Option.toList_none, List.cons_append, List.nil_append, bI_t, bI_f, bI_0, bI_n0, if_true, if_false, true_and, and_true, ne_eq, not_true_eq_false, not_false_eq_true, one_ne0, reduceCtorEq]
      refine c_addHouse R2 ht hD h0 fun h3 F3 R3 => ?_
      have F := F1.trans (F2.trans F3)
      simp only [s83_0, s83_1, s83_2, s83_4, s83_7, s83_10, s83_12, s83_13, s83_14, s83_16, s83_17, s83_20, s83_21, s83_24, s83_27, s83_29, s83_32, s83_33, s83_36, s83_39, s83_41, s83_42, s83_43, s83_44, s83_47, s83_50, s83_52, s83_53, s83_55, s83_56, s83_59, s83_60, s83_62, s83_65, s83_66, s83_69, s83_72, s83_73, nI_1, XG_1, XO_some, XV_1, xo_n, xo_i8, xo_r8, xo_i7, xo_r7, xo_i6, xo_r6, xo_i5, xo_r5, xo_i4, xo_r4, xo_i3, xo_r3, xo_i2, xo_r2, Option.toList_some, Option.toList_none, List.cons_append, List.nil_append, bI_t, bI_f, bI_0, bI_n0, if_true, if_false, true_and, and_true, ne_eq, not_true_eq_false, not_false_eq_true, one_ne0, reduceCtorEq]
      refine ih (i + 1) (va_up n 0 (n 0 + 1)) (dlx n T) h3 _ _ (by omega) (by rw [F.1]; exact hD) (by rw [F.at (by omega) (by omega)]; exact hO) (iv_house (T := dlT (dlT T)) I h0) R3 (fun h' F' R' => ?_)
      have := K h' (F.trans F') R'
      rw [show i + ((dls k (va_up n 0 (n 0 + 1)) (dlx n T)).1 + 1) = i + 1 + (dls k (va_up n 0 (n 0 + 1)) (dlx n T)).1 by omega] at this
      exact this
    · rw [if_neg h0] at K
      have h10 : ¬ nI (n 0) < 10 := nI_nlt (b := 10) (by omega) (by have := R.nn.1; omega)
      rw [s83_15]
      simp only [s83_0, s83_1, s83_2, s83_4, s83_7, s83_10, s83_12, s83_13, s83_14, s83_16, s83_17, s83_20, s83_21, s83_24, s83_27, s83_29, s83_32, s83_33, s83_36, s83_39, s83_41, s83_42, s83_43, s83_44, s83_47, s83_50, s83_52, s83_53, s83_55, s83_56, s83_59, s83_60, s83_62, s83_65, s83_66, s83_69, s83_72, s83_73, hlt, hO, o0, R.o, tf0, h10, XG_1, XO_some, XV_1, xo_n, xo_i8, xo_r8, xo_i7, xo_r7, xo_i6, xo_r6, xo_i5, xo_r5, xo_i4, xo_r4, xo_i3, xo_r3, xo_i2, xo_r2, Option.toList_some, Option.toList_none, List.cons_append, List.nil_append, bI_t, bI_f, bI_0, bI_n0, if_true, if_false, true_and, and_true, ne_eq, not_true_eq_false, not_false_eq_true, one_ne0, reduceCtorEq]
      exact K h FR.refl R
theorem l_rdeal (hr : r + 20 < Dy) {kk : Nat} (hkk : kk ≤ 10) : ∀ k i n T h f c3 c4, i + k = kk → Dy ≤ h.1 → IV n T → RM h.2.2.1 r m f w g → MR n T f → (∀ h' f', FR Dy (Pn r) h h' → RM h'.2.2.1 r m f' w g → MR (dls k n T).2.1 (dls k n T).2.2 f' → Q (some (.int (nI (i + (dls k n T).1)))) h') → XE (d + 11) 154 15 [.val (.ref r), .val (.int (nI kk)), .val (.int (nI i)), c3, c4] [] h Q := by
  intro k
  induction k with
  | zero =>
    intro i n T h f c3 c4 hi hD I R M K
    have hlt : ¬ nI i < nI kk := nI_nlt (by omega) (by omega)
    rw [s154_15]
    simp only [s154_0, s154_1, s154_2, s154_4, s154_7, s154_10, s154_12, s154_13, s154_14, s154_16, s154_17, s154_20, s154_21, s154_24, s154_25, s154_26, s154_28, s154_31, s154_32, s154_35, s154_37, s154_38, s154_39, s154_40, s154_41, s154_42, s154_45, s154_47, s154_48, s154_51, s154_53, s154_56, s154_59, s154_60, hlt, XG_1, XO_some, XV_1, xo_n, xo_i8, xo_r8, xo_i7, xo_r7, xo_i6, xo_r6, xo_i5, xo_r5, xo_i4, xo_r4, xo_i3, xo_r3, xo_i2, xo_r2, Option.toList_some, Option.toList_none, List.cons_append, List.nil_append, bI_t, bI_f, bI_0, bI_n0, if_true, if_false, true_and, and_true, ne_eq, not_true_eq_false, not_false_eq_true, one_ne0, reduceCtorEq]
    exact K h f FR.refl R M
  | succ k ih =>
    intro i n T h f c3 c4 hi hD I R M K
    have hlt : nI i < nI kk := nI_lt (by omega) (by omega)
    unfold dls at K
    by_cases h0 : n 0 < 10
    · rw [if_pos h0] at K
      have h10 : nI (n 0) < 10 := nI_lt (b := 10) h0 (by decide)
      obtain ⟨R1, F1⟩ := R.sf hr hD (f2 := upd f 0 (drw (T 0 7)))
      have M1 : MR n (dlT T) _ := M.dz (v := drw (T 0 7))
      obtain ⟨R2, F2⟩ := R1.sf hr hD (f2 := upd (upd f 0 (drw (T 0 7))) 0 (drw (dlT T 0 7)))
      have M2 : MR n (dlT (dlT T)) _ := M1.dz (v := drw (dlT T 0 7))
      rw [s154_15]
      simp only [s154_0, s154_1, s154_2, s154_4, s154_7, s154_10, s154_12, s154_13, s154_14, s154_16, s154_17, s154_20, s154_21, s154_24, s154_25, s154_26, s154_28, s154_31, s154_32, hlt, R.1, R.2.1, mf0, A1, M.1.2.1, h10, XG_1, XO_some, XV_1, xo_n, xo_i8, xo_r8, xo_i7, xo_r7, xo_i6, xo_r6, xo_i5, xo_r5, xo_i4, xo_r4, xo_i3, xo_r3, xo_i2, xo_r2, Option.toList_some, Option.toList_none, List.cons_append, List.nil_append, bI_t, bI_f, bI_0, bI_n0, if_true, if_false, true_and, and_true, ne_eq, not_true_eq_false, not_false_eq_true, one_ne0, reduceCtorEq]
      rw [r_draw R M]
      simp only [s154_35, s154_37, s154_38, s154_39, s154_40, s154_41, s154_42, R1.1, z101, XG_1, XO_some, XV_1, xo_n, xo_i8, xo_r8, xo_i7, xo_r7, xo_i6, xo_r6, xo_i5, xo_r5, xo_i4, xo_r4, xo_i3, xo_r3, xo_i2, xo_r2, Option.toList_some, Option.toList_none, List.cons_append, List.nil_append, bI_t, bI_f, bI_0, bI_n0, if_true, if_false, true_and, and_true, ne_eq, not_true_eq_false, not_false_eq_true, one_ne0, reduceCtorEq]
      rw [r_draw R1 M1]
      simp only [s154_45, s154_47, s154_48, R2.1, z101, XG_1, XO_some, XV_1, xo_n, xo_i8, xo_r8, xo_i7, xo_r7, xo_i6, xo_r6, xo_i5, xo_r5, xo_i4, xo_r4, xo_i3, xo_r3, xo_i2, xo_r2, Option.toList_some, Option.toList_none, List.cons_append, List.nil_append, bI_t, bI_f, bI_0, bI_n0, if_true, if_false, true_and, and_true, ne_eq, not_true_eq_false, not_false_eq_true, one_ne0, reduceCtorEq]
      refine r_comes R2 M2 h0 hr hD fun h3 f3 F3 R3 M3 => ?_
      have F := F1.trans (F2.trans F3)
      simp only [s154_0, s154_1, s154_2, s154_4, s154_7, s154_10, s154_12, s154_13, s154_14, s154_16, s154_17, s154_20, s154_21, s154_24, s154_25, s154_26, s154_28, s154_31, s154_32, s154_35, s154_37, s154_38, s154_39, s154_40, s154_41, s154_42, s154_45, s154_47, s154_48, s154_51, s154_53, s154_56, s154_59, s154_60, nI_1, XG_1, XO_some, XV_1, xo_n, xo_i8, xo_r8, xo_i7, xo_r7, xo_i6, xo_r6, xo_i5, xo_r5, xo_i4, xo_r4, xo_i3, xo_r3, xo_i2, xo_r2, Option.toList_some, Option.toList_none, List.cons_append, List.nil_append, bI_t, bI_f, bI_0, bI_n0, if_true, if_false, true_and, and_true, ne_eq, not_true_eq_false, not_false_eq_true, one_ne0, reduceCtorEq]
      refine ih (i + 1) (va_up n 0 (n 0 + 1)) (dlx n T) h3 f3 _ _ (by omega) (by rw [F.1]; exact hD) (iv_house (T := dlT (dlT T)) I h0) R3 M3 (fun h' f' F' R' M' => ?_)
      have := K h' f' (F.trans F') R' M'
      rw [show i + ((dls k (va_up n 0 (n 0 + 1)) (dlx n T)).1 + 1) = i + 1 + (dls k (va_up n 0 (n 0 + 1)) (dlx n T)).1 by omega] at this
      exact this
    · rw [if_neg h0] at K
      have h10 : ¬ nI (n 0) < 10 := nI_nlt (b := 10) (by omega) (by have := I.nn.1; omega)
      rw [s154_15]
      simp only [s154_0, s154_1, s154_2, s154_4, s154_7, s154_10, s154_12, s154_13, s154_14, s154_16, s154_17, s154_20, s154_21, s154_24, s154_25, s154_26, s154_28, s154_31, s154_32, s154_35, s154_37, s154_38, s154_39, s154_40, s154_41, s154_42, s154_45, s154_47, s154_48, s154_51, s154_53, s154_56, s154_59, s154_60, hlt, R.1, R.2.1, mf0, A1, M.1.2.1, h10, XG_1, XO_some, XV_1, xo_n, xo_i8, xo_r8, xo_i7, xo_r7, xo_i6, xo_r6, xo_i5, xo_r5, xo_i4, xo_r4, xo_i3, xo_r3, xo_i2, xo_r2, Option.toList_some, Option.toList_none, List.cons_append, List.nil_append, bI_t, bI_f, bI_0, bI_n0, if_true, if_false, true_and, and_true, ne_eq, not_true_eq_false, not_false_eq_true, one_ne0, reduceCtorEq]
      exact K h f FR.refl R M
theorem pm_deal (S : ST Dy b t r h n T p s) : PM Dy d b t r h n T p 83 154 [.int x] := by
  obtain ⟨⟨l, hO⟩, ht, hr, hD, R, I, hbt⟩ := S
  cases hx : wiB x 1 10 with
  | false =>
    refine ⟨BAD, n, T, I, fun Q K => ?_, fun h m f w g hD R M Q K => ?_⟩
    · rw [e83]; simp only [s83_0, s83_1, s83_2, s83_4, s83_7, s83_10, s83_12, s83_13, s83_14, s83_16, s83_17, s83_20, s83_21, s83_24, s83_27, s83_29, s83_32, s83_33, s83_36, s83_39, s83_41, s83_42, s83_43, s83_44, s83_47, s83_50, s83_52, s83_53, s83_55, s83_56, s83_59, s83_60, s83_62, s83_65, s83_66, s83_69, s83_72, s83_73, c_within, hx, XG_1, XO_some, XV_1, xo_n, xo_i8, xo_r8, xo_i7, xo_r7, xo_i6, xo_r6, xo_i5, xo_r5, xo_i4, xo_r4, xo_i3, xo_r3, xo_i2, xo_r2, Option.toList_some, Option.toList_none, List.cons_append, List.nil_append, bI_t, bI_f, bI_0, bI_n0, if_true, if_false, true_and, and_true, ne_eq, not_true_eq_false, not_false_eq_true, one_ne0, reduceCtorEq]; exact K h s FR.refl R
    · rw [e154]; simp only [s154_0, s154_1, s154_2, s154_4, s154_7, s154_10, s154_12, s154_13, s154_14, s154_16, s154_17, s154_20, s154_21, s154_24, s154_25, s154_26, s154_28, s154_31, s154_32, s154_35, s154_37, s154_38, s154_39, s154_40, s154_41, s154_42, s154_45, s154_47, s154_48, s154_51, s154_53, s154_56, s154_59, s154_60, c_in, hx, XG_1, XO_some, XV_1, xo_n, xo_i8, xo_r8, xo_i7, xo_r7, xo_i6, xo_r6, xo_i5, xo_r5, xo_i4, xo_r4, xo_i3, xo_r3, xo_i2, xo_r2, Option.toList_some, Option.toList_none, List.cons_append, List.nil_append, bI_t, bI_f, bI_0, bI_n0, if_true, if_false, true_and, and_true, ne_eq, not_true_eq_false, not_false_eq_true, one_ne0, reduceCtorEq]; exact K h f w g FR.refl R M
  | true =>
  obtain ⟨kk, hkk, rfl⟩ := wiB_t1 (k := 10) hx (by decide)
  refine ⟨nI (0 + (dls kk n T).1), (dls kk n T).2.1, (dls kk n T).2.2, iv_dls kk n T I, fun Q K => ?_, fun h m f w g hD R M Q K => ?_⟩
  · rw [e83]; simp only [s83_0, s83_1, s83_2, s83_4, s83_7, s83_10, s83_12, s83_13, s83_14, s83_16, s83_17, s83_20, s83_21, s83_24, s83_27, s83_29, s83_32, s83_33, s83_36, s83_39, s83_41, s83_42, s83_43, s83_44, s83_47, s83_50, s83_52, s83_53, s83_55, s83_56, s83_59, s83_60, s83_62, s83_65, s83_66, s83_69, s83_72, s83_73, c_within, hx, XG_1, XO_some, XV_1, xo_n, xo_i8, xo_r8, xo_i7, xo_r7, xo_i6, xo_r6, xo_i5, xo_r5, xo_i4, xo_r4, xo_i3, xo_r3, xo_i2, xo_r2, Option.toList_some, Option.toList_none, List.cons_append, List.nil_append, bI_t, bI_f, bI_0, bI_n0, if_true, if_false, true_and, and_true, ne_eq, not_true_eq_false, not_false_eq_true, one_ne0, reduceCtorEq]
    exact l_deal ht hbt hkk kk 0 n T h _ _ (by omega) hD hO I R (fun h' F' R' => K h' s F' R')
  · rw [e154]; simp only [s154_0, s154_1, s154_2, s154_4, s154_7, s154_10, s154_12, s154_13, s154_14, s154_16, s154_17, s154_20, s154_21, s154_24, s154_25, s154_26, s154_28, s154_31, s154_32, s154_35, s154_37, s154_38, s154_39, s154_40, s154_41, s154_42, s154_45, s154_47, s154_48, s154_51, s154_53, s154_56, s154_59, s154_60, c_in, hx, XG_1, XO_some, XV_1, xo_n, xo_i8, xo_r8, xo_i7, xo_r7, xo_i6, xo_r6, xo_i5, xo_r5, xo_i4, xo_r4, xo_i3, xo_r3, xo_i2, xo_r2, Option.toList_some, Option.toList_none, List.cons_append, List.nil_append, bI_t, bI_f, bI_0, bI_n0, if_true, if_false, true_and, and_true, ne_eq, not_true_eq_false, not_false_eq_true, one_ne0, reduceCtorEq]
    exact l_rdeal hr hkk kk 0 n T h f _ _ (by omega) hD I R M (fun h' f' F' R' M' => K h' f' w g F' R' M')
theorem l_wiring (I : IV n T) (ht : t + 12 < Dy) (hbt : b < t) {l : List Value} : ∀ k i h c2, i + k = n 1 → Dy ≤ h.1 → h.2.2.1 b = .inr (11, .ref t :: l) → RT Dy h.2.2.1 t n (wrs n T i) p s → (∀ h', FR Dy (Pt t) h h' → RT Dy h'.2.2.1 t n (wrs n T (n 1)) p s → Q (some (.int (nI (n 1) - hmu n (wrs n T (n 1)) (n 1)))) h') → XE (d + 11) 98 2 [.val (.ref b), .val (.int (nI i)), c2] [] h Q := by
  have hn := I.nn
  intro k
  induction k with
  | zero =>
    intro i h c2 hi hD hO R K
    have hlt : ¬ nI i < nI (n 1) := nI_nlt (by omega) (by omega)
    rw [show i = n 1 by omega] at R
    rw [s98_2]
    simp only [s98_0, s98_1, s98_3, s98_4, s98_7, s98_10, s98_13, s98_14, s98_17, s98_18, s98_21, s98_22, s98_23, s98_26, s98_29, s98_30, s98_31, s98_32, s98_33, s98_35, s98_38, s98_40, s98_43, s98_44, s98_46, s98_47, s98_48, s98_49, s98_52, s98_55, s98_56, s98_57, s98_58, s98_59, s98_60, s98_61, s98_63, s98_66, s98_68, s98_71, s98_72, s98_74, s98_75, s98_76, s98_79, s98_82, s98_83, s98_86, s98_89, s98_90, s98_93, s98_96, s98_97, show i = n 1 by omega, hO, o0, R.o, tf1, show ¬ nI (n 1) < nI (n 1) from Int32.lt_irrefl, XG_1, XO_some, XV_1, xo_n, xo_i8, xo_r8, xo_i7, xo_r7, xo_i6, xo_r6, xo_i5, xo_r5, xo_i4, xo_r4, xo_i3, xo_r3, xo_i2, xo_r2, Option.toList_some, Option.toList_none, List.cons_append, List.nil_append, bI_t, bI_f, bI_0, bI_n0, if_true, if_false, true_and, and_true, ne_eq, not_true_eq_false, not_false_eq_true, one_ne0, reduceCtorEq]
    refine c_howMany (iv_wrs I (n 1)) ht R fun h1 F1 => ?_
    simp only [s98_0, s98_1, s98_3, s98_4, s98_7, s98_10, s98_13, s98_14, s98_17, s98_18, s98_21, s98_22, s98_23, s98_26, s98_29, s98_30, s98_31, s98_32, s98_33, s98_35, s98_38, s98_40, s98_43, s98_44, s98_46, s98_47, s98_48, s98_49, s98_52, s98_55, s98_56, s98_57, s98_58, s98_59, s98_60, s98_61, s98_63, s98_66, s98_68, s98_71, s98_72, s98_74, s98_75, s98_76, s98_79, s98_82, s98_83, s98_86, s98_89, s98_90, s98_93, s98_96, s98_97, XG_1, XO_some, XV_1, xo_n, xo_i8, xo_r8, xo_i7, xo_r7, xo_i6, xo_r6, xo_i5, xo_r5, xo_i4, xo_r4, xo_i3, xo_r3, xo_i2, xo_r2, Option.toList_some, Option.toList_none, List.cons_append, List.nil_append, bI_t, bI_f, bI_0, bI_n0, if_true, if_false, true_and, and_true, ne_eq, not_true_eq_false, not_false_eq_true, one_ne0, reduceCtorEq]
    exact K h1 (frp0 F1) (R.fr0 F1 ht)
  | succ k ih =>
    intro i h c2 hi hD hO R K
    have hlt : nI i < nI (n 1) := nI_lt (by omega) (by omega)
    have ha : 2 * i < 24 := by omega
    have hb : 2 * i + 1 < 24 := by omega
    rw [s98_2]
    simp only [s98_0, s98_1, s98_3, s98_4, s98_7, s98_10, s98_13, s98_14, s98_17, s98_18, hO, o0, R.o, tf1, hlt, XG_1, XO_some, XV_1, xo_n, xo_i8, xo_r8, xo_i7, xo_r7, xo_i6, xo_r6, xo_i5, xo_r5, xo_i4, xo_r4, xo_i3, xo_r3, xo_i2, xo_r2, Option.toList_some, Option.toList_none, List.cons_append, List.nil_append, bI_t, bI_f, bI_0, bI_n0, if_true, if_false, true_and, and_true, ne_eq, not_true_eq_false, not_false_eq_true, one_ne0, reduceCtorEq]
    refine c_bestPair (iv_wrs I i) ht R (show i < n 1 by omega) fun h1 F1 => ?_
    have R1 := R.fr0 F1 ht
    have hD1 : Dy ≤ h1.1 := by rw [F1.1]; exact hD
    have hO1 : h1.2.2.1 b = .inr (11, .ref t :: l) := by rw [F1.at (by omega) id]; exact hO
    obtain ⟨R2, F2⟩ := R1.w24 ht hD1 (i := 2 * i) (v := wrA (bpr n (wrs n T i) i))
    obtain ⟨R3, F3⟩ := R2.w24 ht hD1 (i := 2 * i + 1) (v := wrB (bpr n (wrs n T i) i))
    have F := (frp0 (t := t) F1).trans (F2.trans F3)
    have eb : ∀ e, (xset h1 (t + 7) e).2.2.1 b = .inr (11, .ref t :: l) := fun e => by rw [xset_ne (by omega)]; exact hO1
    have go := ih (i + 1) _ (.val (.int (oI NONE (bpr n (wrs n T i) i)))) (by omega) (show Dy ≤ _ by rw [F.1]; exact hD) (by rw [F.at (by omega) (by omega)]; exact hO) R3 (fun h' F' R' => K h' (F.trans F') R')
    rw [sup_row] at go R3
    have R2o := R2.o
    have R2b := R2.be
    rw [sup_row] at R2b
    cases hv : bpr n (wrs n T i) i with
    | none =>
      rw [hv] at go R2o R2b
      dsimp only [oI, wrA, wrB] at go R2o R2b ⊢
      simp only [s98_21, s98_22, s98_23, s98_26, s98_29, s98_30, s98_31, s98_32, s98_33, s98_35, s98_38, s98_40, s98_43, s98_44, s98_46, s98_47, s98_48, s98_49, s98_52, s98_55, s98_56, s98_57, s98_58, s98_59, s98_60, s98_61, s98_63, s98_66, s98_68, s98_71, s98_72, s98_74, s98_75, s98_76, s98_79, hO1, eb, o0, R1.o, R1.be, R2o, R2b, tf14, l2m, nI_1, XS24 ha, XS24 hb, XG_1, XO_some, XV_1, xo_n, xo_i8, xo_r8, xo_i7, xo_r7, xo_i6, xo_r6, xo_i5, xo_r5, xo_i4, xo_r4, xo_i3, xo_r3, xo_i2, xo_r2, Option.toList_some, Option.toList_none, List.cons_append, List.nil_append, bI_t, bI_f, bI_0, bI_n0, if_true, if_false, true_and, and_true, ne_eq, not_true_eq_false, not_false_eq_true, one_ne0, reduceCtorEq]
      exact go
    | some v =>
      obtain ⟨a, c, ha', hc', hvv⟩ := bpo_in (dd := i) (n 0) (Nat.le_refl _) v hv
      have hv31 : v < 2 ^ 31 := by omega
      rw [hv] at go R2o R2b
      have d1 : nI v / 100 = nI (v / 100) := pk_div (d := 100) hv31 (by decide) (by decide)
      have d2 : nI v % 100 = nI (v % 100) := nI_mod (b := 100) hv31 (by decide)
      dsimp only [oI, wrA, wrB] at go R2o R2b ⊢
      simp only [s98_21, s98_22, s98_23, s98_26, s98_29, s98_30, s98_31, s98_32, s98_33, s98_35, s98_38, s98_40, s98_43, s98_44, s98_46, s98_47, s98_48, s98_49, s98_52, s98_55, s98_56, s98_57, s98_58, s98_59, s98_60, s98_61, s98_63, s98_66, s98_68, s98_71, s98_72, s98_74, s98_75, s98_76, s98_79, hO1, eb, o0, R1.o, R1.be, R2o, R2b, tf14, l2m, nI_1, XS24 ha, XS24 hb, nI_NONE hv31, d1, d2, z100, XG_1, XO_some, XV_1, xo_n, xo_i8, xo_r8, xo_i7, xo_r7, xo_i6, xo_r6, xo_i5, xo_r5, xo_i4, xo_r4, xo_i3, xo_r3, xo_i2, xo_r2, Option.toList_some, Option.toList_none, List.cons_append, List.nil_append, bI_t, bI_f, bI_0, bI_n0, if_true, if_false, true_and, and_true, ne_eq, not_true_eq_false, not_false_eq_true, one_ne0, reduceCtorEq]
      exact go
theorem l_rwiring (I : IV n T) (hr : r + 20 < Dy) : ∀ k i h f w g c2, i + k = n 1 → Dy ≤ h.1 → RM h.2.2.1 r m f w g → MR n (wrs n T i) f → (∀ h' f' w' g', FR Dy (Pn r) h h' → RM h'.2.2.1 r m f' w' g' → MR n (wrs n T (n 1)) f' → Q (some (.int (nI (n 1) - hmu n (wrs n T (n 1)) (n 1)))) h') → XE (d + 11) 182 2 [.val (.ref r), .val (.int (nI i)), c2] [] h Q := by
  have hn := I.nn
  intro k
  induction k with
  | zero =>
    intro i h f w g c2 hi hD R M K
    rw [show i = n 1 by omega] at M
    rw [s182_2]
    simp only [s182_0, s182_1, s182_3, s182_4, s182_7, s182_8, s182_9, s182_12, s182_13, s182_14, s182_17, s182_18, s182_19, s182_22, s182_24, s182_25, s182_26, s182_27, s182_28, s182_29, s182_30, s182_31, s182_34, s182_35, s182_38, s182_39, s182_41, s182_42, s182_43, s182_44, s182_47, s182_49, s182_50, s182_51, s182_52, s182_53, s182_54, s182_55, s182_56, s182_57, s182_58, s182_61, s182_62, s182_65, s182_66, s182_68, s182_69, s182_70, s182_73, s182_76, s182_77, s182_80, s182_81, s182_82, s182_83, s182_86, s182_87, show i = n 1 by omega, R.1, R.2.1, mf0, A2, M.1.2.2.1, show ¬ nI (n 1) < nI (n 1) from Int32.lt_irrefl, XG_1, XO_some, XV_1, xo_n, xo_i8, xo_r8, xo_i7, xo_r7, xo_i6, xo_r6, xo_i5, xo_r5, xo_i4, xo_r4, xo_i3, xo_r3, xo_i2, xo_r2, Option.toList_some, Option.toList_none, List.cons_append, List.nil_append, bI_t, bI_f, bI_0, bI_n0, if_true, if_false, true_and, and_true, ne_eq, not_true_eq_false, not_false_eq_true, one_ne0, reduceCtorEq]
    refine r_unlawMany R M (iv_wrs I (n 1)) hr hD fun h1 w1 g1 F1 R1 => ?_
    simp only [s182_0, s182_1, s182_3, s182_4, s182_7, s182_8, s182_9, s182_12, s182_13, s182_14, s182_17, s182_18, s182_19, s182_22, s182_24, s182_25, s182_26, s182_27, s182_28, s182_29, s182_30, s182_31, s182_34, s182_35, s182_38, s182_39, s182_41, s182_42, s182_43, s182_44, s182_47, s182_49, s182_50, s182_51, s182_52, s182_53, s182_54, s182_55, s182_56, s182_57, s182_58, s182_61, s182_62, s182_65, s182_66, s182_68, s182_69, s182_70, s182_73, s182_76, s182_77, s182_80, s182_81, s182_82, s182_83, s182_86, s182_87, XG_1, XO_some, XV_1, xo_n, xo_i8, xo_r8, xo_i7, xo_r7, xo_i6, xo_r6, xo_i5, xo_r5, xo_i4, xo_r4, xo_i3, xo_r3, xo_i2, xo_r2, Option.toList_some, Option.toList_none, List.cons_append, List.nil_append, bI_t, bI_f, bI_0, bI_n0, if_true, if_false, true_and, and_true, ne_eq, not_true_eq_false, not_false_eq_true, one_ne0, reduceCtorEq]
    exact K h1 f w1 g1 (frpn F1) R1 M
  | succ k ih =>
    intro i h f w g c2 hi hD R M K
    have hlt : nI i < nI (n 1) := nI_lt (by omega) (by omega)
    have h12 : i < 12 := by omega
    have ha : 38 + 5 * i + 3 < 1482 := by omega
    have hb : 38 + 5 * i + 3 + 1 < 1482 := by omega
    have i3' : nI (38 + 5 * i) + 3 = nI (38 + 5 * i + 3) := nI_add _ 3
    rw [s182_2]
    simp only [s182_0, s182_1, s182_3, s182_4, s182_7, s182_8, s182_9, s182_12, s182_13, s182_14, R.1, R.2.1, mf0, A2, M.1.2.2.1, hlt, XG_1, XO_some, XV_1, xo_n, xo_i8, xo_r8, xo_i7, xo_r7, xo_i6, xo_r6, xo_i5, xo_r5, xo_i4, xo_r4, xo_i3, xo_r3, xo_i2, xo_r2, Option.toList_some, Option.toList_none, List.cons_append, List.nil_append, bI_t, bI_f, bI_0, bI_n0, if_true, if_false, true_and, and_true, ne_eq, not_true_eq_false, not_false_eq_true, one_ne0, reduceCtorEq]
    refine r_pairOf R M (iv_wrs I i) hr hD (show i < n 1 by omega) fun h1 w1 g1 F1 R1 => ?_
    have hD1 : Dy ≤ h1.1 := by rw [F1.1]; exact hD
    obtain ⟨R2, F2⟩ := R1.sf hr hD1 (f2 := upd (upd f (38 + 5 * i + 3) (benc (wrA (bpr n (wrs n T i) i)))) (38 + 5 * i + 3 + 1) (benc (wrB (bpr n (wrs n T i) i))))
    have M2 : MR n (wrs n T (i + 1)) _ := mr_d4 (mr_d3 M h12 (v := wrA (bpr n (wrs n T i) i))) h12 (v := wrB (bpr n (wrs n T i) i))
    have F := (frpn F1).trans F2
    have e1 : ∀ e, (xset h1 (r + 1) e).2.2.1 r = .inr (12, modelF r m) := fun e => by rw [xset_ne (by omega)]; exact R1.1
    have go := ih (i + 1) _ _ w1 g1 (.val (.int (oI (-1) (bpr n (wrs n T i) i)))) (by omega) (show Dy ≤ _ by rw [F.1]; exact hD) R2 M2 (fun h' f' w' g' F' R' M' => K h' f' w' g' (F.trans F') R' M')
    cases hv : bpr n (wrs n T i) i with
    | none =>
      rw [hv] at go
      dsimp only [oI, wrA, wrB] at go ⊢
      rw [show benc NONE = -1 by decide] at go
      simp only [s182_17, s182_18, s182_19, s182_22, s182_24, s182_25, s182_26, s182_27, s182_28, s182_29, s182_30, s182_31, s182_34, s182_35, s182_38, s182_39, s182_41, s182_42, s182_43, s182_44, s182_47, s182_49, s182_50, s182_51, s182_52, s182_53, s182_54, s182_55, s182_56, s182_57, s182_58, s182_61, s182_62, s182_65, s182_66, s182_68, s182_69, s182_70, s182_73, R1.1, R1.2.1, e1, xset_self, mf0, m5, i38, i3', nI_1, XSm ha, XSm hb, xset_twice, show ((-1 : Int32) < 0) = True from eq_true (by decide), XG_1, XO_some, XV_1, xo_n, xo_i8, xo_r8, xo_i7, xo_r7, xo_i6, xo_r6, xo_i5, xo_r5, xo_i4, xo_r4, xo_i3, xo_r3, xo_i2, xo_r2, Option.toList_some, Option.toList_none, List.cons_append, List.nil_append, bI_t, bI_f, bI_0, bI_n0, if_true, if_false, true_and, and_true, ne_eq, not_true_eq_false, not_false_eq_true, one_ne0, reduceCtorEq]
      exact go
    | some v =>
      obtain ⟨a, c, ha', hc', hvv⟩ := bpo_in (dd := i) (n 0) (Nat.le_refl _) v hv
      have hv31 : v < 2 ^ 31 := by omega
      rw [hv] at go
      have d1 : nI v / 100 = nI (v / 100) := pk_div (d := 100) hv31 (by decide) (by decide)
      have d2 : nI v % 100 = nI (v % 100) := nI_mod (b := 100) hv31 (by decide)
      dsimp only [oI, wrA, wrB] at go ⊢
      rw [benc_nI (by omega), benc_nI (by omega)] at go
      simp only [s182_17, s182_18, s182_19, s182_22, s182_24, s182_25, s182_26, s182_27, s182_28, s182_29, s182_30, s182_31, s182_34, s182_35, s182_38, s182_39, s182_41, s182_42, s182_43, s182_44, s182_47, s182_49, s182_50, s182_51, s182_52, s182_53, s182_54, s182_55, s182_56, s182_57, s182_58, s182_61, s182_62, s182_65, s182_66, s182_68, s182_69, s182_70, s182_73, R1.1, R1.2.1, e1, xset_self, mf0, m5, i38, i3', nI_1, XSm ha, XSm hb, xset_twice, nI_pos hv31, d1, d2, z100, XG_1, XO_some, XV_1, xo_n, xo_i8, xo_r8, xo_i7, xo_r7, xo_i6, xo_r6, xo_i5, xo_r5, xo_i4, xo_r4, xo_i3, xo_r3, xo_i2, xo_r2, Option.toList_some, Option.toList_none, List.cons_append, List.nil_append, bI_t, bI_f, bI_0, bI_n0, if_true, if_false, true_and, and_true, ne_eq, not_true_eq_false, not_false_eq_true, one_ne0, reduceCtorEq]
      exact go
theorem pm_wiring (S : ST Dy b t r h n T p s) : PM Dy d b t r h n T p 98 182 [] := by
  obtain ⟨⟨l, hO⟩, ht, hr, hD, R, I, hbt⟩ := S
  refine ⟨nI (n 1) - hmu n (wrs n T (n 1)) (n 1), n, wrs n T (n 1), iv_wrs I (n 1), fun Q K => ?_, fun h m f w g hD R M Q K => ?_⟩
  · rw [e98]; simp only [s98_0, s98_1]
    exact l_wiring I ht hbt (n 1) 0 h _ (by omega) hD hO R (fun h' F' R' => K h' s F' R')
  · rw [e182]; simp only [s182_0, s182_1]
    exact l_rwiring I hr (n 1) 0 h f w g _ (by omega) hD R M K
end PUB7
