/-! ===== 19: the rows ===== -/
def bI (q : Bool) : Int32 := cond q 1 0
theorem bI_nar (q : Bool) : narrow .boolean (.int (bI q)) = .int (bI q) := by cases q <;> rfl
def xvo (n : Nat) (r : List Value) : Bool := xvs r && Nat.ble r.length n
theorem xo_n {n : Nat} : xvo n [] = true := rfl
theorem xo_i8 {x : Int32} {r : List Value} : xvo 8 (.int x :: r) = xvo 7 r := rfl
theorem xo_r8 {x : Nat} {r : List Value} : xvo 8 (.ref x :: r) = xvo 7 r := rfl
theorem xo_z8 {r : List Value} : xvo 8 (.null :: r) = xvo 7 r := rfl
theorem xo_i7 {x : Int32} {r : List Value} : xvo 7 (.int x :: r) = xvo 6 r := rfl
theorem xo_r7 {x : Nat} {r : List Value} : xvo 7 (.ref x :: r) = xvo 6 r := rfl
theorem xo_z7 {r : List Value} : xvo 7 (.null :: r) = xvo 6 r := rfl
theorem xo_i6 {x : Int32} {r : List Value} : xvo 6 (.int x :: r) = xvo 5 r := rfl
theorem xo_r6 {x : Nat} {r : List Value} : xvo 6 (.ref x :: r) = xvo 5 r := rfl
theorem xo_z6 {r : List Value} : xvo 6 (.null :: r) = xvo 5 r := rfl
theorem xo_i5 {x : Int32} {r : List Value} : xvo 5 (.int x :: r) = xvo 4 r := rfl
theorem xo_r5 {x : Nat} {r : List Value} : xvo 5 (.ref x :: r) = xvo 4 r := rfl
theorem xo_z5 {r : List Value} : xvo 5 (.null :: r) = xvo 4 r := rfl
theorem xo_i4 {x : Int32} {r : List Value} : xvo 4 (.int x :: r) = xvo 3 r := rfl
theorem xo_r4 {x : Nat} {r : List Value} : xvo 4 (.ref x :: r) = xvo 3 r := rfl
theorem xo_z4 {r : List Value} : xvo 4 (.null :: r) = xvo 3 r := rfl
theorem xo_i3 {x : Int32} {r : List Value} : xvo 3 (.int x :: r) = xvo 2 r := rfl
theorem xo_r3 {x : Nat} {r : List Value} : xvo 3 (.ref x :: r) = xvo 2 r := rfl
theorem xo_z3 {r : List Value} : xvo 3 (.null :: r) = xvo 2 r := rfl
theorem xo_i2 {x : Int32} {r : List Value} : xvo 2 (.int x :: r) = xvo 1 r := rfl
theorem xo_r2 {x : Nat} {r : List Value} : xvo 2 (.ref x :: r) = xvo 1 r := rfl
theorem xo_z2 {r : List Value} : xvo 2 (.null :: r) = xvo 1 r := rfl
theorem xo_i1 {x : Int32} {r : List Value} : xvo 1 (.int x :: r) = xvo 0 r := rfl
theorem xo_r1 {x : Nat} {r : List Value} : xvo 1 (.ref x :: r) = xvo 0 r := rfl
theorem xo_z1 {r : List Value} : xvo 1 (.null :: r) = xvo 0 r := rfl
theorem xvo_f {r : List Value} (h : ¬ xvo 8 r = true) : ¬ (xvs r = true ∧ r.length ≤ 8) := fun q => h (by
  show (xvs r && Nat.ble r.length 8) = true
  rw [q.1, Bool.true_and]
  exact Nat.ble_eq_true_of_le q.2)
section PK2
variable {d m pc n t : Nat} {ls : List Slot} {st : List Value} {h : xH} {Q : Option Value → xH → Prop} {x y : Int32} {a b : Nat} {v1 v2 v3 v4 v5 : Value} {m' : Nat} {tb : List (Nat × Nat)}
theorem xXr_call2 {as r : List Value} (ha : xvs as = true) : xXr tab (xmL mi) d m ls h (xcall m' as n r) Q ↔ (xvo 8 r = true ∧ XC d m' as h (fun v h' => XE d m n ls (v.toList ++ r) h' Q)) := by
  by_cases hr : xvo 8 r = true
  · exact (xXr_call ha hr).trans ⟨fun q => ⟨hr, q⟩, fun q => q.2⟩
  · unfold xcall
    rw [if_neg (fun q => xvo_f hr q.2)]
    exact ⟨fun q => q.elim, fun q => hr q.1⟩
theorem xXr_rcv2 {as r : List Value} (ha : xvs as = true) : xXr tab (xmL mi) d m ls h (xrcv tb h a as n r) Q ↔ (xvo 8 r = true ∧ XV tb (h.2.2.1 a) (fun m' => XC d m' (.ref a :: as) h (fun v h' => XE d m n ls (v.toList ++ r) h' Q))) := by
  by_cases hr : xvo 8 r = true
  · exact (xXr_rcv ha hr).trans ⟨fun q => ⟨hr, q⟩, fun q => q.2⟩
  · refine ⟨fun q => ?_, fun q => absurd q.1 hr⟩
    exfalso
    revert q
    unfold xrcv
    rcases h.2.2.1 a with e | ⟨ci, fs⟩
    · exact fun q => q
    · dsimp only
      cases hm : xvm ci tb with
      | none => exact fun q => q
      | some m2 =>
        dsimp only
        unfold xcall
        rw [if_neg (fun q => xvo_f hr q.2)]
        exact fun q => q
theorem xXr_rcS2 {as r : List Value} (ha : xvs as = true) : xXr tab (xmL mi) d m ls h (xrcS m' h a as n r) Q ↔ (xvo 8 r = true ∧ h.2.2.2 (100 + 3 * a) = .int 20 ∧ XC d m' (.ref a :: as) h (fun v h' => XE d m n ls (v.toList ++ r) h' Q)) := by
  by_cases hr : xvo 8 r = true
  · exact (xXr_rcS ha hr).trans ⟨fun q => ⟨hr, q⟩, fun q => q.2⟩
  · refine ⟨fun q => ?_, fun q => absurd q.1 hr⟩
    unfold xrcS at q
    split at q
    · unfold xcall at q
      rw [if_neg (fun q => xvo_f hr q.2)] at q
      exact q.elim
    · exact q.elim
theorem h_s1 (hv : xvs [v1] = true) (ht : tab m pc = some (q_s1 m' n)) : XE d m pc ls (v1 :: st) h Q ↔ (xvo 8 st = true ∧ XC d m' [v1] h (fun v h' => XE d m n ls (v.toList ++ st) h' Q)) := (XE_step ht).trans (xXr_call2 hv)
theorem h_s2 (hv : xvs [v1, v2] = true) (ht : tab m pc = some (q_s2 m' n)) : XE d m pc ls (v2 :: v1 :: st) h Q ↔ (xvo 8 st = true ∧ XC d m' [v1, v2] h (fun v h' => XE d m n ls (v.toList ++ st) h' Q)) := (XE_step ht).trans (xXr_call2 hv)
theorem h_s3 (hv : xvs [v1, v2, v3] = true) (ht : tab m pc = some (q_s3 m' n)) : XE d m pc ls (v3 :: v2 :: v1 :: st) h Q ↔ (xvo 8 st = true ∧ XC d m' [v1, v2, v3] h (fun v h' => XE d m n ls (v.toList ++ st) h' Q)) := (XE_step ht).trans (xXr_call2 hv)
theorem h_s4 (hv : xvs [v1, v2, v3, v4] = true) (ht : tab m pc = some (q_s4 m' n)) : XE d m pc ls (v4 :: v3 :: v2 :: v1 :: st) h Q ↔ (xvo 8 st = true ∧ XC d m' [v1, v2, v3, v4] h (fun v h' => XE d m n ls (v.toList ++ st) h' Q)) := (XE_step ht).trans (xXr_call2 hv)
theorem h_s5 (hv : xvs [v1, v2, v3, v4, v5] = true) (ht : tab m pc = some (q_s5 m' n)) : XE d m pc ls (v5 :: v4 :: v3 :: v2 :: v1 :: st) h Q ↔ (xvo 8 st = true ∧ XC d m' [v1, v2, v3, v4, v5] h (fun v h' => XE d m n ls (v.toList ++ st) h' Q)) := (XE_step ht).trans (xXr_call2 hv)
theorem h_v0 (ht : tab m pc = some (q_v0 tb n)) : XE d m pc ls (.ref a :: st) h Q ↔ (xvo 8 st = true ∧ XV tb (h.2.2.1 a) (fun m' => XC d m' [.ref a] h (fun v h' => XE d m n ls (v.toList ++ st) h' Q))) := (XE_step ht).trans (xXr_rcv2 rfl)
theorem h_v1 (hv : xvs [v1] = true) (ht : tab m pc = some (q_v1 tb n)) : XE d m pc ls (v1 :: .ref a :: st) h Q ↔ (xvo 8 st = true ∧ XV tb (h.2.2.1 a) (fun m' => XC d m' [.ref a, v1] h (fun v h' => XE d m n ls (v.toList ++ st) h' Q))) := (XE_step ht).trans (xXr_rcv2 hv)
theorem h_v2 (hv : xvs [v1, v2] = true) (ht : tab m pc = some (q_v2 tb n)) : XE d m pc ls (v2 :: v1 :: .ref a :: st) h Q ↔ (xvo 8 st = true ∧ XV tb (h.2.2.1 a) (fun m' => XC d m' [.ref a, v1, v2] h (fun v h' => XE d m n ls (v.toList ++ st) h' Q))) := (XE_step ht).trans (xXr_rcv2 hv)
theorem h_v3 (hv : xvs [v1, v2, v3] = true) (ht : tab m pc = some (q_v3 tb n)) : XE d m pc ls (v3 :: v2 :: v1 :: .ref a :: st) h Q ↔ (xvo 8 st = true ∧ XV tb (h.2.2.1 a) (fun m' => XC d m' [.ref a, v1, v2, v3] h (fun v h' => XE d m n ls (v.toList ++ st) h' Q))) := (XE_step ht).trans (xXr_rcv2 hv)
theorem h_v4 (hv : xvs [v1, v2, v3, v4] = true) (ht : tab m pc = some (q_v4 tb n)) : XE d m pc ls (v4 :: v3 :: v2 :: v1 :: .ref a :: st) h Q ↔ (xvo 8 st = true ∧ XV tb (h.2.2.1 a) (fun m' => XC d m' [.ref a, v1, v2, v3, v4] h (fun v h' => XE d m n ls (v.toList ++ st) h' Q))) := (XE_step ht).trans (xXr_rcv2 hv)
theorem h_v5 (hv : xvs [v1, v2, v3, v4, v5] = true) (ht : tab m pc = some (q_v5 tb n)) : XE d m pc ls (v5 :: v4 :: v3 :: v2 :: v1 :: .ref a :: st) h Q ↔ (xvo 8 st = true ∧ XV tb (h.2.2.1 a) (fun m' => XC d m' [.ref a, v1, v2, v3, v4, v5] h (fun v h' => XE d m n ls (v.toList ++ st) h' Q))) := (XE_step ht).trans (xXr_rcv2 hv)
theorem h_w0 (ht : tab m pc = some (q_w0 m' n)) : XE d m pc ls (.ref a :: st) h Q ↔ (xvo 8 st = true ∧ h.2.2.2 (100 + 3 * a) = .int 20 ∧ XC d m' [.ref a] h (fun v h' => XE d m n ls (v.toList ++ st) h' Q)) := (XE_step ht).trans (xXr_rcS2 rfl)
theorem h_w1 (hv : xvs [v1] = true) (ht : tab m pc = some (q_w1 m' n)) : XE d m pc ls (v1 :: .ref a :: st) h Q ↔ (xvo 8 st = true ∧ h.2.2.2 (100 + 3 * a) = .int 20 ∧ XC d m' [.ref a, v1] h (fun v h' => XE d m n ls (v.toList ++ st) h' Q)) := (XE_step ht).trans (xXr_rcS2 hv)
theorem h_w2 (hv : xvs [v1, v2] = true) (ht : tab m pc = some (q_w2 m' n)) : XE d m pc ls (v2 :: v1 :: .ref a :: st) h Q ↔ (xvo 8 st = true ∧ h.2.2.2 (100 + 3 * a) = .int 20 ∧ XC d m' [.ref a, v1, v2] h (fun v h' => XE d m n ls (v.toList ++ st) h' Q)) := (XE_step ht).trans (xXr_rcS2 hv)
theorem h_max (ht : tab m pc = some (q_max n)) : XE d m pc ls (.int y :: .int x :: st) h Q ↔ (xvo 8 st = true ∧ XE d m n ls (.int (if x < y then y else x) :: st) h Q) := by
  by_cases hr : xvo 8 st = true
  · exact (g_max hr ht).trans ⟨fun q => ⟨hr, q⟩, fun q => q.2⟩
  · rw [XE_step ht]; unfold q_max; dsimp only; rw [if_neg (xvo_f hr)]; exact ⟨fun q => q.elim, fun q => hr q.1⟩
theorem h_min (ht : tab m pc = some (q_min n)) : XE d m pc ls (.int y :: .int x :: st) h Q ↔ (xvo 8 st = true ∧ XE d m n ls (.int (if y < x then y else x) :: st) h Q) := by
  by_cases hr : xvo 8 st = true
  · exact (g_min hr ht).trans ⟨fun q => ⟨hr, q⟩, fun q => q.2⟩
  · rw [XE_step ht]; unfold q_min; dsimp only; rw [if_neg (xvo_f hr)]; exact ⟨fun q => q.elim, fun q => hr q.1⟩
theorem h_objinit (ht : tab m pc = some (q_objinit n)) : XE d m pc ls (.ref a :: st) h Q ↔ (xvo 8 st = true ∧ XE d m n ls st h Q) := by
  by_cases hr : xvo 8 st = true
  · exact (g_objinit hr ht).trans ⟨fun q => ⟨hr, q⟩, fun q => q.2⟩
  · rw [XE_step ht]; unfold q_objinit; dsimp only; rw [if_neg (xvo_f hr)]; exact ⟨fun q => q.elim, fun q => hr q.1⟩
end PK2
section PR
variable {d : Nat} {ls l : List Slot} {c0 c1 c2 c3 c4 c5 c6 c7 c8 c9 c10 c11 : Slot} {st : List Value} {h : xH} {Q : Option Value → xH → Prop} {x y z w u : Int32} {a b : Nat} {v : Value} {q : Bool}
-- 0: TwoBells$Cutter.<init>(II)V
theorem e0 : XC (d + 1) 0 [.ref a, .int x, .int y] h Q ↔ XE d 0 0 [.val (.ref a), .val (.int x), .val (.int y)] [] h Q := XC_in rfl
theorem s0_0 : XE d 0 0 (.val (.ref a) :: l) st h Q ↔ XE d 0 1 (.val (.ref a) :: l) (.ref a :: st) h Q := g_aload rfl rfl
theorem s0_1 : XE d 0 1 (c0 :: .val (.int x) :: l) st h Q ↔ XE d 0 2 (c0 :: .val (.int x) :: l) (.int x :: st) h Q := g_iload rfl rfl
theorem s0_2 : XE d 0 2 (c0 :: c1 :: .val (.int x) :: l) st h Q ↔ XE d 0 3 (c0 :: c1 :: .val (.int x) :: l) (.int x :: st) h Q := g_iload rfl rfl
theorem s0_3 : XE d 0 3 ls (.int y :: .int x :: .ref a :: st) h Q ↔ (xvo 8 st = true ∧ XV [(0, 44), (4, 44)] (h.2.2.1 a) (fun m' => XC d m' [.ref a, .int x, .int y] h (fun v h' => XE d 0 6 ls (v.toList ++ st) h' Q))) := h_v2 rfl rfl
theorem s0_6 : XE d 0 6 ls [] h Q ↔ Q none h := g_ret rfl
-- 1: TwoBells$Cutter.heeds(LTwoBells$Town;II)I
theorem e1 : XC (d + 1) 1 [.ref a, .ref b, .int x, .int y] h Q ↔ XE d 1 0 [.val (.ref a), .val (.ref b), .val (.int x), .val (.int y)] [] h Q := XC_in rfl
theorem s1_0 : XE d 1 0 (.val (.ref a) :: l) st h Q ↔ XE d 1 1 (.val (.ref a) :: l) (.ref a :: st) h Q := g_aload rfl rfl
theorem s1_1 : XE d 1 1 (c0 :: .val (.ref a) :: l) st h Q ↔ XE d 1 2 (c0 :: .val (.ref a) :: l) (.ref a :: st) h Q := g_aload rfl rfl
theorem s1_1n : XE d 1 1 (c0 :: .val .null :: l) st h Q ↔ XE d 1 2 (c0 :: .val .null :: l) (.null :: st) h Q := g_aloadN rfl rfl
theorem s1_2 : XE d 1 2 (c0 :: c1 :: .val (.int x) :: l) st h Q ↔ XE d 1 3 (c0 :: c1 :: .val (.int x) :: l) (.int x :: st) h Q := g_iload rfl rfl
theorem s1_3 : XE d 1 3 (c0 :: c1 :: c2 :: .val (.int x) :: l) st h Q ↔ XE d 1 4 (c0 :: c1 :: c2 :: .val (.int x) :: l) (.int x :: st) h Q := g_iload rfl rfl
theorem s1_4 : XE d 1 4 ls (.int y :: .int x :: .ref b :: .ref a :: st) h Q ↔ (xvo 8 st = true ∧ XV [(0, 47), (4, 47)] (h.2.2.1 a) (fun m' => XC d m' [.ref a, .ref b, .int x, .int y] h (fun v h' => XE d 1 7 ls (v.toList ++ st) h' Q))) := h_v3 rfl rfl
theorem s1_7 : XE d 1 7 ls st h Q ↔ XE d 1 8 ls (.int 2 :: st) h Q := g_const rfl
theorem s1_8 : XE d 1 8 ls (.int y :: .int x :: st) h Q ↔ (y ≠ 0 ∧ XE d 1 9 ls (.int (x / y) :: st) h Q) := g_div rfl
theorem s1_9 : XE d 1 9 ls [.int x] h Q ↔ Q (some (.int x)) h := g_iret rfl
-- 2: TwoBells$Cutter.value()I
theorem e2 : XC (d + 1) 2 [.ref a] h Q ↔ XE d 2 0 [.val (.ref a)] [] h Q := XC_in rfl
theorem s2_0 : XE d 2 0 (.val (.ref a) :: l) st h Q ↔ XE d 2 1 (.val (.ref a) :: l) (.ref a :: st) h Q := g_aload rfl rfl
theorem s2_1 : XE d 2 1 ls (.ref a :: st) h Q ↔ (xvo 8 st = true ∧ XV [(0, 49), (4, 49)] (h.2.2.1 a) (fun m' => XC d m' [.ref a] h (fun v h' => XE d 2 4 ls (v.toList ++ st) h' Q))) := h_v0 rfl
theorem s2_4 : XE d 2 4 ls st h Q ↔ XE d 2 5 ls (.int 1 :: st) h Q := g_const rfl
theorem s2_5 : XE d 2 5 ls (.int y :: .int x :: st) h Q ↔ XE d 2 6 ls (.int (x - y) :: st) h Q := g_sub rfl
theorem s2_6 : XE d 2 6 ls [.int x] h Q ↔ Q (some (.int x)) h := g_iret rfl
-- 3: TwoBells$Feasting.<init>(II)V
theorem e3 : XC (d + 1) 3 [.ref a, .int x, .int y] h Q ↔ XE d 3 0 [.val (.ref a), .val (.int x), .val (.int y)] [] h Q := XC_in rfl
theorem s3_0 : XE d 3 0 (.val (.ref a) :: l) st h Q ↔ XE d 3 1 (.val (.ref a) :: l) (.ref a :: st) h Q := g_aload rfl rfl
theorem s3_1 : XE d 3 1 (c0 :: .val (.int x) :: l) st h Q ↔ XE d 3 2 (c0 :: .val (.int x) :: l) (.int x :: st) h Q := g_iload rfl rfl
theorem s3_2 : XE d 3 2 (c0 :: c1 :: .val (.int x) :: l) st h Q ↔ XE d 3 3 (c0 :: c1 :: .val (.int x) :: l) (.int x :: st) h Q := g_iload rfl rfl
theorem s3_3 : XE d 3 3 ls (.int y :: .int x :: .ref a :: st) h Q ↔ (xvo 8 st = true ∧ XV [(1, 44)] (h.2.2.1 a) (fun m' => XC d m' [.ref a, .int x, .int y] h (fun v h' => XE d 3 6 ls (v.toList ++ st) h' Q))) := h_v2 rfl rfl
theorem s3_6 : XE d 3 6 ls [] h Q ↔ Q none h := g_ret rfl
-- 4: TwoBells$Feasting.heeds(LTwoBells$Town;II)I
theorem e4 : XC (d + 1) 4 [.ref a, .ref b, .int x, .int y] h Q ↔ XE d 4 0 [.val (.ref a), .val (.ref b), .val (.int x), .val (.int y)] [] h Q := XC_in rfl
theorem s4_0 : XE d 4 0 ls st h Q ↔ XE d 4 1 ls (.int 0 :: st) h Q := g_const rfl
theorem s4_1 : XE d 4 1 (.val (.ref a) :: l) st h Q ↔ XE d 4 2 (.val (.ref a) :: l) (.ref a :: st) h Q := g_aload rfl rfl
theorem s4_2 : XE d 4 2 (c0 :: .val (.ref a) :: l) st h Q ↔ XE d 4 3 (c0 :: .val (.ref a) :: l) (.ref a :: st) h Q := g_aload rfl rfl
theorem s4_2n : XE d 4 2 (c0 :: .val .null :: l) st h Q ↔ XE d 4 3 (c0 :: .val .null :: l) (.null :: st) h Q := g_aloadN rfl rfl
theorem s4_3 : XE d 4 3 (c0 :: c1 :: .val (.int x) :: l) st h Q ↔ XE d 4 4 (c0 :: c1 :: .val (.int x) :: l) (.int x :: st) h Q := g_iload rfl rfl
theorem s4_4 : XE d 4 4 (c0 :: c1 :: c2 :: .val (.int x) :: l) st h Q ↔ XE d 4 5 (c0 :: c1 :: c2 :: .val (.int x) :: l) (.int x :: st) h Q := g_iload rfl rfl
theorem s4_5 : XE d 4 5 ls (.int y :: .int x :: .ref b :: .ref a :: st) h Q ↔ (xvo 8 st = true ∧ XV [(1, 47)] (h.2.2.1 a) (fun m' => XC d m' [.ref a, .ref b, .int x, .int y] h (fun v h' => XE d 4 8 ls (v.toList ++ st) h' Q))) := h_v3 rfl rfl
theorem s4_8 : XE d 4 8 ls st h Q ↔ XE d 4 10 ls (.int 30 :: st) h Q := g_const rfl
theorem s4_10 : XE d 4 10 ls (.int y :: .int x :: st) h Q ↔ XE d 4 11 ls (.int (x - y) :: st) h Q := g_sub rfl
theorem s4_11 : XE d 4 11 ls (.int y :: .int x :: st) h Q ↔ (xvo 8 st = true ∧ XE d 4 14 ls (.int (if x < y then y else x) :: st) h Q) := h_max rfl
theorem s4_14 : XE d 4 14 ls [.int x] h Q ↔ Q (some (.int x)) h := g_iret rfl
-- 5: TwoBells$Feasting.value()I
theorem e5 : XC (d + 1) 5 [.ref a] h Q ↔ XE d 5 0 [.val (.ref a)] [] h Q := XC_in rfl
theorem s5_0 : XE d 5 0 ls st h Q ↔ XE d 5 2 ls (.int 30 :: st) h Q := g_const rfl
theorem s5_2 : XE d 5 2 ls [.int x] h Q ↔ Q (some (.int x)) h := g_iret rfl
-- 6: TwoBells$Knowing.<init>(II)V
theorem e6 : XC (d + 1) 6 [.ref a, .int x, .int y] h Q ↔ XE d 6 0 [.val (.ref a), .val (.int x), .val (.int y)] [] h Q := XC_in rfl
theorem s6_0 : XE d 6 0 (.val (.ref a) :: l) st h Q ↔ XE d 6 1 (.val (.ref a) :: l) (.ref a :: st) h Q := g_aload rfl rfl
theorem s6_1 : XE d 6 1 (c0 :: .val (.int x) :: l) st h Q ↔ XE d 6 2 (c0 :: .val (.int x) :: l) (.int x :: st) h Q := g_iload rfl rfl
theorem s6_2 : XE d 6 2 (c0 :: c1 :: .val (.int x) :: l) st h Q ↔ XE d 6 3 (c0 :: c1 :: .val (.int x) :: l) (.int x :: st) h Q := g_iload rfl rfl
theorem s6_3 : XE d 6 3 ls (.int y :: .int x :: .ref a :: st) h Q ↔ (xvo 8 st = true ∧ XV [(2, 44), (3, 44)] (h.2.2.1 a) (fun m' => XC d m' [.ref a, .int x, .int y] h (fun v h' => XE d 6 6 ls (v.toList ++ st) h' Q))) := h_v2 rfl rfl
theorem s6_6 : XE d 6 6 ls [] h Q ↔ Q none h := g_ret rfl
-- 7: TwoBells$Knowing.picks(LTwoBells$Town;I)I
theorem e7 : XC (d + 1) 7 [.ref a, .ref b, .int x] h Q ↔ XE d 7 0 [.val (.ref a), .val (.ref b), .val (.int x)] [] h Q := XC_in rfl
theorem s7_0 : XE d 7 0 (c0 :: .val (.ref a) :: l) st h Q ↔ XE d 7 1 (c0 :: .val (.ref a) :: l) (.ref a :: st) h Q := g_aload rfl rfl
theorem s7_0n : XE d 7 0 (c0 :: .val .null :: l) st h Q ↔ XE d 7 1 (c0 :: .val .null :: l) (.null :: st) h Q := g_aloadN rfl rfl
theorem s7_1 : XE d 7 1 (.val (.ref a) :: l) st h Q ↔ XE d 7 2 (.val (.ref a) :: l) (.ref a :: st) h Q := g_aload rfl rfl
theorem s7_2 : XE d 7 2 ls (.ref a :: st) h Q ↔ XG [2, 3] 1 (h.2.2.1 a) (fun v => XE d 7 5 ls (v :: st) h Q) := g_getf rfl
theorem s7_5 : XE d 7 5 (c0 :: .val (.ref a) :: l) st h Q ↔ XE d 7 6 (c0 :: .val (.ref a) :: l) (.ref a :: st) h Q := g_aload rfl rfl
theorem s7_5n : XE d 7 5 (c0 :: .val .null :: l) st h Q ↔ XE d 7 6 (c0 :: .val .null :: l) (.null :: st) h Q := g_aloadN rfl rfl
theorem s7_6 : XE d 7 6 ls (.ref a :: st) h Q ↔ XG [10] 19 (h.2.2.1 a) (fun v => XE d 7 9 ls (v :: st) h Q) := g_getf rfl
theorem s7_9 : XE d 7 9 (c0 :: c1 :: .val (.int x) :: l) st h Q ↔ XE d 7 10 (c0 :: c1 :: .val (.int x) :: l) (.int x :: st) h Q := g_iload rfl rfl
theorem s7_10 : XE d 7 10 ls st h Q ↔ XE d 7 12 ls (.int 12 :: st) h Q := g_const rfl
theorem s7_12 : XE d 7 12 ls (.int y :: .int x :: st) h Q ↔ XE d 7 13 ls (.int (x * y) :: st) h Q := g_mul rfl
theorem s7_13 : XE d 7 13 ls (.int y :: .ref b :: .int x :: .ref a :: st) h Q ↔ (xvo 8 st = true ∧ XV [(10, 69)] (h.2.2.1 a) (fun m' => XC d m' [.ref a, .int x, .ref b, .int y] h (fun v h' => XE d 7 16 ls (v.toList ++ st) h' Q))) := h_v3 rfl rfl
theorem s7_16 : XE d 7 16 ls [.int x] h Q ↔ Q (some (.int x)) h := g_iret rfl
-- 8: TwoBells$Knowing.value()I
theorem e8 : XC (d + 1) 8 [.ref a] h Q ↔ XE d 8 0 [.val (.ref a)] [] h Q := XC_in rfl
theorem s8_0 : XE d 8 0 (.val (.ref a) :: l) st h Q ↔ XE d 8 1 (.val (.ref a) :: l) (.ref a :: st) h Q := g_aload rfl rfl
theorem s8_1 : XE d 8 1 ls (.ref a :: st) h Q ↔ (xvo 8 st = true ∧ XV [(2, 49), (3, 49)] (h.2.2.1 a) (fun m' => XC d m' [.ref a] h (fun v h' => XE d 8 4 ls (v.toList ++ st) h' Q))) := h_v0 rfl
theorem s8_4 : XE d 8 4 ls st h Q ↔ XE d 8 6 ls (.int 10 :: st) h Q := g_const rfl
theorem s8_6 : XE d 8 6 ls (.int y :: .int x :: st) h Q ↔ XE d 8 7 ls (.int (x + y) :: st) h Q := g_add rfl
theorem s8_7 : XE d 8 7 ls [.int x] h Q ↔ Q (some (.int x)) h := g_iret rfl
-- 9: TwoBells$Near.<init>(II)V
theorem e9 : XC (d + 1) 9 [.ref a, .int x, .int y] h Q ↔ XE d 9 0 [.val (.ref a), .val (.int x), .val (.int y)] [] h Q := XC_in rfl
theorem s9_0 : XE d 9 0 (.val (.ref a) :: l) st h Q ↔ XE d 9 1 (.val (.ref a) :: l) (.ref a :: st) h Q := g_aload rfl rfl
theorem s9_1 : XE d 9 1 (c0 :: .val (.int x) :: l) st h Q ↔ XE d 9 2 (c0 :: .val (.int x) :: l) (.int x :: st) h Q := g_iload rfl rfl
theorem s9_2 : XE d 9 2 (c0 :: c1 :: .val (.int x) :: l) st h Q ↔ XE d 9 3 (c0 :: c1 :: .val (.int x) :: l) (.int x :: st) h Q := g_iload rfl rfl
theorem s9_3 : XE d 9 3 ls (.int y :: .int x :: .ref a :: st) h Q ↔ (xvo 8 st = true ∧ XV [(3, 6)] (h.2.2.1 a) (fun m' => XC d m' [.ref a, .int x, .int y] h (fun v h' => XE d 9 6 ls (v.toList ++ st) h' Q))) := h_v2 rfl rfl
theorem s9_6 : XE d 9 6 ls [] h Q ↔ Q none h := g_ret rfl
-- 10: TwoBells$Near.heeds(LTwoBells$Town;II)I
theorem e10 : XC (d + 1) 10 [.ref a, .ref b, .int x, .int y] h Q ↔ XE d 10 0 [.val (.ref a), .val (.ref b), .val (.int x), .val (.int y)] [] h Q := XC_in rfl
theorem s10_0 : XE d 10 0 (c0 :: c1 :: .val (.int x) :: l) st h Q ↔ XE d 10 1 (c0 :: c1 :: .val (.int x) :: l) (.int x :: st) h Q := g_iload rfl rfl
theorem s10_1 : XE d 10 1 (.val (.ref a) :: l) st h Q ↔ XE d 10 2 (.val (.ref a) :: l) (.ref a :: st) h Q := g_aload rfl rfl
theorem s10_2 : XE d 10 2 ls (.ref a :: st) h Q ↔ XG [3] 1 (h.2.2.1 a) (fun v => XE d 10 5 ls (v :: st) h Q) := g_getf rfl
theorem s10_5 : XE d 10 5 ls (.int y :: .int x :: st) h Q ↔ (if x = y then XE d 10 20 ls st h Q else XE d 10 8 ls st h Q) := g_ceq rfl
theorem s10_8 : XE d 10 8 (c0 :: .val (.ref a) :: l) st h Q ↔ XE d 10 9 (c0 :: .val (.ref a) :: l) (.ref a :: st) h Q := g_aload rfl rfl
theorem s10_8n : XE d 10 8 (c0 :: .val .null :: l) st h Q ↔ XE d 10 9 (c0 :: .val .null :: l) (.null :: st) h Q := g_aloadN rfl rfl
theorem s10_9 : XE d 10 9 (c0 :: c1 :: .val (.int x) :: l) st h Q ↔ XE d 10 10 (c0 :: c1 :: .val (.int x) :: l) (.int x :: st) h Q := g_iload rfl rfl
theorem s10_10 : XE d 10 10 (.val (.ref a) :: l) st h Q ↔ XE d 10 11 (.val (.ref a) :: l) (.ref a :: st) h Q := g_aload rfl rfl
theorem s10_11 : XE d 10 11 ls (.ref a :: st) h Q ↔ XG [3] 1 (h.2.2.1 a) (fun v => XE d 10 14 ls (v :: st) h Q) := g_getf rfl
theorem s10_14 : XE d 10 14 ls (.int y :: .int x :: .ref a :: st) h Q ↔ (xvo 8 st = true ∧ XV [(10, 59)] (h.2.2.1 a) (fun m' => XC d m' [.ref a, .int x, .int y] h (fun v h' => XE d 10 17 ls (v.toList ++ st) h' Q))) := h_v2 rfl rfl
theorem s10_17 : XE d 10 17 ls (.int x :: st) h Q ↔ (if x = 0 then XE d 10 24 ls st h Q else XE d 10 20 ls st h Q) := g_ifeq rfl
theorem s10_20 : XE d 10 20 ls st h Q ↔ XE d 10 21 ls (.int 0 :: st) h Q := g_const rfl
theorem s10_21 : XE d 10 21 ls st h Q ↔ XE d 10 31 ls st h Q := g_goto rfl
theorem s10_24 : XE d 10 24 (.val (.ref a) :: l) st h Q ↔ XE d 10 25 (.val (.ref a) :: l) (.ref a :: st) h Q := g_aload rfl rfl
theorem s10_25 : XE d 10 25 (c0 :: .val (.ref a) :: l) st h Q ↔ XE d 10 26 (c0 :: .val (.ref a) :: l) (.ref a :: st) h Q := g_aload rfl rfl
theorem s10_25n : XE d 10 25 (c0 :: .val .null :: l) st h Q ↔ XE d 10 26 (c0 :: .val .null :: l) (.null :: st) h Q := g_aloadN rfl rfl
theorem s10_26 : XE d 10 26 (c0 :: c1 :: .val (.int x) :: l) st h Q ↔ XE d 10 27 (c0 :: c1 :: .val (.int x) :: l) (.int x :: st) h Q := g_iload rfl rfl
theorem s10_27 : XE d 10 27 (c0 :: c1 :: c2 :: .val (.int x) :: l) st h Q ↔ XE d 10 28 (c0 :: c1 :: c2 :: .val (.int x) :: l) (.int x :: st) h Q := g_iload rfl rfl
theorem s10_28 : XE d 10 28 ls (.int y :: .int x :: .ref b :: .ref a :: st) h Q ↔ (xvo 8 st = true ∧ XV [(3, 47)] (h.2.2.1 a) (fun m' => XC d m' [.ref a, .ref b, .int x, .int y] h (fun v h' => XE d 10 31 ls (v.toList ++ st) h' Q))) := h_v3 rfl rfl
theorem s10_31 : XE d 10 31 ls [.int x] h Q ↔ Q (some (.int x)) h := g_iret rfl
-- 11: TwoBells$Near.value()I
theorem e11 : XC (d + 1) 11 [.ref a] h Q ↔ XE d 11 0 [.val (.ref a)] [] h Q := XC_in rfl
theorem s11_0 : XE d 11 0 ls st h Q ↔ XE d 11 1 ls (.int 2 :: st) h Q := g_const rfl
theorem s11_1 : XE d 11 1 (.val (.ref a) :: l) st h Q ↔ XE d 11 2 (.val (.ref a) :: l) (.ref a :: st) h Q := g_aload rfl rfl
theorem s11_2 : XE d 11 2 ls (.ref a :: st) h Q ↔ (xvo 8 st = true ∧ XV [(3, 8)] (h.2.2.1 a) (fun m' => XC d m' [.ref a] h (fun v h' => XE d 11 5 ls (v.toList ++ st) h' Q))) := h_v0 rfl
theorem s11_5 : XE d 11 5 ls (.int y :: .int x :: st) h Q ↔ XE d 11 6 ls (.int (x * y) :: st) h Q := g_mul rfl
theorem s11_6 : XE d 11 6 ls [.int x] h Q ↔ Q (some (.int x)) h := g_iret rfl
-- 12: TwoBells$Quick.<init>(II)V
theorem e12 : XC (d + 1) 12 [.ref a, .int x, .int y] h Q ↔ XE d 12 0 [.val (.ref a), .val (.int x), .val (.int y)] [] h Q := XC_in rfl
theorem s12_0 : XE d 12 0 (.val (.ref a) :: l) st h Q ↔ XE d 12 1 (.val (.ref a) :: l) (.ref a :: st) h Q := g_aload rfl rfl
theorem s12_1 : XE d 12 1 (c0 :: .val (.int x) :: l) st h Q ↔ XE d 12 2 (c0 :: .val (.int x) :: l) (.int x :: st) h Q := g_iload rfl rfl
theorem s12_2 : XE d 12 2 (c0 :: c1 :: .val (.int x) :: l) st h Q ↔ XE d 12 3 (c0 :: c1 :: .val (.int x) :: l) (.int x :: st) h Q := g_iload rfl rfl
theorem s12_3 : XE d 12 3 ls (.int y :: .int x :: .ref a :: st) h Q ↔ (xvo 8 st = true ∧ XV [(4, 0)] (h.2.2.1 a) (fun m' => XC d m' [.ref a, .int x, .int y] h (fun v h' => XE d 12 6 ls (v.toList ++ st) h' Q))) := h_v2 rfl rfl
theorem s12_6 : XE d 12 6 ls [] h Q ↔ Q none h := g_ret rfl
-- 13: TwoBells$Quick.picks(LTwoBells$Town;I)I
theorem e13 : XC (d + 1) 13 [.ref a, .ref b, .int x] h Q ↔ XE d 13 0 [.val (.ref a), .val (.ref b), .val (.int x)] [] h Q := XC_in rfl
theorem s13_0 : XE d 13 0 (c0 :: .val (.ref a) :: l) st h Q ↔ XE d 13 1 (c0 :: .val (.ref a) :: l) (.ref a :: st) h Q := g_aload rfl rfl
theorem s13_0n : XE d 13 0 (c0 :: .val .null :: l) st h Q ↔ XE d 13 1 (c0 :: .val .null :: l) (.null :: st) h Q := g_aloadN rfl rfl
theorem s13_1 : XE d 13 1 (.val (.ref a) :: l) st h Q ↔ XE d 13 2 (.val (.ref a) :: l) (.ref a :: st) h Q := g_aload rfl rfl
theorem s13_2 : XE d 13 2 ls (.ref a :: st) h Q ↔ XG [4] 1 (h.2.2.1 a) (fun v => XE d 13 5 ls (v :: st) h Q) := g_getf rfl
theorem s13_5 : XE d 13 5 (c0 :: .val (.ref a) :: l) st h Q ↔ XE d 13 6 (c0 :: .val (.ref a) :: l) (.ref a :: st) h Q := g_aload rfl rfl
theorem s13_5n : XE d 13 5 (c0 :: .val .null :: l) st h Q ↔ XE d 13 6 (c0 :: .val .null :: l) (.null :: st) h Q := g_aloadN rfl rfl
theorem s13_6 : XE d 13 6 ls (.ref a :: st) h Q ↔ XG [10] 12 (h.2.2.1 a) (fun v => XE d 13 9 ls (v :: st) h Q) := g_getf rfl
theorem s13_9 : XE d 13 9 ls st h Q ↔ XE d 13 10 ls (.int 0 :: st) h Q := g_const rfl
theorem s13_10 : XE d 13 10 ls (.int y :: .ref b :: .int x :: .ref a :: st) h Q ↔ (xvo 8 st = true ∧ XV [(10, 69)] (h.2.2.1 a) (fun m' => XC d m' [.ref a, .int x, .ref b, .int y] h (fun v h' => XE d 13 13 ls (v.toList ++ st) h' Q))) := h_v3 rfl rfl
theorem s13_13 : XE d 13 13 ls [.int x] h Q ↔ Q (some (.int x)) h := g_iret rfl
-- 14: TwoBells$Quick.value()I
theorem e14 : XC (d + 1) 14 [.ref a] h Q ↔ XE d 14 0 [.val (.ref a)] [] h Q := XC_in rfl
theorem s14_0 : XE d 14 0 (.val (.ref a) :: l) st h Q ↔ XE d 14 1 (.val (.ref a) :: l) (.ref a :: st) h Q := g_aload rfl rfl
theorem s14_1 : XE d 14 1 ls (.ref a :: st) h Q ↔ (xvo 8 st = true ∧ XV [(4, 2)] (h.2.2.1 a) (fun m' => XC d m' [.ref a] h (fun v h' => XE d 14 4 ls (v.toList ++ st) h' Q))) := h_v0 rfl
theorem s14_4 : XE d 14 4 ls st h Q ↔ XE d 14 6 ls (.int 20 :: st) h Q := g_const rfl
theorem s14_6 : XE d 14 6 ls (.int y :: .int x :: st) h Q ↔ XE d 14 7 ls (.int (x + y) :: st) h Q := g_add rfl
theorem s14_7 : XE d 14 7 ls [.int x] h Q ↔ Q (some (.int x)) h := g_iret rfl
-- 15: TwoBells$Sheet.<init>()V
theorem e15 : XC (d + 1) 15 [.ref a] h Q ↔ XE d 15 0 [.val (.ref a)] [] h Q := XC_in rfl
theorem s15_0 : XE d 15 0 (.val (.ref a) :: l) st h Q ↔ XE d 15 1 (.val (.ref a) :: l) (.ref a :: st) h Q := g_aload rfl rfl
theorem s15_1 : XE d 15 1 ls (.ref a :: st) h Q ↔ (xvo 8 st = true ∧ XE d 15 4 ls st h Q) := h_objinit rfl
theorem s15_4 : XE d 15 4 (.val (.ref a) :: l) st h Q ↔ XE d 15 5 (.val (.ref a) :: l) (.ref a :: st) h Q := g_aload rfl rfl
theorem s15_5 : XE d 15 5 ls st h Q ↔ XE d 15 6 ls (.int (-1) :: st) h Q := g_const rfl
theorem s15_6 : XE d 15 6 ls (.int x :: .ref a :: st) h Q ↔ XP [5] 0 (.int x) (h.2.2.1 a) (fun e => XE d 15 9 ls st (xset h a e) Q) := g_puti rfl
theorem s15_9 : XE d 15 9 (.val (.ref a) :: l) st h Q ↔ XE d 15 10 (.val (.ref a) :: l) (.ref a :: st) h Q := g_aload rfl rfl
theorem s15_10 : XE d 15 10 ls st h Q ↔ XE d 15 11 ls (.int 0 :: st) h Q := g_const rfl
theorem s15_11 : XE d 15 11 ls (.int x :: .ref a :: st) h Q ↔ XP [5] 1 (.int x) (h.2.2.1 a) (fun e => XE d 15 14 ls st (xset h a e) Q) := g_puti rfl
theorem s15_14 : XE d 15 14 (.val (.ref a) :: l) st h Q ↔ XE d 15 15 (.val (.ref a) :: l) (.ref a :: st) h Q := g_aload rfl rfl
theorem s15_15 : XE d 15 15 ls st h Q ↔ XE d 15 17 ls (.int 24 :: st) h Q := g_const rfl
theorem s15_17 : XE d 15 17 ls (.int x :: st) h Q ↔ ((0 ≤ x ∧ x.toNatClampNeg ≤ 100000) ∧ XE d 15 19 ls (.ref h.1 :: st) (xnew h x.toNatClampNeg (.inl (0, xis x.toNatClampNeg (fun _ => 0)))) Q) := g_newa rfl
theorem s15_19 : XE d 15 19 ls (.ref b :: .ref a :: st) h Q ↔ XP [5] 2 (.ref b) (h.2.2.1 a) (fun e => XE d 15 22 ls st (xset h a e) Q) := g_putaR rfl
theorem s15_19n : XE d 15 19 ls (.null :: .ref a :: st) h Q ↔ XP [5] 2 .null (h.2.2.1 a) (fun e => XE d 15 22 ls st (xset h a e) Q) := g_putaN rfl
theorem s15_22 : XE d 15 22 ls [] h Q ↔ Q none h := g_ret rfl
-- 16: TwoBells$Sheet.become(LTwoBells$Sheet;)V
theorem e16 : XC (d + 1) 16 [.ref a, .ref b] h Q ↔ XE d 16 0 [.val (.ref a), .val (.ref b)] [] h Q := XC_in rfl
theorem s16_0 : XE d 16 0 (.val (.ref a) :: l) st h Q ↔ XE d 16 1 (.val (.ref a) :: l) (.ref a :: st) h Q := g_aload rfl rfl
theorem s16_1 : XE d 16 1 (c0 :: .val (.ref a) :: l) st h Q ↔ XE d 16 2 (c0 :: .val (.ref a) :: l) (.ref a :: st) h Q := g_aload rfl rfl
theorem s16_1n : XE d 16 1 (c0 :: .val .null :: l) st h Q ↔ XE d 16 2 (c0 :: .val .null :: l) (.null :: st) h Q := g_aloadN rfl rfl
theorem s16_2 : XE d 16 2 ls (.ref a :: st) h Q ↔ XG [5] 0 (h.2.2.1 a) (fun v => XE d 16 5 ls (v :: st) h Q) := g_getf rfl
theorem s16_5 : XE d 16 5 ls (.int x :: .ref a :: st) h Q ↔ XP [5] 0 (.int x) (h.2.2.1 a) (fun e => XE d 16 8 ls st (xset h a e) Q) := g_puti rfl
theorem s16_8 : XE d 16 8 (.val (.ref a) :: l) st h Q ↔ XE d 16 9 (.val (.ref a) :: l) (.ref a :: st) h Q := g_aload rfl rfl
theorem s16_9 : XE d 16 9 (c0 :: .val (.ref a) :: l) st h Q ↔ XE d 16 10 (c0 :: .val (.ref a) :: l) (.ref a :: st) h Q := g_aload rfl rfl
theorem s16_9n : XE d 16 9 (c0 :: .val .null :: l) st h Q ↔ XE d 16 10 (c0 :: .val .null :: l) (.null :: st) h Q := g_aloadN rfl rfl
theorem s16_10 : XE d 16 10 ls (.ref a :: st) h Q ↔ XG [5] 1 (h.2.2.1 a) (fun v => XE d 16 13 ls (v :: st) h Q) := g_getf rfl
theorem s16_13 : XE d 16 13 ls (.int x :: .ref a :: st) h Q ↔ XP [5] 1 (.int x) (h.2.2.1 a) (fun e => XE d 16 16 ls st (xset h a e) Q) := g_puti rfl
theorem s16_16 : XE d 16 16 (c0 :: .val (.ref a) :: l) st h Q ↔ XE d 16 17 (c0 :: .val (.ref a) :: l) (.ref a :: st) h Q := g_aload rfl rfl
theorem s16_16n : XE d 16 16 (c0 :: .val .null :: l) st h Q ↔ XE d 16 17 (c0 :: .val .null :: l) (.null :: st) h Q := g_aloadN rfl rfl
theorem s16_17 : XE d 16 17 ls (.ref a :: st) h Q ↔ XG [5] 2 (h.2.2.1 a) (fun v => XE d 16 20 ls (v :: st) h Q) := g_getf rfl
theorem s16_20 : XE d 16 20 ls st h Q ↔ XE d 16 21 ls (.int 0 :: st) h Q := g_const rfl
theorem s16_21 : XE d 16 21 (.val (.ref a) :: l) st h Q ↔ XE d 16 22 (.val (.ref a) :: l) (.ref a :: st) h Q := g_aload rfl rfl
theorem s16_22 : XE d 16 22 ls (.ref a :: st) h Q ↔ XG [5] 2 (h.2.2.1 a) (fun v => XE d 16 25 ls (v :: st) h Q) := g_getf rfl
theorem s16_25 : XE d 16 25 ls st h Q ↔ XE d 16 26 ls (.int 0 :: st) h Q := g_const rfl
theorem s16_26 : XE d 16 26 ls st h Q ↔ XE d 16 28 ls (.int 24 :: st) h Q := g_const rfl
theorem s16_28 (hr : xvo 8 st = true) : XE d 16 28 ls (.int z :: .int y :: .ref a :: .int x :: .ref b :: st) h Q ↔ XCp (h.2.2.1 a) (h.2.2.1 b) z y x (fun e => XE d 16 31 ls st (xset h a e) Q) := g_acopy hr rfl
theorem s16_31 : XE d 16 31 ls [] h Q ↔ Q none h := g_ret rfl
-- 17: TwoBells$Sheet.hasPlace(I)Z
theorem e17 : XC (d + 1) 17 [.ref a, .int x] h Q ↔ XE d 17 0 [.val (.ref a), .val (.int x)] [] h Q := XC_in rfl
theorem s17_0 : XE d 17 0 (c0 :: .val (.int x) :: l) st h Q ↔ XE d 17 1 (c0 :: .val (.int x) :: l) (.int x :: st) h Q := g_iload rfl rfl
theorem s17_1 : XE d 17 1 ls st h Q ↔ XE d 17 2 ls (.int 0 :: st) h Q := g_const rfl
theorem s17_2 : XE d 17 2 (.val (.ref a) :: l) st h Q ↔ XE d 17 3 (.val (.ref a) :: l) (.ref a :: st) h Q := g_aload rfl rfl
theorem s17_3 : XE d 17 3 ls (.ref a :: st) h Q ↔ XG [5] 1 (h.2.2.1 a) (fun v => XE d 17 6 ls (v :: st) h Q) := g_getf rfl
theorem s17_6 : XE d 17 6 ls st h Q ↔ XE d 17 7 ls (.int 1 :: st) h Q := g_const rfl
theorem s17_7 : XE d 17 7 ls (.int y :: .int x :: st) h Q ↔ XE d 17 8 ls (.int (x - y) :: st) h Q := g_sub rfl
theorem s17_8 : XE d 17 8 ls (.int z :: .int y :: .int x :: st) h Q ↔ (xvo 8 st = true ∧ XC d 123 [.int x, .int y, .int z] h (fun v h' => XE d 17 11 ls (v.toList ++ st) h' Q)) := h_s3 rfl rfl
theorem s17_11 : XE d 17 11 ls [.int 0] h Q ↔ Q (some (.int 0)) h := g_zret rfl rfl
theorem s17_11t : XE d 17 11 ls [.int 1] h Q ↔ Q (some (.int 1)) h := g_zret rfl rfl
theorem s17_11b : XE d 17 11 ls [.int (bI q)] h Q ↔ Q (some (.int (bI q))) h := g_zret (bI_nar q) rfl
-- 18: TwoBells$Sheet.hasPlaces(II)Z
theorem e18 : XC (d + 1) 18 [.ref a, .int x, .int y] h Q ↔ XE d 18 0 [.val (.ref a), .val (.int x), .val (.int y)] [] h Q := XC_in rfl
theorem s18_0 : XE d 18 0 (c0 :: c1 :: .val (.int x) :: l) st h Q ↔ XE d 18 1 (c0 :: c1 :: .val (.int x) :: l) (.int x :: st) h Q := g_iload rfl rfl
theorem s18_1 : XE d 18 1 ls (.int x :: st) h Q ↔ (if x < 0 then XE d 18 22 ls st h Q else XE d 18 4 ls st h Q) := g_iflt rfl
theorem s18_4 : XE d 18 4 (c0 :: .val (.int x) :: l) st h Q ↔ XE d 18 5 (c0 :: .val (.int x) :: l) (.int x :: st) h Q := g_iload rfl rfl
theorem s18_5 : XE d 18 5 ls (.int x :: st) h Q ↔ (if x < 0 then XE d 18 22 ls st h Q else XE d 18 8 ls st h Q) := g_iflt rfl
theorem s18_8 : XE d 18 8 (c0 :: .val (.int x) :: l) st h Q ↔ XE d 18 9 (c0 :: .val (.int x) :: l) (.int x :: st) h Q := g_iload rfl rfl
theorem s18_9 : XE d 18 9 (.val (.ref a) :: l) st h Q ↔ XE d 18 10 (.val (.ref a) :: l) (.ref a :: st) h Q := g_aload rfl rfl
theorem s18_10 : XE d 18 10 ls (.ref a :: st) h Q ↔ XG [5] 1 (h.2.2.1 a) (fun v => XE d 18 13 ls (v :: st) h Q) := g_getf rfl
theorem s18_13 : XE d 18 13 (c0 :: c1 :: .val (.int x) :: l) st h Q ↔ XE d 18 14 (c0 :: c1 :: .val (.int x) :: l) (.int x :: st) h Q := g_iload rfl rfl
theorem s18_14 : XE d 18 14 ls (.int y :: .int x :: st) h Q ↔ XE d 18 15 ls (.int (x - y) :: st) h Q := g_sub rfl
theorem s18_15 : XE d 18 15 ls (.int y :: .int x :: st) h Q ↔ (if y < x then XE d 18 22 ls st h Q else XE d 18 18 ls st h Q) := g_cgt rfl
theorem s18_18 : XE d 18 18 ls st h Q ↔ XE d 18 19 ls (.int 1 :: st) h Q := g_const rfl
theorem s18_19 : XE d 18 19 ls st h Q ↔ XE d 18 23 ls st h Q := g_goto rfl
theorem s18_22 : XE d 18 22 ls st h Q ↔ XE d 18 23 ls (.int 0 :: st) h Q := g_const rfl
theorem s18_23 : XE d 18 23 ls [.int 0] h Q ↔ Q (some (.int 0)) h := g_zret rfl rfl
theorem s18_23t : XE d 18 23 ls [.int 1] h Q ↔ Q (some (.int 1)) h := g_zret rfl rfl
theorem s18_23b : XE d 18 23 ls [.int (bI q)] h Q ↔ Q (some (.int (bI q))) h := g_zret (bI_nar q) rfl
-- 19: TwoBells$Slot.<init>()V
theorem e19 : XC (d + 1) 19 [.ref a] h Q ↔ XE d 19 0 [.val (.ref a)] [] h Q := XC_in rfl
theorem s19_0 : XE d 19 0 (.val (.ref a) :: l) st h Q ↔ XE d 19 1 (.val (.ref a) :: l) (.ref a :: st) h Q := g_aload rfl rfl
theorem s19_1 : XE d 19 1 ls (.ref a :: st) h Q ↔ (xvo 8 st = true ∧ XE d 19 4 ls st h Q) := h_objinit rfl
theorem s19_4 : XE d 19 4 (.val (.ref a) :: l) st h Q ↔ XE d 19 5 (.val (.ref a) :: l) (.ref a :: st) h Q := g_aload rfl rfl
theorem s19_5 : XE d 19 5 ls st h Q ↔ XE d 19 6 ls (.int 0 :: st) h Q := g_const rfl
theorem s19_6 : XE d 19 6 ls (.int x :: .ref a :: st) h Q ↔ XP [6] 0 (.int x) (h.2.2.1 a) (fun e => XE d 19 9 ls st (xset h a e) Q) := g_puti rfl
theorem s19_9 : XE d 19 9 (.val (.ref a) :: l) st h Q ↔ XE d 19 10 (.val (.ref a) :: l) (.ref a :: st) h Q := g_aload rfl rfl
theorem s19_10 : XE d 19 10 ls st h Q ↔ XE d 19 11 ls (.null :: st) h Q := g_null rfl
theorem s19_11 : XE d 19 11 ls (.ref b :: .ref a :: st) h Q ↔ XP [6] 1 (.ref b) (h.2.2.1 a) (fun e => XE d 19 14 ls st (xset h a e) Q) := g_putaR rfl
theorem s19_11n : XE d 19 11 ls (.null :: .ref a :: st) h Q ↔ XP [6] 1 .null (h.2.2.1 a) (fun e => XE d 19 14 ls st (xset h a e) Q) := g_putaN rfl
theorem s19_14 : XE d 19 14 (.val (.ref a) :: l) st h Q ↔ XE d 19 15 (.val (.ref a) :: l) (.ref a :: st) h Q := g_aload rfl rfl
theorem s19_15 : XE d 19 15 ls st h Q ↔ XE d 19 18 ls (.ref h.1 :: st) (xnew h 3 (.inr (5, [.int 0, .int 0, .null]))) Q := g_new rfl
theorem s19_18 : XE d 19 18 ls (.int x :: st) h Q ↔ XE d 19 19 ls (.int x :: .int x :: st) h Q := g_dupI rfl
theorem s19_18r : XE d 19 18 ls (.ref a :: st) h Q ↔ XE d 19 19 ls (.ref a :: .ref a :: st) h Q := g_dupR rfl
theorem s19_19 : XE d 19 19 ls (.ref a :: st) h Q ↔ (xvo 8 st = true ∧ XV [(5, 15)] (h.2.2.1 a) (fun m' => XC d m' [.ref a] h (fun v h' => XE d 19 22 ls (v.toList ++ st) h' Q))) := h_v0 rfl
theorem s19_22 : XE d 19 22 ls (.ref b :: .ref a :: st) h Q ↔ XP [6] 2 (.ref b) (h.2.2.1 a) (fun e => XE d 19 25 ls st (xset h a e) Q) := g_putaR rfl
theorem s19_22n : XE d 19 22 ls (.null :: .ref a :: st) h Q ↔ XP [6] 2 .null (h.2.2.1 a) (fun e => XE d 19 25 ls st (xset h a e) Q) := g_putaN rfl
theorem s19_25 : XE d 19 25 (.val (.ref a) :: l) st h Q ↔ XE d 19 26 (.val (.ref a) :: l) (.ref a :: st) h Q := g_aload rfl rfl
theorem s19_26 : XE d 19 26 ls st h Q ↔ XE d 19 27 ls (.int 0 :: st) h Q := g_const rfl
theorem s19_27 : XE d 19 27 ls (.int x :: .ref a :: st) h Q ↔ XP [6] 3 (.int x) (h.2.2.1 a) (fun e => XE d 19 30 ls st (xset h a e) Q) := g_puti rfl
theorem s19_30 : XE d 19 30 ls [] h Q ↔ Q none h := g_ret rfl
-- 20: TwoBells$Tape.<init>()V
theorem e20 : XC (d + 1) 20 [.ref a] h Q ↔ XE d 20 0 [.val (.ref a)] [] h Q := XC_in rfl
theorem s20_0 : XE d 20 0 (.val (.ref a) :: l) st h Q ↔ XE d 20 1 (.val (.ref a) :: l) (.ref a :: st) h Q := g_aload rfl rfl
theorem s20_1 : XE d 20 1 ls (.ref a :: st) h Q ↔ (xvo 8 st = true ∧ XE d 20 4 ls st h Q) := h_objinit rfl
theorem s20_4 : XE d 20 4 (.val (.ref a) :: l) st h Q ↔ XE d 20 5 (.val (.ref a) :: l) (.ref a :: st) h Q := g_aload rfl rfl
theorem s20_5 : XE d 20 5 ls st h Q ↔ XE d 20 6 ls (.int 0 :: st) h Q := g_const rfl
theorem s20_6 : XE d 20 6 ls (.int x :: .ref a :: st) h Q ↔ XP [7] 0 (.int x) (h.2.2.1 a) (fun e => XE d 20 9 ls st (xset h a e) Q) := g_puti rfl
theorem s20_9 : XE d 20 9 (.val (.ref a) :: l) st h Q ↔ XE d 20 10 (.val (.ref a) :: l) (.ref a :: st) h Q := g_aload rfl rfl
theorem s20_10 : XE d 20 10 ls st h Q ↔ XE d 20 12 ls (.int 96 :: st) h Q := g_const rfl
theorem s20_12 : XE d 20 12 ls (.int x :: st) h Q ↔ ((0 ≤ x ∧ x.toNatClampNeg ≤ 100000) ∧ XE d 20 14 ls (.ref h.1 :: st) (xnew h x.toNatClampNeg (.inl (0, xis x.toNatClampNeg (fun _ => 0)))) Q) := g_newa rfl
theorem s20_14 : XE d 20 14 ls (.ref b :: .ref a :: st) h Q ↔ XP [7] 1 (.ref b) (h.2.2.1 a) (fun e => XE d 20 17 ls st (xset h a e) Q) := g_putaR rfl
theorem s20_14n : XE d 20 14 ls (.null :: .ref a :: st) h Q ↔ XP [7] 1 .null (h.2.2.1 a) (fun e => XE d 20 17 ls st (xset h a e) Q) := g_putaN rfl
theorem s20_17 : XE d 20 17 (.val (.ref a) :: l) st h Q ↔ XE d 20 18 (.val (.ref a) :: l) (.ref a :: st) h Q := g_aload rfl rfl
theorem s20_18 : XE d 20 18 ls st h Q ↔ XE d 20 20 ls (.int 96 :: st) h Q := g_const rfl
theorem s20_20 : XE d 20 20 ls (.int x :: st) h Q ↔ ((0 ≤ x ∧ x.toNatClampNeg ≤ 100000) ∧ XE d 20 22 ls (.ref h.1 :: st) (xnew h x.toNatClampNeg (.inl (0, xis x.toNatClampNeg (fun _ => 0)))) Q) := g_newa rfl
theorem s20_22 : XE d 20 22 ls (.ref b :: .ref a :: st) h Q ↔ XP [7] 7 (.ref b) (h.2.2.1 a) (fun e => XE d 20 25 ls st (xset h a e) Q) := g_putaR rfl
theorem s20_22n : XE d 20 22 ls (.null :: .ref a :: st) h Q ↔ XP [7] 7 .null (h.2.2.1 a) (fun e => XE d 20 25 ls st (xset h a e) Q) := g_putaN rfl
theorem s20_25 : XE d 20 25 (.val (.ref a) :: l) st h Q ↔ XE d 20 26 (.val (.ref a) :: l) (.ref a :: st) h Q := g_aload rfl rfl
theorem s20_26 : XE d 20 26 ls st h Q ↔ XE d 20 28 ls (.int 96 :: st) h Q := g_const rfl
theorem s20_28 : XE d 20 28 ls (.int x :: st) h Q ↔ ((0 ≤ x ∧ x.toNatClampNeg ≤ 100000) ∧ XE d 20 30 ls (.ref h.1 :: st) (xnew h x.toNatClampNeg (.inl (0, xis x.toNatClampNeg (fun _ => 0)))) Q) := g_newa rfl
theorem s20_30 : XE d 20 30 ls (.ref b :: .ref a :: st) h Q ↔ XP [7] 9 (.ref b) (h.2.2.1 a) (fun e => XE d 20 33 ls st (xset h a e) Q) := g_putaR rfl
theorem s20_30n : XE d 20 30 ls (.null :: .ref a :: st) h Q ↔ XP [7] 9 .null (h.2.2.1 a) (fun e => XE d 20 33 ls st (xset h a e) Q) := g_putaN rfl
theorem s20_33 : XE d 20 33 ls [] h Q ↔ Q none h := g_ret rfl
-- 21: TwoBells$Tape.addFour(I)V
theorem e21 : XC (d + 1) 21 [.ref a, .int x] h Q ↔ XE d 21 0 [.val (.ref a), .val (.int x), .unset] [] h Q := XC_in rfl
theorem s21_0 : XE d 21 0 ls st h Q ↔ XE d 21 2 ls (.int 24 :: st) h Q := g_const rfl
theorem s21_2 : XE d 21 2 (c0 :: c1 :: c2 :: l) (.int x :: st) h Q ↔ XE d 21 3 (c0 :: c1 :: .val (.int x) :: l) st h Q := g_istore (Nat.lt_of_lt_of_le (show 2 < 3 by decide) (Nat.le_add_left 3 _)) rfl rfl
theorem s21_3 : XE d 21 3 (c0 :: c1 :: .val (.int x) :: l) st h Q ↔ XE d 21 4 (c0 :: c1 :: .val (.int x) :: l) (.int x :: st) h Q := g_iload rfl rfl
theorem s21_4 : XE d 21 4 ls (.int x :: st) h Q ↔ (if x < 0 then XE d 21 48 ls st h Q else XE d 21 7 ls st h Q) := g_iflt rfl
theorem s21_7 : XE d 21 7 (.val (.ref a) :: l) st h Q ↔ XE d 21 8 (.val (.ref a) :: l) (.ref a :: st) h Q := g_aload rfl rfl
theorem s21_8 : XE d 21 8 ls (.ref a :: st) h Q ↔ XG [7] 0 (h.2.2.1 a) (fun v => XE d 21 11 ls (v :: st) h Q) := g_getf rfl
theorem s21_11 : XE d 21 11 ls st h Q ↔ XE d 21 13 ls (.int 96 :: st) h Q := g_const rfl
theorem s21_13 : XE d 21 13 ls (.int y :: .int x :: st) h Q ↔ (if x < y then XE d 21 16 ls st h Q else XE d 21 48 ls st h Q) := g_cge rfl
theorem s21_16 : XE d 21 16 (.val (.ref a) :: l) st h Q ↔ XE d 21 17 (.val (.ref a) :: l) (.ref a :: st) h Q := g_aload rfl rfl
theorem s21_17 : XE d 21 17 ls (.ref a :: st) h Q ↔ XG [7] 1 (h.2.2.1 a) (fun v => XE d 21 20 ls (v :: st) h Q) := g_getf rfl
theorem s21_20 : XE d 21 20 (.val (.ref a) :: l) st h Q ↔ XE d 21 21 (.val (.ref a) :: l) (.ref a :: st) h Q := g_aload rfl rfl
theorem s21_21 : XE d 21 21 ls (.ref a :: st) h Q ↔ XG [7] 0 (h.2.2.1 a) (fun v => XE d 21 24 ls (v :: st) h Q) := g_getf rfl
theorem s21_24 : XE d 21 24 (c0 :: .val (.int x) :: l) st h Q ↔ XE d 21 25 (c0 :: .val (.int x) :: l) (.int x :: st) h Q := g_iload rfl rfl
theorem s21_25 : XE d 21 25 (c0 :: c1 :: .val (.int x) :: l) st h Q ↔ XE d 21 26 (c0 :: c1 :: .val (.int x) :: l) (.int x :: st) h Q := g_iload rfl rfl
theorem s21_26 : XE d 21 26 ls (.int y :: .int x :: st) h Q ↔ XE d 21 27 ls (.int (xushr x y) :: st) h Q := g_ushr rfl
theorem s21_27 : XE d 21 27 ls st h Q ↔ XE d 21 30 ls (.int 255 :: st) h Q := g_const rfl
theorem s21_30 : XE d 21 30 ls (.int y :: .int x :: st) h Q ↔ XE d 21 31 ls (.int (x &&& y) :: st) h Q := g_and rfl
theorem s21_31 : XE d 21 31 ls (.int y :: .int x :: .ref a :: st) h Q ↔ XS 0 (h.2.2.1 a) x y (fun e => XE d 21 32 ls st (xset h a e) Q) := g_iast rfl
theorem s21_32 : XE d 21 32 (.val (.ref a) :: l) st h Q ↔ XE d 21 33 (.val (.ref a) :: l) (.ref a :: st) h Q := g_aload rfl rfl
theorem s21_33 : XE d 21 33 ls (.int x :: st) h Q ↔ XE d 21 34 ls (.int x :: .int x :: st) h Q := g_dupI rfl
theorem s21_33r : XE d 21 33 ls (.ref a :: st) h Q ↔ XE d 21 34 ls (.ref a :: .ref a :: st) h Q := g_dupR rfl
theorem s21_34 : XE d 21 34 ls (.ref a :: st) h Q ↔ XG [7] 0 (h.2.2.1 a) (fun v => XE d 21 37 ls (v :: st) h Q) := g_getf rfl
theorem s21_37 : XE d 21 37 ls st h Q ↔ XE d 21 38 ls (.int 1 :: st) h Q := g_const rfl
theorem s21_38 : XE d 21 38 ls (.int y :: .int x :: st) h Q ↔ XE d 21 39 ls (.int (x + y) :: st) h Q := g_add rfl
theorem s21_39 : XE d 21 39 ls (.int x :: .ref a :: st) h Q ↔ XP [7] 0 (.int x) (h.2.2.1 a) (fun e => XE d 21 42 ls st (xset h a e) Q) := g_puti rfl
theorem s21_42 : XE d 21 42 (c0 :: c1 :: .val (.int x) :: l) st h Q ↔ XE d 21 45 (c0 :: c1 :: .val (.int (x + (-8))) :: l) st h Q := g_iinc rfl rfl rfl
theorem s21_45 : XE d 21 45 ls st h Q ↔ XE d 21 3 ls st h Q := g_goto rfl
theorem s21_48 : XE d 21 48 ls [] h Q ↔ Q none h := g_ret rfl
-- 22: TwoBells$Tape.fault()I
theorem e22 : XC (d + 1) 22 [.ref a] h Q ↔ XE d 22 0 [.val (.ref a), .unset] [] h Q := XC_in rfl
theorem s22_0 : XE d 22 0 (.val (.ref a) :: l) st h Q ↔ XE d 22 1 (.val (.ref a) :: l) (.ref a :: st) h Q := g_aload rfl rfl
theorem s22_1 : XE d 22 1 ls st h Q ↔ XE d 22 2 ls (.int 0 :: st) h Q := g_const rfl
theorem s22_2 : XE d 22 2 ls (.int x :: .ref a :: st) h Q ↔ XP [7] 3 (.int x) (h.2.2.1 a) (fun e => XE d 22 5 ls st (xset h a e) Q) := g_puti rfl
theorem s22_5 : XE d 22 5 (.val (.ref a) :: l) st h Q ↔ XE d 22 6 (.val (.ref a) :: l) (.ref a :: st) h Q := g_aload rfl rfl
theorem s22_6 : XE d 22 6 ls st h Q ↔ XE d 22 7 ls (.int 0 :: st) h Q := g_const rfl
theorem s22_7 : XE d 22 7 ls (.int x :: .ref a :: st) h Q ↔ XP [7] 6 (.int x) (h.2.2.1 a) (fun e => XE d 22 10 ls st (xset h a e) Q) := g_puti rfl
theorem s22_10 : XE d 22 10 (.val (.ref a) :: l) st h Q ↔ XE d 22 11 (.val (.ref a) :: l) (.ref a :: st) h Q := g_aload rfl rfl
theorem s22_11 : XE d 22 11 ls st h Q ↔ XE d 22 12 ls (.int 0 :: st) h Q := g_const rfl
theorem s22_12 : XE d 22 12 ls (.int x :: .ref a :: st) h Q ↔ XP [7] 8 (.int x) (h.2.2.1 a) (fun e => XE d 22 15 ls st (xset h a e) Q) := g_puti rfl
theorem s22_15 : XE d 22 15 (.val (.ref a) :: l) st h Q ↔ XE d 22 16 (.val (.ref a) :: l) (.ref a :: st) h Q := g_aload rfl rfl
theorem s22_16 : XE d 22 16 ls st h Q ↔ XE d 22 17 ls (.int 0 :: st) h Q := g_const rfl
theorem s22_17 : XE d 22 17 ls (.int x :: .ref a :: st) h Q ↔ XP [7] 10 (.int x) (h.2.2.1 a) (fun e => XE d 22 20 ls st (xset h a e) Q) := g_puti rfl
theorem s22_20 : XE d 22 20 (.val (.ref a) :: l) st h Q ↔ XE d 22 21 (.val (.ref a) :: l) (.ref a :: st) h Q := g_aload rfl rfl
theorem s22_21 : XE d 22 21 ls st h Q ↔ XE d 22 22 ls (.int 0 :: st) h Q := g_const rfl
theorem s22_22 : XE d 22 22 ls (.int x :: .ref a :: st) h Q ↔ XP [7] 11 (.int x) (h.2.2.1 a) (fun e => XE d 22 25 ls st (xset h a e) Q) := g_puti rfl
theorem s22_25 : XE d 22 25 (.val (.ref a) :: l) st h Q ↔ XE d 22 26 (.val (.ref a) :: l) (.ref a :: st) h Q := g_aload rfl rfl
theorem s22_26 : XE d 22 26 ls st h Q ↔ XE d 22 27 ls (.int 0 :: st) h Q := g_const rfl
theorem s22_27 : XE d 22 27 ls (.int x :: .ref a :: st) h Q ↔ XP [7] 12 (.int x) (h.2.2.1 a) (fun e => XE d 22 30 ls st (xset h a e) Q) := g_puti rfl
theorem s22_30 : XE d 22 30 (.val (.ref a) :: l) st h Q ↔ XE d 22 31 (.val (.ref a) :: l) (.ref a :: st) h Q := g_aload rfl rfl
theorem s22_31 : XE d 22 31 ls st h Q ↔ XE d 22 32 ls (.int 1 :: st) h Q := g_const rfl
theorem s22_32 : XE d 22 32 ls (.int x :: .ref a :: st) h Q ↔ ((x = 0 ∨ x = 1) ∧ XP [7] 13 (.int x) (h.2.2.1 a) (fun e => XE d 22 35 ls st (xset h a e) Q)) := g_putz rfl
theorem s22_35 : XE d 22 35 (.val (.ref a) :: l) st h Q ↔ XE d 22 36 (.val (.ref a) :: l) (.ref a :: st) h Q := g_aload rfl rfl
theorem s22_36 : XE d 22 36 ls (.ref a :: st) h Q ↔ (xvo 8 st = true ∧ XV [(7, 26)] (h.2.2.1 a) (fun m' => XC d m' [.ref a] h (fun v h' => XE d 22 39 ls (v.toList ++ st) h' Q))) := h_v0 rfl
theorem s22_39 : XE d 22 39 (.val (.ref a) :: l) st h Q ↔ XE d 22 40 (.val (.ref a) :: l) (.ref a :: st) h Q := g_aload rfl rfl
theorem s22_40 : XE d 22 40 (.val (.ref a) :: l) st h Q ↔ XE d 22 41 (.val (.ref a) :: l) (.ref a :: st) h Q := g_aload rfl rfl
theorem s22_41 : XE d 22 41 ls (.ref a :: st) h Q ↔ (xvo 8 st = true ∧ XV [(7, 28)] (h.2.2.1 a) (fun m' => XC d m' [.ref a] h (fun v h' => XE d 22 44 ls (v.toList ++ st) h' Q))) := h_v0 rfl
theorem s22_44 : XE d 22 44 ls (.int x :: .ref a :: st) h Q ↔ XP [7] 5 (.int x) (h.2.2.1 a) (fun e => XE d 22 47 ls st (xset h a e) Q) := g_puti rfl
theorem s22_47 : XE d 22 47 (.val (.ref a) :: l) st h Q ↔ XE d 22 48 (.val (.ref a) :: l) (.ref a :: st) h Q := g_aload rfl rfl
theorem s22_48 : XE d 22 48 ls (.ref a :: st) h Q ↔ XG [7] 5 (h.2.2.1 a) (fun v => XE d 22 51 ls (v :: st) h Q) := g_getf rfl
theorem s22_51 : XE d 22 51 ls st h Q ↔ XE d 22 53 ls (.int (-1000000005) :: st) h Q := g_const rfl
theorem s22_53 : XE d 22 53 ls (.int y :: .int x :: st) h Q ↔ (if x = y then XE d 22 56 ls st h Q else XE d 22 61 ls st h Q) := g_cne rfl
theorem s22_56 : XE d 22 56 (.val (.ref a) :: l) st h Q ↔ XE d 22 57 (.val (.ref a) :: l) (.ref a :: st) h Q := g_aload rfl rfl
theorem s22_57 : XE d 22 57 ls (.ref a :: st) h Q ↔ XG [7] 2 (h.2.2.1 a) (fun v => XE d 22 60 ls (v :: st) h Q) := g_getf rfl
theorem s22_60 : XE d 22 60 ls [.int x] h Q ↔ Q (some (.int x)) h := g_iret rfl
theorem s22_61 : XE d 22 61 ls st h Q ↔ XE d 22 62 ls (.int 0 :: st) h Q := g_const rfl
theorem s22_62 : XE d 22 62 (c0 :: c1 :: l) (.int x :: st) h Q ↔ XE d 22 63 (c0 :: .val (.int x) :: l) st h Q := g_istore (Nat.lt_of_lt_of_le (show 1 < 2 by decide) (Nat.le_add_left 2 _)) rfl rfl
theorem s22_63 : XE d 22 63 (c0 :: .val (.int x) :: l) st h Q ↔ XE d 22 64 (c0 :: .val (.int x) :: l) (.int x :: st) h Q := g_iload rfl rfl
theorem s22_64 : XE d 22 64 ls st h Q ↔ XE d 22 66 ls (.int 96 :: st) h Q := g_const rfl
theorem s22_66 : XE d 22 66 ls (.int y :: .int x :: st) h Q ↔ (if y < x then XE d 22 139 ls st h Q else XE d 22 69 ls st h Q) := g_cgt rfl
theorem s22_69 : XE d 22 69 (.val (.ref a) :: l) st h Q ↔ XE d 22 70 (.val (.ref a) :: l) (.ref a :: st) h Q := g_aload rfl rfl
theorem s22_70 : XE d 22 70 ls (.ref a :: st) h Q ↔ (xvo 8 st = true ∧ XV [(7, 26)] (h.2.2.1 a) (fun m' => XC d m' [.ref a] h (fun v h' => XE d 22 73 ls (v.toList ++ st) h' Q))) := h_v0 rfl
theorem s22_73 : XE d 22 73 (.val (.ref a) :: l) st h Q ↔ XE d 22 74 (.val (.ref a) :: l) (.ref a :: st) h Q := g_aload rfl rfl
theorem s22_74 : XE d 22 74 ls (.ref a :: st) h Q ↔ XG [7] 4 (h.2.2.1 a) (fun v => XE d 22 77 ls (v :: st) h Q) := g_getf rfl
theorem s22_77 : XE d 22 77 ls (.int x :: st) h Q ↔ (if x = 0 then XE d 22 80 ls st h Q else XE d 22 104 ls st h Q) := g_ifne rfl
theorem s22_80 : XE d 22 80 (.val (.ref a) :: l) st h Q ↔ XE d 22 81 (.val (.ref a) :: l) (.ref a :: st) h Q := g_aload rfl rfl
theorem s22_81 : XE d 22 81 ls (.ref a :: st) h Q ↔ XG [7] 13 (h.2.2.1 a) (fun v => XE d 22 84 ls (v :: st) h Q) := g_getf rfl
theorem s22_84 : XE d 22 84 ls (.int x :: st) h Q ↔ (if x = 0 then XE d 22 87 ls st h Q else XE d 22 94 ls st h Q) := g_ifne rfl
theorem s22_87 : XE d 22 87 (.val (.ref a) :: l) st h Q ↔ XE d 22 88 (.val (.ref a) :: l) (.ref a :: st) h Q := g_aload rfl rfl
theorem s22_88 : XE d 22 88 ls (.ref a :: st) h Q ↔ XG [7] 11 (h.2.2.1 a) (fun v => XE d 22 91 ls (v :: st) h Q) := g_getf rfl
theorem s22_91 : XE d 22 91 ls (.int x :: st) h Q ↔ (if 0 < x then XE d 22 94 ls st h Q else XE d 22 101 ls st h Q) := g_ifle rfl
theorem s22_94 : XE d 22 94 (.val (.ref a) :: l) st h Q ↔ XE d 22 95 (.val (.ref a) :: l) (.ref a :: st) h Q := g_aload rfl rfl
theorem s22_95 : XE d 22 95 ls (.ref a :: st) h Q ↔ XG [7] 2 (h.2.2.1 a) (fun v => XE d 22 98 ls (v :: st) h Q) := g_getf rfl
theorem s22_98 : XE d 22 98 ls st h Q ↔ XE d 22 103 ls st h Q := g_goto rfl
theorem s22_101 : XE d 22 101 ls st h Q ↔ XE d 22 103 ls (.int (-1000000005) :: st) h Q := g_const rfl
theorem s22_103 : XE d 22 103 ls [.int x] h Q ↔ Q (some (.int x)) h := g_iret rfl
theorem s22_104 : XE d 22 104 (.val (.ref a) :: l) st h Q ↔ XE d 22 105 (.val (.ref a) :: l) (.ref a :: st) h Q := g_aload rfl rfl
theorem s22_105 : XE d 22 105 ls (.ref a :: st) h Q ↔ XG [7] 13 (h.2.2.1 a) (fun v => XE d 22 108 ls (v :: st) h Q) := g_getf rfl
theorem s22_108 : XE d 22 108 ls (.int x :: st) h Q ↔ (if x = 0 then XE d 22 121 ls st h Q else XE d 22 111 ls st h Q) := g_ifeq rfl
theorem s22_111 : XE d 22 111 (.val (.ref a) :: l) st h Q ↔ XE d 22 112 (.val (.ref a) :: l) (.ref a :: st) h Q := g_aload rfl rfl
theorem s22_112 : XE d 22 112 ls (.ref a :: st) h Q ↔ (xvo 8 st = true ∧ XV [(7, 31)] (h.2.2.1 a) (fun m' => XC d m' [.ref a] h (fun v h' => XE d 22 115 ls (v.toList ++ st) h' Q))) := h_v0 rfl
theorem s22_115 : XE d 22 115 ls (.int x :: st) h Q ↔ (if x = 0 then XE d 22 118 ls st h Q else XE d 22 133 ls st h Q) := g_ifne rfl
theorem s22_118 : XE d 22 118 ls st h Q ↔ XE d 22 128 ls st h Q := g_goto rfl
theorem s22_121 : XE d 22 121 (.val (.ref a) :: l) st h Q ↔ XE d 22 122 (.val (.ref a) :: l) (.ref a :: st) h Q := g_aload rfl rfl
theorem s22_122 : XE d 22 122 ls (.ref a :: st) h Q ↔ (xvo 8 st = true ∧ XV [(7, 33)] (h.2.2.1 a) (fun m' => XC d m' [.ref a] h (fun v h' => XE d 22 125 ls (v.toList ++ st) h' Q))) := h_v0 rfl
theorem s22_125 : XE d 22 125 ls (.int x :: st) h Q ↔ (if x = 0 then XE d 22 128 ls st h Q else XE d 22 133 ls st h Q) := g_ifne rfl
theorem s22_128 : XE d 22 128 (.val (.ref a) :: l) st h Q ↔ XE d 22 129 (.val (.ref a) :: l) (.ref a :: st) h Q := g_aload rfl rfl
theorem s22_129 : XE d 22 129 ls (.ref a :: st) h Q ↔ XG [7] 2 (h.2.2.1 a) (fun v => XE d 22 132 ls (v :: st) h Q) := g_getf rfl
theorem s22_132 : XE d 22 132 ls [.int x] h Q ↔ Q (some (.int x)) h := g_iret rfl
theorem s22_133 : XE d 22 133 (c0 :: .val (.int x) :: l) st h Q ↔ XE d 22 136 (c0 :: .val (.int (x + 1)) :: l) st h Q := g_iinc rfl rfl rfl
theorem s22_136 : XE d 22 136 ls st h Q ↔ XE d 22 63 ls st h Q := g_goto rfl
theorem s22_139 : XE d 22 139 (.val (.ref a) :: l) st h Q ↔ XE d 22 140 (.val (.ref a) :: l) (.ref a :: st) h Q := g_aload rfl rfl
theorem s22_140 : XE d 22 140 ls (.ref a :: st) h Q ↔ XG [7] 0 (h.2.2.1 a) (fun v => XE d 22 143 ls (v :: st) h Q) := g_getf rfl
theorem s22_143 : XE d 22 143 ls [.int x] h Q ↔ Q (some (.int x)) h := g_iret rfl
-- 23: TwoBells$Tape.asText()LTwoBells$Text;
theorem e23 : XC (d + 1) 23 [.ref a] h Q ↔ XE d 23 0 [.val (.ref a)] [] h Q := XC_in rfl
theorem s23_0 : XE d 23 0 (.val (.ref a) :: l) st h Q ↔ XE d 23 1 (.val (.ref a) :: l) (.ref a :: st) h Q := g_aload rfl rfl
theorem s23_1 : XE d 23 1 ls (.ref a :: st) h Q ↔ XG [7] 10 (h.2.2.1 a) (fun v => XE d 23 4 ls (v :: st) h Q) := g_getf rfl
theorem s23_4 : XE d 23 4 ls (.int x :: st) h Q ↔ (if 0 < x then XE d 23 7 ls st h Q else XE d 23 32 ls st h Q) := g_ifle rfl
theorem s23_7 : XE d 23 7 (.val (.ref a) :: l) st h Q ↔ XE d 23 8 (.val (.ref a) :: l) (.ref a :: st) h Q := g_aload rfl rfl
theorem s23_8 : XE d 23 8 ls st h Q ↔ XE d 23 11 ls (.int (-1000) :: st) h Q := g_const rfl
theorem s23_11 : XE d 23 11 (.val (.ref a) :: l) st h Q ↔ XE d 23 12 (.val (.ref a) :: l) (.ref a :: st) h Q := g_aload rfl rfl
theorem s23_12 : XE d 23 12 ls (.ref a :: st) h Q ↔ (xvo 8 st = true ∧ XV [(7, 37)] (h.2.2.1 a) (fun m' => XC d m' [.ref a] h (fun v h' => XE d 23 15 ls (v.toList ++ st) h' Q))) := h_v0 rfl
theorem s23_15 : XE d 23 15 ls (.int y :: .int x :: st) h Q ↔ XE d 23 16 ls (.int (x - y) :: st) h Q := g_sub rfl
theorem s23_16 : XE d 23 16 ls (.int x :: .ref a :: st) h Q ↔ (xvo 8 st = true ∧ XV [(7, 39)] (h.2.2.1 a) (fun m' => XC d m' [.ref a, .int x] h (fun v h' => XE d 23 19 ls (v.toList ++ st) h' Q))) := h_v1 rfl rfl
theorem s23_19 : XE d 23 19 (.val (.ref a) :: l) st h Q ↔ XE d 23 20 (.val (.ref a) :: l) (.ref a :: st) h Q := g_aload rfl rfl
theorem s23_20 : XE d 23 20 ls (.int x :: st) h Q ↔ XE d 23 21 ls (.int x :: .int x :: st) h Q := g_dupI rfl
theorem s23_20r : XE d 23 20 ls (.ref a :: st) h Q ↔ XE d 23 21 ls (.ref a :: .ref a :: st) h Q := g_dupR rfl
theorem s23_21 : XE d 23 21 ls (.ref a :: st) h Q ↔ XG [7] 10 (h.2.2.1 a) (fun v => XE d 23 24 ls (v :: st) h Q) := g_getf rfl
theorem s23_24 : XE d 23 24 ls st h Q ↔ XE d 23 25 ls (.int 1 :: st) h Q := g_const rfl
theorem s23_25 : XE d 23 25 ls (.int y :: .int x :: st) h Q ↔ XE d 23 26 ls (.int (x - y) :: st) h Q := g_sub rfl
theorem s23_26 : XE d 23 26 ls (.int x :: .ref a :: st) h Q ↔ XP [7] 10 (.int x) (h.2.2.1 a) (fun e => XE d 23 29 ls st (xset h a e) Q) := g_puti rfl
theorem s23_29 : XE d 23 29 ls st h Q ↔ XE d 23 0 ls st h Q := g_goto rfl
theorem s23_32 : XE d 23 32 ls st h Q ↔ XE d 23 35 ls (.ref h.1 :: st) (xnew h 4 (.inr (8, [.int 0, .int 0, .null, .null]))) Q := g_new rfl
theorem s23_35 : XE d 23 35 ls (.int x :: st) h Q ↔ XE d 23 36 ls (.int x :: .int x :: st) h Q := g_dupI rfl
theorem s23_35r : XE d 23 35 ls (.ref a :: st) h Q ↔ XE d 23 36 ls (.ref a :: .ref a :: st) h Q := g_dupR rfl
theorem s23_36 : XE d 23 36 (.val (.ref a) :: l) st h Q ↔ XE d 23 37 (.val (.ref a) :: l) (.ref a :: st) h Q := g_aload rfl rfl
theorem s23_37 : XE d 23 37 ls (.ref a :: st) h Q ↔ XG [7] 5 (h.2.2.1 a) (fun v => XE d 23 40 ls (v :: st) h Q) := g_getf rfl
theorem s23_40 : XE d 23 40 (.val (.ref a) :: l) st h Q ↔ XE d 23 41 (.val (.ref a) :: l) (.ref a :: st) h Q := g_aload rfl rfl
theorem s23_41 : XE d 23 41 ls (.ref a :: st) h Q ↔ XG [7] 6 (h.2.2.1 a) (fun v => XE d 23 44 ls (v :: st) h Q) := g_getf rfl
theorem s23_44 : XE d 23 44 (.val (.ref a) :: l) st h Q ↔ XE d 23 45 (.val (.ref a) :: l) (.ref a :: st) h Q := g_aload rfl rfl
theorem s23_45 : XE d 23 45 ls (.ref a :: st) h Q ↔ XG [7] 7 (h.2.2.1 a) (fun v => XE d 23 48 ls (v :: st) h Q) := g_getf rfl
theorem s23_48 : XE d 23 48 (.val (.ref a) :: l) st h Q ↔ XE d 23 49 (.val (.ref a) :: l) (.ref a :: st) h Q := g_aload rfl rfl
theorem s23_49 : XE d 23 49 ls (.ref a :: st) h Q ↔ XG [7] 8 (h.2.2.1 a) (fun v => XE d 23 52 ls (v :: st) h Q) := g_getf rfl
theorem s23_52 : XE d 23 52 ls (.int x :: .ref b :: st) h Q ↔ (xvo 8 st = true ∧ XC d 241 [.ref b, .int x] h (fun v h' => XE d 23 55 ls (v.toList ++ st) h' Q)) := h_s2 rfl rfl
theorem s23_55 : XE d 23 55 ls (.ref b :: .int y :: .int x :: .ref a :: st) h Q ↔ (xvo 8 st = true ∧ XV [(8, 40)] (h.2.2.1 a) (fun m' => XC d m' [.ref a, .int x, .int y, .ref b] h (fun v h' => XE d 23 58 ls (v.toList ++ st) h' Q))) := h_v3 rfl rfl
theorem s23_58 : XE d 23 58 ls [.ref a] h Q ↔ Q (some (.ref a)) h := g_aretR rfl
theorem s23_58n : XE d 23 58 ls [.null] h Q ↔ Q (some .null) h := g_aretN rfl
-- 24: TwoBells$Tape.byteAt(I)I
theorem e24 : XC (d + 1) 24 [.ref a, .int x] h Q ↔ XE d 24 0 [.val (.ref a), .val (.int x)] [] h Q := XC_in rfl
theorem s24_0 : XE d 24 0 (c0 :: .val (.int x) :: l) st h Q ↔ XE d 24 1 (c0 :: .val (.int x) :: l) (.int x :: st) h Q := g_iload rfl rfl
theorem s24_1 : XE d 24 1 ls (.int x :: st) h Q ↔ (if x < 0 then XE d 24 27 ls st h Q else XE d 24 4 ls st h Q) := g_iflt rfl
theorem s24_4 : XE d 24 4 (c0 :: .val (.int x) :: l) st h Q ↔ XE d 24 5 (c0 :: .val (.int x) :: l) (.int x :: st) h Q := g_iload rfl rfl
theorem s24_5 : XE d 24 5 (.val (.ref a) :: l) st h Q ↔ XE d 24 6 (.val (.ref a) :: l) (.ref a :: st) h Q := g_aload rfl rfl
theorem s24_6 : XE d 24 6 ls (.ref a :: st) h Q ↔ XG [7] 0 (h.2.2.1 a) (fun v => XE d 24 9 ls (v :: st) h Q) := g_getf rfl
theorem s24_9 : XE d 24 9 ls (.int y :: .int x :: st) h Q ↔ (if x < y then XE d 24 12 ls st h Q else XE d 24 27 ls st h Q) := g_cge rfl
theorem s24_12 : XE d 24 12 (c0 :: .val (.int x) :: l) st h Q ↔ XE d 24 13 (c0 :: .val (.int x) :: l) (.int x :: st) h Q := g_iload rfl rfl
theorem s24_13 : XE d 24 13 ls st h Q ↔ XE d 24 15 ls (.int 96 :: st) h Q := g_const rfl
theorem s24_15 : XE d 24 15 ls (.int y :: .int x :: st) h Q ↔ (if x < y then XE d 24 18 ls st h Q else XE d 24 27 ls st h Q) := g_cge rfl
theorem s24_18 : XE d 24 18 (.val (.ref a) :: l) st h Q ↔ XE d 24 19 (.val (.ref a) :: l) (.ref a :: st) h Q := g_aload rfl rfl
theorem s24_19 : XE d 24 19 ls (.ref a :: st) h Q ↔ XG [7] 1 (h.2.2.1 a) (fun v => XE d 24 22 ls (v :: st) h Q) := g_getf rfl
theorem s24_22 : XE d 24 22 (c0 :: .val (.int x) :: l) st h Q ↔ XE d 24 23 (c0 :: .val (.int x) :: l) (.int x :: st) h Q := g_iload rfl rfl
theorem s24_23 : XE d 24 23 ls (.int x :: .ref a :: st) h Q ↔ XA [0, 7] (h.2.2.1 a) x (fun k => XE d 24 24 ls (.int k :: st) h Q) := g_ald rfl
theorem s24_24 : XE d 24 24 ls st h Q ↔ XE d 24 28 ls st h Q := g_goto rfl
theorem s24_27 : XE d 24 27 ls st h Q ↔ XE d 24 28 ls (.int 0 :: st) h Q := g_const rfl
theorem s24_28 : XE d 24 28 ls [.int x] h Q ↔ Q (some (.int x)) h := g_iret rfl
-- 25: TwoBells$Tape.sortOf(I)I
theorem e25 : XC (d + 1) 25 [.int x] h Q ↔ XE d 25 0 [.val (.int x)] [] h Q := XC_in rfl
theorem s25_0 : XE d 25 0 (.val (.int x) :: l) st h Q ↔ XE d 25 1 (.val (.int x) :: l) (.int x :: st) h Q := g_iload rfl rfl
theorem s25_1 : XE d 25 1 ls st h Q ↔ XE d 25 3 ls (.int 97 :: st) h Q := g_const rfl
theorem s25_3 : XE d 25 3 ls (.int y :: .int x :: st) h Q ↔ (if x < y then XE d 25 14 ls st h Q else XE d 25 6 ls st h Q) := g_clt rfl
theorem s25_6 : XE d 25 6 (.val (.int x) :: l) st h Q ↔ XE d 25 7 (.val (.int x) :: l) (.int x :: st) h Q := g_iload rfl rfl
theorem s25_7 : XE d 25 7 ls st h Q ↔ XE d 25 9 ls (.int 122 :: st) h Q := g_const rfl
theorem s25_9 : XE d 25 9 ls (.int y :: .int x :: st) h Q ↔ (if y < x then XE d 25 14 ls st h Q else XE d 25 12 ls st h Q) := g_cgt rfl
theorem s25_12 : XE d 25 12 ls st h Q ↔ XE d 25 13 ls (.int 1 :: st) h Q := g_const rfl
theorem s25_13 : XE d 25 13 ls [.int x] h Q ↔ Q (some (.int x)) h := g_iret rfl
theorem s25_14 : XE d 25 14 (.val (.int x) :: l) st h Q ↔ XE d 25 15 (.val (.int x) :: l) (.int x :: st) h Q := g_iload rfl rfl
theorem s25_15 : XE d 25 15 ls st h Q ↔ XE d 25 17 ls (.int 48 :: st) h Q := g_const rfl
theorem s25_17 : XE d 25 17 ls (.int y :: .int x :: st) h Q ↔ (if x < y then XE d 25 30 ls st h Q else XE d 25 20 ls st h Q) := g_clt rfl
theorem s25_20 : XE d 25 20 (.val (.int x) :: l) st h Q ↔ XE d 25 21 (.val (.int x) :: l) (.int x :: st) h Q := g_iload rfl rfl
theorem s25_21 : XE d 25 21 ls st h Q ↔ XE d 25 23 ls (.int 57 :: st) h Q := g_const rfl
theorem s25_23 : XE d 25 23 ls (.int y :: .int x :: st) h Q ↔ (if y < x then XE d 25 30 ls st h Q else XE d 25 26 ls st h Q) := g_cgt rfl
theorem s25_26 : XE d 25 26 ls st h Q ↔ XE d 25 27 ls (.int 2 :: st) h Q := g_const rfl
theorem s25_27 : XE d 25 27 ls st h Q ↔ XE d 25 31 ls st h Q := g_goto rfl
theorem s25_30 : XE d 25 30 ls st h Q ↔ XE d 25 31 ls (.int 3 :: st) h Q := g_const rfl
theorem s25_31 : XE d 25 31 ls [.int x] h Q ↔ Q (some (.int x)) h := g_iret rfl
-- 26: TwoBells$Tape.step()V
theorem e26 : XC (d + 1) 26 [.ref a] h Q ↔ XE d 26 0 [.val (.ref a)] [] h Q := XC_in rfl
theorem s26_0 : XE d 26 0 (.val (.ref a) :: l) st h Q ↔ XE d 26 1 (.val (.ref a) :: l) (.ref a :: st) h Q := g_aload rfl rfl
theorem s26_1 : XE d 26 1 (.val (.ref a) :: l) st h Q ↔ XE d 26 2 (.val (.ref a) :: l) (.ref a :: st) h Q := g_aload rfl rfl
theorem s26_2 : XE d 26 2 ls (.ref a :: st) h Q ↔ XG [7] 3 (h.2.2.1 a) (fun v => XE d 26 5 ls (v :: st) h Q) := g_getf rfl
theorem s26_5 : XE d 26 5 ls (.int x :: .ref a :: st) h Q ↔ XP [7] 2 (.int x) (h.2.2.1 a) (fun e => XE d 26 8 ls st (xset h a e) Q) := g_puti rfl
theorem s26_8 : XE d 26 8 (.val (.ref a) :: l) st h Q ↔ XE d 26 9 (.val (.ref a) :: l) (.ref a :: st) h Q := g_aload rfl rfl
theorem s26_9 : XE d 26 9 ls (.ref a :: st) h Q ↔ XG [7] 2 (h.2.2.1 a) (fun v => XE d 26 12 ls (v :: st) h Q) := g_getf rfl
theorem s26_12 : XE d 26 12 (.val (.ref a) :: l) st h Q ↔ XE d 26 13 (.val (.ref a) :: l) (.ref a :: st) h Q := g_aload rfl rfl
theorem s26_13 : XE d 26 13 ls (.ref a :: st) h Q ↔ XG [7] 0 (h.2.2.1 a) (fun v => XE d 26 16 ls (v :: st) h Q) := g_getf rfl
theorem s26_16 : XE d 26 16 ls (.int y :: .int x :: st) h Q ↔ (if x < y then XE d 26 19 ls st h Q else XE d 26 45 ls st h Q) := g_cge rfl
theorem s26_19 : XE d 26 19 (.val (.ref a) :: l) st h Q ↔ XE d 26 20 (.val (.ref a) :: l) (.ref a :: st) h Q := g_aload rfl rfl
theorem s26_20 : XE d 26 20 (.val (.ref a) :: l) st h Q ↔ XE d 26 21 (.val (.ref a) :: l) (.ref a :: st) h Q := g_aload rfl rfl
theorem s26_21 : XE d 26 21 ls (.ref a :: st) h Q ↔ XG [7] 2 (h.2.2.1 a) (fun v => XE d 26 24 ls (v :: st) h Q) := g_getf rfl
theorem s26_24 : XE d 26 24 ls (.int x :: .ref a :: st) h Q ↔ (xvo 8 st = true ∧ XV [(7, 24)] (h.2.2.1 a) (fun m' => XC d m' [.ref a, .int x] h (fun v h' => XE d 26 27 ls (v.toList ++ st) h' Q))) := h_v1 rfl rfl
theorem s26_27 : XE d 26 27 ls st h Q ↔ XE d 26 29 ls (.int 32 :: st) h Q := g_const rfl
theorem s26_29 : XE d 26 29 ls (.int y :: .int x :: st) h Q ↔ (if x = y then XE d 26 32 ls st h Q else XE d 26 45 ls st h Q) := g_cne rfl
theorem s26_32 : XE d 26 32 (.val (.ref a) :: l) st h Q ↔ XE d 26 33 (.val (.ref a) :: l) (.ref a :: st) h Q := g_aload rfl rfl
theorem s26_33 : XE d 26 33 ls (.int x :: st) h Q ↔ XE d 26 34 ls (.int x :: .int x :: st) h Q := g_dupI rfl
theorem s26_33r : XE d 26 33 ls (.ref a :: st) h Q ↔ XE d 26 34 ls (.ref a :: .ref a :: st) h Q := g_dupR rfl
theorem s26_34 : XE d 26 34 ls (.ref a :: st) h Q ↔ XG [7] 2 (h.2.2.1 a) (fun v => XE d 26 37 ls (v :: st) h Q) := g_getf rfl
theorem s26_37 : XE d 26 37 ls st h Q ↔ XE d 26 38 ls (.int 1 :: st) h Q := g_const rfl
theorem s26_38 : XE d 26 38 ls (.int y :: .int x :: st) h Q ↔ XE d 26 39 ls (.int (x + y) :: st) h Q := g_add rfl
theorem s26_39 : XE d 26 39 ls (.int x :: .ref a :: st) h Q ↔ XP [7] 2 (.int x) (h.2.2.1 a) (fun e => XE d 26 42 ls st (xset h a e) Q) := g_puti rfl
theorem s26_42 : XE d 26 42 ls st h Q ↔ XE d 26 8 ls st h Q := g_goto rfl
theorem s26_45 : XE d 26 45 (.val (.ref a) :: l) st h Q ↔ XE d 26 46 (.val (.ref a) :: l) (.ref a :: st) h Q := g_aload rfl rfl
theorem s26_46 : XE d 26 46 (.val (.ref a) :: l) st h Q ↔ XE d 26 47 (.val (.ref a) :: l) (.ref a :: st) h Q := g_aload rfl rfl
theorem s26_47 : XE d 26 47 ls (.ref a :: st) h Q ↔ XG [7] 2 (h.2.2.1 a) (fun v => XE d 26 50 ls (v :: st) h Q) := g_getf rfl
theorem s26_50 : XE d 26 50 ls (.int x :: .ref a :: st) h Q ↔ XP [7] 3 (.int x) (h.2.2.1 a) (fun e => XE d 26 53 ls st (xset h a e) Q) := g_puti rfl
theorem s26_53 : XE d 26 53 (.val (.ref a) :: l) st h Q ↔ XE d 26 54 (.val (.ref a) :: l) (.ref a :: st) h Q := g_aload rfl rfl
theorem s26_54 : XE d 26 54 ls st h Q ↔ XE d 26 55 ls (.int 0 :: st) h Q := g_const rfl
theorem s26_55 : XE d 26 55 ls (.int x :: .ref a :: st) h Q ↔ XP [7] 4 (.int x) (h.2.2.1 a) (fun e => XE d 26 58 ls st (xset h a e) Q) := g_puti rfl
theorem s26_58 : XE d 26 58 (.val (.ref a) :: l) st h Q ↔ XE d 26 59 (.val (.ref a) :: l) (.ref a :: st) h Q := g_aload rfl rfl
theorem s26_59 : XE d 26 59 ls (.ref a :: st) h Q ↔ XG [7] 2 (h.2.2.1 a) (fun v => XE d 26 62 ls (v :: st) h Q) := g_getf rfl
theorem s26_62 : XE d 26 62 (.val (.ref a) :: l) st h Q ↔ XE d 26 63 (.val (.ref a) :: l) (.ref a :: st) h Q := g_aload rfl rfl
theorem s26_63 : XE d 26 63 ls (.ref a :: st) h Q ↔ XG [7] 0 (h.2.2.1 a) (fun v => XE d 26 66 ls (v :: st) h Q) := g_getf rfl
theorem s26_66 : XE d 26 66 ls (.int y :: .int x :: st) h Q ↔ (if x < y then XE d 26 70 ls st h Q else XE d 26 69 ls st h Q) := g_clt rfl
theorem s26_69 : XE d 26 69 ls [] h Q ↔ Q none h := g_ret rfl
theorem s26_70 : XE d 26 70 (.val (.ref a) :: l) st h Q ↔ XE d 26 71 (.val (.ref a) :: l) (.ref a :: st) h Q := g_aload rfl rfl
theorem s26_71 : XE d 26 71 (.val (.ref a) :: l) st h Q ↔ XE d 26 72 (.val (.ref a) :: l) (.ref a :: st) h Q := g_aload rfl rfl
theorem s26_72 : XE d 26 72 (.val (.ref a) :: l) st h Q ↔ XE d 26 73 (.val (.ref a) :: l) (.ref a :: st) h Q := g_aload rfl rfl
theorem s26_73 : XE d 26 73 ls (.ref a :: st) h Q ↔ XG [7] 2 (h.2.2.1 a) (fun v => XE d 26 76 ls (v :: st) h Q) := g_getf rfl
theorem s26_76 : XE d 26 76 ls (.int x :: .ref a :: st) h Q ↔ (xvo 8 st = true ∧ XV [(7, 24)] (h.2.2.1 a) (fun m' => XC d m' [.ref a, .int x] h (fun v h' => XE d 26 79 ls (v.toList ++ st) h' Q))) := h_v1 rfl rfl
theorem s26_79 : XE d 26 79 ls (.int x :: st) h Q ↔ (xvo 8 st = true ∧ XC d 25 [.int x] h (fun v h' => XE d 26 82 ls (v.toList ++ st) h' Q)) := h_s1 rfl rfl
theorem s26_82 : XE d 26 82 ls (.int x :: .ref a :: st) h Q ↔ XP [7] 4 (.int x) (h.2.2.1 a) (fun e => XE d 26 85 ls st (xset h a e) Q) := g_puti rfl
theorem s26_85 : XE d 26 85 (.val (.ref a) :: l) st h Q ↔ XE d 26 86 (.val (.ref a) :: l) (.ref a :: st) h Q := g_aload rfl rfl
theorem s26_86 : XE d 26 86 ls (.int x :: st) h Q ↔ XE d 26 87 ls (.int x :: .int x :: st) h Q := g_dupI rfl
theorem s26_86r : XE d 26 86 ls (.ref a :: st) h Q ↔ XE d 26 87 ls (.ref a :: .ref a :: st) h Q := g_dupR rfl
theorem s26_87 : XE d 26 87 ls (.ref a :: st) h Q ↔ XG [7] 3 (h.2.2.1 a) (fun v => XE d 26 90 ls (v :: st) h Q) := g_getf rfl
theorem s26_90 : XE d 26 90 ls st h Q ↔ XE d 26 91 ls (.int 1 :: st) h Q := g_const rfl
theorem s26_91 : XE d 26 91 ls (.int y :: .int x :: st) h Q ↔ XE d 26 92 ls (.int (x + y) :: st) h Q := g_add rfl
theorem s26_92 : XE d 26 92 ls (.int x :: .ref a :: st) h Q ↔ XP [7] 3 (.int x) (h.2.2.1 a) (fun e => XE d 26 95 ls st (xset h a e) Q) := g_puti rfl
theorem s26_95 : XE d 26 95 (.val (.ref a) :: l) st h Q ↔ XE d 26 96 (.val (.ref a) :: l) (.ref a :: st) h Q := g_aload rfl rfl
theorem s26_96 : XE d 26 96 ls (.ref a :: st) h Q ↔ XG [7] 4 (h.2.2.1 a) (fun v => XE d 26 99 ls (v :: st) h Q) := g_getf rfl
theorem s26_99 : XE d 26 99 ls st h Q ↔ XE d 26 100 ls (.int 3 :: st) h Q := g_const rfl
theorem s26_100 : XE d 26 100 ls (.int y :: .int x :: st) h Q ↔ (if x = y then XE d 26 145 ls st h Q else XE d 26 103 ls st h Q) := g_ceq rfl
theorem s26_103 : XE d 26 103 (.val (.ref a) :: l) st h Q ↔ XE d 26 104 (.val (.ref a) :: l) (.ref a :: st) h Q := g_aload rfl rfl
theorem s26_104 : XE d 26 104 ls (.ref a :: st) h Q ↔ XG [7] 3 (h.2.2.1 a) (fun v => XE d 26 107 ls (v :: st) h Q) := g_getf rfl
theorem s26_107 : XE d 26 107 (.val (.ref a) :: l) st h Q ↔ XE d 26 108 (.val (.ref a) :: l) (.ref a :: st) h Q := g_aload rfl rfl
theorem s26_108 : XE d 26 108 ls (.ref a :: st) h Q ↔ XG [7] 0 (h.2.2.1 a) (fun v => XE d 26 111 ls (v :: st) h Q) := g_getf rfl
theorem s26_111 : XE d 26 111 ls (.int y :: .int x :: st) h Q ↔ (if x < y then XE d 26 114 ls st h Q else XE d 26 145 ls st h Q) := g_cge rfl
theorem s26_114 : XE d 26 114 (.val (.ref a) :: l) st h Q ↔ XE d 26 115 (.val (.ref a) :: l) (.ref a :: st) h Q := g_aload rfl rfl
theorem s26_115 : XE d 26 115 (.val (.ref a) :: l) st h Q ↔ XE d 26 116 (.val (.ref a) :: l) (.ref a :: st) h Q := g_aload rfl rfl
theorem s26_116 : XE d 26 116 ls (.ref a :: st) h Q ↔ XG [7] 3 (h.2.2.1 a) (fun v => XE d 26 119 ls (v :: st) h Q) := g_getf rfl
theorem s26_119 : XE d 26 119 ls (.int x :: .ref a :: st) h Q ↔ (xvo 8 st = true ∧ XV [(7, 24)] (h.2.2.1 a) (fun m' => XC d m' [.ref a, .int x] h (fun v h' => XE d 26 122 ls (v.toList ++ st) h' Q))) := h_v1 rfl rfl
theorem s26_122 : XE d 26 122 ls (.int x :: st) h Q ↔ (xvo 8 st = true ∧ XC d 25 [.int x] h (fun v h' => XE d 26 125 ls (v.toList ++ st) h' Q)) := h_s1 rfl rfl
theorem s26_125 : XE d 26 125 (.val (.ref a) :: l) st h Q ↔ XE d 26 126 (.val (.ref a) :: l) (.ref a :: st) h Q := g_aload rfl rfl
theorem s26_126 : XE d 26 126 ls (.ref a :: st) h Q ↔ XG [7] 4 (h.2.2.1 a) (fun v => XE d 26 129 ls (v :: st) h Q) := g_getf rfl
theorem s26_129 : XE d 26 129 ls (.int y :: .int x :: st) h Q ↔ (if x = y then XE d 26 132 ls st h Q else XE d 26 145 ls st h Q) := g_cne rfl
theorem s26_132 : XE d 26 132 (.val (.ref a) :: l) st h Q ↔ XE d 26 133 (.val (.ref a) :: l) (.ref a :: st) h Q := g_aload rfl rfl
theorem s26_133 : XE d 26 133 ls (.int x :: st) h Q ↔ XE d 26 134 ls (.int x :: .int x :: st) h Q := g_dupI rfl
theorem s26_133r : XE d 26 133 ls (.ref a :: st) h Q ↔ XE d 26 134 ls (.ref a :: .ref a :: st) h Q := g_dupR rfl
theorem s26_134 : XE d 26 134 ls (.ref a :: st) h Q ↔ XG [7] 3 (h.2.2.1 a) (fun v => XE d 26 137 ls (v :: st) h Q) := g_getf rfl
theorem s26_137 : XE d 26 137 ls st h Q ↔ XE d 26 138 ls (.int 1 :: st) h Q := g_const rfl
theorem s26_138 : XE d 26 138 ls (.int y :: .int x :: st) h Q ↔ XE d 26 139 ls (.int (x + y) :: st) h Q := g_add rfl
theorem s26_139 : XE d 26 139 ls (.int x :: .ref a :: st) h Q ↔ XP [7] 3 (.int x) (h.2.2.1 a) (fun e => XE d 26 142 ls st (xset h a e) Q) := g_puti rfl
theorem s26_142 : XE d 26 142 ls st h Q ↔ XE d 26 95 ls st h Q := g_goto rfl
theorem s26_145 : XE d 26 145 ls [] h Q ↔ Q none h := g_ret rfl
-- 27: TwoBells$Tape.isWord(Ljava/lang/String;)Z
theorem e27 : XC (d + 1) 27 [.ref a, .ref b] h Q ↔ XE d 27 0 [.val (.ref a), .val (.ref b), .unset] [] h Q := XC_in rfl
theorem s27_0 : XE d 27 0 (.val (.ref a) :: l) st h Q ↔ XE d 27 1 (.val (.ref a) :: l) (.ref a :: st) h Q := g_aload rfl rfl
theorem s27_1 : XE d 27 1 ls (.ref a :: st) h Q ↔ XG [7] 4 (h.2.2.1 a) (fun v => XE d 27 4 ls (v :: st) h Q) := g_getf rfl
theorem s27_4 : XE d 27 4 ls st h Q ↔ XE d 27 5 ls (.int 1 :: st) h Q := g_const rfl
theorem s27_5 : XE d 27 5 ls (.int y :: .int x :: st) h Q ↔ (if x = y then XE d 27 8 ls st h Q else XE d 27 24 ls st h Q) := g_cne rfl
theorem s27_8 : XE d 27 8 (.val (.ref a) :: l) st h Q ↔ XE d 27 9 (.val (.ref a) :: l) (.ref a :: st) h Q := g_aload rfl rfl
theorem s27_9 : XE d 27 9 ls (.ref a :: st) h Q ↔ XG [7] 3 (h.2.2.1 a) (fun v => XE d 27 12 ls (v :: st) h Q) := g_getf rfl
theorem s27_12 : XE d 27 12 (.val (.ref a) :: l) st h Q ↔ XE d 27 13 (.val (.ref a) :: l) (.ref a :: st) h Q := g_aload rfl rfl
theorem s27_13 : XE d 27 13 ls (.ref a :: st) h Q ↔ XG [7] 2 (h.2.2.1 a) (fun v => XE d 27 16 ls (v :: st) h Q) := g_getf rfl
theorem s27_16 : XE d 27 16 ls (.int y :: .int x :: st) h Q ↔ XE d 27 17 ls (.int (x - y) :: st) h Q := g_sub rfl
theorem s27_17 : XE d 27 17 (c0 :: .val (.ref a) :: l) st h Q ↔ XE d 27 18 (c0 :: .val (.ref a) :: l) (.ref a :: st) h Q := g_aload rfl rfl
theorem s27_17n : XE d 27 17 (c0 :: .val .null :: l) st h Q ↔ XE d 27 18 (c0 :: .val .null :: l) (.null :: st) h Q := g_aloadN rfl rfl
theorem s27_18 : XE d 27 18 ls (.ref a :: st) h Q ↔ (xvo 8 st = true ∧ h.2.2.2 (100 + 3 * a) = .int 20 ∧ XC d 229 [.ref a] h (fun v h' => XE d 27 21 ls (v.toList ++ st) h' Q)) := h_w0 rfl
theorem s27_21 : XE d 27 21 ls (.int y :: .int x :: st) h Q ↔ (if x = y then XE d 27 26 ls st h Q else XE d 27 24 ls st h Q) := g_ceq rfl
theorem s27_24 : XE d 27 24 ls st h Q ↔ XE d 27 25 ls (.int 0 :: st) h Q := g_const rfl
theorem s27_25 : XE d 27 25 ls [.int 0] h Q ↔ Q (some (.int 0)) h := g_zret rfl rfl
theorem s27_25t : XE d 27 25 ls [.int 1] h Q ↔ Q (some (.int 1)) h := g_zret rfl rfl
theorem s27_25b : XE d 27 25 ls [.int (bI q)] h Q ↔ Q (some (.int (bI q))) h := g_zret (bI_nar q) rfl
theorem s27_26 : XE d 27 26 ls st h Q ↔ XE d 27 27 ls (.int 0 :: st) h Q := g_const rfl
theorem s27_27 : XE d 27 27 (c0 :: c1 :: c2 :: l) (.int x :: st) h Q ↔ XE d 27 28 (c0 :: c1 :: .val (.int x) :: l) st h Q := g_istore (Nat.lt_of_lt_of_le (show 2 < 3 by decide) (Nat.le_add_left 3 _)) rfl rfl
theorem s27_28 : XE d 27 28 (c0 :: c1 :: .val (.int x) :: l) st h Q ↔ XE d 27 29 (c0 :: c1 :: .val (.int x) :: l) (.int x :: st) h Q := g_iload rfl rfl
theorem s27_29 : XE d 27 29 (c0 :: .val (.ref a) :: l) st h Q ↔ XE d 27 30 (c0 :: .val (.ref a) :: l) (.ref a :: st) h Q := g_aload rfl rfl
theorem s27_29n : XE d 27 29 (c0 :: .val .null :: l) st h Q ↔ XE d 27 30 (c0 :: .val .null :: l) (.null :: st) h Q := g_aloadN rfl rfl
theorem s27_30 : XE d 27 30 ls (.ref a :: st) h Q ↔ (xvo 8 st = true ∧ h.2.2.2 (100 + 3 * a) = .int 20 ∧ XC d 229 [.ref a] h (fun v h' => XE d 27 33 ls (v.toList ++ st) h' Q)) := h_w0 rfl
theorem s27_33 : XE d 27 33 ls (.int y :: .int x :: st) h Q ↔ (if x < y then XE d 27 36 ls st h Q else XE d 27 62 ls st h Q) := g_cge rfl
theorem s27_36 : XE d 27 36 (.val (.ref a) :: l) st h Q ↔ XE d 27 37 (.val (.ref a) :: l) (.ref a :: st) h Q := g_aload rfl rfl
theorem s27_37 : XE d 27 37 (.val (.ref a) :: l) st h Q ↔ XE d 27 38 (.val (.ref a) :: l) (.ref a :: st) h Q := g_aload rfl rfl
theorem s27_38 : XE d 27 38 ls (.ref a :: st) h Q ↔ XG [7] 2 (h.2.2.1 a) (fun v => XE d 27 41 ls (v :: st) h Q) := g_getf rfl
theorem s27_41 : XE d 27 41 (c0 :: c1 :: .val (.int x) :: l) st h Q ↔ XE d 27 42 (c0 :: c1 :: .val (.int x) :: l) (.int x :: st) h Q := g_iload rfl rfl
theorem s27_42 : XE d 27 42 ls (.int y :: .int x :: st) h Q ↔ XE d 27 43 ls (.int (x + y) :: st) h Q := g_add rfl
theorem s27_43 : XE d 27 43 ls (.int x :: .ref a :: st) h Q ↔ (xvo 8 st = true ∧ XV [(7, 24)] (h.2.2.1 a) (fun m' => XC d m' [.ref a, .int x] h (fun v h' => XE d 27 46 ls (v.toList ++ st) h' Q))) := h_v1 rfl rfl
theorem s27_46 : XE d 27 46 (c0 :: .val (.ref a) :: l) st h Q ↔ XE d 27 47 (c0 :: .val (.ref a) :: l) (.ref a :: st) h Q := g_aload rfl rfl
theorem s27_46n : XE d 27 46 (c0 :: .val .null :: l) st h Q ↔ XE d 27 47 (c0 :: .val .null :: l) (.null :: st) h Q := g_aloadN rfl rfl
theorem s27_47 : XE d 27 47 (c0 :: c1 :: .val (.int x) :: l) st h Q ↔ XE d 27 48 (c0 :: c1 :: .val (.int x) :: l) (.int x :: st) h Q := g_iload rfl rfl
theorem s27_48 : XE d 27 48 ls (.int x :: .ref a :: st) h Q ↔ (xvo 8 st = true ∧ h.2.2.2 (100 + 3 * a) = .int 20 ∧ XC d 230 [.ref a, .int x] h (fun v h' => XE d 27 51 ls (v.toList ++ st) h' Q)) := h_w1 rfl rfl
theorem s27_51 : XE d 27 51 ls (.int y :: .int x :: st) h Q ↔ (if x = y then XE d 27 56 ls st h Q else XE d 27 54 ls st h Q) := g_ceq rfl
theorem s27_54 : XE d 27 54 ls st h Q ↔ XE d 27 55 ls (.int 0 :: st) h Q := g_const rfl
theorem s27_55 : XE d 27 55 ls [.int 0] h Q ↔ Q (some (.int 0)) h := g_zret rfl rfl
theorem s27_55t : XE d 27 55 ls [.int 1] h Q ↔ Q (some (.int 1)) h := g_zret rfl rfl
theorem s27_55b : XE d 27 55 ls [.int (bI q)] h Q ↔ Q (some (.int (bI q))) h := g_zret (bI_nar q) rfl
theorem s27_56 : XE d 27 56 (c0 :: c1 :: .val (.int x) :: l) st h Q ↔ XE d 27 59 (c0 :: c1 :: .val (.int (x + 1)) :: l) st h Q := g_iinc rfl rfl rfl
theorem s27_59 : XE d 27 59 ls st h Q ↔ XE d 27 28 ls st h Q := g_goto rfl
theorem s27_62 : XE d 27 62 ls st h Q ↔ XE d 27 63 ls (.int 1 :: st) h Q := g_const rfl
theorem s27_63 : XE d 27 63 ls [.int 0] h Q ↔ Q (some (.int 0)) h := g_zret rfl rfl
theorem s27_63t : XE d 27 63 ls [.int 1] h Q ↔ Q (some (.int 1)) h := g_zret rfl rfl
theorem s27_63b : XE d 27 63 ls [.int (bI q)] h Q ↔ Q (some (.int (bI q))) h := g_zret (bI_nar q) rfl
-- 28: TwoBells$Tape.keyHere()I
theorem e28 : XC (d + 1) 28 [.ref a] h Q ↔ XE d 28 0 [.val (.ref a)] [] h Q := XC_in rfl
theorem s28_0 : XE d 28 0 (.val (.ref a) :: l) st h Q ↔ XE d 28 1 (.val (.ref a) :: l) (.ref a :: st) h Q := g_aload rfl rfl
theorem s28_1 : XE d 28 1 ls st h Q ↔ XE d 28 3 ls (h.2.2.2 1 :: st) h Q := g_gets rfl
theorem s28_3 : XE d 28 3 ls (.ref b :: .ref a :: st) h Q ↔ (xvo 8 st = true ∧ XV [(7, 27)] (h.2.2.1 a) (fun m' => XC d m' [.ref a, .ref b] h (fun v h' => XE d 28 6 ls (v.toList ++ st) h' Q))) := h_v1 rfl rfl
theorem s28_6 : XE d 28 6 ls (.int x :: st) h Q ↔ (if x = 0 then XE d 28 11 ls st h Q else XE d 28 9 ls st h Q) := g_ifeq rfl
theorem s28_9 : XE d 28 9 ls st h Q ↔ XE d 28 10 ls (.int 0 :: st) h Q := g_const rfl
theorem s28_10 : XE d 28 10 ls [.int x] h Q ↔ Q (some (.int x)) h := g_iret rfl
theorem s28_11 : XE d 28 11 (.val (.ref a) :: l) st h Q ↔ XE d 28 12 (.val (.ref a) :: l) (.ref a :: st) h Q := g_aload rfl rfl
theorem s28_12 : XE d 28 12 ls st h Q ↔ XE d 28 14 ls (h.2.2.2 2 :: st) h Q := g_gets rfl
theorem s28_14 : XE d 28 14 ls (.ref b :: .ref a :: st) h Q ↔ (xvo 8 st = true ∧ XV [(7, 27)] (h.2.2.1 a) (fun m' => XC d m' [.ref a, .ref b] h (fun v h' => XE d 28 17 ls (v.toList ++ st) h' Q))) := h_v1 rfl rfl
theorem s28_17 : XE d 28 17 ls (.int x :: st) h Q ↔ (if x = 0 then XE d 28 22 ls st h Q else XE d 28 20 ls st h Q) := g_ifeq rfl
theorem s28_20 : XE d 28 20 ls st h Q ↔ XE d 28 21 ls (.int 1 :: st) h Q := g_const rfl
theorem s28_21 : XE d 28 21 ls [.int x] h Q ↔ Q (some (.int x)) h := g_iret rfl
theorem s28_22 : XE d 28 22 (.val (.ref a) :: l) st h Q ↔ XE d 28 23 (.val (.ref a) :: l) (.ref a :: st) h Q := g_aload rfl rfl
theorem s28_23 : XE d 28 23 ls st h Q ↔ XE d 28 25 ls (h.2.2.2 3 :: st) h Q := g_gets rfl
theorem s28_25 : XE d 28 25 ls (.ref b :: .ref a :: st) h Q ↔ (xvo 8 st = true ∧ XV [(7, 27)] (h.2.2.1 a) (fun m' => XC d m' [.ref a, .ref b] h (fun v h' => XE d 28 28 ls (v.toList ++ st) h' Q))) := h_v1 rfl rfl
theorem s28_28 : XE d 28 28 ls (.int x :: st) h Q ↔ (if x = 0 then XE d 28 35 ls st h Q else XE d 28 31 ls st h Q) := g_ifeq rfl
theorem s28_31 : XE d 28 31 ls st h Q ↔ XE d 28 32 ls (.int 2 :: st) h Q := g_const rfl
theorem s28_32 : XE d 28 32 ls st h Q ↔ XE d 28 37 ls st h Q := g_goto rfl
theorem s28_35 : XE d 28 35 ls st h Q ↔ XE d 28 37 ls (.int (-1000000005) :: st) h Q := g_const rfl
theorem s28_37 : XE d 28 37 ls [.int x] h Q ↔ Q (some (.int x)) h := g_iret rfl
-- 29: TwoBells$Tape.nameHere()I
theorem e29 : XC (d + 1) 29 [.ref a] h Q ↔ XE d 29 0 [.val (.ref a), .unset] [] h Q := XC_in rfl
theorem s29_0 : XE d 29 0 (.val (.ref a) :: l) st h Q ↔ XE d 29 1 (.val (.ref a) :: l) (.ref a :: st) h Q := g_aload rfl rfl
theorem s29_1 : XE d 29 1 ls (.ref a :: st) h Q ↔ XG [7] 3 (h.2.2.1 a) (fun v => XE d 29 4 ls (v :: st) h Q) := g_getf rfl
theorem s29_4 : XE d 29 4 (.val (.ref a) :: l) st h Q ↔ XE d 29 5 (.val (.ref a) :: l) (.ref a :: st) h Q := g_aload rfl rfl
theorem s29_5 : XE d 29 5 ls (.ref a :: st) h Q ↔ XG [7] 2 (h.2.2.1 a) (fun v => XE d 29 8 ls (v :: st) h Q) := g_getf rfl
theorem s29_8 : XE d 29 8 ls (.int y :: .int x :: st) h Q ↔ XE d 29 9 ls (.int (x - y) :: st) h Q := g_sub rfl
theorem s29_9 : XE d 29 9 ls st h Q ↔ XE d 29 10 ls (.int 1 :: st) h Q := g_const rfl
theorem s29_10 : XE d 29 10 ls (.int y :: .int x :: st) h Q ↔ (if x = y then XE d 29 15 ls st h Q else XE d 29 13 ls st h Q) := g_ceq rfl
theorem s29_13 : XE d 29 13 ls st h Q ↔ XE d 29 14 ls (.int (-1) :: st) h Q := g_const rfl
theorem s29_14 : XE d 29 14 ls [.int x] h Q ↔ Q (some (.int x)) h := g_iret rfl
theorem s29_15 : XE d 29 15 (.val (.ref a) :: l) st h Q ↔ XE d 29 16 (.val (.ref a) :: l) (.ref a :: st) h Q := g_aload rfl rfl
theorem s29_16 : XE d 29 16 (.val (.ref a) :: l) st h Q ↔ XE d 29 17 (.val (.ref a) :: l) (.ref a :: st) h Q := g_aload rfl rfl
theorem s29_17 : XE d 29 17 ls (.ref a :: st) h Q ↔ XG [7] 2 (h.2.2.1 a) (fun v => XE d 29 20 ls (v :: st) h Q) := g_getf rfl
theorem s29_20 : XE d 29 20 ls (.int x :: .ref a :: st) h Q ↔ (xvo 8 st = true ∧ XV [(7, 24)] (h.2.2.1 a) (fun m' => XC d m' [.ref a, .int x] h (fun v h' => XE d 29 23 ls (v.toList ++ st) h' Q))) := h_v1 rfl rfl
theorem s29_23 : XE d 29 23 ls (.int x :: st) h Q ↔ XE d 29 24 ls (.int (x.toUInt32 % 65536).toInt32 :: st) h Q := g_i2c rfl
theorem s29_24 : XE d 29 24 (c0 :: c1 :: l) (.int x :: st) h Q ↔ XE d 29 25 (c0 :: .val (.int x) :: l) st h Q := g_istore (Nat.lt_of_lt_of_le (show 1 < 2 by decide) (Nat.le_add_left 2 _)) rfl rfl
theorem s29_25 : XE d 29 25 (.val (.ref a) :: l) st h Q ↔ XE d 29 26 (.val (.ref a) :: l) (.ref a :: st) h Q := g_aload rfl rfl
theorem s29_26 : XE d 29 26 ls (.ref a :: st) h Q ↔ XG [7] 5 (h.2.2.1 a) (fun v => XE d 29 29 ls (v :: st) h Q) := g_getf rfl
theorem s29_29 : XE d 29 29 ls (.int x :: st) h Q ↔ xswi d 29 x 70 ls st h Q [(0, 56), (1, 63)] := g_switch rfl
theorem s29_56 : XE d 29 56 ls st h Q ↔ XE d 29 58 ls (h.2.2.2 4 :: st) h Q := g_gets rfl
theorem s29_58 : XE d 29 58 (c0 :: .val (.int x) :: l) st h Q ↔ XE d 29 59 (c0 :: .val (.int x) :: l) (.int x :: st) h Q := g_iload rfl rfl
theorem s29_59 : XE d 29 59 ls (.int x :: .ref a :: st) h Q ↔ (xvo 8 st = true ∧ h.2.2.2 (100 + 3 * a) = .int 20 ∧ XC d 231 [.ref a, .int x] h (fun v h' => XE d 29 62 ls (v.toList ++ st) h' Q)) := h_w1 rfl rfl
theorem s29_62 : XE d 29 62 ls [.int x] h Q ↔ Q (some (.int x)) h := g_iret rfl
theorem s29_63 : XE d 29 63 ls st h Q ↔ XE d 29 65 ls (h.2.2.2 5 :: st) h Q := g_gets rfl
theorem s29_65 : XE d 29 65 (c0 :: .val (.int x) :: l) st h Q ↔ XE d 29 66 (c0 :: .val (.int x) :: l) (.int x :: st) h Q := g_iload rfl rfl
theorem s29_66 : XE d 29 66 ls (.int x :: .ref a :: st) h Q ↔ (xvo 8 st = true ∧ h.2.2.2 (100 + 3 * a) = .int 20 ∧ XC d 231 [.ref a, .int x] h (fun v h' => XE d 29 69 ls (v.toList ++ st) h' Q)) := h_w1 rfl rfl
theorem s29_69 : XE d 29 69 ls [.int x] h Q ↔ Q (some (.int x)) h := g_iret rfl
theorem s29_70 : XE d 29 70 ls st h Q ↔ XE d 29 72 ls (h.2.2.2 6 :: st) h Q := g_gets rfl
theorem s29_72 : XE d 29 72 (c0 :: .val (.int x) :: l) st h Q ↔ XE d 29 73 (c0 :: .val (.int x) :: l) (.int x :: st) h Q := g_iload rfl rfl
theorem s29_73 : XE d 29 73 ls (.int x :: .ref a :: st) h Q ↔ (xvo 8 st = true ∧ h.2.2.2 (100 + 3 * a) = .int 20 ∧ XC d 231 [.ref a, .int x] h (fun v h' => XE d 29 76 ls (v.toList ++ st) h' Q)) := h_w1 rfl rfl
theorem s29_76 : XE d 29 76 ls [.int x] h Q ↔ Q (some (.int x)) h := g_iret rfl
-- 30: TwoBells$Tape.numberHere()I
theorem e30 : XC (d + 1) 30 [.ref a] h Q ↔ XE d 30 0 [.val (.ref a), .unset, .unset] [] h Q := XC_in rfl
theorem s30_0 : XE d 30 0 ls st h Q ↔ XE d 30 1 ls (.int 0 :: st) h Q := g_const rfl
theorem s30_1 : XE d 30 1 (c0 :: c1 :: l) (.int x :: st) h Q ↔ XE d 30 2 (c0 :: .val (.int x) :: l) st h Q := g_istore (Nat.lt_of_lt_of_le (show 1 < 2 by decide) (Nat.le_add_left 2 _)) rfl rfl
theorem s30_2 : XE d 30 2 (.val (.ref a) :: l) st h Q ↔ XE d 30 3 (.val (.ref a) :: l) (.ref a :: st) h Q := g_aload rfl rfl
theorem s30_3 : XE d 30 3 ls (.ref a :: st) h Q ↔ XG [7] 2 (h.2.2.1 a) (fun v => XE d 30 6 ls (v :: st) h Q) := g_getf rfl
theorem s30_6 : XE d 30 6 (c0 :: c1 :: c2 :: l) (.int x :: st) h Q ↔ XE d 30 7 (c0 :: c1 :: .val (.int x) :: l) st h Q := g_istore (Nat.lt_of_lt_of_le (show 2 < 3 by decide) (Nat.le_add_left 3 _)) rfl rfl
theorem s30_7 : XE d 30 7 (c0 :: c1 :: .val (.int x) :: l) st h Q ↔ XE d 30 8 (c0 :: c1 :: .val (.int x) :: l) (.int x :: st) h Q := g_iload rfl rfl
theorem s30_8 : XE d 30 8 (.val (.ref a) :: l) st h Q ↔ XE d 30 9 (.val (.ref a) :: l) (.ref a :: st) h Q := g_aload rfl rfl
theorem s30_9 : XE d 30 9 ls (.ref a :: st) h Q ↔ XG [7] 3 (h.2.2.1 a) (fun v => XE d 30 12 ls (v :: st) h Q) := g_getf rfl
theorem s30_12 : XE d 30 12 ls (.int y :: .int x :: st) h Q ↔ (if x < y then XE d 30 15 ls st h Q else XE d 30 35 ls st h Q) := g_cge rfl
theorem s30_15 : XE d 30 15 ls st h Q ↔ XE d 30 17 ls (.int 10 :: st) h Q := g_const rfl
theorem s30_17 : XE d 30 17 (c0 :: .val (.int x) :: l) st h Q ↔ XE d 30 18 (c0 :: .val (.int x) :: l) (.int x :: st) h Q := g_iload rfl rfl
theorem s30_18 : XE d 30 18 ls (.int y :: .int x :: st) h Q ↔ XE d 30 19 ls (.int (x * y) :: st) h Q := g_mul rfl
theorem s30_19 : XE d 30 19 (.val (.ref a) :: l) st h Q ↔ XE d 30 20 (.val (.ref a) :: l) (.ref a :: st) h Q := g_aload rfl rfl
theorem s30_20 : XE d 30 20 (c0 :: c1 :: .val (.int x) :: l) st h Q ↔ XE d 30 21 (c0 :: c1 :: .val (.int x) :: l) (.int x :: st) h Q := g_iload rfl rfl
theorem s30_21 : XE d 30 21 ls (.int x :: .ref a :: st) h Q ↔ (xvo 8 st = true ∧ XV [(7, 24)] (h.2.2.1 a) (fun m' => XC d m' [.ref a, .int x] h (fun v h' => XE d 30 24 ls (v.toList ++ st) h' Q))) := h_v1 rfl rfl
theorem s30_24 : XE d 30 24 ls (.int y :: .int x :: st) h Q ↔ XE d 30 25 ls (.int (x + y) :: st) h Q := g_add rfl
theorem s30_25 : XE d 30 25 ls st h Q ↔ XE d 30 27 ls (.int 48 :: st) h Q := g_const rfl
theorem s30_27 : XE d 30 27 ls (.int y :: .int x :: st) h Q ↔ XE d 30 28 ls (.int (x - y) :: st) h Q := g_sub rfl
theorem s30_28 : XE d 30 28 (c0 :: c1 :: l) (.int x :: st) h Q ↔ XE d 30 29 (c0 :: .val (.int x) :: l) st h Q := g_istore (Nat.lt_of_lt_of_le (show 1 < 2 by decide) (Nat.le_add_left 2 _)) rfl rfl
theorem s30_29 : XE d 30 29 (c0 :: c1 :: .val (.int x) :: l) st h Q ↔ XE d 30 32 (c0 :: c1 :: .val (.int (x + 1)) :: l) st h Q := g_iinc rfl rfl rfl
theorem s30_32 : XE d 30 32 ls st h Q ↔ XE d 30 7 ls st h Q := g_goto rfl
theorem s30_35 : XE d 30 35 (c0 :: .val (.int x) :: l) st h Q ↔ XE d 30 36 (c0 :: .val (.int x) :: l) (.int x :: st) h Q := g_iload rfl rfl
theorem s30_36 : XE d 30 36 ls [.int x] h Q ↔ Q (some (.int x)) h := g_iret rfl
-- 31: TwoBells$Tape.takesPiece()Z
theorem e31 : XC (d + 1) 31 [.ref a] h Q ↔ XE d 31 0 [.val (.ref a), .unset] [] h Q := XC_in rfl
theorem s31_0 : XE d 31 0 (.val (.ref a) :: l) st h Q ↔ XE d 31 1 (.val (.ref a) :: l) (.ref a :: st) h Q := g_aload rfl rfl
theorem s31_1 : XE d 31 1 ls (.ref a :: st) h Q ↔ XG [7] 4 (h.2.2.1 a) (fun v => XE d 31 4 ls (v :: st) h Q) := g_getf rfl
theorem s31_4 : XE d 31 4 ls st h Q ↔ XE d 31 5 ls (.int 3 :: st) h Q := g_const rfl
theorem s31_5 : XE d 31 5 ls (.int y :: .int x :: st) h Q ↔ (if x = y then XE d 31 13 ls st h Q else XE d 31 8 ls st h Q) := g_ceq rfl
theorem s31_8 : XE d 31 8 (.val (.ref a) :: l) st h Q ↔ XE d 31 9 (.val (.ref a) :: l) (.ref a :: st) h Q := g_aload rfl rfl
theorem s31_9 : XE d 31 9 ls (.ref a :: st) h Q ↔ (xvo 8 st = true ∧ XV [(7, 32)] (h.2.2.1 a) (fun m' => XC d m' [.ref a] h (fun v h' => XE d 31 12 ls (v.toList ++ st) h' Q))) := h_v0 rfl
theorem s31_12 : XE d 31 12 ls [.int 0] h Q ↔ Q (some (.int 0)) h := g_zret rfl rfl
theorem s31_12t : XE d 31 12 ls [.int 1] h Q ↔ Q (some (.int 1)) h := g_zret rfl rfl
theorem s31_12b : XE d 31 12 ls [.int (bI q)] h Q ↔ Q (some (.int (bI q))) h := g_zret (bI_nar q) rfl
theorem s31_13 : XE d 31 13 (.val (.ref a) :: l) st h Q ↔ XE d 31 14 (.val (.ref a) :: l) (.ref a :: st) h Q := g_aload rfl rfl
theorem s31_14 : XE d 31 14 (.val (.ref a) :: l) st h Q ↔ XE d 31 15 (.val (.ref a) :: l) (.ref a :: st) h Q := g_aload rfl rfl
theorem s31_15 : XE d 31 15 ls (.ref a :: st) h Q ↔ XG [7] 2 (h.2.2.1 a) (fun v => XE d 31 18 ls (v :: st) h Q) := g_getf rfl
theorem s31_18 : XE d 31 18 ls (.int x :: .ref a :: st) h Q ↔ (xvo 8 st = true ∧ XV [(7, 24)] (h.2.2.1 a) (fun m' => XC d m' [.ref a, .int x] h (fun v h' => XE d 31 21 ls (v.toList ++ st) h' Q))) := h_v1 rfl rfl
theorem s31_21 : XE d 31 21 (c0 :: c1 :: l) (.int x :: st) h Q ↔ XE d 31 22 (c0 :: .val (.int x) :: l) st h Q := g_istore (Nat.lt_of_lt_of_le (show 1 < 2 by decide) (Nat.le_add_left 2 _)) rfl rfl
theorem s31_22 : XE d 31 22 (c0 :: .val (.int x) :: l) st h Q ↔ XE d 31 23 (c0 :: .val (.int x) :: l) (.int x :: st) h Q := g_iload rfl rfl
theorem s31_23 : XE d 31 23 ls st h Q ↔ XE d 31 25 ls (.int 40 :: st) h Q := g_const rfl
theorem s31_25 : XE d 31 25 ls (.int y :: .int x :: st) h Q ↔ (if x = y then XE d 31 28 ls st h Q else XE d 31 54 ls st h Q) := g_cne rfl
theorem s31_28 : XE d 31 28 (.val (.ref a) :: l) st h Q ↔ XE d 31 29 (.val (.ref a) :: l) (.ref a :: st) h Q := g_aload rfl rfl
theorem s31_29 : XE d 31 29 ls (.ref a :: st) h Q ↔ XG [7] 11 (h.2.2.1 a) (fun v => XE d 31 32 ls (v :: st) h Q) := g_getf rfl
theorem s31_32 : XE d 31 32 ls st h Q ↔ XE d 31 34 ls (.int 8 :: st) h Q := g_const rfl
theorem s31_34 : XE d 31 34 ls (.int y :: .int x :: st) h Q ↔ (if x < y then XE d 31 37 ls st h Q else XE d 31 54 ls st h Q) := g_cge rfl
theorem s31_37 : XE d 31 37 (.val (.ref a) :: l) st h Q ↔ XE d 31 38 (.val (.ref a) :: l) (.ref a :: st) h Q := g_aload rfl rfl
theorem s31_38 : XE d 31 38 ls (.int x :: st) h Q ↔ XE d 31 39 ls (.int x :: .int x :: st) h Q := g_dupI rfl
theorem s31_38r : XE d 31 38 ls (.ref a :: st) h Q ↔ XE d 31 39 ls (.ref a :: .ref a :: st) h Q := g_dupR rfl
theorem s31_39 : XE d 31 39 ls (.ref a :: st) h Q ↔ XG [7] 11 (h.2.2.1 a) (fun v => XE d 31 42 ls (v :: st) h Q) := g_getf rfl
theorem s31_42 : XE d 31 42 ls st h Q ↔ XE d 31 43 ls (.int 1 :: st) h Q := g_const rfl
theorem s31_43 : XE d 31 43 ls (.int y :: .int x :: st) h Q ↔ XE d 31 44 ls (.int (x + y) :: st) h Q := g_add rfl
theorem s31_44 : XE d 31 44 ls (.int x :: .ref a :: st) h Q ↔ XP [7] 11 (.int x) (h.2.2.1 a) (fun e => XE d 31 47 ls st (xset h a e) Q) := g_puti rfl
theorem s31_47 : XE d 31 47 (.val (.ref a) :: l) st h Q ↔ XE d 31 48 (.val (.ref a) :: l) (.ref a :: st) h Q := g_aload rfl rfl
theorem s31_48 : XE d 31 48 (c0 :: .val (.int x) :: l) st h Q ↔ XE d 31 49 (c0 :: .val (.int x) :: l) (.int x :: st) h Q := g_iload rfl rfl
theorem s31_49 : XE d 31 49 ls (.int x :: .ref a :: st) h Q ↔ (xvo 8 st = true ∧ XV [(7, 38)] (h.2.2.1 a) (fun m' => XC d m' [.ref a, .int x] h (fun v h' => XE d 31 52 ls (v.toList ++ st) h' Q))) := h_v1 rfl rfl
theorem s31_52 : XE d 31 52 ls st h Q ↔ XE d 31 53 ls (.int 1 :: st) h Q := g_const rfl
theorem s31_53 : XE d 31 53 ls [.int 0] h Q ↔ Q (some (.int 0)) h := g_zret rfl rfl
theorem s31_53t : XE d 31 53 ls [.int 1] h Q ↔ Q (some (.int 1)) h := g_zret rfl rfl
theorem s31_53b : XE d 31 53 ls [.int (bI q)] h Q ↔ Q (some (.int (bI q))) h := g_zret (bI_nar q) rfl
theorem s31_54 : XE d 31 54 (c0 :: .val (.int x) :: l) st h Q ↔ XE d 31 55 (c0 :: .val (.int x) :: l) (.int x :: st) h Q := g_iload rfl rfl
theorem s31_55 : XE d 31 55 ls st h Q ↔ XE d 31 57 ls (.int 33 :: st) h Q := g_const rfl
theorem s31_57 : XE d 31 57 ls (.int y :: .int x :: st) h Q ↔ (if x = y then XE d 31 60 ls st h Q else XE d 31 86 ls st h Q) := g_cne rfl
theorem s31_60 : XE d 31 60 (.val (.ref a) :: l) st h Q ↔ XE d 31 61 (.val (.ref a) :: l) (.ref a :: st) h Q := g_aload rfl rfl
theorem s31_61 : XE d 31 61 ls (.ref a :: st) h Q ↔ XG [7] 12 (h.2.2.1 a) (fun v => XE d 31 64 ls (v :: st) h Q) := g_getf rfl
theorem s31_64 : XE d 31 64 ls st h Q ↔ XE d 31 66 ls (.int 8 :: st) h Q := g_const rfl
theorem s31_66 : XE d 31 66 ls (.int y :: .int x :: st) h Q ↔ (if x < y then XE d 31 69 ls st h Q else XE d 31 86 ls st h Q) := g_cge rfl
theorem s31_69 : XE d 31 69 (.val (.ref a) :: l) st h Q ↔ XE d 31 70 (.val (.ref a) :: l) (.ref a :: st) h Q := g_aload rfl rfl
theorem s31_70 : XE d 31 70 ls (.int x :: st) h Q ↔ XE d 31 71 ls (.int x :: .int x :: st) h Q := g_dupI rfl
theorem s31_70r : XE d 31 70 ls (.ref a :: st) h Q ↔ XE d 31 71 ls (.ref a :: .ref a :: st) h Q := g_dupR rfl
theorem s31_71 : XE d 31 71 ls (.ref a :: st) h Q ↔ XG [7] 12 (h.2.2.1 a) (fun v => XE d 31 74 ls (v :: st) h Q) := g_getf rfl
theorem s31_74 : XE d 31 74 ls st h Q ↔ XE d 31 75 ls (.int 1 :: st) h Q := g_const rfl
theorem s31_75 : XE d 31 75 ls (.int y :: .int x :: st) h Q ↔ XE d 31 76 ls (.int (x + y) :: st) h Q := g_add rfl
theorem s31_76 : XE d 31 76 ls (.int x :: .ref a :: st) h Q ↔ XP [7] 12 (.int x) (h.2.2.1 a) (fun e => XE d 31 79 ls st (xset h a e) Q) := g_puti rfl
theorem s31_79 : XE d 31 79 (.val (.ref a) :: l) st h Q ↔ XE d 31 80 (.val (.ref a) :: l) (.ref a :: st) h Q := g_aload rfl rfl
theorem s31_80 : XE d 31 80 (c0 :: .val (.int x) :: l) st h Q ↔ XE d 31 81 (c0 :: .val (.int x) :: l) (.int x :: st) h Q := g_iload rfl rfl
theorem s31_81 : XE d 31 81 ls (.int x :: .ref a :: st) h Q ↔ (xvo 8 st = true ∧ XV [(7, 38)] (h.2.2.1 a) (fun m' => XC d m' [.ref a, .int x] h (fun v h' => XE d 31 84 ls (v.toList ++ st) h' Q))) := h_v1 rfl rfl
theorem s31_84 : XE d 31 84 ls st h Q ↔ XE d 31 85 ls (.int 1 :: st) h Q := g_const rfl
theorem s31_85 : XE d 31 85 ls [.int 0] h Q ↔ Q (some (.int 0)) h := g_zret rfl rfl
theorem s31_85t : XE d 31 85 ls [.int 1] h Q ↔ Q (some (.int 1)) h := g_zret rfl rfl
theorem s31_85b : XE d 31 85 ls [.int (bI q)] h Q ↔ Q (some (.int (bI q))) h := g_zret (bI_nar q) rfl
theorem s31_86 : XE d 31 86 ls st h Q ↔ XE d 31 87 ls (.int 0 :: st) h Q := g_const rfl
theorem s31_87 : XE d 31 87 ls [.int 0] h Q ↔ Q (some (.int 0)) h := g_zret rfl rfl
theorem s31_87t : XE d 31 87 ls [.int 1] h Q ↔ Q (some (.int 1)) h := g_zret rfl rfl
theorem s31_87b : XE d 31 87 ls [.int (bI q)] h Q ↔ Q (some (.int (bI q))) h := g_zret (bI_nar q) rfl
-- 32: TwoBells$Tape.takesTerm()Z
theorem e32 : XC (d + 1) 32 [.ref a] h Q ↔ XE d 32 0 [.val (.ref a), .unset] [] h Q := XC_in rfl
theorem s32_0 : XE d 32 0 (.val (.ref a) :: l) st h Q ↔ XE d 32 1 (.val (.ref a) :: l) (.ref a :: st) h Q := g_aload rfl rfl
theorem s32_1 : XE d 32 1 ls (.ref a :: st) h Q ↔ XG [7] 2 (h.2.2.1 a) (fun v => XE d 32 4 ls (v :: st) h Q) := g_getf rfl
theorem s32_4 : XE d 32 4 ls (.int x :: st) h Q ↔ (if 0 < x then XE d 32 7 ls st h Q else XE d 32 41 ls st h Q) := g_ifle rfl
theorem s32_7 : XE d 32 7 (.val (.ref a) :: l) st h Q ↔ XE d 32 8 (.val (.ref a) :: l) (.ref a :: st) h Q := g_aload rfl rfl
theorem s32_8 : XE d 32 8 (.val (.ref a) :: l) st h Q ↔ XE d 32 9 (.val (.ref a) :: l) (.ref a :: st) h Q := g_aload rfl rfl
theorem s32_9 : XE d 32 9 ls (.ref a :: st) h Q ↔ XG [7] 2 (h.2.2.1 a) (fun v => XE d 32 12 ls (v :: st) h Q) := g_getf rfl
theorem s32_12 : XE d 32 12 ls st h Q ↔ XE d 32 13 ls (.int 1 :: st) h Q := g_const rfl
theorem s32_13 : XE d 32 13 ls (.int y :: .int x :: st) h Q ↔ XE d 32 14 ls (.int (x - y) :: st) h Q := g_sub rfl
theorem s32_14 : XE d 32 14 ls (.int x :: .ref a :: st) h Q ↔ (xvo 8 st = true ∧ XV [(7, 24)] (h.2.2.1 a) (fun m' => XC d m' [.ref a, .int x] h (fun v h' => XE d 32 17 ls (v.toList ++ st) h' Q))) := h_v1 rfl rfl
theorem s32_17 : XE d 32 17 ls st h Q ↔ XE d 32 19 ls (.int 32 :: st) h Q := g_const rfl
theorem s32_19 : XE d 32 19 ls (.int y :: .int x :: st) h Q ↔ (if x = y then XE d 32 41 ls st h Q else XE d 32 22 ls st h Q) := g_ceq rfl
theorem s32_22 : XE d 32 22 (.val (.ref a) :: l) st h Q ↔ XE d 32 23 (.val (.ref a) :: l) (.ref a :: st) h Q := g_aload rfl rfl
theorem s32_23 : XE d 32 23 (.val (.ref a) :: l) st h Q ↔ XE d 32 24 (.val (.ref a) :: l) (.ref a :: st) h Q := g_aload rfl rfl
theorem s32_24 : XE d 32 24 ls (.ref a :: st) h Q ↔ XG [7] 2 (h.2.2.1 a) (fun v => XE d 32 27 ls (v :: st) h Q) := g_getf rfl
theorem s32_27 : XE d 32 27 ls st h Q ↔ XE d 32 28 ls (.int 1 :: st) h Q := g_const rfl
theorem s32_28 : XE d 32 28 ls (.int y :: .int x :: st) h Q ↔ XE d 32 29 ls (.int (x - y) :: st) h Q := g_sub rfl
theorem s32_29 : XE d 32 29 ls (.int x :: .ref a :: st) h Q ↔ (xvo 8 st = true ∧ XV [(7, 24)] (h.2.2.1 a) (fun m' => XC d m' [.ref a, .int x] h (fun v h' => XE d 32 32 ls (v.toList ++ st) h' Q))) := h_v1 rfl rfl
theorem s32_32 : XE d 32 32 ls (.int x :: st) h Q ↔ (xvo 8 st = true ∧ XC d 25 [.int x] h (fun v h' => XE d 32 35 ls (v.toList ++ st) h' Q)) := h_s1 rfl rfl
theorem s32_35 : XE d 32 35 ls st h Q ↔ XE d 32 36 ls (.int 3 :: st) h Q := g_const rfl
theorem s32_36 : XE d 32 36 ls (.int y :: .int x :: st) h Q ↔ (if x = y then XE d 32 41 ls st h Q else XE d 32 39 ls st h Q) := g_ceq rfl
theorem s32_39 : XE d 32 39 ls st h Q ↔ XE d 32 40 ls (.int 0 :: st) h Q := g_const rfl
theorem s32_40 : XE d 32 40 ls [.int 0] h Q ↔ Q (some (.int 0)) h := g_zret rfl rfl
theorem s32_40t : XE d 32 40 ls [.int 1] h Q ↔ Q (some (.int 1)) h := g_zret rfl rfl
theorem s32_40b : XE d 32 40 ls [.int (bI q)] h Q ↔ Q (some (.int (bI q))) h := g_zret (bI_nar q) rfl
theorem s32_41 : XE d 32 41 (.val (.ref a) :: l) st h Q ↔ XE d 32 42 (.val (.ref a) :: l) (.ref a :: st) h Q := g_aload rfl rfl
theorem s32_42 : XE d 32 42 ls (.ref a :: st) h Q ↔ XG [7] 4 (h.2.2.1 a) (fun v => XE d 32 45 ls (v :: st) h Q) := g_getf rfl
theorem s32_45 : XE d 32 45 ls st h Q ↔ XE d 32 46 ls (.int 2 :: st) h Q := g_const rfl
theorem s32_46 : XE d 32 46 ls (.int y :: .int x :: st) h Q ↔ (if x = y then XE d 32 49 ls st h Q else XE d 32 75 ls st h Q) := g_cne rfl
theorem s32_49 : XE d 32 49 (.val (.ref a) :: l) st h Q ↔ XE d 32 50 (.val (.ref a) :: l) (.ref a :: st) h Q := g_aload rfl rfl
theorem s32_50 : XE d 32 50 ls (.ref a :: st) h Q ↔ XG [7] 3 (h.2.2.1 a) (fun v => XE d 32 53 ls (v :: st) h Q) := g_getf rfl
theorem s32_53 : XE d 32 53 (.val (.ref a) :: l) st h Q ↔ XE d 32 54 (.val (.ref a) :: l) (.ref a :: st) h Q := g_aload rfl rfl
theorem s32_54 : XE d 32 54 ls (.ref a :: st) h Q ↔ XG [7] 2 (h.2.2.1 a) (fun v => XE d 32 57 ls (v :: st) h Q) := g_getf rfl
theorem s32_57 : XE d 32 57 ls (.int y :: .int x :: st) h Q ↔ XE d 32 58 ls (.int (x - y) :: st) h Q := g_sub rfl
theorem s32_58 : XE d 32 58 ls st h Q ↔ XE d 32 59 ls (.int 4 :: st) h Q := g_const rfl
theorem s32_59 : XE d 32 59 ls (.int y :: .int x :: st) h Q ↔ (if y < x then XE d 32 62 ls st h Q else XE d 32 64 ls st h Q) := g_cle rfl
theorem s32_62 : XE d 32 62 ls st h Q ↔ XE d 32 63 ls (.int 0 :: st) h Q := g_const rfl
theorem s32_63 : XE d 32 63 ls [.int 0] h Q ↔ Q (some (.int 0)) h := g_zret rfl rfl
theorem s32_63t : XE d 32 63 ls [.int 1] h Q ↔ Q (some (.int 1)) h := g_zret rfl rfl
theorem s32_63b : XE d 32 63 ls [.int (bI q)] h Q ↔ Q (some (.int (bI q))) h := g_zret (bI_nar q) rfl
theorem s32_64 : XE d 32 64 (.val (.ref a) :: l) st h Q ↔ XE d 32 65 (.val (.ref a) :: l) (.ref a :: st) h Q := g_aload rfl rfl
theorem s32_65 : XE d 32 65 (.val (.ref a) :: l) st h Q ↔ XE d 32 66 (.val (.ref a) :: l) (.ref a :: st) h Q := g_aload rfl rfl
theorem s32_66 : XE d 32 66 ls (.ref a :: st) h Q ↔ (xvo 8 st = true ∧ XV [(7, 30)] (h.2.2.1 a) (fun m' => XC d m' [.ref a] h (fun v h' => XE d 32 69 ls (v.toList ++ st) h' Q))) := h_v0 rfl
theorem s32_69 : XE d 32 69 ls (.int x :: .ref a :: st) h Q ↔ (xvo 8 st = true ∧ XV [(7, 39)] (h.2.2.1 a) (fun m' => XC d m' [.ref a, .int x] h (fun v h' => XE d 32 72 ls (v.toList ++ st) h' Q))) := h_v1 rfl rfl
theorem s32_72 : XE d 32 72 ls st h Q ↔ XE d 32 93 ls st h Q := g_goto rfl
theorem s32_75 : XE d 32 75 (.val (.ref a) :: l) st h Q ↔ XE d 32 76 (.val (.ref a) :: l) (.ref a :: st) h Q := g_aload rfl rfl
theorem s32_76 : XE d 32 76 ls (.ref a :: st) h Q ↔ (xvo 8 st = true ∧ XV [(7, 29)] (h.2.2.1 a) (fun m' => XC d m' [.ref a] h (fun v h' => XE d 32 79 ls (v.toList ++ st) h' Q))) := h_v0 rfl
theorem s32_79 : XE d 32 79 (c0 :: c1 :: l) (.int x :: st) h Q ↔ XE d 32 80 (c0 :: .val (.int x) :: l) st h Q := g_istore (Nat.lt_of_lt_of_le (show 1 < 2 by decide) (Nat.le_add_left 2 _)) rfl rfl
theorem s32_80 : XE d 32 80 (c0 :: .val (.int x) :: l) st h Q ↔ XE d 32 81 (c0 :: .val (.int x) :: l) (.int x :: st) h Q := g_iload rfl rfl
theorem s32_81 : XE d 32 81 ls (.int x :: st) h Q ↔ (if x < 0 then XE d 32 84 ls st h Q else XE d 32 86 ls st h Q) := g_ifge rfl
theorem s32_84 : XE d 32 84 ls st h Q ↔ XE d 32 85 ls (.int 0 :: st) h Q := g_const rfl
theorem s32_85 : XE d 32 85 ls [.int 0] h Q ↔ Q (some (.int 0)) h := g_zret rfl rfl
theorem s32_85t : XE d 32 85 ls [.int 1] h Q ↔ Q (some (.int 1)) h := g_zret rfl rfl
theorem s32_85b : XE d 32 85 ls [.int (bI q)] h Q ↔ Q (some (.int (bI q))) h := g_zret (bI_nar q) rfl
theorem s32_86 : XE d 32 86 (.val (.ref a) :: l) st h Q ↔ XE d 32 87 (.val (.ref a) :: l) (.ref a :: st) h Q := g_aload rfl rfl
theorem s32_87 : XE d 32 87 ls st h Q ↔ XE d 32 88 ls (.int (-1) :: st) h Q := g_const rfl
theorem s32_88 : XE d 32 88 (c0 :: .val (.int x) :: l) st h Q ↔ XE d 32 89 (c0 :: .val (.int x) :: l) (.int x :: st) h Q := g_iload rfl rfl
theorem s32_89 : XE d 32 89 ls (.int y :: .int x :: st) h Q ↔ XE d 32 90 ls (.int (x - y) :: st) h Q := g_sub rfl
theorem s32_90 : XE d 32 90 ls (.int x :: .ref a :: st) h Q ↔ (xvo 8 st = true ∧ XV [(7, 39)] (h.2.2.1 a) (fun m' => XC d m' [.ref a, .int x] h (fun v h' => XE d 32 93 ls (v.toList ++ st) h' Q))) := h_v1 rfl rfl
theorem s32_93 : XE d 32 93 (.val (.ref a) :: l) st h Q ↔ XE d 32 94 (.val (.ref a) :: l) (.ref a :: st) h Q := g_aload rfl rfl
theorem s32_94 : XE d 32 94 ls (.int x :: st) h Q ↔ XE d 32 95 ls (.int x :: .int x :: st) h Q := g_dupI rfl
theorem s32_94r : XE d 32 94 ls (.ref a :: st) h Q ↔ XE d 32 95 ls (.ref a :: .ref a :: st) h Q := g_dupR rfl
theorem s32_95 : XE d 32 95 ls (.ref a :: st) h Q ↔ XG [7] 6 (h.2.2.1 a) (fun v => XE d 32 98 ls (v :: st) h Q) := g_getf rfl
theorem s32_98 : XE d 32 98 ls st h Q ↔ XE d 32 99 ls (.int 1 :: st) h Q := g_const rfl
theorem s32_99 : XE d 32 99 ls (.int y :: .int x :: st) h Q ↔ XE d 32 100 ls (.int (x + y) :: st) h Q := g_add rfl
theorem s32_100 : XE d 32 100 ls (.int x :: .ref a :: st) h Q ↔ XP [7] 6 (.int x) (h.2.2.1 a) (fun e => XE d 32 103 ls st (xset h a e) Q) := g_puti rfl
theorem s32_103 : XE d 32 103 (.val (.ref a) :: l) st h Q ↔ XE d 32 104 (.val (.ref a) :: l) (.ref a :: st) h Q := g_aload rfl rfl
theorem s32_104 : XE d 32 104 ls (.ref a :: st) h Q ↔ (xvo 8 st = true ∧ XV [(7, 35)] (h.2.2.1 a) (fun m' => XC d m' [.ref a] h (fun v h' => XE d 32 107 ls (v.toList ++ st) h' Q))) := h_v0 rfl
theorem s32_107 : XE d 32 107 ls st h Q ↔ XE d 32 108 ls (.int 1 :: st) h Q := g_const rfl
theorem s32_108 : XE d 32 108 ls [.int 0] h Q ↔ Q (some (.int 0)) h := g_zret rfl rfl
theorem s32_108t : XE d 32 108 ls [.int 1] h Q ↔ Q (some (.int 1)) h := g_zret rfl rfl
theorem s32_108b : XE d 32 108 ls [.int (bI q)] h Q ↔ Q (some (.int (bI q))) h := g_zret (bI_nar q) rfl
-- 33: TwoBells$Tape.takesJoin()Z
theorem e33 : XC (d + 1) 33 [.ref a] h Q ↔ XE d 33 0 [.val (.ref a), .unset, .unset, .unset] [] h Q := XC_in rfl
theorem s33_0 : XE d 33 0 (.val (.ref a) :: l) st h Q ↔ XE d 33 1 (.val (.ref a) :: l) (.ref a :: st) h Q := g_aload rfl rfl
theorem s33_1 : XE d 33 1 (.val (.ref a) :: l) st h Q ↔ XE d 33 2 (.val (.ref a) :: l) (.ref a :: st) h Q := g_aload rfl rfl
theorem s33_2 : XE d 33 2 ls (.ref a :: st) h Q ↔ XG [7] 2 (h.2.2.1 a) (fun v => XE d 33 5 ls (v :: st) h Q) := g_getf rfl
theorem s33_5 : XE d 33 5 ls (.int x :: .ref a :: st) h Q ↔ (xvo 8 st = true ∧ XV [(7, 24)] (h.2.2.1 a) (fun m' => XC d m' [.ref a, .int x] h (fun v h' => XE d 33 8 ls (v.toList ++ st) h' Q))) := h_v1 rfl rfl
theorem s33_8 : XE d 33 8 (c0 :: c1 :: l) (.int x :: st) h Q ↔ XE d 33 9 (c0 :: .val (.int x) :: l) st h Q := g_istore (Nat.lt_of_lt_of_le (show 1 < 2 by decide) (Nat.le_add_left 2 _)) rfl rfl
theorem s33_9 : XE d 33 9 (.val (.ref a) :: l) st h Q ↔ XE d 33 10 (.val (.ref a) :: l) (.ref a :: st) h Q := g_aload rfl rfl
theorem s33_10 : XE d 33 10 ls (.ref a :: st) h Q ↔ XG [7] 4 (h.2.2.1 a) (fun v => XE d 33 13 ls (v :: st) h Q) := g_getf rfl
theorem s33_13 : XE d 33 13 ls st h Q ↔ XE d 33 14 ls (.int 3 :: st) h Q := g_const rfl
theorem s33_14 : XE d 33 14 ls (.int y :: .int x :: st) h Q ↔ (if x = y then XE d 33 17 ls st h Q else XE d 33 28 ls st h Q) := g_cne rfl
theorem s33_17 : XE d 33 17 (c0 :: .val (.int x) :: l) st h Q ↔ XE d 33 18 (c0 :: .val (.int x) :: l) (.int x :: st) h Q := g_iload rfl rfl
theorem s33_18 : XE d 33 18 ls st h Q ↔ XE d 33 20 ls (.int 41 :: st) h Q := g_const rfl
theorem s33_20 : XE d 33 20 ls (.int y :: .int x :: st) h Q ↔ (if x = y then XE d 33 23 ls st h Q else XE d 33 28 ls st h Q) := g_cne rfl
theorem s33_23 : XE d 33 23 (.val (.ref a) :: l) st h Q ↔ XE d 33 24 (.val (.ref a) :: l) (.ref a :: st) h Q := g_aload rfl rfl
theorem s33_24 : XE d 33 24 ls (.ref a :: st) h Q ↔ (xvo 8 st = true ∧ XV [(7, 34)] (h.2.2.1 a) (fun m' => XC d m' [.ref a] h (fun v h' => XE d 33 27 ls (v.toList ++ st) h' Q))) := h_v0 rfl
theorem s33_27 : XE d 33 27 ls [.int 0] h Q ↔ Q (some (.int 0)) h := g_zret rfl rfl
theorem s33_27t : XE d 33 27 ls [.int 1] h Q ↔ Q (some (.int 1)) h := g_zret rfl rfl
theorem s33_27b : XE d 33 27 ls [.int (bI q)] h Q ↔ Q (some (.int (bI q))) h := g_zret (bI_nar q) rfl
theorem s33_28 : XE d 33 28 (.val (.ref a) :: l) st h Q ↔ XE d 33 29 (.val (.ref a) :: l) (.ref a :: st) h Q := g_aload rfl rfl
theorem s33_29 : XE d 33 29 ls (.ref a :: st) h Q ↔ XG [7] 4 (h.2.2.1 a) (fun v => XE d 33 32 ls (v :: st) h Q) := g_getf rfl
theorem s33_32 : XE d 33 32 ls st h Q ↔ XE d 33 33 ls (.int 3 :: st) h Q := g_const rfl
theorem s33_33 : XE d 33 33 ls (.int y :: .int x :: st) h Q ↔ (if x = y then XE d 33 36 ls st h Q else XE d 33 43 ls st h Q) := g_cne rfl
theorem s33_36 : XE d 33 36 (c0 :: .val (.int x) :: l) st h Q ↔ XE d 33 37 (c0 :: .val (.int x) :: l) (.int x :: st) h Q := g_iload rfl rfl
theorem s33_37 : XE d 33 37 ls (.int x :: st) h Q ↔ (xvo 8 st = true ∧ XC d 36 [.int x] h (fun v h' => XE d 33 40 ls (v.toList ++ st) h' Q)) := h_s1 rfl rfl
theorem s33_40 : XE d 33 40 ls st h Q ↔ XE d 33 44 ls st h Q := g_goto rfl
theorem s33_43 : XE d 33 43 ls st h Q ↔ XE d 33 44 ls (.int 0 :: st) h Q := g_const rfl
theorem s33_44 : XE d 33 44 (c0 :: c1 :: c2 :: l) (.int x :: st) h Q ↔ XE d 33 45 (c0 :: c1 :: .val (.int x) :: l) st h Q := g_istore (Nat.lt_of_lt_of_le (show 2 < 3 by decide) (Nat.le_add_left 3 _)) rfl rfl
theorem s33_45 : XE d 33 45 (c0 :: c1 :: .val (.int x) :: l) st h Q ↔ XE d 33 46 (c0 :: c1 :: .val (.int x) :: l) (.int x :: st) h Q := g_iload rfl rfl
theorem s33_46 : XE d 33 46 ls (.int x :: st) h Q ↔ (if x = 0 then XE d 33 49 ls st h Q else XE d 33 51 ls st h Q) := g_ifne rfl
theorem s33_49 : XE d 33 49 ls st h Q ↔ XE d 33 50 ls (.int 0 :: st) h Q := g_const rfl
theorem s33_50 : XE d 33 50 ls [.int 0] h Q ↔ Q (some (.int 0)) h := g_zret rfl rfl
theorem s33_50t : XE d 33 50 ls [.int 1] h Q ↔ Q (some (.int 1)) h := g_zret rfl rfl
theorem s33_50b : XE d 33 50 ls [.int (bI q)] h Q ↔ Q (some (.int (bI q))) h := g_zret (bI_nar q) rfl
theorem s33_51 : XE d 33 51 (c0 :: c1 :: .val (.int x) :: l) st h Q ↔ XE d 33 52 (c0 :: c1 :: .val (.int x) :: l) (.int x :: st) h Q := g_iload rfl rfl
theorem s33_52 : XE d 33 52 ls st h Q ↔ XE d 33 53 ls (.int 3 :: st) h Q := g_const rfl
theorem s33_53 : XE d 33 53 ls (.int y :: .int x :: st) h Q ↔ (if x = y then XE d 33 56 ls st h Q else XE d 33 62 ls st h Q) := g_cne rfl
theorem s33_56 : XE d 33 56 (c0 :: c1 :: .val (.int x) :: l) st h Q ↔ XE d 33 57 (c0 :: c1 :: .val (.int x) :: l) (.int x :: st) h Q := g_iload rfl rfl
theorem s33_57 : XE d 33 57 ls st h Q ↔ XE d 33 58 ls (.int 1 :: st) h Q := g_const rfl
theorem s33_58 : XE d 33 58 ls (.int y :: .int x :: st) h Q ↔ XE d 33 59 ls (.int (x + y) :: st) h Q := g_add rfl
theorem s33_59 : XE d 33 59 ls st h Q ↔ XE d 33 63 ls st h Q := g_goto rfl
theorem s33_62 : XE d 33 62 (c0 :: c1 :: .val (.int x) :: l) st h Q ↔ XE d 33 63 (c0 :: c1 :: .val (.int x) :: l) (.int x :: st) h Q := g_iload rfl rfl
theorem s33_63 : XE d 33 63 (c0 :: c1 :: c2 :: c3 :: l) (.int x :: st) h Q ↔ XE d 33 64 (c0 :: c1 :: c2 :: .val (.int x) :: l) st h Q := g_istore (Nat.lt_of_lt_of_le (show 3 < 4 by decide) (Nat.le_add_left 4 _)) rfl rfl
theorem s33_64 : XE d 33 64 (.val (.ref a) :: l) st h Q ↔ XE d 33 65 (.val (.ref a) :: l) (.ref a :: st) h Q := g_aload rfl rfl
theorem s33_65 : XE d 33 65 ls (.ref a :: st) h Q ↔ XG [7] 10 (h.2.2.1 a) (fun v => XE d 33 68 ls (v :: st) h Q) := g_getf rfl
theorem s33_68 : XE d 33 68 ls (.int x :: st) h Q ↔ (if 0 < x then XE d 33 71 ls st h Q else XE d 33 107 ls st h Q) := g_ifle rfl
theorem s33_71 : XE d 33 71 (.val (.ref a) :: l) st h Q ↔ XE d 33 72 (.val (.ref a) :: l) (.ref a :: st) h Q := g_aload rfl rfl
theorem s33_72 : XE d 33 72 ls (.ref a :: st) h Q ↔ (xvo 8 st = true ∧ XV [(7, 37)] (h.2.2.1 a) (fun m' => XC d m' [.ref a] h (fun v h' => XE d 33 75 ls (v.toList ++ st) h' Q))) := h_v0 rfl
theorem s33_75 : XE d 33 75 ls (.int x :: st) h Q ↔ (xvo 8 st = true ∧ XC d 36 [.int x] h (fun v h' => XE d 33 78 ls (v.toList ++ st) h' Q)) := h_s1 rfl rfl
theorem s33_78 : XE d 33 78 (c0 :: c1 :: c2 :: .val (.int x) :: l) st h Q ↔ XE d 33 79 (c0 :: c1 :: c2 :: .val (.int x) :: l) (.int x :: st) h Q := g_iload rfl rfl
theorem s33_79 : XE d 33 79 ls (.int y :: .int x :: st) h Q ↔ (if x < y then XE d 33 107 ls st h Q else XE d 33 82 ls st h Q) := g_clt rfl
theorem s33_82 : XE d 33 82 (.val (.ref a) :: l) st h Q ↔ XE d 33 83 (.val (.ref a) :: l) (.ref a :: st) h Q := g_aload rfl rfl
theorem s33_83 : XE d 33 83 ls st h Q ↔ XE d 33 86 ls (.int (-1000) :: st) h Q := g_const rfl
theorem s33_86 : XE d 33 86 (.val (.ref a) :: l) st h Q ↔ XE d 33 87 (.val (.ref a) :: l) (.ref a :: st) h Q := g_aload rfl rfl
theorem s33_87 : XE d 33 87 ls (.ref a :: st) h Q ↔ (xvo 8 st = true ∧ XV [(7, 37)] (h.2.2.1 a) (fun m' => XC d m' [.ref a] h (fun v h' => XE d 33 90 ls (v.toList ++ st) h' Q))) := h_v0 rfl
theorem s33_90 : XE d 33 90 ls (.int y :: .int x :: st) h Q ↔ XE d 33 91 ls (.int (x - y) :: st) h Q := g_sub rfl
theorem s33_91 : XE d 33 91 ls (.int x :: .ref a :: st) h Q ↔ (xvo 8 st = true ∧ XV [(7, 39)] (h.2.2.1 a) (fun m' => XC d m' [.ref a, .int x] h (fun v h' => XE d 33 94 ls (v.toList ++ st) h' Q))) := h_v1 rfl rfl
theorem s33_94 : XE d 33 94 (.val (.ref a) :: l) st h Q ↔ XE d 33 95 (.val (.ref a) :: l) (.ref a :: st) h Q := g_aload rfl rfl
theorem s33_95 : XE d 33 95 ls (.int x :: st) h Q ↔ XE d 33 96 ls (.int x :: .int x :: st) h Q := g_dupI rfl
theorem s33_95r : XE d 33 95 ls (.ref a :: st) h Q ↔ XE d 33 96 ls (.ref a :: .ref a :: st) h Q := g_dupR rfl
theorem s33_96 : XE d 33 96 ls (.ref a :: st) h Q ↔ XG [7] 10 (h.2.2.1 a) (fun v => XE d 33 99 ls (v :: st) h Q) := g_getf rfl
theorem s33_99 : XE d 33 99 ls st h Q ↔ XE d 33 100 ls (.int 1 :: st) h Q := g_const rfl
theorem s33_100 : XE d 33 100 ls (.int y :: .int x :: st) h Q ↔ XE d 33 101 ls (.int (x - y) :: st) h Q := g_sub rfl
theorem s33_101 : XE d 33 101 ls (.int x :: .ref a :: st) h Q ↔ XP [7] 10 (.int x) (h.2.2.1 a) (fun e => XE d 33 104 ls st (xset h a e) Q) := g_puti rfl
theorem s33_104 : XE d 33 104 ls st h Q ↔ XE d 33 64 ls st h Q := g_goto rfl
theorem s33_107 : XE d 33 107 (c0 :: c1 :: .val (.int x) :: l) st h Q ↔ XE d 33 108 (c0 :: c1 :: .val (.int x) :: l) (.int x :: st) h Q := g_iload rfl rfl
theorem s33_108 : XE d 33 108 ls st h Q ↔ XE d 33 109 ls (.int 3 :: st) h Q := g_const rfl
theorem s33_109 : XE d 33 109 ls (.int y :: .int x :: st) h Q ↔ (if x = y then XE d 33 112 ls st h Q else XE d 33 125 ls st h Q) := g_cne rfl
theorem s33_112 : XE d 33 112 (.val (.ref a) :: l) st h Q ↔ XE d 33 113 (.val (.ref a) :: l) (.ref a :: st) h Q := g_aload rfl rfl
theorem s33_113 : XE d 33 113 ls (.ref a :: st) h Q ↔ (xvo 8 st = true ∧ XV [(7, 37)] (h.2.2.1 a) (fun m' => XC d m' [.ref a] h (fun v h' => XE d 33 116 ls (v.toList ++ st) h' Q))) := h_v0 rfl
theorem s33_116 : XE d 33 116 ls (.int x :: st) h Q ↔ (xvo 8 st = true ∧ XC d 36 [.int x] h (fun v h' => XE d 33 119 ls (v.toList ++ st) h' Q)) := h_s1 rfl rfl
theorem s33_119 : XE d 33 119 ls st h Q ↔ XE d 33 120 ls (.int 3 :: st) h Q := g_const rfl
theorem s33_120 : XE d 33 120 ls (.int y :: .int x :: st) h Q ↔ (if x = y then XE d 33 123 ls st h Q else XE d 33 125 ls st h Q) := g_cne rfl
theorem s33_123 : XE d 33 123 ls st h Q ↔ XE d 33 124 ls (.int 0 :: st) h Q := g_const rfl
theorem s33_124 : XE d 33 124 ls [.int 0] h Q ↔ Q (some (.int 0)) h := g_zret rfl rfl
theorem s33_124t : XE d 33 124 ls [.int 1] h Q ↔ Q (some (.int 1)) h := g_zret rfl rfl
theorem s33_124b : XE d 33 124 ls [.int (bI q)] h Q ↔ Q (some (.int (bI q))) h := g_zret (bI_nar q) rfl
theorem s33_125 : XE d 33 125 (.val (.ref a) :: l) st h Q ↔ XE d 33 126 (.val (.ref a) :: l) (.ref a :: st) h Q := g_aload rfl rfl
theorem s33_126 : XE d 33 126 (c0 :: .val (.int x) :: l) st h Q ↔ XE d 33 127 (c0 :: .val (.int x) :: l) (.int x :: st) h Q := g_iload rfl rfl
theorem s33_127 : XE d 33 127 ls (.int x :: .ref a :: st) h Q ↔ (xvo 8 st = true ∧ XV [(7, 38)] (h.2.2.1 a) (fun m' => XC d m' [.ref a, .int x] h (fun v h' => XE d 33 130 ls (v.toList ++ st) h' Q))) := h_v1 rfl rfl
theorem s33_130 : XE d 33 130 (.val (.ref a) :: l) st h Q ↔ XE d 33 131 (.val (.ref a) :: l) (.ref a :: st) h Q := g_aload rfl rfl
theorem s33_131 : XE d 33 131 ls st h Q ↔ XE d 33 132 ls (.int 1 :: st) h Q := g_const rfl
theorem s33_132 : XE d 33 132 ls (.int x :: .ref a :: st) h Q ↔ ((x = 0 ∨ x = 1) ∧ XP [7] 13 (.int x) (h.2.2.1 a) (fun e => XE d 33 135 ls st (xset h a e) Q)) := g_putz rfl
theorem s33_135 : XE d 33 135 ls st h Q ↔ XE d 33 136 ls (.int 1 :: st) h Q := g_const rfl
theorem s33_136 : XE d 33 136 ls [.int 0] h Q ↔ Q (some (.int 0)) h := g_zret rfl rfl
theorem s33_136t : XE d 33 136 ls [.int 1] h Q ↔ Q (some (.int 1)) h := g_zret rfl rfl
theorem s33_136b : XE d 33 136 ls [.int (bI q)] h Q ↔ Q (some (.int (bI q))) h := g_zret (bI_nar q) rfl
-- 34: TwoBells$Tape.takesEnd()Z
theorem e34 : XC (d + 1) 34 [.ref a] h Q ↔ XE d 34 0 [.val (.ref a)] [] h Q := XC_in rfl
theorem s34_0 : XE d 34 0 (.val (.ref a) :: l) st h Q ↔ XE d 34 1 (.val (.ref a) :: l) (.ref a :: st) h Q := g_aload rfl rfl
theorem s34_1 : XE d 34 1 ls (.ref a :: st) h Q ↔ XG [7] 11 (h.2.2.1 a) (fun v => XE d 34 4 ls (v :: st) h Q) := g_getf rfl
theorem s34_4 : XE d 34 4 ls (.int x :: st) h Q ↔ (if x = 0 then XE d 34 7 ls st h Q else XE d 34 9 ls st h Q) := g_ifne rfl
theorem s34_7 : XE d 34 7 ls st h Q ↔ XE d 34 8 ls (.int 0 :: st) h Q := g_const rfl
theorem s34_8 : XE d 34 8 ls [.int 0] h Q ↔ Q (some (.int 0)) h := g_zret rfl rfl
theorem s34_8t : XE d 34 8 ls [.int 1] h Q ↔ Q (some (.int 1)) h := g_zret rfl rfl
theorem s34_8b : XE d 34 8 ls [.int (bI q)] h Q ↔ Q (some (.int (bI q))) h := g_zret (bI_nar q) rfl
theorem s34_9 : XE d 34 9 (.val (.ref a) :: l) st h Q ↔ XE d 34 10 (.val (.ref a) :: l) (.ref a :: st) h Q := g_aload rfl rfl
theorem s34_10 : XE d 34 10 ls (.ref a :: st) h Q ↔ XG [7] 10 (h.2.2.1 a) (fun v => XE d 34 13 ls (v :: st) h Q) := g_getf rfl
theorem s34_13 : XE d 34 13 ls (.int x :: st) h Q ↔ (if 0 < x then XE d 34 16 ls st h Q else XE d 34 50 ls st h Q) := g_ifle rfl
theorem s34_16 : XE d 34 16 (.val (.ref a) :: l) st h Q ↔ XE d 34 17 (.val (.ref a) :: l) (.ref a :: st) h Q := g_aload rfl rfl
theorem s34_17 : XE d 34 17 ls (.ref a :: st) h Q ↔ (xvo 8 st = true ∧ XV [(7, 37)] (h.2.2.1 a) (fun m' => XC d m' [.ref a] h (fun v h' => XE d 34 20 ls (v.toList ++ st) h' Q))) := h_v0 rfl
theorem s34_20 : XE d 34 20 ls st h Q ↔ XE d 34 22 ls (.int 40 :: st) h Q := g_const rfl
theorem s34_22 : XE d 34 22 ls (.int y :: .int x :: st) h Q ↔ (if x = y then XE d 34 50 ls st h Q else XE d 34 25 ls st h Q) := g_ceq rfl
theorem s34_25 : XE d 34 25 (.val (.ref a) :: l) st h Q ↔ XE d 34 26 (.val (.ref a) :: l) (.ref a :: st) h Q := g_aload rfl rfl
theorem s34_26 : XE d 34 26 ls st h Q ↔ XE d 34 29 ls (.int (-1000) :: st) h Q := g_const rfl
theorem s34_29 : XE d 34 29 (.val (.ref a) :: l) st h Q ↔ XE d 34 30 (.val (.ref a) :: l) (.ref a :: st) h Q := g_aload rfl rfl
theorem s34_30 : XE d 34 30 ls (.ref a :: st) h Q ↔ (xvo 8 st = true ∧ XV [(7, 37)] (h.2.2.1 a) (fun m' => XC d m' [.ref a] h (fun v h' => XE d 34 33 ls (v.toList ++ st) h' Q))) := h_v0 rfl
theorem s34_33 : XE d 34 33 ls (.int y :: .int x :: st) h Q ↔ XE d 34 34 ls (.int (x - y) :: st) h Q := g_sub rfl
theorem s34_34 : XE d 34 34 ls (.int x :: .ref a :: st) h Q ↔ (xvo 8 st = true ∧ XV [(7, 39)] (h.2.2.1 a) (fun m' => XC d m' [.ref a, .int x] h (fun v h' => XE d 34 37 ls (v.toList ++ st) h' Q))) := h_v1 rfl rfl
theorem s34_37 : XE d 34 37 (.val (.ref a) :: l) st h Q ↔ XE d 34 38 (.val (.ref a) :: l) (.ref a :: st) h Q := g_aload rfl rfl
theorem s34_38 : XE d 34 38 ls (.int x :: st) h Q ↔ XE d 34 39 ls (.int x :: .int x :: st) h Q := g_dupI rfl
theorem s34_38r : XE d 34 38 ls (.ref a :: st) h Q ↔ XE d 34 39 ls (.ref a :: .ref a :: st) h Q := g_dupR rfl
theorem s34_39 : XE d 34 39 ls (.ref a :: st) h Q ↔ XG [7] 10 (h.2.2.1 a) (fun v => XE d 34 42 ls (v :: st) h Q) := g_getf rfl
theorem s34_42 : XE d 34 42 ls st h Q ↔ XE d 34 43 ls (.int 1 :: st) h Q := g_const rfl
theorem s34_43 : XE d 34 43 ls (.int y :: .int x :: st) h Q ↔ XE d 34 44 ls (.int (x - y) :: st) h Q := g_sub rfl
theorem s34_44 : XE d 34 44 ls (.int x :: .ref a :: st) h Q ↔ XP [7] 10 (.int x) (h.2.2.1 a) (fun e => XE d 34 47 ls st (xset h a e) Q) := g_puti rfl
theorem s34_47 : XE d 34 47 ls st h Q ↔ XE d 34 9 ls st h Q := g_goto rfl
theorem s34_50 : XE d 34 50 (.val (.ref a) :: l) st h Q ↔ XE d 34 51 (.val (.ref a) :: l) (.ref a :: st) h Q := g_aload rfl rfl
theorem s34_51 : XE d 34 51 ls (.ref a :: st) h Q ↔ XG [7] 10 (h.2.2.1 a) (fun v => XE d 34 54 ls (v :: st) h Q) := g_getf rfl
theorem s34_54 : XE d 34 54 ls (.int x :: st) h Q ↔ (if 0 < x then XE d 34 57 ls st h Q else XE d 34 67 ls st h Q) := g_ifle rfl
theorem s34_57 : XE d 34 57 (.val (.ref a) :: l) st h Q ↔ XE d 34 58 (.val (.ref a) :: l) (.ref a :: st) h Q := g_aload rfl rfl
theorem s34_58 : XE d 34 58 ls (.int x :: st) h Q ↔ XE d 34 59 ls (.int x :: .int x :: st) h Q := g_dupI rfl
theorem s34_58r : XE d 34 58 ls (.ref a :: st) h Q ↔ XE d 34 59 ls (.ref a :: .ref a :: st) h Q := g_dupR rfl
theorem s34_59 : XE d 34 59 ls (.ref a :: st) h Q ↔ XG [7] 10 (h.2.2.1 a) (fun v => XE d 34 62 ls (v :: st) h Q) := g_getf rfl
theorem s34_62 : XE d 34 62 ls st h Q ↔ XE d 34 63 ls (.int 1 :: st) h Q := g_const rfl
theorem s34_63 : XE d 34 63 ls (.int y :: .int x :: st) h Q ↔ XE d 34 64 ls (.int (x - y) :: st) h Q := g_sub rfl
theorem s34_64 : XE d 34 64 ls (.int x :: .ref a :: st) h Q ↔ XP [7] 10 (.int x) (h.2.2.1 a) (fun e => XE d 34 67 ls st (xset h a e) Q) := g_puti rfl
theorem s34_67 : XE d 34 67 (.val (.ref a) :: l) st h Q ↔ XE d 34 68 (.val (.ref a) :: l) (.ref a :: st) h Q := g_aload rfl rfl
theorem s34_68 : XE d 34 68 ls (.int x :: st) h Q ↔ XE d 34 69 ls (.int x :: .int x :: st) h Q := g_dupI rfl
theorem s34_68r : XE d 34 68 ls (.ref a :: st) h Q ↔ XE d 34 69 ls (.ref a :: .ref a :: st) h Q := g_dupR rfl
theorem s34_69 : XE d 34 69 ls (.ref a :: st) h Q ↔ XG [7] 11 (h.2.2.1 a) (fun v => XE d 34 72 ls (v :: st) h Q) := g_getf rfl
theorem s34_72 : XE d 34 72 ls st h Q ↔ XE d 34 73 ls (.int 1 :: st) h Q := g_const rfl
theorem s34_73 : XE d 34 73 ls (.int y :: .int x :: st) h Q ↔ XE d 34 74 ls (.int (x - y) :: st) h Q := g_sub rfl
theorem s34_74 : XE d 34 74 ls (.int x :: .ref a :: st) h Q ↔ XP [7] 11 (.int x) (h.2.2.1 a) (fun e => XE d 34 77 ls st (xset h a e) Q) := g_puti rfl
theorem s34_77 : XE d 34 77 (.val (.ref a) :: l) st h Q ↔ XE d 34 78 (.val (.ref a) :: l) (.ref a :: st) h Q := g_aload rfl rfl
theorem s34_78 : XE d 34 78 ls (.ref a :: st) h Q ↔ (xvo 8 st = true ∧ XV [(7, 35)] (h.2.2.1 a) (fun m' => XC d m' [.ref a] h (fun v h' => XE d 34 81 ls (v.toList ++ st) h' Q))) := h_v0 rfl
theorem s34_81 : XE d 34 81 ls st h Q ↔ XE d 34 82 ls (.int 1 :: st) h Q := g_const rfl
theorem s34_82 : XE d 34 82 ls [.int 0] h Q ↔ Q (some (.int 0)) h := g_zret rfl rfl
theorem s34_82t : XE d 34 82 ls [.int 1] h Q ↔ Q (some (.int 1)) h := g_zret rfl rfl
theorem s34_82b : XE d 34 82 ls [.int (bI q)] h Q ↔ Q (some (.int (bI q))) h := g_zret (bI_nar q) rfl
-- 35: TwoBells$Tape.endPiece()V
theorem e35 : XC (d + 1) 35 [.ref a] h Q ↔ XE d 35 0 [.val (.ref a)] [] h Q := XC_in rfl
theorem s35_0 : XE d 35 0 (.val (.ref a) :: l) st h Q ↔ XE d 35 1 (.val (.ref a) :: l) (.ref a :: st) h Q := g_aload rfl rfl
theorem s35_1 : XE d 35 1 ls (.ref a :: st) h Q ↔ XG [7] 10 (h.2.2.1 a) (fun v => XE d 35 4 ls (v :: st) h Q) := g_getf rfl
theorem s35_4 : XE d 35 4 ls (.int x :: st) h Q ↔ (if 0 < x then XE d 35 7 ls st h Q else XE d 35 51 ls st h Q) := g_ifle rfl
theorem s35_7 : XE d 35 7 (.val (.ref a) :: l) st h Q ↔ XE d 35 8 (.val (.ref a) :: l) (.ref a :: st) h Q := g_aload rfl rfl
theorem s35_8 : XE d 35 8 ls (.ref a :: st) h Q ↔ (xvo 8 st = true ∧ XV [(7, 37)] (h.2.2.1 a) (fun m' => XC d m' [.ref a] h (fun v h' => XE d 35 11 ls (v.toList ++ st) h' Q))) := h_v0 rfl
theorem s35_11 : XE d 35 11 ls st h Q ↔ XE d 35 13 ls (.int 33 :: st) h Q := g_const rfl
theorem s35_13 : XE d 35 13 ls (.int y :: .int x :: st) h Q ↔ (if x = y then XE d 35 16 ls st h Q else XE d 35 51 ls st h Q) := g_cne rfl
theorem s35_16 : XE d 35 16 (.val (.ref a) :: l) st h Q ↔ XE d 35 17 (.val (.ref a) :: l) (.ref a :: st) h Q := g_aload rfl rfl
theorem s35_17 : XE d 35 17 ls st h Q ↔ XE d 35 20 ls (.int (-1000) :: st) h Q := g_const rfl
theorem s35_20 : XE d 35 20 (.val (.ref a) :: l) st h Q ↔ XE d 35 21 (.val (.ref a) :: l) (.ref a :: st) h Q := g_aload rfl rfl
theorem s35_21 : XE d 35 21 ls (.ref a :: st) h Q ↔ (xvo 8 st = true ∧ XV [(7, 37)] (h.2.2.1 a) (fun m' => XC d m' [.ref a] h (fun v h' => XE d 35 24 ls (v.toList ++ st) h' Q))) := h_v0 rfl
theorem s35_24 : XE d 35 24 ls (.int y :: .int x :: st) h Q ↔ XE d 35 25 ls (.int (x - y) :: st) h Q := g_sub rfl
theorem s35_25 : XE d 35 25 ls (.int x :: .ref a :: st) h Q ↔ (xvo 8 st = true ∧ XV [(7, 39)] (h.2.2.1 a) (fun m' => XC d m' [.ref a, .int x] h (fun v h' => XE d 35 28 ls (v.toList ++ st) h' Q))) := h_v1 rfl rfl
theorem s35_28 : XE d 35 28 (.val (.ref a) :: l) st h Q ↔ XE d 35 29 (.val (.ref a) :: l) (.ref a :: st) h Q := g_aload rfl rfl
theorem s35_29 : XE d 35 29 ls (.int x :: st) h Q ↔ XE d 35 30 ls (.int x :: .int x :: st) h Q := g_dupI rfl
theorem s35_29r : XE d 35 29 ls (.ref a :: st) h Q ↔ XE d 35 30 ls (.ref a :: .ref a :: st) h Q := g_dupR rfl
theorem s35_30 : XE d 35 30 ls (.ref a :: st) h Q ↔ XG [7] 12 (h.2.2.1 a) (fun v => XE d 35 33 ls (v :: st) h Q) := g_getf rfl
theorem s35_33 : XE d 35 33 ls st h Q ↔ XE d 35 34 ls (.int 1 :: st) h Q := g_const rfl
theorem s35_34 : XE d 35 34 ls (.int y :: .int x :: st) h Q ↔ XE d 35 35 ls (.int (x - y) :: st) h Q := g_sub rfl
theorem s35_35 : XE d 35 35 ls (.int x :: .ref a :: st) h Q ↔ XP [7] 12 (.int x) (h.2.2.1 a) (fun e => XE d 35 38 ls st (xset h a e) Q) := g_puti rfl
theorem s35_38 : XE d 35 38 (.val (.ref a) :: l) st h Q ↔ XE d 35 39 (.val (.ref a) :: l) (.ref a :: st) h Q := g_aload rfl rfl
theorem s35_39 : XE d 35 39 ls (.int x :: st) h Q ↔ XE d 35 40 ls (.int x :: .int x :: st) h Q := g_dupI rfl
theorem s35_39r : XE d 35 39 ls (.ref a :: st) h Q ↔ XE d 35 40 ls (.ref a :: .ref a :: st) h Q := g_dupR rfl
theorem s35_40 : XE d 35 40 ls (.ref a :: st) h Q ↔ XG [7] 10 (h.2.2.1 a) (fun v => XE d 35 43 ls (v :: st) h Q) := g_getf rfl
theorem s35_43 : XE d 35 43 ls st h Q ↔ XE d 35 44 ls (.int 1 :: st) h Q := g_const rfl
theorem s35_44 : XE d 35 44 ls (.int y :: .int x :: st) h Q ↔ XE d 35 45 ls (.int (x - y) :: st) h Q := g_sub rfl
theorem s35_45 : XE d 35 45 ls (.int x :: .ref a :: st) h Q ↔ XP [7] 10 (.int x) (h.2.2.1 a) (fun e => XE d 35 48 ls st (xset h a e) Q) := g_puti rfl
theorem s35_48 : XE d 35 48 ls st h Q ↔ XE d 35 0 ls st h Q := g_goto rfl
theorem s35_51 : XE d 35 51 (.val (.ref a) :: l) st h Q ↔ XE d 35 52 (.val (.ref a) :: l) (.ref a :: st) h Q := g_aload rfl rfl
theorem s35_52 : XE d 35 52 ls st h Q ↔ XE d 35 53 ls (.int 0 :: st) h Q := g_const rfl
theorem s35_53 : XE d 35 53 ls (.int x :: .ref a :: st) h Q ↔ ((x = 0 ∨ x = 1) ∧ XP [7] 13 (.int x) (h.2.2.1 a) (fun e => XE d 35 56 ls st (xset h a e) Q)) := g_putz rfl
theorem s35_56 : XE d 35 56 ls [] h Q ↔ Q none h := g_ret rfl
-- 36: TwoBells$Tape.rankOf(I)I
theorem e36 : XC (d + 1) 36 [.int x] h Q ↔ XE d 36 0 [.val (.int x)] [] h Q := XC_in rfl
theorem s36_0 : XE d 36 0 (.val (.int x) :: l) st h Q ↔ XE d 36 1 (.val (.int x) :: l) (.int x :: st) h Q := g_iload rfl rfl
theorem s36_1 : XE d 36 1 ls (.int x :: st) h Q ↔ xswi d 36 x 94 ls st h Q [(38, 86), (42, 92), (43, 90), (45, 90), (47, 92), (60, 88), (61, 88), (62, 88), (124, 84)] := g_switch rfl
theorem s36_84 : XE d 36 84 ls st h Q ↔ XE d 36 85 ls (.int 1 :: st) h Q := g_const rfl
theorem s36_85 : XE d 36 85 ls [.int x] h Q ↔ Q (some (.int x)) h := g_iret rfl
theorem s36_86 : XE d 36 86 ls st h Q ↔ XE d 36 87 ls (.int 2 :: st) h Q := g_const rfl
theorem s36_87 : XE d 36 87 ls [.int x] h Q ↔ Q (some (.int x)) h := g_iret rfl
theorem s36_88 : XE d 36 88 ls st h Q ↔ XE d 36 89 ls (.int 3 :: st) h Q := g_const rfl
theorem s36_89 : XE d 36 89 ls [.int x] h Q ↔ Q (some (.int x)) h := g_iret rfl
theorem s36_90 : XE d 36 90 ls st h Q ↔ XE d 36 91 ls (.int 4 :: st) h Q := g_const rfl
theorem s36_91 : XE d 36 91 ls [.int x] h Q ↔ Q (some (.int x)) h := g_iret rfl
theorem s36_92 : XE d 36 92 ls st h Q ↔ XE d 36 93 ls (.int 5 :: st) h Q := g_const rfl
theorem s36_93 : XE d 36 93 ls [.int x] h Q ↔ Q (some (.int x)) h := g_iret rfl
theorem s36_94 : XE d 36 94 ls st h Q ↔ XE d 36 95 ls (.int 0 :: st) h Q := g_const rfl
theorem s36_95 : XE d 36 95 ls [.int x] h Q ↔ Q (some (.int x)) h := g_iret rfl
-- 37: TwoBells$Tape.top()I
theorem e37 : XC (d + 1) 37 [.ref a] h Q ↔ XE d 37 0 [.val (.ref a)] [] h Q := XC_in rfl
theorem s37_0 : XE d 37 0 (.val (.ref a) :: l) st h Q ↔ XE d 37 1 (.val (.ref a) :: l) (.ref a :: st) h Q := g_aload rfl rfl
theorem s37_1 : XE d 37 1 ls (.ref a :: st) h Q ↔ XG [7] 10 (h.2.2.1 a) (fun v => XE d 37 4 ls (v :: st) h Q) := g_getf rfl
theorem s37_4 : XE d 37 4 ls (.int x :: st) h Q ↔ (if 0 < x then XE d 37 7 ls st h Q else XE d 37 30 ls st h Q) := g_ifle rfl
theorem s37_7 : XE d 37 7 (.val (.ref a) :: l) st h Q ↔ XE d 37 8 (.val (.ref a) :: l) (.ref a :: st) h Q := g_aload rfl rfl
theorem s37_8 : XE d 37 8 ls (.ref a :: st) h Q ↔ XG [7] 10 (h.2.2.1 a) (fun v => XE d 37 11 ls (v :: st) h Q) := g_getf rfl
theorem s37_11 : XE d 37 11 ls st h Q ↔ XE d 37 13 ls (.int 96 :: st) h Q := g_const rfl
theorem s37_13 : XE d 37 13 ls (.int y :: .int x :: st) h Q ↔ (if y < x then XE d 37 30 ls st h Q else XE d 37 16 ls st h Q) := g_cgt rfl
theorem s37_16 : XE d 37 16 (.val (.ref a) :: l) st h Q ↔ XE d 37 17 (.val (.ref a) :: l) (.ref a :: st) h Q := g_aload rfl rfl
theorem s37_17 : XE d 37 17 ls (.ref a :: st) h Q ↔ XG [7] 9 (h.2.2.1 a) (fun v => XE d 37 20 ls (v :: st) h Q) := g_getf rfl
theorem s37_20 : XE d 37 20 (.val (.ref a) :: l) st h Q ↔ XE d 37 21 (.val (.ref a) :: l) (.ref a :: st) h Q := g_aload rfl rfl
theorem s37_21 : XE d 37 21 ls (.ref a :: st) h Q ↔ XG [7] 10 (h.2.2.1 a) (fun v => XE d 37 24 ls (v :: st) h Q) := g_getf rfl
theorem s37_24 : XE d 37 24 ls st h Q ↔ XE d 37 25 ls (.int 1 :: st) h Q := g_const rfl
theorem s37_25 : XE d 37 25 ls (.int y :: .int x :: st) h Q ↔ XE d 37 26 ls (.int (x - y) :: st) h Q := g_sub rfl
theorem s37_26 : XE d 37 26 ls (.int x :: .ref a :: st) h Q ↔ XA [0, 7] (h.2.2.1 a) x (fun k => XE d 37 27 ls (.int k :: st) h Q) := g_ald rfl
theorem s37_27 : XE d 37 27 ls st h Q ↔ XE d 37 31 ls st h Q := g_goto rfl
theorem s37_30 : XE d 37 30 ls st h Q ↔ XE d 37 31 ls (.int 0 :: st) h Q := g_const rfl
theorem s37_31 : XE d 37 31 ls [.int x] h Q ↔ Q (some (.int x)) h := g_iret rfl
-- 38: TwoBells$Tape.push(I)V
theorem e38 : XC (d + 1) 38 [.ref a, .int x] h Q ↔ XE d 38 0 [.val (.ref a), .val (.int x)] [] h Q := XC_in rfl
theorem s38_0 : XE d 38 0 (.val (.ref a) :: l) st h Q ↔ XE d 38 1 (.val (.ref a) :: l) (.ref a :: st) h Q := g_aload rfl rfl
theorem s38_1 : XE d 38 1 ls (.ref a :: st) h Q ↔ XG [7] 10 (h.2.2.1 a) (fun v => XE d 38 4 ls (v :: st) h Q) := g_getf rfl
theorem s38_4 : XE d 38 4 ls st h Q ↔ XE d 38 6 ls (.int 96 :: st) h Q := g_const rfl
theorem s38_6 : XE d 38 6 ls (.int y :: .int x :: st) h Q ↔ (if x < y then XE d 38 9 ls st h Q else XE d 38 29 ls st h Q) := g_cge rfl
theorem s38_9 : XE d 38 9 (.val (.ref a) :: l) st h Q ↔ XE d 38 10 (.val (.ref a) :: l) (.ref a :: st) h Q := g_aload rfl rfl
theorem s38_10 : XE d 38 10 ls (.ref a :: st) h Q ↔ XG [7] 9 (h.2.2.1 a) (fun v => XE d 38 13 ls (v :: st) h Q) := g_getf rfl
theorem s38_13 : XE d 38 13 (.val (.ref a) :: l) st h Q ↔ XE d 38 14 (.val (.ref a) :: l) (.ref a :: st) h Q := g_aload rfl rfl
theorem s38_14 : XE d 38 14 ls (.ref a :: st) h Q ↔ XG [7] 10 (h.2.2.1 a) (fun v => XE d 38 17 ls (v :: st) h Q) := g_getf rfl
theorem s38_17 : XE d 38 17 (c0 :: .val (.int x) :: l) st h Q ↔ XE d 38 18 (c0 :: .val (.int x) :: l) (.int x :: st) h Q := g_iload rfl rfl
theorem s38_18 : XE d 38 18 ls (.int y :: .int x :: .ref a :: st) h Q ↔ XS 0 (h.2.2.1 a) x y (fun e => XE d 38 19 ls st (xset h a e) Q) := g_iast rfl
theorem s38_19 : XE d 38 19 (.val (.ref a) :: l) st h Q ↔ XE d 38 20 (.val (.ref a) :: l) (.ref a :: st) h Q := g_aload rfl rfl
theorem s38_20 : XE d 38 20 ls (.int x :: st) h Q ↔ XE d 38 21 ls (.int x :: .int x :: st) h Q := g_dupI rfl
theorem s38_20r : XE d 38 20 ls (.ref a :: st) h Q ↔ XE d 38 21 ls (.ref a :: .ref a :: st) h Q := g_dupR rfl
theorem s38_21 : XE d 38 21 ls (.ref a :: st) h Q ↔ XG [7] 10 (h.2.2.1 a) (fun v => XE d 38 24 ls (v :: st) h Q) := g_getf rfl
theorem s38_24 : XE d 38 24 ls st h Q ↔ XE d 38 25 ls (.int 1 :: st) h Q := g_const rfl
theorem s38_25 : XE d 38 25 ls (.int y :: .int x :: st) h Q ↔ XE d 38 26 ls (.int (x + y) :: st) h Q := g_add rfl
theorem s38_26 : XE d 38 26 ls (.int x :: .ref a :: st) h Q ↔ XP [7] 10 (.int x) (h.2.2.1 a) (fun e => XE d 38 29 ls st (xset h a e) Q) := g_puti rfl
theorem s38_29 : XE d 38 29 ls [] h Q ↔ Q none h := g_ret rfl
-- 39: TwoBells$Tape.emit(I)V
theorem e39 : XC (d + 1) 39 [.ref a, .int x] h Q ↔ XE d 39 0 [.val (.ref a), .val (.int x)] [] h Q := XC_in rfl
theorem s39_0 : XE d 39 0 (.val (.ref a) :: l) st h Q ↔ XE d 39 1 (.val (.ref a) :: l) (.ref a :: st) h Q := g_aload rfl rfl
theorem s39_1 : XE d 39 1 ls (.ref a :: st) h Q ↔ XG [7] 8 (h.2.2.1 a) (fun v => XE d 39 4 ls (v :: st) h Q) := g_getf rfl
theorem s39_4 : XE d 39 4 ls st h Q ↔ XE d 39 6 ls (.int 96 :: st) h Q := g_const rfl
theorem s39_6 : XE d 39 6 ls (.int y :: .int x :: st) h Q ↔ (if x < y then XE d 39 9 ls st h Q else XE d 39 29 ls st h Q) := g_cge rfl
theorem s39_9 : XE d 39 9 (.val (.ref a) :: l) st h Q ↔ XE d 39 10 (.val (.ref a) :: l) (.ref a :: st) h Q := g_aload rfl rfl
theorem s39_10 : XE d 39 10 ls (.ref a :: st) h Q ↔ XG [7] 7 (h.2.2.1 a) (fun v => XE d 39 13 ls (v :: st) h Q) := g_getf rfl
theorem s39_13 : XE d 39 13 (.val (.ref a) :: l) st h Q ↔ XE d 39 14 (.val (.ref a) :: l) (.ref a :: st) h Q := g_aload rfl rfl
theorem s39_14 : XE d 39 14 ls (.ref a :: st) h Q ↔ XG [7] 8 (h.2.2.1 a) (fun v => XE d 39 17 ls (v :: st) h Q) := g_getf rfl
theorem s39_17 : XE d 39 17 (c0 :: .val (.int x) :: l) st h Q ↔ XE d 39 18 (c0 :: .val (.int x) :: l) (.int x :: st) h Q := g_iload rfl rfl
theorem s39_18 : XE d 39 18 ls (.int y :: .int x :: .ref a :: st) h Q ↔ XS 0 (h.2.2.1 a) x y (fun e => XE d 39 19 ls st (xset h a e) Q) := g_iast rfl
theorem s39_19 : XE d 39 19 (.val (.ref a) :: l) st h Q ↔ XE d 39 20 (.val (.ref a) :: l) (.ref a :: st) h Q := g_aload rfl rfl
theorem s39_20 : XE d 39 20 ls (.int x :: st) h Q ↔ XE d 39 21 ls (.int x :: .int x :: st) h Q := g_dupI rfl
theorem s39_20r : XE d 39 20 ls (.ref a :: st) h Q ↔ XE d 39 21 ls (.ref a :: .ref a :: st) h Q := g_dupR rfl
theorem s39_21 : XE d 39 21 ls (.ref a :: st) h Q ↔ XG [7] 8 (h.2.2.1 a) (fun v => XE d 39 24 ls (v :: st) h Q) := g_getf rfl
theorem s39_24 : XE d 39 24 ls st h Q ↔ XE d 39 25 ls (.int 1 :: st) h Q := g_const rfl
theorem s39_25 : XE d 39 25 ls (.int y :: .int x :: st) h Q ↔ XE d 39 26 ls (.int (x + y) :: st) h Q := g_add rfl
theorem s39_26 : XE d 39 26 ls (.int x :: .ref a :: st) h Q ↔ XP [7] 8 (.int x) (h.2.2.1 a) (fun e => XE d 39 29 ls st (xset h a e) Q) := g_puti rfl
theorem s39_29 : XE d 39 29 ls [] h Q ↔ Q none h := g_ret rfl
-- 40: TwoBells$Text.<init>(II[I)V
theorem e40 : XC (d + 1) 40 [.ref a, .int x, .int y, .ref b] h Q ↔ XE d 40 0 [.val (.ref a), .val (.int x), .val (.int y), .val (.ref b)] [] h Q := XC_in rfl
theorem s40_0 : XE d 40 0 (.val (.ref a) :: l) st h Q ↔ XE d 40 1 (.val (.ref a) :: l) (.ref a :: st) h Q := g_aload rfl rfl
theorem s40_1 : XE d 40 1 ls (.ref a :: st) h Q ↔ (xvo 8 st = true ∧ XE d 40 4 ls st h Q) := h_objinit rfl
theorem s40_4 : XE d 40 4 (.val (.ref a) :: l) st h Q ↔ XE d 40 5 (.val (.ref a) :: l) (.ref a :: st) h Q := g_aload rfl rfl
theorem s40_5 : XE d 40 5 (c0 :: .val (.int x) :: l) st h Q ↔ XE d 40 6 (c0 :: .val (.int x) :: l) (.int x :: st) h Q := g_iload rfl rfl
theorem s40_6 : XE d 40 6 ls (.int x :: .ref a :: st) h Q ↔ XP [8] 0 (.int x) (h.2.2.1 a) (fun e => XE d 40 9 ls st (xset h a e) Q) := g_puti rfl
theorem s40_9 : XE d 40 9 (.val (.ref a) :: l) st h Q ↔ XE d 40 10 (.val (.ref a) :: l) (.ref a :: st) h Q := g_aload rfl rfl
theorem s40_10 : XE d 40 10 (c0 :: c1 :: .val (.int x) :: l) st h Q ↔ XE d 40 11 (c0 :: c1 :: .val (.int x) :: l) (.int x :: st) h Q := g_iload rfl rfl
theorem s40_11 : XE d 40 11 ls (.int x :: .ref a :: st) h Q ↔ XP [8] 1 (.int x) (h.2.2.1 a) (fun e => XE d 40 14 ls st (xset h a e) Q) := g_puti rfl
theorem s40_14 : XE d 40 14 (.val (.ref a) :: l) st h Q ↔ XE d 40 15 (.val (.ref a) :: l) (.ref a :: st) h Q := g_aload rfl rfl
theorem s40_15 : XE d 40 15 (c0 :: c1 :: c2 :: .val (.ref a) :: l) st h Q ↔ XE d 40 16 (c0 :: c1 :: c2 :: .val (.ref a) :: l) (.ref a :: st) h Q := g_aload rfl rfl
theorem s40_15n : XE d 40 15 (c0 :: c1 :: c2 :: .val .null :: l) st h Q ↔ XE d 40 16 (c0 :: c1 :: c2 :: .val .null :: l) (.null :: st) h Q := g_aloadN rfl rfl
theorem s40_16 : XE d 40 16 ls (.ref b :: .ref a :: st) h Q ↔ XP [8] 2 (.ref b) (h.2.2.1 a) (fun e => XE d 40 19 ls st (xset h a e) Q) := g_putaR rfl
theorem s40_16n : XE d 40 16 ls (.null :: .ref a :: st) h Q ↔ XP [8] 2 .null (h.2.2.1 a) (fun e => XE d 40 19 ls st (xset h a e) Q) := g_putaN rfl
theorem s40_19 : XE d 40 19 (.val (.ref a) :: l) st h Q ↔ XE d 40 20 (.val (.ref a) :: l) (.ref a :: st) h Q := g_aload rfl rfl
theorem s40_20 : XE d 40 20 (c0 :: c1 :: c2 :: .val (.ref a) :: l) st h Q ↔ XE d 40 21 (c0 :: c1 :: c2 :: .val (.ref a) :: l) (.ref a :: st) h Q := g_aload rfl rfl
theorem s40_20n : XE d 40 20 (c0 :: c1 :: c2 :: .val .null :: l) st h Q ↔ XE d 40 21 (c0 :: c1 :: c2 :: .val .null :: l) (.null :: st) h Q := g_aloadN rfl rfl
theorem s40_21 : XE d 40 21 ls (.ref a :: st) h Q ↔ XL (h.2.2.1 a) (fun k => XE d 40 22 ls (.int k :: st) h Q) := g_alen rfl
theorem s40_22 : XE d 40 22 ls (.int x :: st) h Q ↔ ((0 ≤ x ∧ x.toNatClampNeg ≤ 100000) ∧ XE d 40 24 ls (.ref h.1 :: st) (xnew h x.toNatClampNeg (.inl (0, xis x.toNatClampNeg (fun _ => 0)))) Q) := g_newa rfl
theorem s40_24 : XE d 40 24 ls (.ref b :: .ref a :: st) h Q ↔ XP [8] 3 (.ref b) (h.2.2.1 a) (fun e => XE d 40 27 ls st (xset h a e) Q) := g_putaR rfl
theorem s40_24n : XE d 40 24 ls (.null :: .ref a :: st) h Q ↔ XP [8] 3 .null (h.2.2.1 a) (fun e => XE d 40 27 ls st (xset h a e) Q) := g_putaN rfl
theorem s40_27 : XE d 40 27 ls [] h Q ↔ Q none h := g_ret rfl
-- 41: TwoBells$Text.gives(IIII)I
theorem e41 : XC (d + 1) 41 [.ref a, .int x, .int y, .int z, .int w] h Q ↔ XE d 41 0 [.val (.ref a), .val (.int x), .val (.int y), .val (.int z), .val (.int w), .unset, .unset, .unset] [] h Q := XC_in rfl
theorem s41_0 : XE d 41 0 ls st h Q ↔ XE d 41 1 ls (.int 0 :: st) h Q := g_const rfl
theorem s41_1 : XE d 41 1 (c0 :: c1 :: c2 :: c3 :: c4 :: c5 :: l) (.int x :: st) h Q ↔ XE d 41 3 (c0 :: c1 :: c2 :: c3 :: c4 :: .val (.int x) :: l) st h Q := g_istore (Nat.lt_of_lt_of_le (show 5 < 6 by decide) (Nat.le_add_left 6 _)) rfl rfl
theorem s41_3 : XE d 41 3 ls st h Q ↔ XE d 41 4 ls (.int 0 :: st) h Q := g_const rfl
theorem s41_4 : XE d 41 4 (c0 :: c1 :: c2 :: c3 :: c4 :: c5 :: c6 :: l) (.int x :: st) h Q ↔ XE d 41 6 (c0 :: c1 :: c2 :: c3 :: c4 :: c5 :: .val (.int x) :: l) st h Q := g_istore (Nat.lt_of_lt_of_le (show 6 < 7 by decide) (Nat.le_add_left 7 _)) rfl rfl
theorem s41_6 : XE d 41 6 (c0 :: c1 :: c2 :: c3 :: c4 :: c5 :: .val (.int x) :: l) st h Q ↔ XE d 41 8 (c0 :: c1 :: c2 :: c3 :: c4 :: c5 :: .val (.int x) :: l) (.int x :: st) h Q := g_iload rfl rfl
theorem s41_8 : XE d 41 8 (.val (.ref a) :: l) st h Q ↔ XE d 41 9 (.val (.ref a) :: l) (.ref a :: st) h Q := g_aload rfl rfl
theorem s41_9 : XE d 41 9 ls (.ref a :: st) h Q ↔ XG [8] 2 (h.2.2.1 a) (fun v => XE d 41 12 ls (v :: st) h Q) := g_getf rfl
theorem s41_12 : XE d 41 12 ls (.ref a :: st) h Q ↔ XL (h.2.2.1 a) (fun k => XE d 41 13 ls (.int k :: st) h Q) := g_alen rfl
theorem s41_13 : XE d 41 13 ls (.int y :: .int x :: st) h Q ↔ (if x < y then XE d 41 16 ls st h Q else XE d 41 169 ls st h Q) := g_cge rfl
theorem s41_16 : XE d 41 16 (.val (.ref a) :: l) st h Q ↔ XE d 41 17 (.val (.ref a) :: l) (.ref a :: st) h Q := g_aload rfl rfl
theorem s41_17 : XE d 41 17 ls (.ref a :: st) h Q ↔ XG [8] 2 (h.2.2.1 a) (fun v => XE d 41 20 ls (v :: st) h Q) := g_getf rfl
theorem s41_20 : XE d 41 20 (c0 :: c1 :: c2 :: c3 :: c4 :: c5 :: .val (.int x) :: l) st h Q ↔ XE d 41 22 (c0 :: c1 :: c2 :: c3 :: c4 :: c5 :: .val (.int x) :: l) (.int x :: st) h Q := g_iload rfl rfl
theorem s41_22 : XE d 41 22 ls (.int x :: .ref a :: st) h Q ↔ XA [0, 7] (h.2.2.1 a) x (fun k => XE d 41 23 ls (.int k :: st) h Q) := g_ald rfl
theorem s41_23 : XE d 41 23 (c0 :: c1 :: c2 :: c3 :: c4 :: c5 :: c6 :: c7 :: l) (.int x :: st) h Q ↔ XE d 41 25 (c0 :: c1 :: c2 :: c3 :: c4 :: c5 :: c6 :: .val (.int x) :: l) st h Q := g_istore (Nat.lt_of_lt_of_le (show 7 < 8 by decide) (Nat.le_add_left 8 _)) rfl rfl
theorem s41_25 : XE d 41 25 (c0 :: c1 :: c2 :: c3 :: c4 :: c5 :: c6 :: .val (.int x) :: l) st h Q ↔ XE d 41 27 (c0 :: c1 :: c2 :: c3 :: c4 :: c5 :: c6 :: .val (.int x) :: l) (.int x :: st) h Q := g_iload rfl rfl
theorem s41_27 : XE d 41 27 ls st h Q ↔ XE d 41 30 ls (.int (-1000) :: st) h Q := g_const rfl
theorem s41_30 : XE d 41 30 ls (.int y :: .int x :: st) h Q ↔ (if y < x then XE d 41 33 ls st h Q else XE d 41 78 ls st h Q) := g_cle rfl
theorem s41_33 : XE d 41 33 (c0 :: c1 :: c2 :: c3 :: c4 :: .val (.int x) :: l) st h Q ↔ XE d 41 35 (c0 :: c1 :: c2 :: c3 :: c4 :: .val (.int x) :: l) (.int x :: st) h Q := g_iload rfl rfl
theorem s41_35 : XE d 41 35 (.val (.ref a) :: l) st h Q ↔ XE d 41 36 (.val (.ref a) :: l) (.ref a :: st) h Q := g_aload rfl rfl
theorem s41_36 : XE d 41 36 ls (.ref a :: st) h Q ↔ XG [8] 3 (h.2.2.1 a) (fun v => XE d 41 39 ls (v :: st) h Q) := g_getf rfl
theorem s41_39 : XE d 41 39 ls (.ref a :: st) h Q ↔ XL (h.2.2.1 a) (fun k => XE d 41 40 ls (.int k :: st) h Q) := g_alen rfl
theorem s41_40 : XE d 41 40 ls (.int y :: .int x :: st) h Q ↔ (if x < y then XE d 41 43 ls st h Q else XE d 41 78 ls st h Q) := g_cge rfl
theorem s41_43 : XE d 41 43 (.val (.ref a) :: l) st h Q ↔ XE d 41 44 (.val (.ref a) :: l) (.ref a :: st) h Q := g_aload rfl rfl
theorem s41_44 : XE d 41 44 ls (.ref a :: st) h Q ↔ XG [8] 3 (h.2.2.1 a) (fun v => XE d 41 47 ls (v :: st) h Q) := g_getf rfl
theorem s41_47 : XE d 41 47 (c0 :: c1 :: c2 :: c3 :: c4 :: .val (.int x) :: l) st h Q ↔ XE d 41 49 (c0 :: c1 :: c2 :: c3 :: c4 :: .val (.int x) :: l) (.int x :: st) h Q := g_iload rfl rfl
theorem s41_49 : XE d 41 49 (c0 :: c1 :: c2 :: c3 :: c4 :: c5 :: c6 :: .val (.int x) :: l) st h Q ↔ XE d 41 51 (c0 :: c1 :: c2 :: c3 :: c4 :: c5 :: c6 :: .val (.int x) :: l) (.int x :: st) h Q := g_iload rfl rfl
theorem s41_51 : XE d 41 51 ls (.int x :: st) h Q ↔ (if x < 0 then XE d 41 59 ls st h Q else XE d 41 54 ls st h Q) := g_iflt rfl
theorem s41_54 : XE d 41 54 (c0 :: c1 :: c2 :: c3 :: c4 :: c5 :: c6 :: .val (.int x) :: l) st h Q ↔ XE d 41 56 (c0 :: c1 :: c2 :: c3 :: c4 :: c5 :: c6 :: .val (.int x) :: l) (.int x :: st) h Q := g_iload rfl rfl
theorem s41_56 : XE d 41 56 ls st h Q ↔ XE d 41 71 ls st h Q := g_goto rfl
theorem s41_59 : XE d 41 59 ls st h Q ↔ XE d 41 60 ls (.int (-1) :: st) h Q := g_const rfl
theorem s41_60 : XE d 41 60 (c0 :: c1 :: c2 :: c3 :: c4 :: c5 :: c6 :: .val (.int x) :: l) st h Q ↔ XE d 41 62 (c0 :: c1 :: c2 :: c3 :: c4 :: c5 :: c6 :: .val (.int x) :: l) (.int x :: st) h Q := g_iload rfl rfl
theorem s41_62 : XE d 41 62 ls (.int y :: .int x :: st) h Q ↔ XE d 41 63 ls (.int (x - y) :: st) h Q := g_sub rfl
theorem s41_63 : XE d 41 63 (c0 :: .val (.int x) :: l) st h Q ↔ XE d 41 64 (c0 :: .val (.int x) :: l) (.int x :: st) h Q := g_iload rfl rfl
theorem s41_64 : XE d 41 64 (c0 :: c1 :: .val (.int x) :: l) st h Q ↔ XE d 41 65 (c0 :: c1 :: .val (.int x) :: l) (.int x :: st) h Q := g_iload rfl rfl
theorem s41_65 : XE d 41 65 (c0 :: c1 :: c2 :: .val (.int x) :: l) st h Q ↔ XE d 41 66 (c0 :: c1 :: c2 :: .val (.int x) :: l) (.int x :: st) h Q := g_iload rfl rfl
theorem s41_66 : XE d 41 66 (c0 :: c1 :: c2 :: c3 :: .val (.int x) :: l) st h Q ↔ XE d 41 68 (c0 :: c1 :: c2 :: c3 :: .val (.int x) :: l) (.int x :: st) h Q := g_iload rfl rfl
theorem s41_68 : XE d 41 68 ls (.int u :: .int w :: .int z :: .int y :: .int x :: st) h Q ↔ (xvo 8 st = true ∧ XC d 42 [.int x, .int y, .int z, .int w, .int u] h (fun v h' => XE d 41 71 ls (v.toList ++ st) h' Q)) := h_s5 rfl rfl
theorem s41_71 : XE d 41 71 ls (.int y :: .int x :: .ref a :: st) h Q ↔ XS 0 (h.2.2.1 a) x y (fun e => XE d 41 72 ls st (xset h a e) Q) := g_iast rfl
theorem s41_72 : XE d 41 72 (c0 :: c1 :: c2 :: c3 :: c4 :: .val (.int x) :: l) st h Q ↔ XE d 41 75 (c0 :: c1 :: c2 :: c3 :: c4 :: .val (.int (x + 1)) :: l) st h Q := g_iinc rfl rfl rfl
theorem s41_75 : XE d 41 75 ls st h Q ↔ XE d 41 163 ls st h Q := g_goto rfl
theorem s41_78 : XE d 41 78 (c0 :: c1 :: c2 :: c3 :: c4 :: c5 :: c6 :: .val (.int x) :: l) st h Q ↔ XE d 41 80 (c0 :: c1 :: c2 :: c3 :: c4 :: c5 :: c6 :: .val (.int x) :: l) (.int x :: st) h Q := g_iload rfl rfl
theorem s41_80 : XE d 41 80 ls st h Q ↔ XE d 41 83 ls (.int (-1033) :: st) h Q := g_const rfl
theorem s41_83 : XE d 41 83 ls (.int y :: .int x :: st) h Q ↔ (if x = y then XE d 41 86 ls st h Q else XE d 41 120 ls st h Q) := g_cne rfl
theorem s41_86 : XE d 41 86 (c0 :: c1 :: c2 :: c3 :: c4 :: .val (.int x) :: l) st h Q ↔ XE d 41 88 (c0 :: c1 :: c2 :: c3 :: c4 :: .val (.int x) :: l) (.int x :: st) h Q := g_iload rfl rfl
theorem s41_88 : XE d 41 88 ls (.int x :: st) h Q ↔ (if 0 < x then XE d 41 91 ls st h Q else XE d 41 120 ls st h Q) := g_ifle rfl
theorem s41_91 : XE d 41 91 (.val (.ref a) :: l) st h Q ↔ XE d 41 92 (.val (.ref a) :: l) (.ref a :: st) h Q := g_aload rfl rfl
theorem s41_92 : XE d 41 92 ls (.ref a :: st) h Q ↔ XG [8] 3 (h.2.2.1 a) (fun v => XE d 41 95 ls (v :: st) h Q) := g_getf rfl
theorem s41_95 : XE d 41 95 (c0 :: c1 :: c2 :: c3 :: c4 :: .val (.int x) :: l) st h Q ↔ XE d 41 97 (c0 :: c1 :: c2 :: c3 :: c4 :: .val (.int x) :: l) (.int x :: st) h Q := g_iload rfl rfl
theorem s41_97 : XE d 41 97 ls st h Q ↔ XE d 41 98 ls (.int 1 :: st) h Q := g_const rfl
theorem s41_98 : XE d 41 98 ls (.int y :: .int x :: st) h Q ↔ XE d 41 99 ls (.int (x - y) :: st) h Q := g_sub rfl
theorem s41_99 : XE d 41 99 (.val (.ref a) :: l) st h Q ↔ XE d 41 100 (.val (.ref a) :: l) (.ref a :: st) h Q := g_aload rfl rfl
theorem s41_100 : XE d 41 100 ls (.ref a :: st) h Q ↔ XG [8] 3 (h.2.2.1 a) (fun v => XE d 41 103 ls (v :: st) h Q) := g_getf rfl
theorem s41_103 : XE d 41 103 (c0 :: c1 :: c2 :: c3 :: c4 :: .val (.int x) :: l) st h Q ↔ XE d 41 105 (c0 :: c1 :: c2 :: c3 :: c4 :: .val (.int x) :: l) (.int x :: st) h Q := g_iload rfl rfl
theorem s41_105 : XE d 41 105 ls st h Q ↔ XE d 41 106 ls (.int 1 :: st) h Q := g_const rfl
theorem s41_106 : XE d 41 106 ls (.int y :: .int x :: st) h Q ↔ XE d 41 107 ls (.int (x - y) :: st) h Q := g_sub rfl
theorem s41_107 : XE d 41 107 ls (.int x :: .ref a :: st) h Q ↔ XA [0, 7] (h.2.2.1 a) x (fun k => XE d 41 108 ls (.int k :: st) h Q) := g_ald rfl
theorem s41_108 : XE d 41 108 ls (.int x :: st) h Q ↔ (if x = 0 then XE d 41 111 ls st h Q else XE d 41 115 ls st h Q) := g_ifne rfl
theorem s41_111 : XE d 41 111 ls st h Q ↔ XE d 41 112 ls (.int 1 :: st) h Q := g_const rfl
theorem s41_112 : XE d 41 112 ls st h Q ↔ XE d 41 116 ls st h Q := g_goto rfl
theorem s41_115 : XE d 41 115 ls st h Q ↔ XE d 41 116 ls (.int 0 :: st) h Q := g_const rfl
theorem s41_116 : XE d 41 116 ls (.int y :: .int x :: .ref a :: st) h Q ↔ XS 0 (h.2.2.1 a) x y (fun e => XE d 41 117 ls st (xset h a e) Q) := g_iast rfl
theorem s41_117 : XE d 41 117 ls st h Q ↔ XE d 41 163 ls st h Q := g_goto rfl
theorem s41_120 : XE d 41 120 (c0 :: c1 :: c2 :: c3 :: c4 :: .val (.int x) :: l) st h Q ↔ XE d 41 122 (c0 :: c1 :: c2 :: c3 :: c4 :: .val (.int x) :: l) (.int x :: st) h Q := g_iload rfl rfl
theorem s41_122 : XE d 41 122 ls st h Q ↔ XE d 41 123 ls (.int 1 :: st) h Q := g_const rfl
theorem s41_123 : XE d 41 123 ls (.int y :: .int x :: st) h Q ↔ (if y < x then XE d 41 126 ls st h Q else XE d 41 163 ls st h Q) := g_cle rfl
theorem s41_126 : XE d 41 126 (c0 :: c1 :: c2 :: c3 :: c4 :: .val (.int x) :: l) st h Q ↔ XE d 41 129 (c0 :: c1 :: c2 :: c3 :: c4 :: .val (.int (x + (-1))) :: l) st h Q := g_iinc rfl rfl rfl
theorem s41_129 : XE d 41 129 (.val (.ref a) :: l) st h Q ↔ XE d 41 130 (.val (.ref a) :: l) (.ref a :: st) h Q := g_aload rfl rfl
theorem s41_130 : XE d 41 130 ls (.ref a :: st) h Q ↔ XG [8] 3 (h.2.2.1 a) (fun v => XE d 41 133 ls (v :: st) h Q) := g_getf rfl
theorem s41_133 : XE d 41 133 (c0 :: c1 :: c2 :: c3 :: c4 :: .val (.int x) :: l) st h Q ↔ XE d 41 135 (c0 :: c1 :: c2 :: c3 :: c4 :: .val (.int x) :: l) (.int x :: st) h Q := g_iload rfl rfl
theorem s41_135 : XE d 41 135 ls st h Q ↔ XE d 41 136 ls (.int 1 :: st) h Q := g_const rfl
theorem s41_136 : XE d 41 136 ls (.int y :: .int x :: st) h Q ↔ XE d 41 137 ls (.int (x - y) :: st) h Q := g_sub rfl
theorem s41_137 : XE d 41 137 ls st h Q ↔ XE d 41 140 ls (.int (-1000) :: st) h Q := g_const rfl
theorem s41_140 : XE d 41 140 (c0 :: c1 :: c2 :: c3 :: c4 :: c5 :: c6 :: .val (.int x) :: l) st h Q ↔ XE d 41 142 (c0 :: c1 :: c2 :: c3 :: c4 :: c5 :: c6 :: .val (.int x) :: l) (.int x :: st) h Q := g_iload rfl rfl
theorem s41_142 : XE d 41 142 ls (.int y :: .int x :: st) h Q ↔ XE d 41 143 ls (.int (x - y) :: st) h Q := g_sub rfl
theorem s41_143 : XE d 41 143 (.val (.ref a) :: l) st h Q ↔ XE d 41 144 (.val (.ref a) :: l) (.ref a :: st) h Q := g_aload rfl rfl
theorem s41_144 : XE d 41 144 ls (.ref a :: st) h Q ↔ XG [8] 3 (h.2.2.1 a) (fun v => XE d 41 147 ls (v :: st) h Q) := g_getf rfl
theorem s41_147 : XE d 41 147 (c0 :: c1 :: c2 :: c3 :: c4 :: .val (.int x) :: l) st h Q ↔ XE d 41 149 (c0 :: c1 :: c2 :: c3 :: c4 :: .val (.int x) :: l) (.int x :: st) h Q := g_iload rfl rfl
theorem s41_149 : XE d 41 149 ls st h Q ↔ XE d 41 150 ls (.int 1 :: st) h Q := g_const rfl
theorem s41_150 : XE d 41 150 ls (.int y :: .int x :: st) h Q ↔ XE d 41 151 ls (.int (x - y) :: st) h Q := g_sub rfl
theorem s41_151 : XE d 41 151 ls (.int x :: .ref a :: st) h Q ↔ XA [0, 7] (h.2.2.1 a) x (fun k => XE d 41 152 ls (.int k :: st) h Q) := g_ald rfl
theorem s41_152 : XE d 41 152 (.val (.ref a) :: l) st h Q ↔ XE d 41 153 (.val (.ref a) :: l) (.ref a :: st) h Q := g_aload rfl rfl
theorem s41_153 : XE d 41 153 ls (.ref a :: st) h Q ↔ XG [8] 3 (h.2.2.1 a) (fun v => XE d 41 156 ls (v :: st) h Q) := g_getf rfl
theorem s41_156 : XE d 41 156 (c0 :: c1 :: c2 :: c3 :: c4 :: .val (.int x) :: l) st h Q ↔ XE d 41 158 (c0 :: c1 :: c2 :: c3 :: c4 :: .val (.int x) :: l) (.int x :: st) h Q := g_iload rfl rfl
theorem s41_158 : XE d 41 158 ls (.int x :: .ref a :: st) h Q ↔ XA [0, 7] (h.2.2.1 a) x (fun k => XE d 41 159 ls (.int k :: st) h Q) := g_ald rfl
theorem s41_159 : XE d 41 159 ls (.int z :: .int y :: .int x :: st) h Q ↔ (xvo 8 st = true ∧ XC d 43 [.int x, .int y, .int z] h (fun v h' => XE d 41 162 ls (v.toList ++ st) h' Q)) := h_s3 rfl rfl
theorem s41_162 : XE d 41 162 ls (.int y :: .int x :: .ref a :: st) h Q ↔ XS 0 (h.2.2.1 a) x y (fun e => XE d 41 163 ls st (xset h a e) Q) := g_iast rfl
theorem s41_163 : XE d 41 163 (c0 :: c1 :: c2 :: c3 :: c4 :: c5 :: .val (.int x) :: l) st h Q ↔ XE d 41 166 (c0 :: c1 :: c2 :: c3 :: c4 :: c5 :: .val (.int (x + 1)) :: l) st h Q := g_iinc rfl rfl rfl
theorem s41_166 : XE d 41 166 ls st h Q ↔ XE d 41 6 ls st h Q := g_goto rfl
theorem s41_169 : XE d 41 169 (c0 :: c1 :: c2 :: c3 :: c4 :: .val (.int x) :: l) st h Q ↔ XE d 41 171 (c0 :: c1 :: c2 :: c3 :: c4 :: .val (.int x) :: l) (.int x :: st) h Q := g_iload rfl rfl
theorem s41_171 : XE d 41 171 ls (.int x :: st) h Q ↔ (if 0 < x then XE d 41 174 ls st h Q else XE d 41 183 ls st h Q) := g_ifle rfl
theorem s41_174 : XE d 41 174 (.val (.ref a) :: l) st h Q ↔ XE d 41 175 (.val (.ref a) :: l) (.ref a :: st) h Q := g_aload rfl rfl
theorem s41_175 : XE d 41 175 ls (.ref a :: st) h Q ↔ XG [8] 3 (h.2.2.1 a) (fun v => XE d 41 178 ls (v :: st) h Q) := g_getf rfl
theorem s41_178 : XE d 41 178 ls st h Q ↔ XE d 41 179 ls (.int 0 :: st) h Q := g_const rfl
theorem s41_179 : XE d 41 179 ls (.int x :: .ref a :: st) h Q ↔ XA [0, 7] (h.2.2.1 a) x (fun k => XE d 41 180 ls (.int k :: st) h Q) := g_ald rfl
theorem s41_180 : XE d 41 180 ls st h Q ↔ XE d 41 184 ls st h Q := g_goto rfl
theorem s41_183 : XE d 41 183 ls st h Q ↔ XE d 41 184 ls (.int 0 :: st) h Q := g_const rfl
theorem s41_184 : XE d 41 184 ls [.int x] h Q ↔ Q (some (.int x)) h := g_iret rfl
-- 42: TwoBells$Text.named(IIIII)I
theorem e42 : XC (d + 1) 42 [.int x, .int y, .int z, .int w, .int u] h Q ↔ XE d 42 0 [.val (.int x), .val (.int y), .val (.int z), .val (.int w), .val (.int u)] [] h Q := XC_in rfl
theorem s42_0 : XE d 42 0 (.val (.int x) :: l) st h Q ↔ XE d 42 1 (.val (.int x) :: l) (.int x :: st) h Q := g_iload rfl rfl
theorem s42_1 : XE d 42 1 ls (.int x :: st) h Q ↔ xswi d 42 x 34 ls st h Q [(0, 28), (1, 30), (2, 32)] := g_switch rfl
theorem s42_28 : XE d 42 28 (c0 :: .val (.int x) :: l) st h Q ↔ XE d 42 29 (c0 :: .val (.int x) :: l) (.int x :: st) h Q := g_iload rfl rfl
theorem s42_29 : XE d 42 29 ls [.int x] h Q ↔ Q (some (.int x)) h := g_iret rfl
theorem s42_30 : XE d 42 30 (c0 :: c1 :: .val (.int x) :: l) st h Q ↔ XE d 42 31 (c0 :: c1 :: .val (.int x) :: l) (.int x :: st) h Q := g_iload rfl rfl
theorem s42_31 : XE d 42 31 ls [.int x] h Q ↔ Q (some (.int x)) h := g_iret rfl
theorem s42_32 : XE d 42 32 (c0 :: c1 :: c2 :: .val (.int x) :: l) st h Q ↔ XE d 42 33 (c0 :: c1 :: c2 :: .val (.int x) :: l) (.int x :: st) h Q := g_iload rfl rfl
theorem s42_33 : XE d 42 33 ls [.int x] h Q ↔ Q (some (.int x)) h := g_iret rfl
theorem s42_34 : XE d 42 34 (c0 :: c1 :: c2 :: c3 :: .val (.int x) :: l) st h Q ↔ XE d 42 36 (c0 :: c1 :: c2 :: c3 :: .val (.int x) :: l) (.int x :: st) h Q := g_iload rfl rfl
theorem s42_36 : XE d 42 36 ls [.int x] h Q ↔ Q (some (.int x)) h := g_iret rfl
-- 43: TwoBells$Text.joined(III)I
theorem e43 : XC (d + 1) 43 [.int x, .int y, .int z] h Q ↔ XE d 43 0 [.val (.int x), .val (.int y), .val (.int z)] [] h Q := XC_in rfl
theorem s43_0 : XE d 43 0 (.val (.int x) :: l) st h Q ↔ XE d 43 1 (.val (.int x) :: l) (.int x :: st) h Q := g_iload rfl rfl
theorem s43_1 : XE d 43 1 ls (.int x :: st) h Q ↔ xswi d 43 x 169 ls st h Q [(38, 98), (42, 153), (43, 145), (45, 149), (47, 157), (60, 112), (61, 123), (62, 134), (124, 84)] := g_switch rfl
theorem s43_84 : XE d 43 84 (c0 :: .val (.int x) :: l) st h Q ↔ XE d 43 85 (c0 :: .val (.int x) :: l) (.int x :: st) h Q := g_iload rfl rfl
theorem s43_85 : XE d 43 85 ls (.int x :: st) h Q ↔ (if x = 0 then XE d 43 88 ls st h Q else XE d 43 92 ls st h Q) := g_ifne rfl
theorem s43_88 : XE d 43 88 (c0 :: c1 :: .val (.int x) :: l) st h Q ↔ XE d 43 89 (c0 :: c1 :: .val (.int x) :: l) (.int x :: st) h Q := g_iload rfl rfl
theorem s43_89 : XE d 43 89 ls (.int x :: st) h Q ↔ (if x = 0 then XE d 43 96 ls st h Q else XE d 43 92 ls st h Q) := g_ifeq rfl
theorem s43_92 : XE d 43 92 ls st h Q ↔ XE d 43 93 ls (.int 1 :: st) h Q := g_const rfl
theorem s43_93 : XE d 43 93 ls st h Q ↔ XE d 43 97 ls st h Q := g_goto rfl
theorem s43_96 : XE d 43 96 ls st h Q ↔ XE d 43 97 ls (.int 0 :: st) h Q := g_const rfl
theorem s43_97 : XE d 43 97 ls [.int x] h Q ↔ Q (some (.int x)) h := g_iret rfl
theorem s43_98 : XE d 43 98 (c0 :: .val (.int x) :: l) st h Q ↔ XE d 43 99 (c0 :: .val (.int x) :: l) (.int x :: st) h Q := g_iload rfl rfl
theorem s43_99 : XE d 43 99 ls (.int x :: st) h Q ↔ (if x = 0 then XE d 43 110 ls st h Q else XE d 43 102 ls st h Q) := g_ifeq rfl
theorem s43_102 : XE d 43 102 (c0 :: c1 :: .val (.int x) :: l) st h Q ↔ XE d 43 103 (c0 :: c1 :: .val (.int x) :: l) (.int x :: st) h Q := g_iload rfl rfl
theorem s43_103 : XE d 43 103 ls (.int x :: st) h Q ↔ (if x = 0 then XE d 43 110 ls st h Q else XE d 43 106 ls st h Q) := g_ifeq rfl
theorem s43_106 : XE d 43 106 ls st h Q ↔ XE d 43 107 ls (.int 1 :: st) h Q := g_const rfl
theorem s43_107 : XE d 43 107 ls st h Q ↔ XE d 43 111 ls st h Q := g_goto rfl
theorem s43_110 : XE d 43 110 ls st h Q ↔ XE d 43 111 ls (.int 0 :: st) h Q := g_const rfl
theorem s43_111 : XE d 43 111 ls [.int x] h Q ↔ Q (some (.int x)) h := g_iret rfl
theorem s43_112 : XE d 43 112 (c0 :: .val (.int x) :: l) st h Q ↔ XE d 43 113 (c0 :: .val (.int x) :: l) (.int x :: st) h Q := g_iload rfl rfl
theorem s43_113 : XE d 43 113 (c0 :: c1 :: .val (.int x) :: l) st h Q ↔ XE d 43 114 (c0 :: c1 :: .val (.int x) :: l) (.int x :: st) h Q := g_iload rfl rfl
theorem s43_114 : XE d 43 114 ls (.int y :: .int x :: st) h Q ↔ (if x < y then XE d 43 117 ls st h Q else XE d 43 121 ls st h Q) := g_cge rfl
theorem s43_117 : XE d 43 117 ls st h Q ↔ XE d 43 118 ls (.int 1 :: st) h Q := g_const rfl
theorem s43_118 : XE d 43 118 ls st h Q ↔ XE d 43 122 ls st h Q := g_goto rfl
theorem s43_121 : XE d 43 121 ls st h Q ↔ XE d 43 122 ls (.int 0 :: st) h Q := g_const rfl
theorem s43_122 : XE d 43 122 ls [.int x] h Q ↔ Q (some (.int x)) h := g_iret rfl
theorem s43_123 : XE d 43 123 (c0 :: .val (.int x) :: l) st h Q ↔ XE d 43 124 (c0 :: .val (.int x) :: l) (.int x :: st) h Q := g_iload rfl rfl
theorem s43_124 : XE d 43 124 (c0 :: c1 :: .val (.int x) :: l) st h Q ↔ XE d 43 125 (c0 :: c1 :: .val (.int x) :: l) (.int x :: st) h Q := g_iload rfl rfl
theorem s43_125 : XE d 43 125 ls (.int y :: .int x :: st) h Q ↔ (if x = y then XE d 43 128 ls st h Q else XE d 43 132 ls st h Q) := g_cne rfl
theorem s43_128 : XE d 43 128 ls st h Q ↔ XE d 43 129 ls (.int 1 :: st) h Q := g_const rfl
theorem s43_129 : XE d 43 129 ls st h Q ↔ XE d 43 133 ls st h Q := g_goto rfl
theorem s43_132 : XE d 43 132 ls st h Q ↔ XE d 43 133 ls (.int 0 :: st) h Q := g_const rfl
theorem s43_133 : XE d 43 133 ls [.int x] h Q ↔ Q (some (.int x)) h := g_iret rfl
theorem s43_134 : XE d 43 134 (c0 :: .val (.int x) :: l) st h Q ↔ XE d 43 135 (c0 :: .val (.int x) :: l) (.int x :: st) h Q := g_iload rfl rfl
theorem s43_135 : XE d 43 135 (c0 :: c1 :: .val (.int x) :: l) st h Q ↔ XE d 43 136 (c0 :: c1 :: .val (.int x) :: l) (.int x :: st) h Q := g_iload rfl rfl
theorem s43_136 : XE d 43 136 ls (.int y :: .int x :: st) h Q ↔ (if y < x then XE d 43 139 ls st h Q else XE d 43 143 ls st h Q) := g_cle rfl
theorem s43_139 : XE d 43 139 ls st h Q ↔ XE d 43 140 ls (.int 1 :: st) h Q := g_const rfl
theorem s43_140 : XE d 43 140 ls st h Q ↔ XE d 43 144 ls st h Q := g_goto rfl
theorem s43_143 : XE d 43 143 ls st h Q ↔ XE d 43 144 ls (.int 0 :: st) h Q := g_const rfl
theorem s43_144 : XE d 43 144 ls [.int x] h Q ↔ Q (some (.int x)) h := g_iret rfl
theorem s43_145 : XE d 43 145 (c0 :: .val (.int x) :: l) st h Q ↔ XE d 43 146 (c0 :: .val (.int x) :: l) (.int x :: st) h Q := g_iload rfl rfl
theorem s43_146 : XE d 43 146 (c0 :: c1 :: .val (.int x) :: l) st h Q ↔ XE d 43 147 (c0 :: c1 :: .val (.int x) :: l) (.int x :: st) h Q := g_iload rfl rfl
theorem s43_147 : XE d 43 147 ls (.int y :: .int x :: st) h Q ↔ XE d 43 148 ls (.int (x + y) :: st) h Q := g_add rfl
theorem s43_148 : XE d 43 148 ls [.int x] h Q ↔ Q (some (.int x)) h := g_iret rfl
theorem s43_149 : XE d 43 149 (c0 :: .val (.int x) :: l) st h Q ↔ XE d 43 150 (c0 :: .val (.int x) :: l) (.int x :: st) h Q := g_iload rfl rfl
theorem s43_150 : XE d 43 150 (c0 :: c1 :: .val (.int x) :: l) st h Q ↔ XE d 43 151 (c0 :: c1 :: .val (.int x) :: l) (.int x :: st) h Q := g_iload rfl rfl
theorem s43_151 : XE d 43 151 ls (.int y :: .int x :: st) h Q ↔ XE d 43 152 ls (.int (x - y) :: st) h Q := g_sub rfl
theorem s43_152 : XE d 43 152 ls [.int x] h Q ↔ Q (some (.int x)) h := g_iret rfl
theorem s43_153 : XE d 43 153 (c0 :: .val (.int x) :: l) st h Q ↔ XE d 43 154 (c0 :: .val (.int x) :: l) (.int x :: st) h Q := g_iload rfl rfl
theorem s43_154 : XE d 43 154 (c0 :: c1 :: .val (.int x) :: l) st h Q ↔ XE d 43 155 (c0 :: c1 :: .val (.int x) :: l) (.int x :: st) h Q := g_iload rfl rfl
theorem s43_155 : XE d 43 155 ls (.int y :: .int x :: st) h Q ↔ XE d 43 156 ls (.int (x * y) :: st) h Q := g_mul rfl
theorem s43_156 : XE d 43 156 ls [.int x] h Q ↔ Q (some (.int x)) h := g_iret rfl
theorem s43_157 : XE d 43 157 (c0 :: c1 :: .val (.int x) :: l) st h Q ↔ XE d 43 158 (c0 :: c1 :: .val (.int x) :: l) (.int x :: st) h Q := g_iload rfl rfl
theorem s43_158 : XE d 43 158 ls (.int x :: st) h Q ↔ (if x = 0 then XE d 43 161 ls st h Q else XE d 43 165 ls st h Q) := g_ifne rfl
theorem s43_161 : XE d 43 161 ls st h Q ↔ XE d 43 162 ls (.int 0 :: st) h Q := g_const rfl
theorem s43_162 : XE d 43 162 ls st h Q ↔ XE d 43 168 ls st h Q := g_goto rfl
theorem s43_165 : XE d 43 165 (c0 :: .val (.int x) :: l) st h Q ↔ XE d 43 166 (c0 :: .val (.int x) :: l) (.int x :: st) h Q := g_iload rfl rfl
theorem s43_166 : XE d 43 166 (c0 :: c1 :: .val (.int x) :: l) st h Q ↔ XE d 43 167 (c0 :: c1 :: .val (.int x) :: l) (.int x :: st) h Q := g_iload rfl rfl
theorem s43_167 : XE d 43 167 ls (.int y :: .int x :: st) h Q ↔ (y ≠ 0 ∧ XE d 43 168 ls (.int (x / y) :: st) h Q) := g_div rfl
theorem s43_168 : XE d 43 168 ls [.int x] h Q ↔ Q (some (.int x)) h := g_iret rfl
theorem s43_169 : XE d 43 169 ls st h Q ↔ XE d 43 170 ls (.int 0 :: st) h Q := g_const rfl
theorem s43_170 : XE d 43 170 ls [.int x] h Q ↔ Q (some (.int x)) h := g_iret rfl
-- 44: TwoBells$Thief.<init>(II)V
theorem e44 : XC (d + 1) 44 [.ref a, .int x, .int y] h Q ↔ XE d 44 0 [.val (.ref a), .val (.int x), .val (.int y)] [] h Q := XC_in rfl
theorem s44_0 : XE d 44 0 (.val (.ref a) :: l) st h Q ↔ XE d 44 1 (.val (.ref a) :: l) (.ref a :: st) h Q := g_aload rfl rfl
theorem s44_1 : XE d 44 1 ls (.ref a :: st) h Q ↔ (xvo 8 st = true ∧ XE d 44 4 ls st h Q) := h_objinit rfl
theorem s44_4 : XE d 44 4 (.val (.ref a) :: l) st h Q ↔ XE d 44 5 (.val (.ref a) :: l) (.ref a :: st) h Q := g_aload rfl rfl
theorem s44_5 : XE d 44 5 (c0 :: .val (.int x) :: l) st h Q ↔ XE d 44 6 (c0 :: .val (.int x) :: l) (.int x :: st) h Q := g_iload rfl rfl
theorem s44_6 : XE d 44 6 ls (.int x :: .ref a :: st) h Q ↔ XP [0, 1, 2, 3, 4, 9] 0 (.int x) (h.2.2.1 a) (fun e => XE d 44 9 ls st (xset h a e) Q) := g_puti rfl
theorem s44_9 : XE d 44 9 (.val (.ref a) :: l) st h Q ↔ XE d 44 10 (.val (.ref a) :: l) (.ref a :: st) h Q := g_aload rfl rfl
theorem s44_10 : XE d 44 10 (c0 :: c1 :: .val (.int x) :: l) st h Q ↔ XE d 44 11 (c0 :: c1 :: .val (.int x) :: l) (.int x :: st) h Q := g_iload rfl rfl
theorem s44_11 : XE d 44 11 ls (.int x :: .ref a :: st) h Q ↔ XP [0, 1, 2, 3, 4, 9] 1 (.int x) (h.2.2.1 a) (fun e => XE d 44 14 ls st (xset h a e) Q) := g_puti rfl
theorem s44_14 : XE d 44 14 ls [] h Q ↔ Q none h := g_ret rfl
-- 45: TwoBells$Thief.ofKind(II)LTwoBells$Thief;
theorem e45 : XC (d + 1) 45 [.int x, .int y] h Q ↔ XE d 45 0 [.val (.int x), .val (.int y)] [] h Q := XC_in rfl
theorem s45_0 : XE d 45 0 (.val (.int x) :: l) st h Q ↔ XE d 45 1 (.val (.int x) :: l) (.int x :: st) h Q := g_iload rfl rfl
theorem s45_1 : XE d 45 1 ls (.int x :: st) h Q ↔ xswi d 45 x 86 ls st h Q [(1, 36), (2, 46), (3, 56), (4, 66), (5, 76)] := g_switch rfl
theorem s45_36 : XE d 45 36 ls st h Q ↔ XE d 45 39 ls (.ref h.1 :: st) (xnew h 2 (.inr (2, [.int 0, .int 0]))) Q := g_new rfl
theorem s45_39 : XE d 45 39 ls (.int x :: st) h Q ↔ XE d 45 40 ls (.int x :: .int x :: st) h Q := g_dupI rfl
theorem s45_39r : XE d 45 39 ls (.ref a :: st) h Q ↔ XE d 45 40 ls (.ref a :: .ref a :: st) h Q := g_dupR rfl
theorem s45_40 : XE d 45 40 (.val (.int x) :: l) st h Q ↔ XE d 45 41 (.val (.int x) :: l) (.int x :: st) h Q := g_iload rfl rfl
theorem s45_41 : XE d 45 41 (c0 :: .val (.int x) :: l) st h Q ↔ XE d 45 42 (c0 :: .val (.int x) :: l) (.int x :: st) h Q := g_iload rfl rfl
theorem s45_42 : XE d 45 42 ls (.int y :: .int x :: .ref a :: st) h Q ↔ (xvo 8 st = true ∧ XV [(2, 6)] (h.2.2.1 a) (fun m' => XC d m' [.ref a, .int x, .int y] h (fun v h' => XE d 45 45 ls (v.toList ++ st) h' Q))) := h_v2 rfl rfl
theorem s45_45 : XE d 45 45 ls [.ref a] h Q ↔ Q (some (.ref a)) h := g_aretR rfl
theorem s45_45n : XE d 45 45 ls [.null] h Q ↔ Q (some .null) h := g_aretN rfl
theorem s45_46 : XE d 45 46 ls st h Q ↔ XE d 45 49 ls (.ref h.1 :: st) (xnew h 2 (.inr (0, [.int 0, .int 0]))) Q := g_new rfl
theorem s45_49 : XE d 45 49 ls (.int x :: st) h Q ↔ XE d 45 50 ls (.int x :: .int x :: st) h Q := g_dupI rfl
theorem s45_49r : XE d 45 49 ls (.ref a :: st) h Q ↔ XE d 45 50 ls (.ref a :: .ref a :: st) h Q := g_dupR rfl
theorem s45_50 : XE d 45 50 (.val (.int x) :: l) st h Q ↔ XE d 45 51 (.val (.int x) :: l) (.int x :: st) h Q := g_iload rfl rfl
theorem s45_51 : XE d 45 51 (c0 :: .val (.int x) :: l) st h Q ↔ XE d 45 52 (c0 :: .val (.int x) :: l) (.int x :: st) h Q := g_iload rfl rfl
theorem s45_52 : XE d 45 52 ls (.int y :: .int x :: .ref a :: st) h Q ↔ (xvo 8 st = true ∧ XV [(0, 0)] (h.2.2.1 a) (fun m' => XC d m' [.ref a, .int x, .int y] h (fun v h' => XE d 45 55 ls (v.toList ++ st) h' Q))) := h_v2 rfl rfl
theorem s45_55 : XE d 45 55 ls [.ref a] h Q ↔ Q (some (.ref a)) h := g_aretR rfl
theorem s45_55n : XE d 45 55 ls [.null] h Q ↔ Q (some .null) h := g_aretN rfl
theorem s45_56 : XE d 45 56 ls st h Q ↔ XE d 45 59 ls (.ref h.1 :: st) (xnew h 2 (.inr (3, [.int 0, .int 0]))) Q := g_new rfl
theorem s45_59 : XE d 45 59 ls (.int x :: st) h Q ↔ XE d 45 60 ls (.int x :: .int x :: st) h Q := g_dupI rfl
theorem s45_59r : XE d 45 59 ls (.ref a :: st) h Q ↔ XE d 45 60 ls (.ref a :: .ref a :: st) h Q := g_dupR rfl
theorem s45_60 : XE d 45 60 (.val (.int x) :: l) st h Q ↔ XE d 45 61 (.val (.int x) :: l) (.int x :: st) h Q := g_iload rfl rfl
theorem s45_61 : XE d 45 61 (c0 :: .val (.int x) :: l) st h Q ↔ XE d 45 62 (c0 :: .val (.int x) :: l) (.int x :: st) h Q := g_iload rfl rfl
theorem s45_62 : XE d 45 62 ls (.int y :: .int x :: .ref a :: st) h Q ↔ (xvo 8 st = true ∧ XV [(3, 9)] (h.2.2.1 a) (fun m' => XC d m' [.ref a, .int x, .int y] h (fun v h' => XE d 45 65 ls (v.toList ++ st) h' Q))) := h_v2 rfl rfl
theorem s45_65 : XE d 45 65 ls [.ref a] h Q ↔ Q (some (.ref a)) h := g_aretR rfl
theorem s45_65n : XE d 45 65 ls [.null] h Q ↔ Q (some .null) h := g_aretN rfl
theorem s45_66 : XE d 45 66 ls st h Q ↔ XE d 45 69 ls (.ref h.1 :: st) (xnew h 2 (.inr (4, [.int 0, .int 0]))) Q := g_new rfl
theorem s45_69 : XE d 45 69 ls (.int x :: st) h Q ↔ XE d 45 70 ls (.int x :: .int x :: st) h Q := g_dupI rfl
theorem s45_69r : XE d 45 69 ls (.ref a :: st) h Q ↔ XE d 45 70 ls (.ref a :: .ref a :: st) h Q := g_dupR rfl
theorem s45_70 : XE d 45 70 (.val (.int x) :: l) st h Q ↔ XE d 45 71 (.val (.int x) :: l) (.int x :: st) h Q := g_iload rfl rfl
theorem s45_71 : XE d 45 71 (c0 :: .val (.int x) :: l) st h Q ↔ XE d 45 72 (c0 :: .val (.int x) :: l) (.int x :: st) h Q := g_iload rfl rfl
theorem s45_72 : XE d 45 72 ls (.int y :: .int x :: .ref a :: st) h Q ↔ (xvo 8 st = true ∧ XV [(4, 12)] (h.2.2.1 a) (fun m' => XC d m' [.ref a, .int x, .int y] h (fun v h' => XE d 45 75 ls (v.toList ++ st) h' Q))) := h_v2 rfl rfl
theorem s45_75 : XE d 45 75 ls [.ref a] h Q ↔ Q (some (.ref a)) h := g_aretR rfl
theorem s45_75n : XE d 45 75 ls [.null] h Q ↔ Q (some .null) h := g_aretN rfl
theorem s45_76 : XE d 45 76 ls st h Q ↔ XE d 45 79 ls (.ref h.1 :: st) (xnew h 2 (.inr (1, [.int 0, .int 0]))) Q := g_new rfl
theorem s45_79 : XE d 45 79 ls (.int x :: st) h Q ↔ XE d 45 80 ls (.int x :: .int x :: st) h Q := g_dupI rfl
theorem s45_79r : XE d 45 79 ls (.ref a :: st) h Q ↔ XE d 45 80 ls (.ref a :: .ref a :: st) h Q := g_dupR rfl
theorem s45_80 : XE d 45 80 (.val (.int x) :: l) st h Q ↔ XE d 45 81 (.val (.int x) :: l) (.int x :: st) h Q := g_iload rfl rfl
theorem s45_81 : XE d 45 81 (c0 :: .val (.int x) :: l) st h Q ↔ XE d 45 82 (c0 :: .val (.int x) :: l) (.int x :: st) h Q := g_iload rfl rfl
theorem s45_82 : XE d 45 82 ls (.int y :: .int x :: .ref a :: st) h Q ↔ (xvo 8 st = true ∧ XV [(1, 3)] (h.2.2.1 a) (fun m' => XC d m' [.ref a, .int x, .int y] h (fun v h' => XE d 45 85 ls (v.toList ++ st) h' Q))) := h_v2 rfl rfl
theorem s45_85 : XE d 45 85 ls [.ref a] h Q ↔ Q (some (.ref a)) h := g_aretR rfl
theorem s45_85n : XE d 45 85 ls [.null] h Q ↔ Q (some .null) h := g_aretN rfl
theorem s45_86 : XE d 45 86 ls st h Q ↔ XE d 45 89 ls (.ref h.1 :: st) (xnew h 2 (.inr (9, [.int 0, .int 0]))) Q := g_new rfl
theorem s45_89 : XE d 45 89 ls (.int x :: st) h Q ↔ XE d 45 90 ls (.int x :: .int x :: st) h Q := g_dupI rfl
theorem s45_89r : XE d 45 89 ls (.ref a :: st) h Q ↔ XE d 45 90 ls (.ref a :: .ref a :: st) h Q := g_dupR rfl
theorem s45_90 : XE d 45 90 ls st h Q ↔ XE d 45 91 ls (.int 0 :: st) h Q := g_const rfl
theorem s45_91 : XE d 45 91 (c0 :: .val (.int x) :: l) st h Q ↔ XE d 45 92 (c0 :: .val (.int x) :: l) (.int x :: st) h Q := g_iload rfl rfl
theorem s45_92 : XE d 45 92 ls (.int y :: .int x :: .ref a :: st) h Q ↔ (xvo 8 st = true ∧ XV [(9, 44)] (h.2.2.1 a) (fun m' => XC d m' [.ref a, .int x, .int y] h (fun v h' => XE d 45 95 ls (v.toList ++ st) h' Q))) := h_v2 rfl rfl
theorem s45_95 : XE d 45 95 ls [.ref a] h Q ↔ Q (some (.ref a)) h := g_aretR rfl
theorem s45_95n : XE d 45 95 ls [.null] h Q ↔ Q (some .null) h := g_aretN rfl
-- 46: TwoBells$Thief.isOf(I)Z
theorem e46 : XC (d + 1) 46 [.ref a, .int x] h Q ↔ XE d 46 0 [.val (.ref a), .val (.int x)] [] h Q := XC_in rfl
theorem s46_0 : XE d 46 0 (c0 :: .val (.int x) :: l) st h Q ↔ XE d 46 1 (c0 :: .val (.int x) :: l) (.int x :: st) h Q := g_iload rfl rfl
theorem s46_1 : XE d 46 1 ls (.int x :: st) h Q ↔ xswi d 46 x 67 ls st h Q [(0, 40), (1, 42), (2, 47), (3, 52), (4, 57), (5, 62)] := g_switch rfl
theorem s46_40 : XE d 46 40 ls st h Q ↔ XE d 46 41 ls (.int 1 :: st) h Q := g_const rfl
theorem s46_41 : XE d 46 41 ls [.int 0] h Q ↔ Q (some (.int 0)) h := g_zret rfl rfl
theorem s46_41t : XE d 46 41 ls [.int 1] h Q ↔ Q (some (.int 1)) h := g_zret rfl rfl
theorem s46_41b : XE d 46 41 ls [.int (bI q)] h Q ↔ Q (some (.int (bI q))) h := g_zret (bI_nar q) rfl
theorem s46_42 : XE d 46 42 (.val (.ref a) :: l) st h Q ↔ XE d 46 43 (.val (.ref a) :: l) (.ref a :: st) h Q := g_aload rfl rfl
theorem s46_43 : XE d 46 43 ls (.ref a :: st) h Q ↔ XI [2, 3] [0, 1, 4, 9] (h.2.2.1 a) (fun k => XE d 46 46 ls (.int k :: st) h Q) := g_inst rfl
theorem s46_46 : XE d 46 46 ls [.int 0] h Q ↔ Q (some (.int 0)) h := g_zret rfl rfl
theorem s46_46t : XE d 46 46 ls [.int 1] h Q ↔ Q (some (.int 1)) h := g_zret rfl rfl
theorem s46_46b : XE d 46 46 ls [.int (bI q)] h Q ↔ Q (some (.int (bI q))) h := g_zret (bI_nar q) rfl
theorem s46_47 : XE d 46 47 (.val (.ref a) :: l) st h Q ↔ XE d 46 48 (.val (.ref a) :: l) (.ref a :: st) h Q := g_aload rfl rfl
theorem s46_48 : XE d 46 48 ls (.ref a :: st) h Q ↔ XI [0, 4] [1, 2, 3, 9] (h.2.2.1 a) (fun k => XE d 46 51 ls (.int k :: st) h Q) := g_inst rfl
theorem s46_51 : XE d 46 51 ls [.int 0] h Q ↔ Q (some (.int 0)) h := g_zret rfl rfl
theorem s46_51t : XE d 46 51 ls [.int 1] h Q ↔ Q (some (.int 1)) h := g_zret rfl rfl
theorem s46_51b : XE d 46 51 ls [.int (bI q)] h Q ↔ Q (some (.int (bI q))) h := g_zret (bI_nar q) rfl
theorem s46_52 : XE d 46 52 (.val (.ref a) :: l) st h Q ↔ XE d 46 53 (.val (.ref a) :: l) (.ref a :: st) h Q := g_aload rfl rfl
theorem s46_53 : XE d 46 53 ls (.ref a :: st) h Q ↔ XI [3] [0, 1, 2, 4, 9] (h.2.2.1 a) (fun k => XE d 46 56 ls (.int k :: st) h Q) := g_inst rfl
theorem s46_56 : XE d 46 56 ls [.int 0] h Q ↔ Q (some (.int 0)) h := g_zret rfl rfl
theorem s46_56t : XE d 46 56 ls [.int 1] h Q ↔ Q (some (.int 1)) h := g_zret rfl rfl
theorem s46_56b : XE d 46 56 ls [.int (bI q)] h Q ↔ Q (some (.int (bI q))) h := g_zret (bI_nar q) rfl
theorem s46_57 : XE d 46 57 (.val (.ref a) :: l) st h Q ↔ XE d 46 58 (.val (.ref a) :: l) (.ref a :: st) h Q := g_aload rfl rfl
theorem s46_58 : XE d 46 58 ls (.ref a :: st) h Q ↔ XI [4] [0, 1, 2, 3, 9] (h.2.2.1 a) (fun k => XE d 46 61 ls (.int k :: st) h Q) := g_inst rfl
theorem s46_61 : XE d 46 61 ls [.int 0] h Q ↔ Q (some (.int 0)) h := g_zret rfl rfl
theorem s46_61t : XE d 46 61 ls [.int 1] h Q ↔ Q (some (.int 1)) h := g_zret rfl rfl
theorem s46_61b : XE d 46 61 ls [.int (bI q)] h Q ↔ Q (some (.int (bI q))) h := g_zret (bI_nar q) rfl
theorem s46_62 : XE d 46 62 (.val (.ref a) :: l) st h Q ↔ XE d 46 63 (.val (.ref a) :: l) (.ref a :: st) h Q := g_aload rfl rfl
theorem s46_63 : XE d 46 63 ls (.ref a :: st) h Q ↔ XI [1] [0, 2, 3, 4, 9] (h.2.2.1 a) (fun k => XE d 46 66 ls (.int k :: st) h Q) := g_inst rfl
theorem s46_66 : XE d 46 66 ls [.int 0] h Q ↔ Q (some (.int 0)) h := g_zret rfl rfl
theorem s46_66t : XE d 46 66 ls [.int 1] h Q ↔ Q (some (.int 1)) h := g_zret rfl rfl
theorem s46_66b : XE d 46 66 ls [.int (bI q)] h Q ↔ Q (some (.int (bI q))) h := g_zret (bI_nar q) rfl
theorem s46_67 : XE d 46 67 ls st h Q ↔ XE d 46 68 ls (.int 0 :: st) h Q := g_const rfl
theorem s46_68 : XE d 46 68 ls [.int 0] h Q ↔ Q (some (.int 0)) h := g_zret rfl rfl
theorem s46_68t : XE d 46 68 ls [.int 1] h Q ↔ Q (some (.int 1)) h := g_zret rfl rfl
theorem s46_68b : XE d 46 68 ls [.int (bI q)] h Q ↔ Q (some (.int (bI q))) h := g_zret (bI_nar q) rfl
-- 47: TwoBells$Thief.heeds(LTwoBells$Town;II)I
theorem e47 : XC (d + 1) 47 [.ref a, .ref b, .int x, .int y] h Q ↔ XE d 47 0 [.val (.ref a), .val (.ref b), .val (.int x), .val (.int y)] [] h Q := XC_in rfl
theorem s47_0 : XE d 47 0 (c0 :: c1 :: c2 :: .val (.int x) :: l) st h Q ↔ XE d 47 1 (c0 :: c1 :: c2 :: .val (.int x) :: l) (.int x :: st) h Q := g_iload rfl rfl
theorem s47_1 : XE d 47 1 ls [.int x] h Q ↔ Q (some (.int x)) h := g_iret rfl
-- 48: TwoBells$Thief.picks(LTwoBells$Town;I)I
theorem e48 : XC (d + 1) 48 [.ref a, .ref b, .int x] h Q ↔ XE d 48 0 [.val (.ref a), .val (.ref b), .val (.int x)] [] h Q := XC_in rfl
theorem s48_0 : XE d 48 0 (c0 :: .val (.ref a) :: l) st h Q ↔ XE d 48 1 (c0 :: .val (.ref a) :: l) (.ref a :: st) h Q := g_aload rfl rfl
theorem s48_0n : XE d 48 0 (c0 :: .val .null :: l) st h Q ↔ XE d 48 1 (c0 :: .val .null :: l) (.null :: st) h Q := g_aloadN rfl rfl
theorem s48_1 : XE d 48 1 (.val (.ref a) :: l) st h Q ↔ XE d 48 2 (.val (.ref a) :: l) (.ref a :: st) h Q := g_aload rfl rfl
theorem s48_2 : XE d 48 2 ls (.ref a :: st) h Q ↔ XG [0, 1, 2, 3, 4, 9] 1 (h.2.2.1 a) (fun v => XE d 48 5 ls (v :: st) h Q) := g_getf rfl
theorem s48_5 : XE d 48 5 ls (.int x :: .ref a :: st) h Q ↔ (xvo 8 st = true ∧ XV [(10, 70)] (h.2.2.1 a) (fun m' => XC d m' [.ref a, .int x] h (fun v h' => XE d 48 8 ls (v.toList ++ st) h' Q))) := h_v1 rfl rfl
theorem s48_8 : XE d 48 8 ls [.int x] h Q ↔ Q (some (.int x)) h := g_iret rfl
-- 49: TwoBells$Thief.value()I
theorem e49 : XC (d + 1) 49 [.ref a] h Q ↔ XE d 49 0 [.val (.ref a)] [] h Q := XC_in rfl
theorem s49_0 : XE d 49 0 (.val (.ref a) :: l) st h Q ↔ XE d 49 1 (.val (.ref a) :: l) (.ref a :: st) h Q := g_aload rfl rfl
theorem s49_1 : XE d 49 1 ls (.ref a :: st) h Q ↔ XG [0, 1, 2, 3, 4, 9] 1 (h.2.2.1 a) (fun v => XE d 49 4 ls (v :: st) h Q) := g_getf rfl
theorem s49_4 : XE d 49 4 ls [.int x] h Q ↔ Q (some (.int x)) h := g_iret rfl
-- 50: TwoBells$Town.<init>()V
theorem e50 : XC (d + 1) 50 [.ref a] h Q ↔ XE d 50 0 [.val (.ref a)] [] h Q := XC_in rfl
theorem s50_0 : XE d 50 0 (.val (.ref a) :: l) st h Q ↔ XE d 50 1 (.val (.ref a) :: l) (.ref a :: st) h Q := g_aload rfl rfl
theorem s50_1 : XE d 50 1 ls (.ref a :: st) h Q ↔ (xvo 8 st = true ∧ XE d 50 4 ls st h Q) := h_objinit rfl
theorem s50_4 : XE d 50 4 (.val (.ref a) :: l) st h Q ↔ XE d 50 5 (.val (.ref a) :: l) (.ref a :: st) h Q := g_aload rfl rfl
theorem s50_5 : XE d 50 5 ls st h Q ↔ XE d 50 6 ls (.int 0 :: st) h Q := g_const rfl
theorem s50_6 : XE d 50 6 ls (.int x :: .ref a :: st) h Q ↔ XP [10] 0 (.int x) (h.2.2.1 a) (fun e => XE d 50 9 ls st (xset h a e) Q) := g_puti rfl
theorem s50_9 : XE d 50 9 (.val (.ref a) :: l) st h Q ↔ XE d 50 10 (.val (.ref a) :: l) (.ref a :: st) h Q := g_aload rfl rfl
theorem s50_10 : XE d 50 10 ls st h Q ↔ XE d 50 11 ls (.int 0 :: st) h Q := g_const rfl
theorem s50_11 : XE d 50 11 ls (.int x :: .ref a :: st) h Q ↔ XP [10] 1 (.int x) (h.2.2.1 a) (fun e => XE d 50 14 ls st (xset h a e) Q) := g_puti rfl
theorem s50_14 : XE d 50 14 (.val (.ref a) :: l) st h Q ↔ XE d 50 15 (.val (.ref a) :: l) (.ref a :: st) h Q := g_aload rfl rfl
theorem s50_15 : XE d 50 15 ls st h Q ↔ XE d 50 16 ls (.int 0 :: st) h Q := g_const rfl
theorem s50_16 : XE d 50 16 ls (.int x :: .ref a :: st) h Q ↔ XP [10] 2 (.int x) (h.2.2.1 a) (fun e => XE d 50 19 ls st (xset h a e) Q) := g_puti rfl
theorem s50_19 : XE d 50 19 (.val (.ref a) :: l) st h Q ↔ XE d 50 20 (.val (.ref a) :: l) (.ref a :: st) h Q := g_aload rfl rfl
theorem s50_20 : XE d 50 20 ls st h Q ↔ XE d 50 21 ls (.int 0 :: st) h Q := g_const rfl
theorem s50_21 : XE d 50 21 ls (.int x :: .ref a :: st) h Q ↔ XP [10] 3 (.int x) (h.2.2.1 a) (fun e => XE d 50 24 ls st (xset h a e) Q) := g_puti rfl
theorem s50_24 : XE d 50 24 (.val (.ref a) :: l) st h Q ↔ XE d 50 25 (.val (.ref a) :: l) (.ref a :: st) h Q := g_aload rfl rfl
theorem s50_25 : XE d 50 25 ls st h Q ↔ XE d 50 26 ls (.int 3 :: st) h Q := g_const rfl
theorem s50_26 : XE d 50 26 ls (.int x :: .ref a :: st) h Q ↔ XP [10] 4 (.int x) (h.2.2.1 a) (fun e => XE d 50 29 ls st (xset h a e) Q) := g_puti rfl
theorem s50_29 : XE d 50 29 (.val (.ref a) :: l) st h Q ↔ XE d 50 30 (.val (.ref a) :: l) (.ref a :: st) h Q := g_aload rfl rfl
theorem s50_30 : XE d 50 30 ls st h Q ↔ XE d 50 31 ls (.int 0 :: st) h Q := g_const rfl
theorem s50_31 : XE d 50 31 ls (.int x :: .ref a :: st) h Q ↔ XP [10] 5 (.int x) (h.2.2.1 a) (fun e => XE d 50 34 ls st (xset h a e) Q) := g_puti rfl
theorem s50_34 : XE d 50 34 (.val (.ref a) :: l) st h Q ↔ XE d 50 35 (.val (.ref a) :: l) (.ref a :: st) h Q := g_aload rfl rfl
theorem s50_35 : XE d 50 35 ls st h Q ↔ XE d 50 36 ls (.int 0 :: st) h Q := g_const rfl
theorem s50_36 : XE d 50 36 ls (.int x :: .ref a :: st) h Q ↔ XP [10] 6 (.int x) (h.2.2.1 a) (fun e => XE d 50 39 ls st (xset h a e) Q) := g_puti rfl
theorem s50_39 : XE d 50 39 (.val (.ref a) :: l) st h Q ↔ XE d 50 40 (.val (.ref a) :: l) (.ref a :: st) h Q := g_aload rfl rfl
theorem s50_40 : XE d 50 40 ls st h Q ↔ XE d 50 41 ls (.int 1 :: st) h Q := g_const rfl
theorem s50_41 : XE d 50 41 ls (.int x :: .ref a :: st) h Q ↔ XP [10] 7 (.int x) (h.2.2.1 a) (fun e => XE d 50 44 ls st (xset h a e) Q) := g_puti rfl
theorem s50_44 : XE d 50 44 (.val (.ref a) :: l) st h Q ↔ XE d 50 45 (.val (.ref a) :: l) (.ref a :: st) h Q := g_aload rfl rfl
theorem s50_45 : XE d 50 45 ls st h Q ↔ XE d 50 47 ls (.int 10 :: st) h Q := g_const rfl
theorem s50_47 : XE d 50 47 ls (.int x :: st) h Q ↔ ((0 ≤ x ∧ x.toNatClampNeg ≤ 100000) ∧ XE d 50 49 ls (.ref h.1 :: st) (xnew h x.toNatClampNeg (.inl (0, xis x.toNatClampNeg (fun _ => 0)))) Q) := g_newa rfl
theorem s50_49 : XE d 50 49 ls (.ref b :: .ref a :: st) h Q ↔ XP [10] 8 (.ref b) (h.2.2.1 a) (fun e => XE d 50 52 ls st (xset h a e) Q) := g_putaR rfl
theorem s50_49n : XE d 50 49 ls (.null :: .ref a :: st) h Q ↔ XP [10] 8 .null (h.2.2.1 a) (fun e => XE d 50 52 ls st (xset h a e) Q) := g_putaN rfl
theorem s50_52 : XE d 50 52 (.val (.ref a) :: l) st h Q ↔ XE d 50 53 (.val (.ref a) :: l) (.ref a :: st) h Q := g_aload rfl rfl
theorem s50_53 : XE d 50 53 ls st h Q ↔ XE d 50 55 ls (.int 10 :: st) h Q := g_const rfl
theorem s50_55 : XE d 50 55 ls (.int x :: st) h Q ↔ ((0 ≤ x ∧ x.toNatClampNeg ≤ 100000) ∧ XE d 50 57 ls (.ref h.1 :: st) (xnew h x.toNatClampNeg (.inl (0, xis x.toNatClampNeg (fun _ => 0)))) Q) := g_newa rfl
theorem s50_57 : XE d 50 57 ls (.ref b :: .ref a :: st) h Q ↔ XP [10] 9 (.ref b) (h.2.2.1 a) (fun e => XE d 50 60 ls st (xset h a e) Q) := g_putaR rfl
theorem s50_57n : XE d 50 57 ls (.null :: .ref a :: st) h Q ↔ XP [10] 9 .null (h.2.2.1 a) (fun e => XE d 50 60 ls st (xset h a e) Q) := g_putaN rfl
theorem s50_60 : XE d 50 60 (.val (.ref a) :: l) st h Q ↔ XE d 50 61 (.val (.ref a) :: l) (.ref a :: st) h Q := g_aload rfl rfl
theorem s50_61 : XE d 50 61 ls st h Q ↔ XE d 50 63 ls (.int 10 :: st) h Q := g_const rfl
theorem s50_63 : XE d 50 63 ls (.int x :: st) h Q ↔ ((0 ≤ x ∧ x.toNatClampNeg ≤ 100000) ∧ XE d 50 65 ls (.ref h.1 :: st) (xnew h x.toNatClampNeg (.inl (0, xis x.toNatClampNeg (fun _ => 0)))) Q) := g_newa rfl
theorem s50_65 : XE d 50 65 ls (.ref b :: .ref a :: st) h Q ↔ XP [10] 10 (.ref b) (h.2.2.1 a) (fun e => XE d 50 68 ls st (xset h a e) Q) := g_putaR rfl
theorem s50_65n : XE d 50 65 ls (.null :: .ref a :: st) h Q ↔ XP [10] 10 .null (h.2.2.1 a) (fun e => XE d 50 68 ls st (xset h a e) Q) := g_putaN rfl
theorem s50_68 : XE d 50 68 (.val (.ref a) :: l) st h Q ↔ XE d 50 69 (.val (.ref a) :: l) (.ref a :: st) h Q := g_aload rfl rfl
theorem s50_69 : XE d 50 69 ls st h Q ↔ XE d 50 71 ls (.int 12 :: st) h Q := g_const rfl
theorem s50_71 : XE d 50 71 ls (.int x :: st) h Q ↔ ((0 ≤ x ∧ x.toNatClampNeg ≤ 100000) ∧ XE d 50 73 ls (.ref h.1 :: st) (xnew h x.toNatClampNeg (.inl (0, xis x.toNatClampNeg (fun _ => 0)))) Q) := g_newa rfl
theorem s50_73 : XE d 50 73 ls (.ref b :: .ref a :: st) h Q ↔ XP [10] 11 (.ref b) (h.2.2.1 a) (fun e => XE d 50 76 ls st (xset h a e) Q) := g_putaR rfl
theorem s50_73n : XE d 50 73 ls (.null :: .ref a :: st) h Q ↔ XP [10] 11 .null (h.2.2.1 a) (fun e => XE d 50 76 ls st (xset h a e) Q) := g_putaN rfl
theorem s50_76 : XE d 50 76 (.val (.ref a) :: l) st h Q ↔ XE d 50 77 (.val (.ref a) :: l) (.ref a :: st) h Q := g_aload rfl rfl
theorem s50_77 : XE d 50 77 ls st h Q ↔ XE d 50 79 ls (.int 12 :: st) h Q := g_const rfl
theorem s50_79 : XE d 50 79 ls (.int x :: st) h Q ↔ ((0 ≤ x ∧ x.toNatClampNeg ≤ 100000) ∧ XE d 50 81 ls (.ref h.1 :: st) (xnew h x.toNatClampNeg (.inl (0, xis x.toNatClampNeg (fun _ => 0)))) Q) := g_newa rfl
theorem s50_81 : XE d 50 81 ls (.ref b :: .ref a :: st) h Q ↔ XP [10] 12 (.ref b) (h.2.2.1 a) (fun e => XE d 50 84 ls st (xset h a e) Q) := g_putaR rfl
theorem s50_81n : XE d 50 81 ls (.null :: .ref a :: st) h Q ↔ XP [10] 12 .null (h.2.2.1 a) (fun e => XE d 50 84 ls st (xset h a e) Q) := g_putaN rfl
theorem s50_84 : XE d 50 84 (.val (.ref a) :: l) st h Q ↔ XE d 50 85 (.val (.ref a) :: l) (.ref a :: st) h Q := g_aload rfl rfl
theorem s50_85 : XE d 50 85 ls st h Q ↔ XE d 50 87 ls (.int 12 :: st) h Q := g_const rfl
theorem s50_87 : XE d 50 87 ls (.int x :: st) h Q ↔ ((0 ≤ x ∧ x.toNatClampNeg ≤ 100000) ∧ XE d 50 89 ls (.ref h.1 :: st) (xnew h x.toNatClampNeg (.inl (0, xis x.toNatClampNeg (fun _ => 0)))) Q) := g_newa rfl
theorem s50_89 : XE d 50 89 ls (.ref b :: .ref a :: st) h Q ↔ XP [10] 13 (.ref b) (h.2.2.1 a) (fun e => XE d 50 92 ls st (xset h a e) Q) := g_putaR rfl
theorem s50_89n : XE d 50 89 ls (.null :: .ref a :: st) h Q ↔ XP [10] 13 .null (h.2.2.1 a) (fun e => XE d 50 92 ls st (xset h a e) Q) := g_putaN rfl
theorem s50_92 : XE d 50 92 (.val (.ref a) :: l) st h Q ↔ XE d 50 93 (.val (.ref a) :: l) (.ref a :: st) h Q := g_aload rfl rfl
theorem s50_93 : XE d 50 93 ls st h Q ↔ XE d 50 95 ls (.int 24 :: st) h Q := g_const rfl
theorem s50_95 : XE d 50 95 ls (.int x :: st) h Q ↔ ((0 ≤ x ∧ x.toNatClampNeg ≤ 100000) ∧ XE d 50 97 ls (.ref h.1 :: st) (xnew h x.toNatClampNeg (.inl (0, xis x.toNatClampNeg (fun _ => 0)))) Q) := g_newa rfl
theorem s50_97 : XE d 50 97 ls (.ref b :: .ref a :: st) h Q ↔ XP [10] 14 (.ref b) (h.2.2.1 a) (fun e => XE d 50 100 ls st (xset h a e) Q) := g_putaR rfl
theorem s50_97n : XE d 50 97 ls (.null :: .ref a :: st) h Q ↔ XP [10] 14 .null (h.2.2.1 a) (fun e => XE d 50 100 ls st (xset h a e) Q) := g_putaN rfl
theorem s50_100 : XE d 50 100 (.val (.ref a) :: l) st h Q ↔ XE d 50 101 (.val (.ref a) :: l) (.ref a :: st) h Q := g_aload rfl rfl
theorem s50_101 : XE d 50 101 ls st h Q ↔ XE d 50 103 ls (.int 6 :: st) h Q := g_const rfl
theorem s50_103 : XE d 50 103 ls (.int x :: st) h Q ↔ ((0 ≤ x ∧ x.toNatClampNeg ≤ 100000) ∧ XE d 50 106 ls (.ref h.1 :: st) (xnew h x.toNatClampNeg (.inl (6, xrs x.toNatClampNeg (fun _ => none)))) Q) := g_anew rfl
theorem s50_106 : XE d 50 106 ls (.ref b :: .ref a :: st) h Q ↔ XP [10] 15 (.ref b) (h.2.2.1 a) (fun e => XE d 50 109 ls st (xset h a e) Q) := g_putaR rfl
theorem s50_106n : XE d 50 106 ls (.null :: .ref a :: st) h Q ↔ XP [10] 15 .null (h.2.2.1 a) (fun e => XE d 50 109 ls st (xset h a e) Q) := g_putaN rfl
theorem s50_109 : XE d 50 109 (.val (.ref a) :: l) st h Q ↔ XE d 50 110 (.val (.ref a) :: l) (.ref a :: st) h Q := g_aload rfl rfl
theorem s50_110 : XE d 50 110 ls st h Q ↔ XE d 50 112 ls (.int 14 :: st) h Q := g_const rfl
theorem s50_112 : XE d 50 112 ls (.int x :: st) h Q ↔ ((0 ≤ x ∧ x.toNatClampNeg ≤ 100000) ∧ XE d 50 115 ls (.ref h.1 :: st) (xnew h x.toNatClampNeg (.inl (5, xrs x.toNatClampNeg (fun _ => none)))) Q) := g_anew rfl
theorem s50_115 : XE d 50 115 ls (.ref b :: .ref a :: st) h Q ↔ XP [10] 16 (.ref b) (h.2.2.1 a) (fun e => XE d 50 118 ls st (xset h a e) Q) := g_putaR rfl
theorem s50_115n : XE d 50 115 ls (.null :: .ref a :: st) h Q ↔ XP [10] 16 .null (h.2.2.1 a) (fun e => XE d 50 118 ls st (xset h a e) Q) := g_putaN rfl
theorem s50_118 : XE d 50 118 (.val (.ref a) :: l) st h Q ↔ XE d 50 119 (.val (.ref a) :: l) (.ref a :: st) h Q := g_aload rfl rfl
theorem s50_119 : XE d 50 119 ls st h Q ↔ XE d 50 121 ls (.int 10 :: st) h Q := g_const rfl
theorem s50_121 : XE d 50 121 ls (.int x :: st) h Q ↔ ((0 ≤ x ∧ x.toNatClampNeg ≤ 100000) ∧ XE d 50 123 ls (.ref h.1 :: st) (xnew h x.toNatClampNeg (.inl (0, xis x.toNatClampNeg (fun _ => 0)))) Q) := g_newa rfl
theorem s50_123 : XE d 50 123 ls (.ref b :: .ref a :: st) h Q ↔ XP [10] 17 (.ref b) (h.2.2.1 a) (fun e => XE d 50 126 ls st (xset h a e) Q) := g_putaR rfl
theorem s50_123n : XE d 50 123 ls (.null :: .ref a :: st) h Q ↔ XP [10] 17 .null (h.2.2.1 a) (fun e => XE d 50 126 ls st (xset h a e) Q) := g_putaN rfl
theorem s50_126 : XE d 50 126 (.val (.ref a) :: l) st h Q ↔ XE d 50 127 (.val (.ref a) :: l) (.ref a :: st) h Q := g_aload rfl rfl
theorem s50_127 : XE d 50 127 ls st h Q ↔ XE d 50 129 ls (.int 72 :: st) h Q := g_const rfl
theorem s50_129 : XE d 50 129 ls (.int x :: st) h Q ↔ ((0 ≤ x ∧ x.toNatClampNeg ≤ 100000) ∧ XE d 50 131 ls (.ref h.1 :: st) (xnew h x.toNatClampNeg (.inl (0, xis x.toNatClampNeg (fun _ => 0)))) Q) := g_newa rfl
theorem s50_131 : XE d 50 131 ls (.ref b :: .ref a :: st) h Q ↔ XP [10] 18 (.ref b) (h.2.2.1 a) (fun e => XE d 50 134 ls st (xset h a e) Q) := g_putaR rfl
theorem s50_131n : XE d 50 131 ls (.null :: .ref a :: st) h Q ↔ XP [10] 18 .null (h.2.2.1 a) (fun e => XE d 50 134 ls st (xset h a e) Q) := g_putaN rfl
theorem s50_134 : XE d 50 134 (.val (.ref a) :: l) st h Q ↔ XE d 50 135 (.val (.ref a) :: l) (.ref a :: st) h Q := g_aload rfl rfl
theorem s50_135 : XE d 50 135 ls st h Q ↔ XE d 50 137 ls (.int 72 :: st) h Q := g_const rfl
theorem s50_137 : XE d 50 137 ls (.int x :: st) h Q ↔ ((0 ≤ x ∧ x.toNatClampNeg ≤ 100000) ∧ XE d 50 139 ls (.ref h.1 :: st) (xnew h x.toNatClampNeg (.inl (0, xis x.toNatClampNeg (fun _ => 0)))) Q) := g_newa rfl
theorem s50_139 : XE d 50 139 ls (.ref b :: .ref a :: st) h Q ↔ XP [10] 19 (.ref b) (h.2.2.1 a) (fun e => XE d 50 142 ls st (xset h a e) Q) := g_putaR rfl
theorem s50_139n : XE d 50 139 ls (.null :: .ref a :: st) h Q ↔ XP [10] 19 .null (h.2.2.1 a) (fun e => XE d 50 142 ls st (xset h a e) Q) := g_putaN rfl
theorem s50_142 : XE d 50 142 ls [] h Q ↔ Q none h := g_ret rfl
-- 51: TwoBells$Town.become(LTwoBells$Town;)V
theorem e51 : XC (d + 1) 51 [.ref a, .ref b] h Q ↔ XE d 51 0 [.val (.ref a), .val (.ref b), .unset] [] h Q := XC_in rfl
theorem s51_0 : XE d 51 0 (.val (.ref a) :: l) st h Q ↔ XE d 51 1 (.val (.ref a) :: l) (.ref a :: st) h Q := g_aload rfl rfl
theorem s51_1 : XE d 51 1 (c0 :: .val (.ref a) :: l) st h Q ↔ XE d 51 2 (c0 :: .val (.ref a) :: l) (.ref a :: st) h Q := g_aload rfl rfl
theorem s51_1n : XE d 51 1 (c0 :: .val .null :: l) st h Q ↔ XE d 51 2 (c0 :: .val .null :: l) (.null :: st) h Q := g_aloadN rfl rfl
theorem s51_2 : XE d 51 2 ls (.ref a :: st) h Q ↔ XG [10] 0 (h.2.2.1 a) (fun v => XE d 51 5 ls (v :: st) h Q) := g_getf rfl
theorem s51_5 : XE d 51 5 ls (.int x :: .ref a :: st) h Q ↔ XP [10] 0 (.int x) (h.2.2.1 a) (fun e => XE d 51 8 ls st (xset h a e) Q) := g_puti rfl
theorem s51_8 : XE d 51 8 (.val (.ref a) :: l) st h Q ↔ XE d 51 9 (.val (.ref a) :: l) (.ref a :: st) h Q := g_aload rfl rfl
theorem s51_9 : XE d 51 9 (c0 :: .val (.ref a) :: l) st h Q ↔ XE d 51 10 (c0 :: .val (.ref a) :: l) (.ref a :: st) h Q := g_aload rfl rfl
theorem s51_9n : XE d 51 9 (c0 :: .val .null :: l) st h Q ↔ XE d 51 10 (c0 :: .val .null :: l) (.null :: st) h Q := g_aloadN rfl rfl
theorem s51_10 : XE d 51 10 ls (.ref a :: st) h Q ↔ XG [10] 1 (h.2.2.1 a) (fun v => XE d 51 13 ls (v :: st) h Q) := g_getf rfl
theorem s51_13 : XE d 51 13 ls (.int x :: .ref a :: st) h Q ↔ XP [10] 1 (.int x) (h.2.2.1 a) (fun e => XE d 51 16 ls st (xset h a e) Q) := g_puti rfl
theorem s51_16 : XE d 51 16 (.val (.ref a) :: l) st h Q ↔ XE d 51 17 (.val (.ref a) :: l) (.ref a :: st) h Q := g_aload rfl rfl
theorem s51_17 : XE d 51 17 (c0 :: .val (.ref a) :: l) st h Q ↔ XE d 51 18 (c0 :: .val (.ref a) :: l) (.ref a :: st) h Q := g_aload rfl rfl
theorem s51_17n : XE d 51 17 (c0 :: .val .null :: l) st h Q ↔ XE d 51 18 (c0 :: .val .null :: l) (.null :: st) h Q := g_aloadN rfl rfl
theorem s51_18 : XE d 51 18 ls (.ref a :: st) h Q ↔ XG [10] 2 (h.2.2.1 a) (fun v => XE d 51 21 ls (v :: st) h Q) := g_getf rfl
theorem s51_21 : XE d 51 21 ls (.int x :: .ref a :: st) h Q ↔ XP [10] 2 (.int x) (h.2.2.1 a) (fun e => XE d 51 24 ls st (xset h a e) Q) := g_puti rfl
theorem s51_24 : XE d 51 24 (.val (.ref a) :: l) st h Q ↔ XE d 51 25 (.val (.ref a) :: l) (.ref a :: st) h Q := g_aload rfl rfl
theorem s51_25 : XE d 51 25 (c0 :: .val (.ref a) :: l) st h Q ↔ XE d 51 26 (c0 :: .val (.ref a) :: l) (.ref a :: st) h Q := g_aload rfl rfl
theorem s51_25n : XE d 51 25 (c0 :: .val .null :: l) st h Q ↔ XE d 51 26 (c0 :: .val .null :: l) (.null :: st) h Q := g_aloadN rfl rfl
theorem s51_26 : XE d 51 26 ls (.ref a :: st) h Q ↔ XG [10] 3 (h.2.2.1 a) (fun v => XE d 51 29 ls (v :: st) h Q) := g_getf rfl
theorem s51_29 : XE d 51 29 ls (.int x :: .ref a :: st) h Q ↔ XP [10] 3 (.int x) (h.2.2.1 a) (fun e => XE d 51 32 ls st (xset h a e) Q) := g_puti rfl
theorem s51_32 : XE d 51 32 (.val (.ref a) :: l) st h Q ↔ XE d 51 33 (.val (.ref a) :: l) (.ref a :: st) h Q := g_aload rfl rfl
theorem s51_33 : XE d 51 33 (c0 :: .val (.ref a) :: l) st h Q ↔ XE d 51 34 (c0 :: .val (.ref a) :: l) (.ref a :: st) h Q := g_aload rfl rfl
theorem s51_33n : XE d 51 33 (c0 :: .val .null :: l) st h Q ↔ XE d 51 34 (c0 :: .val .null :: l) (.null :: st) h Q := g_aloadN rfl rfl
theorem s51_34 : XE d 51 34 ls (.ref a :: st) h Q ↔ XG [10] 4 (h.2.2.1 a) (fun v => XE d 51 37 ls (v :: st) h Q) := g_getf rfl
theorem s51_37 : XE d 51 37 ls (.int x :: .ref a :: st) h Q ↔ XP [10] 4 (.int x) (h.2.2.1 a) (fun e => XE d 51 40 ls st (xset h a e) Q) := g_puti rfl
theorem s51_40 : XE d 51 40 (.val (.ref a) :: l) st h Q ↔ XE d 51 41 (.val (.ref a) :: l) (.ref a :: st) h Q := g_aload rfl rfl
theorem s51_41 : XE d 51 41 (c0 :: .val (.ref a) :: l) st h Q ↔ XE d 51 42 (c0 :: .val (.ref a) :: l) (.ref a :: st) h Q := g_aload rfl rfl
theorem s51_41n : XE d 51 41 (c0 :: .val .null :: l) st h Q ↔ XE d 51 42 (c0 :: .val .null :: l) (.null :: st) h Q := g_aloadN rfl rfl
theorem s51_42 : XE d 51 42 ls (.ref a :: st) h Q ↔ XG [10] 5 (h.2.2.1 a) (fun v => XE d 51 45 ls (v :: st) h Q) := g_getf rfl
theorem s51_45 : XE d 51 45 ls (.int x :: .ref a :: st) h Q ↔ XP [10] 5 (.int x) (h.2.2.1 a) (fun e => XE d 51 48 ls st (xset h a e) Q) := g_puti rfl
theorem s51_48 : XE d 51 48 (.val (.ref a) :: l) st h Q ↔ XE d 51 49 (.val (.ref a) :: l) (.ref a :: st) h Q := g_aload rfl rfl
theorem s51_49 : XE d 51 49 (c0 :: .val (.ref a) :: l) st h Q ↔ XE d 51 50 (c0 :: .val (.ref a) :: l) (.ref a :: st) h Q := g_aload rfl rfl
theorem s51_49n : XE d 51 49 (c0 :: .val .null :: l) st h Q ↔ XE d 51 50 (c0 :: .val .null :: l) (.null :: st) h Q := g_aloadN rfl rfl
theorem s51_50 : XE d 51 50 ls (.ref a :: st) h Q ↔ XG [10] 6 (h.2.2.1 a) (fun v => XE d 51 53 ls (v :: st) h Q) := g_getf rfl
theorem s51_53 : XE d 51 53 ls (.int x :: .ref a :: st) h Q ↔ XP [10] 6 (.int x) (h.2.2.1 a) (fun e => XE d 51 56 ls st (xset h a e) Q) := g_puti rfl
theorem s51_56 : XE d 51 56 (.val (.ref a) :: l) st h Q ↔ XE d 51 57 (.val (.ref a) :: l) (.ref a :: st) h Q := g_aload rfl rfl
theorem s51_57 : XE d 51 57 (c0 :: .val (.ref a) :: l) st h Q ↔ XE d 51 58 (c0 :: .val (.ref a) :: l) (.ref a :: st) h Q := g_aload rfl rfl
theorem s51_57n : XE d 51 57 (c0 :: .val .null :: l) st h Q ↔ XE d 51 58 (c0 :: .val .null :: l) (.null :: st) h Q := g_aloadN rfl rfl
theorem s51_58 : XE d 51 58 ls (.ref a :: st) h Q ↔ XG [10] 7 (h.2.2.1 a) (fun v => XE d 51 61 ls (v :: st) h Q) := g_getf rfl
theorem s51_61 : XE d 51 61 ls (.int x :: .ref a :: st) h Q ↔ XP [10] 7 (.int x) (h.2.2.1 a) (fun e => XE d 51 64 ls st (xset h a e) Q) := g_puti rfl
theorem s51_64 : XE d 51 64 (c0 :: .val (.ref a) :: l) st h Q ↔ XE d 51 65 (c0 :: .val (.ref a) :: l) (.ref a :: st) h Q := g_aload rfl rfl
theorem s51_64n : XE d 51 64 (c0 :: .val .null :: l) st h Q ↔ XE d 51 65 (c0 :: .val .null :: l) (.null :: st) h Q := g_aloadN rfl rfl
theorem s51_65 : XE d 51 65 ls (.ref a :: st) h Q ↔ XG [10] 8 (h.2.2.1 a) (fun v => XE d 51 68 ls (v :: st) h Q) := g_getf rfl
theorem s51_68 : XE d 51 68 ls st h Q ↔ XE d 51 69 ls (.int 0 :: st) h Q := g_const rfl
theorem s51_69 : XE d 51 69 (.val (.ref a) :: l) st h Q ↔ XE d 51 70 (.val (.ref a) :: l) (.ref a :: st) h Q := g_aload rfl rfl
theorem s51_70 : XE d 51 70 ls (.ref a :: st) h Q ↔ XG [10] 8 (h.2.2.1 a) (fun v => XE d 51 73 ls (v :: st) h Q) := g_getf rfl
theorem s51_73 : XE d 51 73 ls st h Q ↔ XE d 51 74 ls (.int 0 :: st) h Q := g_const rfl
theorem s51_74 : XE d 51 74 ls st h Q ↔ XE d 51 76 ls (.int 10 :: st) h Q := g_const rfl
theorem s51_76 (hr : xvo 8 st = true) : XE d 51 76 ls (.int z :: .int y :: .ref a :: .int x :: .ref b :: st) h Q ↔ XCp (h.2.2.1 a) (h.2.2.1 b) z y x (fun e => XE d 51 79 ls st (xset h a e) Q) := g_acopy hr rfl
theorem s51_79 : XE d 51 79 (c0 :: .val (.ref a) :: l) st h Q ↔ XE d 51 80 (c0 :: .val (.ref a) :: l) (.ref a :: st) h Q := g_aload rfl rfl
theorem s51_79n : XE d 51 79 (c0 :: .val .null :: l) st h Q ↔ XE d 51 80 (c0 :: .val .null :: l) (.null :: st) h Q := g_aloadN rfl rfl
theorem s51_80 : XE d 51 80 ls (.ref a :: st) h Q ↔ XG [10] 9 (h.2.2.1 a) (fun v => XE d 51 83 ls (v :: st) h Q) := g_getf rfl
theorem s51_83 : XE d 51 83 ls st h Q ↔ XE d 51 84 ls (.int 0 :: st) h Q := g_const rfl
theorem s51_84 : XE d 51 84 (.val (.ref a) :: l) st h Q ↔ XE d 51 85 (.val (.ref a) :: l) (.ref a :: st) h Q := g_aload rfl rfl
theorem s51_85 : XE d 51 85 ls (.ref a :: st) h Q ↔ XG [10] 9 (h.2.2.1 a) (fun v => XE d 51 88 ls (v :: st) h Q) := g_getf rfl
theorem s51_88 : XE d 51 88 ls st h Q ↔ XE d 51 89 ls (.int 0 :: st) h Q := g_const rfl
theorem s51_89 : XE d 51 89 ls st h Q ↔ XE d 51 91 ls (.int 10 :: st) h Q := g_const rfl
theorem s51_91 (hr : xvo 8 st = true) : XE d 51 91 ls (.int z :: .int y :: .ref a :: .int x :: .ref b :: st) h Q ↔ XCp (h.2.2.1 a) (h.2.2.1 b) z y x (fun e => XE d 51 94 ls st (xset h a e) Q) := g_acopy hr rfl
theorem s51_94 : XE d 51 94 (c0 :: .val (.ref a) :: l) st h Q ↔ XE d 51 95 (c0 :: .val (.ref a) :: l) (.ref a :: st) h Q := g_aload rfl rfl
theorem s51_94n : XE d 51 94 (c0 :: .val .null :: l) st h Q ↔ XE d 51 95 (c0 :: .val .null :: l) (.null :: st) h Q := g_aloadN rfl rfl
theorem s51_95 : XE d 51 95 ls (.ref a :: st) h Q ↔ XG [10] 10 (h.2.2.1 a) (fun v => XE d 51 98 ls (v :: st) h Q) := g_getf rfl
theorem s51_98 : XE d 51 98 ls st h Q ↔ XE d 51 99 ls (.int 0 :: st) h Q := g_const rfl
theorem s51_99 : XE d 51 99 (.val (.ref a) :: l) st h Q ↔ XE d 51 100 (.val (.ref a) :: l) (.ref a :: st) h Q := g_aload rfl rfl
theorem s51_100 : XE d 51 100 ls (.ref a :: st) h Q ↔ XG [10] 10 (h.2.2.1 a) (fun v => XE d 51 103 ls (v :: st) h Q) := g_getf rfl
theorem s51_103 : XE d 51 103 ls st h Q ↔ XE d 51 104 ls (.int 0 :: st) h Q := g_const rfl
theorem s51_104 : XE d 51 104 ls st h Q ↔ XE d 51 106 ls (.int 10 :: st) h Q := g_const rfl
theorem s51_106 (hr : xvo 8 st = true) : XE d 51 106 ls (.int z :: .int y :: .ref a :: .int x :: .ref b :: st) h Q ↔ XCp (h.2.2.1 a) (h.2.2.1 b) z y x (fun e => XE d 51 109 ls st (xset h a e) Q) := g_acopy hr rfl
theorem s51_109 : XE d 51 109 (c0 :: .val (.ref a) :: l) st h Q ↔ XE d 51 110 (c0 :: .val (.ref a) :: l) (.ref a :: st) h Q := g_aload rfl rfl
theorem s51_109n : XE d 51 109 (c0 :: .val .null :: l) st h Q ↔ XE d 51 110 (c0 :: .val .null :: l) (.null :: st) h Q := g_aloadN rfl rfl
theorem s51_110 : XE d 51 110 ls (.ref a :: st) h Q ↔ XG [10] 11 (h.2.2.1 a) (fun v => XE d 51 113 ls (v :: st) h Q) := g_getf rfl
theorem s51_113 : XE d 51 113 ls st h Q ↔ XE d 51 114 ls (.int 0 :: st) h Q := g_const rfl
theorem s51_114 : XE d 51 114 (.val (.ref a) :: l) st h Q ↔ XE d 51 115 (.val (.ref a) :: l) (.ref a :: st) h Q := g_aload rfl rfl
theorem s51_115 : XE d 51 115 ls (.ref a :: st) h Q ↔ XG [10] 11 (h.2.2.1 a) (fun v => XE d 51 118 ls (v :: st) h Q) := g_getf rfl
theorem s51_118 : XE d 51 118 ls st h Q ↔ XE d 51 119 ls (.int 0 :: st) h Q := g_const rfl
theorem s51_119 : XE d 51 119 ls st h Q ↔ XE d 51 121 ls (.int 12 :: st) h Q := g_const rfl
theorem s51_121 (hr : xvo 8 st = true) : XE d 51 121 ls (.int z :: .int y :: .ref a :: .int x :: .ref b :: st) h Q ↔ XCp (h.2.2.1 a) (h.2.2.1 b) z y x (fun e => XE d 51 124 ls st (xset h a e) Q) := g_acopy hr rfl
theorem s51_124 : XE d 51 124 (c0 :: .val (.ref a) :: l) st h Q ↔ XE d 51 125 (c0 :: .val (.ref a) :: l) (.ref a :: st) h Q := g_aload rfl rfl
theorem s51_124n : XE d 51 124 (c0 :: .val .null :: l) st h Q ↔ XE d 51 125 (c0 :: .val .null :: l) (.null :: st) h Q := g_aloadN rfl rfl
theorem s51_125 : XE d 51 125 ls (.ref a :: st) h Q ↔ XG [10] 12 (h.2.2.1 a) (fun v => XE d 51 128 ls (v :: st) h Q) := g_getf rfl
theorem s51_128 : XE d 51 128 ls st h Q ↔ XE d 51 129 ls (.int 0 :: st) h Q := g_const rfl
theorem s51_129 : XE d 51 129 (.val (.ref a) :: l) st h Q ↔ XE d 51 130 (.val (.ref a) :: l) (.ref a :: st) h Q := g_aload rfl rfl
theorem s51_130 : XE d 51 130 ls (.ref a :: st) h Q ↔ XG [10] 12 (h.2.2.1 a) (fun v => XE d 51 133 ls (v :: st) h Q) := g_getf rfl
theorem s51_133 : XE d 51 133 ls st h Q ↔ XE d 51 134 ls (.int 0 :: st) h Q := g_const rfl
theorem s51_134 : XE d 51 134 ls st h Q ↔ XE d 51 136 ls (.int 12 :: st) h Q := g_const rfl
theorem s51_136 (hr : xvo 8 st = true) : XE d 51 136 ls (.int z :: .int y :: .ref a :: .int x :: .ref b :: st) h Q ↔ XCp (h.2.2.1 a) (h.2.2.1 b) z y x (fun e => XE d 51 139 ls st (xset h a e) Q) := g_acopy hr rfl
theorem s51_139 : XE d 51 139 (c0 :: .val (.ref a) :: l) st h Q ↔ XE d 51 140 (c0 :: .val (.ref a) :: l) (.ref a :: st) h Q := g_aload rfl rfl
theorem s51_139n : XE d 51 139 (c0 :: .val .null :: l) st h Q ↔ XE d 51 140 (c0 :: .val .null :: l) (.null :: st) h Q := g_aloadN rfl rfl
theorem s51_140 : XE d 51 140 ls (.ref a :: st) h Q ↔ XG [10] 13 (h.2.2.1 a) (fun v => XE d 51 143 ls (v :: st) h Q) := g_getf rfl
theorem s51_143 : XE d 51 143 ls st h Q ↔ XE d 51 144 ls (.int 0 :: st) h Q := g_const rfl
theorem s51_144 : XE d 51 144 (.val (.ref a) :: l) st h Q ↔ XE d 51 145 (.val (.ref a) :: l) (.ref a :: st) h Q := g_aload rfl rfl
theorem s51_145 : XE d 51 145 ls (.ref a :: st) h Q ↔ XG [10] 13 (h.2.2.1 a) (fun v => XE d 51 148 ls (v :: st) h Q) := g_getf rfl
theorem s51_148 : XE d 51 148 ls st h Q ↔ XE d 51 149 ls (.int 0 :: st) h Q := g_const rfl
theorem s51_149 : XE d 51 149 ls st h Q ↔ XE d 51 151 ls (.int 12 :: st) h Q := g_const rfl
theorem s51_151 (hr : xvo 8 st = true) : XE d 51 151 ls (.int z :: .int y :: .ref a :: .int x :: .ref b :: st) h Q ↔ XCp (h.2.2.1 a) (h.2.2.1 b) z y x (fun e => XE d 51 154 ls st (xset h a e) Q) := g_acopy hr rfl
theorem s51_154 : XE d 51 154 (c0 :: .val (.ref a) :: l) st h Q ↔ XE d 51 155 (c0 :: .val (.ref a) :: l) (.ref a :: st) h Q := g_aload rfl rfl
theorem s51_154n : XE d 51 154 (c0 :: .val .null :: l) st h Q ↔ XE d 51 155 (c0 :: .val .null :: l) (.null :: st) h Q := g_aloadN rfl rfl
theorem s51_155 : XE d 51 155 ls (.ref a :: st) h Q ↔ XG [10] 14 (h.2.2.1 a) (fun v => XE d 51 158 ls (v :: st) h Q) := g_getf rfl
theorem s51_158 : XE d 51 158 ls st h Q ↔ XE d 51 159 ls (.int 0 :: st) h Q := g_const rfl
theorem s51_159 : XE d 51 159 (.val (.ref a) :: l) st h Q ↔ XE d 51 160 (.val (.ref a) :: l) (.ref a :: st) h Q := g_aload rfl rfl
theorem s51_160 : XE d 51 160 ls (.ref a :: st) h Q ↔ XG [10] 14 (h.2.2.1 a) (fun v => XE d 51 163 ls (v :: st) h Q) := g_getf rfl
theorem s51_163 : XE d 51 163 ls st h Q ↔ XE d 51 164 ls (.int 0 :: st) h Q := g_const rfl
theorem s51_164 : XE d 51 164 ls st h Q ↔ XE d 51 166 ls (.int 24 :: st) h Q := g_const rfl
theorem s51_166 (hr : xvo 8 st = true) : XE d 51 166 ls (.int z :: .int y :: .ref a :: .int x :: .ref b :: st) h Q ↔ XCp (h.2.2.1 a) (h.2.2.1 b) z y x (fun e => XE d 51 169 ls st (xset h a e) Q) := g_acopy hr rfl
theorem s51_169 : XE d 51 169 ls st h Q ↔ XE d 51 170 ls (.int 0 :: st) h Q := g_const rfl
theorem s51_170 : XE d 51 170 (c0 :: c1 :: c2 :: l) (.int x :: st) h Q ↔ XE d 51 171 (c0 :: c1 :: .val (.int x) :: l) st h Q := g_istore (Nat.lt_of_lt_of_le (show 2 < 3 by decide) (Nat.le_add_left 3 _)) rfl rfl
theorem s51_171 : XE d 51 171 (c0 :: c1 :: .val (.int x) :: l) st h Q ↔ XE d 51 172 (c0 :: c1 :: .val (.int x) :: l) (.int x :: st) h Q := g_iload rfl rfl
theorem s51_172 : XE d 51 172 ls st h Q ↔ XE d 51 174 ls (.int 6 :: st) h Q := g_const rfl
theorem s51_174 : XE d 51 174 ls (.int y :: .int x :: st) h Q ↔ (if x < y then XE d 51 177 ls st h Q else XE d 51 195 ls st h Q) := g_cge rfl
theorem s51_177 : XE d 51 177 (.val (.ref a) :: l) st h Q ↔ XE d 51 178 (.val (.ref a) :: l) (.ref a :: st) h Q := g_aload rfl rfl
theorem s51_178 : XE d 51 178 ls (.ref a :: st) h Q ↔ XG [10] 15 (h.2.2.1 a) (fun v => XE d 51 181 ls (v :: st) h Q) := g_getf rfl
theorem s51_181 : XE d 51 181 (c0 :: c1 :: .val (.int x) :: l) st h Q ↔ XE d 51 182 (c0 :: c1 :: .val (.int x) :: l) (.int x :: st) h Q := g_iload rfl rfl
theorem s51_182 : XE d 51 182 (c0 :: .val (.ref a) :: l) st h Q ↔ XE d 51 183 (c0 :: .val (.ref a) :: l) (.ref a :: st) h Q := g_aload rfl rfl
theorem s51_182n : XE d 51 182 (c0 :: .val .null :: l) st h Q ↔ XE d 51 183 (c0 :: .val .null :: l) (.null :: st) h Q := g_aloadN rfl rfl
theorem s51_183 : XE d 51 183 ls (.ref a :: st) h Q ↔ XG [10] 15 (h.2.2.1 a) (fun v => XE d 51 186 ls (v :: st) h Q) := g_getf rfl
theorem s51_186 : XE d 51 186 (c0 :: c1 :: .val (.int x) :: l) st h Q ↔ XE d 51 187 (c0 :: c1 :: .val (.int x) :: l) (.int x :: st) h Q := g_iload rfl rfl
theorem s51_187 : XE d 51 187 ls (.int x :: .ref a :: st) h Q ↔ XQ (h.2.2.1 a) x (fun v => XE d 51 188 ls (v :: st) h Q) := g_aald rfl
theorem s51_188 : XE d 51 188 ls (.ref b :: .int x :: .ref a :: st) h Q ↔ XSr 6 [0, 1, 2, 3, 4, 9] (h.2.2.1 a) x b (h.2.2.1 b) (fun e => XE d 51 189 ls st (xset h a e) Q) := g_aastR rfl
theorem s51_188n : XE d 51 188 ls (.null :: .int x :: .ref a :: st) h Q ↔ XSn 6 (h.2.2.1 a) x (fun e => XE d 51 189 ls st (xset h a e) Q) := g_aastN rfl
theorem s51_189 : XE d 51 189 (c0 :: c1 :: .val (.int x) :: l) st h Q ↔ XE d 51 192 (c0 :: c1 :: .val (.int (x + 1)) :: l) st h Q := g_iinc rfl rfl rfl
theorem s51_192 : XE d 51 192 ls st h Q ↔ XE d 51 171 ls st h Q := g_goto rfl
theorem s51_195 : XE d 51 195 ls st h Q ↔ XE d 51 196 ls (.int 0 :: st) h Q := g_const rfl
theorem s51_196 : XE d 51 196 (c0 :: c1 :: c2 :: l) (.int x :: st) h Q ↔ XE d 51 197 (c0 :: c1 :: .val (.int x) :: l) st h Q := g_istore (Nat.lt_of_lt_of_le (show 2 < 3 by decide) (Nat.le_add_left 3 _)) rfl rfl
theorem s51_197 : XE d 51 197 (c0 :: c1 :: .val (.int x) :: l) st h Q ↔ XE d 51 198 (c0 :: c1 :: .val (.int x) :: l) (.int x :: st) h Q := g_iload rfl rfl
theorem s51_198 : XE d 51 198 ls st h Q ↔ XE d 51 200 ls (.int 14 :: st) h Q := g_const rfl
theorem s51_200 : XE d 51 200 ls (.int y :: .int x :: st) h Q ↔ (if x < y then XE d 51 203 ls st h Q else XE d 51 221 ls st h Q) := g_cge rfl
theorem s51_203 : XE d 51 203 (.val (.ref a) :: l) st h Q ↔ XE d 51 204 (.val (.ref a) :: l) (.ref a :: st) h Q := g_aload rfl rfl
theorem s51_204 : XE d 51 204 ls (.ref a :: st) h Q ↔ XG [10] 16 (h.2.2.1 a) (fun v => XE d 51 207 ls (v :: st) h Q) := g_getf rfl
theorem s51_207 : XE d 51 207 (c0 :: c1 :: .val (.int x) :: l) st h Q ↔ XE d 51 208 (c0 :: c1 :: .val (.int x) :: l) (.int x :: st) h Q := g_iload rfl rfl
theorem s51_208 : XE d 51 208 (c0 :: .val (.ref a) :: l) st h Q ↔ XE d 51 209 (c0 :: .val (.ref a) :: l) (.ref a :: st) h Q := g_aload rfl rfl
theorem s51_208n : XE d 51 208 (c0 :: .val .null :: l) st h Q ↔ XE d 51 209 (c0 :: .val .null :: l) (.null :: st) h Q := g_aloadN rfl rfl
theorem s51_209 : XE d 51 209 ls (.ref a :: st) h Q ↔ XG [10] 16 (h.2.2.1 a) (fun v => XE d 51 212 ls (v :: st) h Q) := g_getf rfl
theorem s51_212 : XE d 51 212 (c0 :: c1 :: .val (.int x) :: l) st h Q ↔ XE d 51 213 (c0 :: c1 :: .val (.int x) :: l) (.int x :: st) h Q := g_iload rfl rfl
theorem s51_213 : XE d 51 213 ls (.int x :: .ref a :: st) h Q ↔ XQ (h.2.2.1 a) x (fun v => XE d 51 214 ls (v :: st) h Q) := g_aald rfl
theorem s51_214 : XE d 51 214 ls (.ref b :: .int x :: .ref a :: st) h Q ↔ XSr 5 [8] (h.2.2.1 a) x b (h.2.2.1 b) (fun e => XE d 51 215 ls st (xset h a e) Q) := g_aastR rfl
theorem s51_214n : XE d 51 214 ls (.null :: .int x :: .ref a :: st) h Q ↔ XSn 5 (h.2.2.1 a) x (fun e => XE d 51 215 ls st (xset h a e) Q) := g_aastN rfl
theorem s51_215 : XE d 51 215 (c0 :: c1 :: .val (.int x) :: l) st h Q ↔ XE d 51 218 (c0 :: c1 :: .val (.int (x + 1)) :: l) st h Q := g_iinc rfl rfl rfl
theorem s51_218 : XE d 51 218 ls st h Q ↔ XE d 51 197 ls st h Q := g_goto rfl
theorem s51_221 : XE d 51 221 ls [] h Q ↔ Q none h := g_ret rfl
-- 52: TwoBells$Town.isHouse(I)Z
theorem e52 : XC (d + 1) 52 [.ref a, .int x] h Q ↔ XE d 52 0 [.val (.ref a), .val (.int x)] [] h Q := XC_in rfl
theorem s52_0 : XE d 52 0 (c0 :: .val (.int x) :: l) st h Q ↔ XE d 52 1 (c0 :: .val (.int x) :: l) (.int x :: st) h Q := g_iload rfl rfl
theorem s52_1 : XE d 52 1 ls (.int x :: st) h Q ↔ (if x < 0 then XE d 52 16 ls st h Q else XE d 52 4 ls st h Q) := g_iflt rfl
theorem s52_4 : XE d 52 4 (c0 :: .val (.int x) :: l) st h Q ↔ XE d 52 5 (c0 :: .val (.int x) :: l) (.int x :: st) h Q := g_iload rfl rfl
theorem s52_5 : XE d 52 5 (.val (.ref a) :: l) st h Q ↔ XE d 52 6 (.val (.ref a) :: l) (.ref a :: st) h Q := g_aload rfl rfl
theorem s52_6 : XE d 52 6 ls (.ref a :: st) h Q ↔ XG [10] 0 (h.2.2.1 a) (fun v => XE d 52 9 ls (v :: st) h Q) := g_getf rfl
theorem s52_9 : XE d 52 9 ls (.int y :: .int x :: st) h Q ↔ (if x < y then XE d 52 12 ls st h Q else XE d 52 16 ls st h Q) := g_cge rfl
theorem s52_12 : XE d 52 12 ls st h Q ↔ XE d 52 13 ls (.int 1 :: st) h Q := g_const rfl
theorem s52_13 : XE d 52 13 ls st h Q ↔ XE d 52 17 ls st h Q := g_goto rfl
theorem s52_16 : XE d 52 16 ls st h Q ↔ XE d 52 17 ls (.int 0 :: st) h Q := g_const rfl
theorem s52_17 : XE d 52 17 ls [.int 0] h Q ↔ Q (some (.int 0)) h := g_zret rfl rfl
theorem s52_17t : XE d 52 17 ls [.int 1] h Q ↔ Q (some (.int 1)) h := g_zret rfl rfl
theorem s52_17b : XE d 52 17 ls [.int (bI q)] h Q ↔ Q (some (.int (bI q))) h := g_zret (bI_nar q) rfl
-- 53: TwoBells$Town.isDoor(I)Z
theorem e53 : XC (d + 1) 53 [.ref a, .int x] h Q ↔ XE d 53 0 [.val (.ref a), .val (.int x)] [] h Q := XC_in rfl
theorem s53_0 : XE d 53 0 (c0 :: .val (.int x) :: l) st h Q ↔ XE d 53 1 (c0 :: .val (.int x) :: l) (.int x :: st) h Q := g_iload rfl rfl
theorem s53_1 : XE d 53 1 ls (.int x :: st) h Q ↔ (if x < 0 then XE d 53 16 ls st h Q else XE d 53 4 ls st h Q) := g_iflt rfl
theorem s53_4 : XE d 53 4 (c0 :: .val (.int x) :: l) st h Q ↔ XE d 53 5 (c0 :: .val (.int x) :: l) (.int x :: st) h Q := g_iload rfl rfl
theorem s53_5 : XE d 53 5 (.val (.ref a) :: l) st h Q ↔ XE d 53 6 (.val (.ref a) :: l) (.ref a :: st) h Q := g_aload rfl rfl
theorem s53_6 : XE d 53 6 ls (.ref a :: st) h Q ↔ XG [10] 1 (h.2.2.1 a) (fun v => XE d 53 9 ls (v :: st) h Q) := g_getf rfl
theorem s53_9 : XE d 53 9 ls (.int y :: .int x :: st) h Q ↔ (if x < y then XE d 53 12 ls st h Q else XE d 53 16 ls st h Q) := g_cge rfl
theorem s53_12 : XE d 53 12 ls st h Q ↔ XE d 53 13 ls (.int 1 :: st) h Q := g_const rfl
theorem s53_13 : XE d 53 13 ls st h Q ↔ XE d 53 17 ls st h Q := g_goto rfl
theorem s53_16 : XE d 53 16 ls st h Q ↔ XE d 53 17 ls (.int 0 :: st) h Q := g_const rfl
theorem s53_17 : XE d 53 17 ls [.int 0] h Q ↔ Q (some (.int 0)) h := g_zret rfl rfl
theorem s53_17t : XE d 53 17 ls [.int 1] h Q ↔ Q (some (.int 1)) h := g_zret rfl rfl
theorem s53_17b : XE d 53 17 ls [.int (bI q)] h Q ↔ Q (some (.int (bI q))) h := g_zret (bI_nar q) rfl
-- 54: TwoBells$Town.thiefAt(I)LTwoBells$Thief;
theorem e54 : XC (d + 1) 54 [.ref a, .int x] h Q ↔ XE d 54 0 [.val (.ref a), .val (.int x)] [] h Q := XC_in rfl
theorem s54_0 : XE d 54 0 (c0 :: .val (.int x) :: l) st h Q ↔ XE d 54 1 (c0 :: .val (.int x) :: l) (.int x :: st) h Q := g_iload rfl rfl
theorem s54_1 : XE d 54 1 ls st h Q ↔ XE d 54 2 ls (.int 0 :: st) h Q := g_const rfl
theorem s54_2 : XE d 54 2 (.val (.ref a) :: l) st h Q ↔ XE d 54 3 (.val (.ref a) :: l) (.ref a :: st) h Q := g_aload rfl rfl
theorem s54_3 : XE d 54 3 ls (.ref a :: st) h Q ↔ XG [10] 2 (h.2.2.1 a) (fun v => XE d 54 6 ls (v :: st) h Q) := g_getf rfl
theorem s54_6 : XE d 54 6 ls st h Q ↔ XE d 54 7 ls (.int 1 :: st) h Q := g_const rfl
theorem s54_7 : XE d 54 7 ls (.int y :: .int x :: st) h Q ↔ XE d 54 8 ls (.int (x - y) :: st) h Q := g_sub rfl
theorem s54_8 : XE d 54 8 ls (.int z :: .int y :: .int x :: st) h Q ↔ (xvo 8 st = true ∧ XC d 123 [.int x, .int y, .int z] h (fun v h' => XE d 54 11 ls (v.toList ++ st) h' Q)) := h_s3 rfl rfl
theorem s54_11 : XE d 54 11 ls (.int x :: st) h Q ↔ (if x = 0 then XE d 54 23 ls st h Q else XE d 54 14 ls st h Q) := g_ifeq rfl
theorem s54_14 : XE d 54 14 (.val (.ref a) :: l) st h Q ↔ XE d 54 15 (.val (.ref a) :: l) (.ref a :: st) h Q := g_aload rfl rfl
theorem s54_15 : XE d 54 15 ls (.ref a :: st) h Q ↔ XG [10] 15 (h.2.2.1 a) (fun v => XE d 54 18 ls (v :: st) h Q) := g_getf rfl
theorem s54_18 : XE d 54 18 (c0 :: .val (.int x) :: l) st h Q ↔ XE d 54 19 (c0 :: .val (.int x) :: l) (.int x :: st) h Q := g_iload rfl rfl
theorem s54_19 : XE d 54 19 ls (.int x :: .ref a :: st) h Q ↔ XQ (h.2.2.1 a) x (fun v => XE d 54 20 ls (v :: st) h Q) := g_aald rfl
theorem s54_20 : XE d 54 20 ls st h Q ↔ XE d 54 24 ls st h Q := g_goto rfl
theorem s54_23 : XE d 54 23 ls st h Q ↔ XE d 54 24 ls (.null :: st) h Q := g_null rfl
theorem s54_24 : XE d 54 24 ls [.ref a] h Q ↔ Q (some (.ref a)) h := g_aretR rfl
theorem s54_24n : XE d 54 24 ls [.null] h Q ↔ Q (some .null) h := g_aretN rfl
-- 55: TwoBells$Town.textAt(I)LTwoBells$Text;
theorem e55 : XC (d + 1) 55 [.ref a, .int x] h Q ↔ XE d 55 0 [.val (.ref a), .val (.int x)] [] h Q := XC_in rfl
theorem s55_0 : XE d 55 0 (c0 :: .val (.int x) :: l) st h Q ↔ XE d 55 1 (c0 :: .val (.int x) :: l) (.int x :: st) h Q := g_iload rfl rfl
theorem s55_1 : XE d 55 1 ls st h Q ↔ XE d 55 2 ls (.int 0 :: st) h Q := g_const rfl
theorem s55_2 : XE d 55 2 (.val (.ref a) :: l) st h Q ↔ XE d 55 3 (.val (.ref a) :: l) (.ref a :: st) h Q := g_aload rfl rfl
theorem s55_3 : XE d 55 3 ls (.ref a :: st) h Q ↔ XG [10] 3 (h.2.2.1 a) (fun v => XE d 55 6 ls (v :: st) h Q) := g_getf rfl
theorem s55_6 : XE d 55 6 ls st h Q ↔ XE d 55 7 ls (.int 1 :: st) h Q := g_const rfl
theorem s55_7 : XE d 55 7 ls (.int y :: .int x :: st) h Q ↔ XE d 55 8 ls (.int (x - y) :: st) h Q := g_sub rfl
theorem s55_8 : XE d 55 8 ls (.int z :: .int y :: .int x :: st) h Q ↔ (xvo 8 st = true ∧ XC d 123 [.int x, .int y, .int z] h (fun v h' => XE d 55 11 ls (v.toList ++ st) h' Q)) := h_s3 rfl rfl
theorem s55_11 : XE d 55 11 ls (.int x :: st) h Q ↔ (if x = 0 then XE d 55 23 ls st h Q else XE d 55 14 ls st h Q) := g_ifeq rfl
theorem s55_14 : XE d 55 14 (.val (.ref a) :: l) st h Q ↔ XE d 55 15 (.val (.ref a) :: l) (.ref a :: st) h Q := g_aload rfl rfl
theorem s55_15 : XE d 55 15 ls (.ref a :: st) h Q ↔ XG [10] 16 (h.2.2.1 a) (fun v => XE d 55 18 ls (v :: st) h Q) := g_getf rfl
theorem s55_18 : XE d 55 18 (c0 :: .val (.int x) :: l) st h Q ↔ XE d 55 19 (c0 :: .val (.int x) :: l) (.int x :: st) h Q := g_iload rfl rfl
theorem s55_19 : XE d 55 19 ls (.int x :: .ref a :: st) h Q ↔ XQ (h.2.2.1 a) x (fun v => XE d 55 20 ls (v :: st) h Q) := g_aald rfl
theorem s55_20 : XE d 55 20 ls st h Q ↔ XE d 55 24 ls st h Q := g_goto rfl
theorem s55_23 : XE d 55 23 ls st h Q ↔ XE d 55 24 ls (.null :: st) h Q := g_null rfl
theorem s55_24 : XE d 55 24 ls [.ref a] h Q ↔ Q (some (.ref a)) h := g_aretR rfl
theorem s55_24n : XE d 55 24 ls [.null] h Q ↔ Q (some .null) h := g_aretN rfl
-- 56: TwoBells$Town.addHouse(II)I
theorem e56 : XC (d + 1) 56 [.ref a, .int x, .int y] h Q ↔ XE d 56 0 [.val (.ref a), .val (.int x), .val (.int y)] [] h Q := XC_in rfl
theorem s56_0 : XE d 56 0 (.val (.ref a) :: l) st h Q ↔ XE d 56 1 (.val (.ref a) :: l) (.ref a :: st) h Q := g_aload rfl rfl
theorem s56_1 : XE d 56 1 ls (.ref a :: st) h Q ↔ XG [10] 0 (h.2.2.1 a) (fun v => XE d 56 4 ls (v :: st) h Q) := g_getf rfl
theorem s56_4 : XE d 56 4 ls st h Q ↔ XE d 56 6 ls (.int 10 :: st) h Q := g_const rfl
theorem s56_6 : XE d 56 6 ls (.int y :: .int x :: st) h Q ↔ (if x < y then XE d 56 12 ls st h Q else XE d 56 9 ls st h Q) := g_clt rfl
theorem s56_9 : XE d 56 9 ls st h Q ↔ XE d 56 11 ls (.int (-1000000003) :: st) h Q := g_const rfl
theorem s56_11 : XE d 56 11 ls [.int x] h Q ↔ Q (some (.int x)) h := g_iret rfl
theorem s56_12 : XE d 56 12 (.val (.ref a) :: l) st h Q ↔ XE d 56 13 (.val (.ref a) :: l) (.ref a :: st) h Q := g_aload rfl rfl
theorem s56_13 : XE d 56 13 ls (.ref a :: st) h Q ↔ XG [10] 8 (h.2.2.1 a) (fun v => XE d 56 16 ls (v :: st) h Q) := g_getf rfl
theorem s56_16 : XE d 56 16 (.val (.ref a) :: l) st h Q ↔ XE d 56 17 (.val (.ref a) :: l) (.ref a :: st) h Q := g_aload rfl rfl
theorem s56_17 : XE d 56 17 ls (.ref a :: st) h Q ↔ XG [10] 0 (h.2.2.1 a) (fun v => XE d 56 20 ls (v :: st) h Q) := g_getf rfl
theorem s56_20 : XE d 56 20 (c0 :: .val (.int x) :: l) st h Q ↔ XE d 56 21 (c0 :: .val (.int x) :: l) (.int x :: st) h Q := g_iload rfl rfl
theorem s56_21 : XE d 56 21 ls (.int y :: .int x :: .ref a :: st) h Q ↔ XS 0 (h.2.2.1 a) x y (fun e => XE d 56 22 ls st (xset h a e) Q) := g_iast rfl
theorem s56_22 : XE d 56 22 (.val (.ref a) :: l) st h Q ↔ XE d 56 23 (.val (.ref a) :: l) (.ref a :: st) h Q := g_aload rfl rfl
theorem s56_23 : XE d 56 23 ls (.ref a :: st) h Q ↔ XG [10] 9 (h.2.2.1 a) (fun v => XE d 56 26 ls (v :: st) h Q) := g_getf rfl
theorem s56_26 : XE d 56 26 (.val (.ref a) :: l) st h Q ↔ XE d 56 27 (.val (.ref a) :: l) (.ref a :: st) h Q := g_aload rfl rfl
theorem s56_27 : XE d 56 27 ls (.ref a :: st) h Q ↔ XG [10] 0 (h.2.2.1 a) (fun v => XE d 56 30 ls (v :: st) h Q) := g_getf rfl
theorem s56_30 : XE d 56 30 (c0 :: c1 :: .val (.int x) :: l) st h Q ↔ XE d 56 31 (c0 :: c1 :: .val (.int x) :: l) (.int x :: st) h Q := g_iload rfl rfl
theorem s56_31 : XE d 56 31 ls (.int y :: .int x :: .ref a :: st) h Q ↔ XS 0 (h.2.2.1 a) x y (fun e => XE d 56 32 ls st (xset h a e) Q) := g_iast rfl
theorem s56_32 : XE d 56 32 (.val (.ref a) :: l) st h Q ↔ XE d 56 33 (.val (.ref a) :: l) (.ref a :: st) h Q := g_aload rfl rfl
theorem s56_33 : XE d 56 33 ls (.ref a :: st) h Q ↔ XG [10] 10 (h.2.2.1 a) (fun v => XE d 56 36 ls (v :: st) h Q) := g_getf rfl
theorem s56_36 : XE d 56 36 (.val (.ref a) :: l) st h Q ↔ XE d 56 37 (.val (.ref a) :: l) (.ref a :: st) h Q := g_aload rfl rfl
theorem s56_37 : XE d 56 37 ls (.ref a :: st) h Q ↔ XG [10] 0 (h.2.2.1 a) (fun v => XE d 56 40 ls (v :: st) h Q) := g_getf rfl
theorem s56_40 : XE d 56 40 ls st h Q ↔ XE d 56 41 ls (.int 0 :: st) h Q := g_const rfl
theorem s56_41 : XE d 56 41 ls (.int y :: .int x :: .ref a :: st) h Q ↔ XS 0 (h.2.2.1 a) x y (fun e => XE d 56 42 ls st (xset h a e) Q) := g_iast rfl
theorem s56_42 : XE d 56 42 (.val (.ref a) :: l) st h Q ↔ XE d 56 43 (.val (.ref a) :: l) (.ref a :: st) h Q := g_aload rfl rfl
theorem s56_43 : XE d 56 43 ls (.int x :: st) h Q ↔ XE d 56 44 ls (.int x :: .int x :: st) h Q := g_dupI rfl
theorem s56_43r : XE d 56 43 ls (.ref a :: st) h Q ↔ XE d 56 44 ls (.ref a :: .ref a :: st) h Q := g_dupR rfl
theorem s56_44 : XE d 56 44 ls (.ref a :: st) h Q ↔ XG [10] 0 (h.2.2.1 a) (fun v => XE d 56 47 ls (v :: st) h Q) := g_getf rfl
theorem s56_47 : XE d 56 47 ls st h Q ↔ XE d 56 48 ls (.int 1 :: st) h Q := g_const rfl
theorem s56_48 : XE d 56 48 ls (.int y :: .int x :: st) h Q ↔ XE d 56 49 ls (.int (x + y) :: st) h Q := g_add rfl
theorem s56_49 : XE d 56 49 ls (.int x :: .ref a :: st) h Q ↔ XP [10] 0 (.int x) (h.2.2.1 a) (fun e => XE d 56 52 ls st (xset h a e) Q) := g_puti rfl
theorem s56_52 : XE d 56 52 (.val (.ref a) :: l) st h Q ↔ XE d 56 53 (.val (.ref a) :: l) (.ref a :: st) h Q := g_aload rfl rfl
theorem s56_53 : XE d 56 53 ls (.ref a :: st) h Q ↔ XG [10] 0 (h.2.2.1 a) (fun v => XE d 56 56 ls (v :: st) h Q) := g_getf rfl
theorem s56_56 : XE d 56 56 ls st h Q ↔ XE d 56 57 ls (.int 1 :: st) h Q := g_const rfl
theorem s56_57 : XE d 56 57 ls (.int y :: .int x :: st) h Q ↔ XE d 56 58 ls (.int (x - y) :: st) h Q := g_sub rfl
theorem s56_58 : XE d 56 58 ls [.int x] h Q ↔ Q (some (.int x)) h := g_iret rfl
-- 57: TwoBells$Town.addDoor(II)I
theorem e57 : XC (d + 1) 57 [.ref a, .int x, .int y] h Q ↔ XE d 57 0 [.val (.ref a), .val (.int x), .val (.int y)] [] h Q := XC_in rfl
theorem s57_0 : XE d 57 0 (.val (.ref a) :: l) st h Q ↔ XE d 57 1 (.val (.ref a) :: l) (.ref a :: st) h Q := g_aload rfl rfl
theorem s57_1 : XE d 57 1 ls (.ref a :: st) h Q ↔ XG [10] 1 (h.2.2.1 a) (fun v => XE d 57 4 ls (v :: st) h Q) := g_getf rfl
theorem s57_4 : XE d 57 4 ls st h Q ↔ XE d 57 6 ls (.int 12 :: st) h Q := g_const rfl
theorem s57_6 : XE d 57 6 ls (.int y :: .int x :: st) h Q ↔ (if x < y then XE d 57 12 ls st h Q else XE d 57 9 ls st h Q) := g_clt rfl
theorem s57_9 : XE d 57 9 ls st h Q ↔ XE d 57 11 ls (.int (-1000000003) :: st) h Q := g_const rfl
theorem s57_11 : XE d 57 11 ls [.int x] h Q ↔ Q (some (.int x)) h := g_iret rfl
theorem s57_12 : XE d 57 12 (.val (.ref a) :: l) st h Q ↔ XE d 57 13 (.val (.ref a) :: l) (.ref a :: st) h Q := g_aload rfl rfl
theorem s57_13 : XE d 57 13 ls (.ref a :: st) h Q ↔ XG [10] 11 (h.2.2.1 a) (fun v => XE d 57 16 ls (v :: st) h Q) := g_getf rfl
theorem s57_16 : XE d 57 16 (.val (.ref a) :: l) st h Q ↔ XE d 57 17 (.val (.ref a) :: l) (.ref a :: st) h Q := g_aload rfl rfl
theorem s57_17 : XE d 57 17 ls (.ref a :: st) h Q ↔ XG [10] 1 (h.2.2.1 a) (fun v => XE d 57 20 ls (v :: st) h Q) := g_getf rfl
theorem s57_20 : XE d 57 20 (c0 :: .val (.int x) :: l) st h Q ↔ XE d 57 21 (c0 :: .val (.int x) :: l) (.int x :: st) h Q := g_iload rfl rfl
theorem s57_21 : XE d 57 21 ls (.int y :: .int x :: .ref a :: st) h Q ↔ XS 0 (h.2.2.1 a) x y (fun e => XE d 57 22 ls st (xset h a e) Q) := g_iast rfl
theorem s57_22 : XE d 57 22 (.val (.ref a) :: l) st h Q ↔ XE d 57 23 (.val (.ref a) :: l) (.ref a :: st) h Q := g_aload rfl rfl
theorem s57_23 : XE d 57 23 ls (.ref a :: st) h Q ↔ XG [10] 12 (h.2.2.1 a) (fun v => XE d 57 26 ls (v :: st) h Q) := g_getf rfl
theorem s57_26 : XE d 57 26 (.val (.ref a) :: l) st h Q ↔ XE d 57 27 (.val (.ref a) :: l) (.ref a :: st) h Q := g_aload rfl rfl
theorem s57_27 : XE d 57 27 ls (.ref a :: st) h Q ↔ XG [10] 1 (h.2.2.1 a) (fun v => XE d 57 30 ls (v :: st) h Q) := g_getf rfl
theorem s57_30 : XE d 57 30 (c0 :: c1 :: .val (.int x) :: l) st h Q ↔ XE d 57 31 (c0 :: c1 :: .val (.int x) :: l) (.int x :: st) h Q := g_iload rfl rfl
theorem s57_31 : XE d 57 31 ls (.int y :: .int x :: .ref a :: st) h Q ↔ XS 0 (h.2.2.1 a) x y (fun e => XE d 57 32 ls st (xset h a e) Q) := g_iast rfl
theorem s57_32 : XE d 57 32 (.val (.ref a) :: l) st h Q ↔ XE d 57 33 (.val (.ref a) :: l) (.ref a :: st) h Q := g_aload rfl rfl
theorem s57_33 : XE d 57 33 ls (.ref a :: st) h Q ↔ XG [10] 13 (h.2.2.1 a) (fun v => XE d 57 36 ls (v :: st) h Q) := g_getf rfl
theorem s57_36 : XE d 57 36 (.val (.ref a) :: l) st h Q ↔ XE d 57 37 (.val (.ref a) :: l) (.ref a :: st) h Q := g_aload rfl rfl
theorem s57_37 : XE d 57 37 ls (.ref a :: st) h Q ↔ XG [10] 1 (h.2.2.1 a) (fun v => XE d 57 40 ls (v :: st) h Q) := g_getf rfl
theorem s57_40 : XE d 57 40 ls st h Q ↔ XE d 57 41 ls (.int 1 :: st) h Q := g_const rfl
theorem s57_41 : XE d 57 41 ls (.int y :: .int x :: .ref a :: st) h Q ↔ XS 0 (h.2.2.1 a) x y (fun e => XE d 57 42 ls st (xset h a e) Q) := g_iast rfl
theorem s57_42 : XE d 57 42 (.val (.ref a) :: l) st h Q ↔ XE d 57 43 (.val (.ref a) :: l) (.ref a :: st) h Q := g_aload rfl rfl
theorem s57_43 : XE d 57 43 ls (.ref a :: st) h Q ↔ XG [10] 14 (h.2.2.1 a) (fun v => XE d 57 46 ls (v :: st) h Q) := g_getf rfl
theorem s57_46 : XE d 57 46 ls st h Q ↔ XE d 57 47 ls (.int 2 :: st) h Q := g_const rfl
theorem s57_47 : XE d 57 47 (.val (.ref a) :: l) st h Q ↔ XE d 57 48 (.val (.ref a) :: l) (.ref a :: st) h Q := g_aload rfl rfl
theorem s57_48 : XE d 57 48 ls (.ref a :: st) h Q ↔ XG [10] 1 (h.2.2.1 a) (fun v => XE d 57 51 ls (v :: st) h Q) := g_getf rfl
theorem s57_51 : XE d 57 51 ls (.int y :: .int x :: st) h Q ↔ XE d 57 52 ls (.int (x * y) :: st) h Q := g_mul rfl
theorem s57_52 : XE d 57 52 ls st h Q ↔ XE d 57 54 ls (.int (-1000000005) :: st) h Q := g_const rfl
theorem s57_54 : XE d 57 54 ls (.int y :: .int x :: .ref a :: st) h Q ↔ XS 0 (h.2.2.1 a) x y (fun e => XE d 57 55 ls st (xset h a e) Q) := g_iast rfl
theorem s57_55 : XE d 57 55 (.val (.ref a) :: l) st h Q ↔ XE d 57 56 (.val (.ref a) :: l) (.ref a :: st) h Q := g_aload rfl rfl
theorem s57_56 : XE d 57 56 ls (.ref a :: st) h Q ↔ XG [10] 14 (h.2.2.1 a) (fun v => XE d 57 59 ls (v :: st) h Q) := g_getf rfl
theorem s57_59 : XE d 57 59 ls st h Q ↔ XE d 57 60 ls (.int 2 :: st) h Q := g_const rfl
theorem s57_60 : XE d 57 60 (.val (.ref a) :: l) st h Q ↔ XE d 57 61 (.val (.ref a) :: l) (.ref a :: st) h Q := g_aload rfl rfl
theorem s57_61 : XE d 57 61 ls (.ref a :: st) h Q ↔ XG [10] 1 (h.2.2.1 a) (fun v => XE d 57 64 ls (v :: st) h Q) := g_getf rfl
theorem s57_64 : XE d 57 64 ls (.int y :: .int x :: st) h Q ↔ XE d 57 65 ls (.int (x * y) :: st) h Q := g_mul rfl
theorem s57_65 : XE d 57 65 ls st h Q ↔ XE d 57 66 ls (.int 1 :: st) h Q := g_const rfl
theorem s57_66 : XE d 57 66 ls (.int y :: .int x :: st) h Q ↔ XE d 57 67 ls (.int (x + y) :: st) h Q := g_add rfl
theorem s57_67 : XE d 57 67 ls st h Q ↔ XE d 57 69 ls (.int (-1000000005) :: st) h Q := g_const rfl
theorem s57_69 : XE d 57 69 ls (.int y :: .int x :: .ref a :: st) h Q ↔ XS 0 (h.2.2.1 a) x y (fun e => XE d 57 70 ls st (xset h a e) Q) := g_iast rfl
theorem s57_70 : XE d 57 70 (.val (.ref a) :: l) st h Q ↔ XE d 57 71 (.val (.ref a) :: l) (.ref a :: st) h Q := g_aload rfl rfl
theorem s57_71 : XE d 57 71 ls (.int x :: st) h Q ↔ XE d 57 72 ls (.int x :: .int x :: st) h Q := g_dupI rfl
theorem s57_71r : XE d 57 71 ls (.ref a :: st) h Q ↔ XE d 57 72 ls (.ref a :: .ref a :: st) h Q := g_dupR rfl
theorem s57_72 : XE d 57 72 ls (.ref a :: st) h Q ↔ XG [10] 1 (h.2.2.1 a) (fun v => XE d 57 75 ls (v :: st) h Q) := g_getf rfl
theorem s57_75 : XE d 57 75 ls st h Q ↔ XE d 57 76 ls (.int 1 :: st) h Q := g_const rfl
theorem s57_76 : XE d 57 76 ls (.int y :: .int x :: st) h Q ↔ XE d 57 77 ls (.int (x + y) :: st) h Q := g_add rfl
theorem s57_77 : XE d 57 77 ls (.int x :: .ref a :: st) h Q ↔ XP [10] 1 (.int x) (h.2.2.1 a) (fun e => XE d 57 80 ls st (xset h a e) Q) := g_puti rfl
theorem s57_80 : XE d 57 80 (.val (.ref a) :: l) st h Q ↔ XE d 57 81 (.val (.ref a) :: l) (.ref a :: st) h Q := g_aload rfl rfl
theorem s57_81 : XE d 57 81 ls (.ref a :: st) h Q ↔ XG [10] 1 (h.2.2.1 a) (fun v => XE d 57 84 ls (v :: st) h Q) := g_getf rfl
theorem s57_84 : XE d 57 84 ls st h Q ↔ XE d 57 85 ls (.int 1 :: st) h Q := g_const rfl
theorem s57_85 : XE d 57 85 ls (.int y :: .int x :: st) h Q ↔ XE d 57 86 ls (.int (x - y) :: st) h Q := g_sub rfl
theorem s57_86 : XE d 57 86 ls [.int x] h Q ↔ Q (some (.int x)) h := g_iret rfl
-- 58: TwoBells$Town.draw()I
theorem e58 : XC (d + 1) 58 [.ref a] h Q ↔ XE d 58 0 [.val (.ref a)] [] h Q := XC_in rfl
theorem s58_0 : XE d 58 0 (.val (.ref a) :: l) st h Q ↔ XE d 58 1 (.val (.ref a) :: l) (.ref a :: st) h Q := g_aload rfl rfl
theorem s58_1 : XE d 58 1 (.val (.ref a) :: l) st h Q ↔ XE d 58 2 (.val (.ref a) :: l) (.ref a :: st) h Q := g_aload rfl rfl
theorem s58_2 : XE d 58 2 ls (.ref a :: st) h Q ↔ XG [10] 7 (h.2.2.1 a) (fun v => XE d 58 5 ls (v :: st) h Q) := g_getf rfl
theorem s58_5 : XE d 58 5 ls st h Q ↔ XE d 58 7 ls (.int 1103515245 :: st) h Q := g_const rfl
theorem s58_7 : XE d 58 7 ls (.int y :: .int x :: st) h Q ↔ XE d 58 8 ls (.int (x * y) :: st) h Q := g_mul rfl
theorem s58_8 : XE d 58 8 ls st h Q ↔ XE d 58 11 ls (.int 12345 :: st) h Q := g_const rfl
theorem s58_11 : XE d 58 11 ls (.int y :: .int x :: st) h Q ↔ XE d 58 12 ls (.int (x + y) :: st) h Q := g_add rfl
theorem s58_12 : XE d 58 12 ls (.int x :: .ref a :: st) h Q ↔ XP [10] 7 (.int x) (h.2.2.1 a) (fun e => XE d 58 15 ls st (xset h a e) Q) := g_puti rfl
theorem s58_15 : XE d 58 15 (.val (.ref a) :: l) st h Q ↔ XE d 58 16 (.val (.ref a) :: l) (.ref a :: st) h Q := g_aload rfl rfl
theorem s58_16 : XE d 58 16 ls (.ref a :: st) h Q ↔ XG [10] 7 (h.2.2.1 a) (fun v => XE d 58 19 ls (v :: st) h Q) := g_getf rfl
theorem s58_19 : XE d 58 19 ls st h Q ↔ XE d 58 21 ls (.int 8 :: st) h Q := g_const rfl
theorem s58_21 : XE d 58 21 ls (.int y :: .int x :: st) h Q ↔ XE d 58 22 ls (.int (xushr x y) :: st) h Q := g_ushr rfl
theorem s58_22 : XE d 58 22 ls [.int x] h Q ↔ Q (some (.int x)) h := g_iret rfl
-- 59: TwoBells$Town.doAgree(II)Z
theorem e59 : XC (d + 1) 59 [.ref a, .int x, .int y] h Q ↔ XE d 59 0 [.val (.ref a), .val (.int x), .val (.int y)] [] h Q := XC_in rfl
theorem s59_0 : XE d 59 0 (.val (.ref a) :: l) st h Q ↔ XE d 59 1 (.val (.ref a) :: l) (.ref a :: st) h Q := g_aload rfl rfl
theorem s59_1 : XE d 59 1 (c0 :: .val (.int x) :: l) st h Q ↔ XE d 59 2 (c0 :: .val (.int x) :: l) (.int x :: st) h Q := g_iload rfl rfl
theorem s59_2 : XE d 59 2 ls (.int x :: .ref a :: st) h Q ↔ (xvo 8 st = true ∧ XV [(10, 52)] (h.2.2.1 a) (fun m' => XC d m' [.ref a, .int x] h (fun v h' => XE d 59 5 ls (v.toList ++ st) h' Q))) := h_v1 rfl rfl
theorem s59_5 : XE d 59 5 ls (.int x :: st) h Q ↔ (if x = 0 then XE d 59 33 ls st h Q else XE d 59 8 ls st h Q) := g_ifeq rfl
theorem s59_8 : XE d 59 8 (.val (.ref a) :: l) st h Q ↔ XE d 59 9 (.val (.ref a) :: l) (.ref a :: st) h Q := g_aload rfl rfl
theorem s59_9 : XE d 59 9 (c0 :: c1 :: .val (.int x) :: l) st h Q ↔ XE d 59 10 (c0 :: c1 :: .val (.int x) :: l) (.int x :: st) h Q := g_iload rfl rfl
theorem s59_10 : XE d 59 10 ls (.int x :: .ref a :: st) h Q ↔ (xvo 8 st = true ∧ XV [(10, 52)] (h.2.2.1 a) (fun m' => XC d m' [.ref a, .int x] h (fun v h' => XE d 59 13 ls (v.toList ++ st) h' Q))) := h_v1 rfl rfl
theorem s59_13 : XE d 59 13 ls (.int x :: st) h Q ↔ (if x = 0 then XE d 59 33 ls st h Q else XE d 59 16 ls st h Q) := g_ifeq rfl
theorem s59_16 : XE d 59 16 (.val (.ref a) :: l) st h Q ↔ XE d 59 17 (.val (.ref a) :: l) (.ref a :: st) h Q := g_aload rfl rfl
theorem s59_17 : XE d 59 17 ls (.ref a :: st) h Q ↔ XG [10] 10 (h.2.2.1 a) (fun v => XE d 59 20 ls (v :: st) h Q) := g_getf rfl
theorem s59_20 : XE d 59 20 (c0 :: .val (.int x) :: l) st h Q ↔ XE d 59 21 (c0 :: .val (.int x) :: l) (.int x :: st) h Q := g_iload rfl rfl
theorem s59_21 : XE d 59 21 ls (.int x :: .ref a :: st) h Q ↔ XA [0, 7] (h.2.2.1 a) x (fun k => XE d 59 22 ls (.int k :: st) h Q) := g_ald rfl
theorem s59_22 : XE d 59 22 (c0 :: c1 :: .val (.int x) :: l) st h Q ↔ XE d 59 23 (c0 :: c1 :: .val (.int x) :: l) (.int x :: st) h Q := g_iload rfl rfl
theorem s59_23 : XE d 59 23 ls (.int y :: .int x :: st) h Q ↔ XE d 59 24 ls (.int (xshr x y) :: st) h Q := g_shr rfl
theorem s59_24 : XE d 59 24 ls st h Q ↔ XE d 59 25 ls (.int 1 :: st) h Q := g_const rfl
theorem s59_25 : XE d 59 25 ls (.int y :: .int x :: st) h Q ↔ XE d 59 26 ls (.int (x &&& y) :: st) h Q := g_and rfl
theorem s59_26 : XE d 59 26 ls (.int x :: st) h Q ↔ (if x = 0 then XE d 59 33 ls st h Q else XE d 59 29 ls st h Q) := g_ifeq rfl
theorem s59_29 : XE d 59 29 ls st h Q ↔ XE d 59 30 ls (.int 1 :: st) h Q := g_const rfl
theorem s59_30 : XE d 59 30 ls st h Q ↔ XE d 59 34 ls st h Q := g_goto rfl
theorem s59_33 : XE d 59 33 ls st h Q ↔ XE d 59 34 ls (.int 0 :: st) h Q := g_const rfl
theorem s59_34 : XE d 59 34 ls [.int 0] h Q ↔ Q (some (.int 0)) h := g_zret rfl rfl
theorem s59_34t : XE d 59 34 ls [.int 1] h Q ↔ Q (some (.int 1)) h := g_zret rfl rfl
theorem s59_34b : XE d 59 34 ls [.int (bI q)] h Q ↔ Q (some (.int (bI q))) h := g_zret (bI_nar q) rfl
-- 60: TwoBells$Town.load(II)I
theorem e60 : XC (d + 1) 60 [.ref a, .int x, .int y] h Q ↔ XE d 60 0 [.val (.ref a), .val (.int x), .val (.int y), .unset, .unset] [] h Q := XC_in rfl
theorem s60_0 : XE d 60 0 ls st h Q ↔ XE d 60 1 ls (.int 0 :: st) h Q := g_const rfl
theorem s60_1 : XE d 60 1 (c0 :: c1 :: c2 :: c3 :: l) (.int x :: st) h Q ↔ XE d 60 2 (c0 :: c1 :: c2 :: .val (.int x) :: l) st h Q := g_istore (Nat.lt_of_lt_of_le (show 3 < 4 by decide) (Nat.le_add_left 4 _)) rfl rfl
theorem s60_2 : XE d 60 2 ls st h Q ↔ XE d 60 3 ls (.int 0 :: st) h Q := g_const rfl
theorem s60_3 : XE d 60 3 (c0 :: c1 :: c2 :: c3 :: c4 :: l) (.int x :: st) h Q ↔ XE d 60 5 (c0 :: c1 :: c2 :: c3 :: .val (.int x) :: l) st h Q := g_istore (Nat.lt_of_lt_of_le (show 4 < 5 by decide) (Nat.le_add_left 5 _)) rfl rfl
theorem s60_5 : XE d 60 5 (c0 :: c1 :: c2 :: c3 :: .val (.int x) :: l) st h Q ↔ XE d 60 7 (c0 :: c1 :: c2 :: c3 :: .val (.int x) :: l) (.int x :: st) h Q := g_iload rfl rfl
theorem s60_7 : XE d 60 7 ls st h Q ↔ XE d 60 8 ls (.int 2 :: st) h Q := g_const rfl
theorem s60_8 : XE d 60 8 (.val (.ref a) :: l) st h Q ↔ XE d 60 9 (.val (.ref a) :: l) (.ref a :: st) h Q := g_aload rfl rfl
theorem s60_9 : XE d 60 9 ls (.ref a :: st) h Q ↔ XG [10] 1 (h.2.2.1 a) (fun v => XE d 60 12 ls (v :: st) h Q) := g_getf rfl
theorem s60_12 : XE d 60 12 ls (.int y :: .int x :: st) h Q ↔ XE d 60 13 ls (.int (x * y) :: st) h Q := g_mul rfl
theorem s60_13 : XE d 60 13 ls (.int y :: .int x :: st) h Q ↔ (if x < y then XE d 60 16 ls st h Q else XE d 60 44 ls st h Q) := g_cge rfl
theorem s60_16 : XE d 60 16 (.val (.ref a) :: l) st h Q ↔ XE d 60 17 (.val (.ref a) :: l) (.ref a :: st) h Q := g_aload rfl rfl
theorem s60_17 : XE d 60 17 ls (.ref a :: st) h Q ↔ XG [10] 14 (h.2.2.1 a) (fun v => XE d 60 20 ls (v :: st) h Q) := g_getf rfl
theorem s60_20 : XE d 60 20 (c0 :: c1 :: c2 :: c3 :: .val (.int x) :: l) st h Q ↔ XE d 60 22 (c0 :: c1 :: c2 :: c3 :: .val (.int x) :: l) (.int x :: st) h Q := g_iload rfl rfl
theorem s60_22 : XE d 60 22 ls (.int x :: .ref a :: st) h Q ↔ XA [0, 7] (h.2.2.1 a) x (fun k => XE d 60 23 ls (.int k :: st) h Q) := g_ald rfl
theorem s60_23 : XE d 60 23 (c0 :: .val (.int x) :: l) st h Q ↔ XE d 60 24 (c0 :: .val (.int x) :: l) (.int x :: st) h Q := g_iload rfl rfl
theorem s60_24 : XE d 60 24 ls (.int y :: .int x :: st) h Q ↔ (if x = y then XE d 60 27 ls st h Q else XE d 60 38 ls st h Q) := g_cne rfl
theorem s60_27 : XE d 60 27 (c0 :: c1 :: c2 :: c3 :: .val (.int x) :: l) st h Q ↔ XE d 60 29 (c0 :: c1 :: c2 :: c3 :: .val (.int x) :: l) (.int x :: st) h Q := g_iload rfl rfl
theorem s60_29 : XE d 60 29 ls st h Q ↔ XE d 60 30 ls (.int 2 :: st) h Q := g_const rfl
theorem s60_30 : XE d 60 30 ls (.int y :: .int x :: st) h Q ↔ (y ≠ 0 ∧ XE d 60 31 ls (.int (x / y) :: st) h Q) := g_div rfl
theorem s60_31 : XE d 60 31 (c0 :: c1 :: .val (.int x) :: l) st h Q ↔ XE d 60 32 (c0 :: c1 :: .val (.int x) :: l) (.int x :: st) h Q := g_iload rfl rfl
theorem s60_32 : XE d 60 32 ls (.int y :: .int x :: st) h Q ↔ (if x = y then XE d 60 38 ls st h Q else XE d 60 35 ls st h Q) := g_ceq rfl
theorem s60_35 : XE d 60 35 (c0 :: c1 :: c2 :: .val (.int x) :: l) st h Q ↔ XE d 60 38 (c0 :: c1 :: c2 :: .val (.int (x + 1)) :: l) st h Q := g_iinc rfl rfl rfl
theorem s60_38 : XE d 60 38 (c0 :: c1 :: c2 :: c3 :: .val (.int x) :: l) st h Q ↔ XE d 60 41 (c0 :: c1 :: c2 :: c3 :: .val (.int (x + 1)) :: l) st h Q := g_iinc rfl rfl rfl
theorem s60_41 : XE d 60 41 ls st h Q ↔ XE d 60 5 ls st h Q := g_goto rfl
theorem s60_44 : XE d 60 44 (c0 :: c1 :: c2 :: .val (.int x) :: l) st h Q ↔ XE d 60 45 (c0 :: c1 :: c2 :: .val (.int x) :: l) (.int x :: st) h Q := g_iload rfl rfl
theorem s60_45 : XE d 60 45 ls [.int x] h Q ↔ Q (some (.int x)) h := g_iret rfl
-- 61: TwoBells$Town.hears(I)I
theorem e61 : XC (d + 1) 61 [.ref a, .int x] h Q ↔ XE d 61 0 [.val (.ref a), .val (.int x), .unset, .unset] [] h Q := XC_in rfl
theorem s61_0 : XE d 61 0 ls st h Q ↔ XE d 61 1 ls (.int 0 :: st) h Q := g_const rfl
theorem s61_1 : XE d 61 1 (c0 :: c1 :: c2 :: l) (.int x :: st) h Q ↔ XE d 61 2 (c0 :: c1 :: .val (.int x) :: l) st h Q := g_istore (Nat.lt_of_lt_of_le (show 2 < 3 by decide) (Nat.le_add_left 3 _)) rfl rfl
theorem s61_2 : XE d 61 2 ls st h Q ↔ XE d 61 3 ls (.int 0 :: st) h Q := g_const rfl
theorem s61_3 : XE d 61 3 (c0 :: c1 :: c2 :: c3 :: l) (.int x :: st) h Q ↔ XE d 61 4 (c0 :: c1 :: c2 :: .val (.int x) :: l) st h Q := g_istore (Nat.lt_of_lt_of_le (show 3 < 4 by decide) (Nat.le_add_left 4 _)) rfl rfl
theorem s61_4 : XE d 61 4 (c0 :: c1 :: c2 :: .val (.int x) :: l) st h Q ↔ XE d 61 5 (c0 :: c1 :: c2 :: .val (.int x) :: l) (.int x :: st) h Q := g_iload rfl rfl
theorem s61_5 : XE d 61 5 ls st h Q ↔ XE d 61 6 ls (.int 2 :: st) h Q := g_const rfl
theorem s61_6 : XE d 61 6 (.val (.ref a) :: l) st h Q ↔ XE d 61 7 (.val (.ref a) :: l) (.ref a :: st) h Q := g_aload rfl rfl
theorem s61_7 : XE d 61 7 ls (.ref a :: st) h Q ↔ XG [10] 1 (h.2.2.1 a) (fun v => XE d 61 10 ls (v :: st) h Q) := g_getf rfl
theorem s61_10 : XE d 61 10 ls (.int y :: .int x :: st) h Q ↔ XE d 61 11 ls (.int (x * y) :: st) h Q := g_mul rfl
theorem s61_11 : XE d 61 11 ls (.int y :: .int x :: st) h Q ↔ (if x < y then XE d 61 14 ls st h Q else XE d 61 41 ls st h Q) := g_cge rfl
theorem s61_14 : XE d 61 14 (.val (.ref a) :: l) st h Q ↔ XE d 61 15 (.val (.ref a) :: l) (.ref a :: st) h Q := g_aload rfl rfl
theorem s61_15 : XE d 61 15 ls (.ref a :: st) h Q ↔ XG [10] 14 (h.2.2.1 a) (fun v => XE d 61 18 ls (v :: st) h Q) := g_getf rfl
theorem s61_18 : XE d 61 18 (c0 :: c1 :: c2 :: .val (.int x) :: l) st h Q ↔ XE d 61 19 (c0 :: c1 :: c2 :: .val (.int x) :: l) (.int x :: st) h Q := g_iload rfl rfl
theorem s61_19 : XE d 61 19 ls (.int x :: .ref a :: st) h Q ↔ XA [0, 7] (h.2.2.1 a) x (fun k => XE d 61 20 ls (.int k :: st) h Q) := g_ald rfl
theorem s61_20 : XE d 61 20 (c0 :: .val (.int x) :: l) st h Q ↔ XE d 61 21 (c0 :: .val (.int x) :: l) (.int x :: st) h Q := g_iload rfl rfl
theorem s61_21 : XE d 61 21 ls (.int y :: .int x :: st) h Q ↔ (if x = y then XE d 61 24 ls st h Q else XE d 61 35 ls st h Q) := g_cne rfl
theorem s61_24 : XE d 61 24 (c0 :: c1 :: .val (.int x) :: l) st h Q ↔ XE d 61 25 (c0 :: c1 :: .val (.int x) :: l) (.int x :: st) h Q := g_iload rfl rfl
theorem s61_25 : XE d 61 25 (.val (.ref a) :: l) st h Q ↔ XE d 61 26 (.val (.ref a) :: l) (.ref a :: st) h Q := g_aload rfl rfl
theorem s61_26 : XE d 61 26 ls (.ref a :: st) h Q ↔ XG [10] 13 (h.2.2.1 a) (fun v => XE d 61 29 ls (v :: st) h Q) := g_getf rfl
theorem s61_29 : XE d 61 29 (c0 :: c1 :: c2 :: .val (.int x) :: l) st h Q ↔ XE d 61 30 (c0 :: c1 :: c2 :: .val (.int x) :: l) (.int x :: st) h Q := g_iload rfl rfl
theorem s61_30 : XE d 61 30 ls st h Q ↔ XE d 61 31 ls (.int 2 :: st) h Q := g_const rfl
theorem s61_31 : XE d 61 31 ls (.int y :: .int x :: st) h Q ↔ (y ≠ 0 ∧ XE d 61 32 ls (.int (x / y) :: st) h Q) := g_div rfl
theorem s61_32 : XE d 61 32 ls (.int x :: .ref a :: st) h Q ↔ XA [0, 7] (h.2.2.1 a) x (fun k => XE d 61 33 ls (.int k :: st) h Q) := g_ald rfl
theorem s61_33 : XE d 61 33 ls (.int y :: .int x :: st) h Q ↔ XE d 61 34 ls (.int (x + y) :: st) h Q := g_add rfl
theorem s61_34 : XE d 61 34 (c0 :: c1 :: c2 :: l) (.int x :: st) h Q ↔ XE d 61 35 (c0 :: c1 :: .val (.int x) :: l) st h Q := g_istore (Nat.lt_of_lt_of_le (show 2 < 3 by decide) (Nat.le_add_left 3 _)) rfl rfl
theorem s61_35 : XE d 61 35 (c0 :: c1 :: c2 :: .val (.int x) :: l) st h Q ↔ XE d 61 38 (c0 :: c1 :: c2 :: .val (.int (x + 1)) :: l) st h Q := g_iinc rfl rfl rfl
theorem s61_38 : XE d 61 38 ls st h Q ↔ XE d 61 4 ls st h Q := g_goto rfl
theorem s61_41 : XE d 61 41 (c0 :: c1 :: .val (.int x) :: l) st h Q ↔ XE d 61 42 (c0 :: c1 :: .val (.int x) :: l) (.int x :: st) h Q := g_iload rfl rfl
theorem s61_42 : XE d 61 42 ls [.int x] h Q ↔ Q (some (.int x)) h := g_iret rfl
-- 62: TwoBells$Town.rings(I)I
theorem e62 : XC (d + 1) 62 [.ref a, .int x] h Q ↔ XE d 62 0 [.val (.ref a), .val (.int x), .unset, .unset, .unset] [] h Q := XC_in rfl
theorem s62_0 : XE d 62 0 ls st h Q ↔ XE d 62 1 ls (.int 0 :: st) h Q := g_const rfl
theorem s62_1 : XE d 62 1 (c0 :: c1 :: c2 :: l) (.int x :: st) h Q ↔ XE d 62 2 (c0 :: c1 :: .val (.int x) :: l) st h Q := g_istore (Nat.lt_of_lt_of_le (show 2 < 3 by decide) (Nat.le_add_left 3 _)) rfl rfl
theorem s62_2 : XE d 62 2 ls st h Q ↔ XE d 62 3 ls (.int 0 :: st) h Q := g_const rfl
theorem s62_3 : XE d 62 3 (c0 :: c1 :: c2 :: c3 :: l) (.int x :: st) h Q ↔ XE d 62 4 (c0 :: c1 :: c2 :: .val (.int x) :: l) st h Q := g_istore (Nat.lt_of_lt_of_le (show 3 < 4 by decide) (Nat.le_add_left 4 _)) rfl rfl
theorem s62_4 : XE d 62 4 (c0 :: c1 :: c2 :: .val (.int x) :: l) st h Q ↔ XE d 62 5 (c0 :: c1 :: c2 :: .val (.int x) :: l) (.int x :: st) h Q := g_iload rfl rfl
theorem s62_5 : XE d 62 5 ls st h Q ↔ XE d 62 6 ls (.int 2 :: st) h Q := g_const rfl
theorem s62_6 : XE d 62 6 ls (.int y :: .int x :: st) h Q ↔ (if x < y then XE d 62 9 ls st h Q else XE d 62 51 ls st h Q) := g_cge rfl
theorem s62_9 : XE d 62 9 (.val (.ref a) :: l) st h Q ↔ XE d 62 10 (.val (.ref a) :: l) (.ref a :: st) h Q := g_aload rfl rfl
theorem s62_10 : XE d 62 10 (c0 :: .val (.int x) :: l) st h Q ↔ XE d 62 11 (c0 :: .val (.int x) :: l) (.int x :: st) h Q := g_iload rfl rfl
theorem s62_11 : XE d 62 11 ls (.int x :: .ref a :: st) h Q ↔ (xvo 8 st = true ∧ XV [(10, 53)] (h.2.2.1 a) (fun m' => XC d m' [.ref a, .int x] h (fun v h' => XE d 62 14 ls (v.toList ++ st) h' Q))) := h_v1 rfl rfl
theorem s62_14 : XE d 62 14 ls (.int x :: st) h Q ↔ (if x = 0 then XE d 62 51 ls st h Q else XE d 62 17 ls st h Q) := g_ifeq rfl
theorem s62_17 : XE d 62 17 (.val (.ref a) :: l) st h Q ↔ XE d 62 18 (.val (.ref a) :: l) (.ref a :: st) h Q := g_aload rfl rfl
theorem s62_18 : XE d 62 18 ls (.ref a :: st) h Q ↔ XG [10] 14 (h.2.2.1 a) (fun v => XE d 62 21 ls (v :: st) h Q) := g_getf rfl
theorem s62_21 : XE d 62 21 ls st h Q ↔ XE d 62 22 ls (.int 2 :: st) h Q := g_const rfl
theorem s62_22 : XE d 62 22 (c0 :: .val (.int x) :: l) st h Q ↔ XE d 62 23 (c0 :: .val (.int x) :: l) (.int x :: st) h Q := g_iload rfl rfl
theorem s62_23 : XE d 62 23 ls (.int y :: .int x :: st) h Q ↔ XE d 62 24 ls (.int (x * y) :: st) h Q := g_mul rfl
theorem s62_24 : XE d 62 24 (c0 :: c1 :: c2 :: .val (.int x) :: l) st h Q ↔ XE d 62 25 (c0 :: c1 :: c2 :: .val (.int x) :: l) (.int x :: st) h Q := g_iload rfl rfl
theorem s62_25 : XE d 62 25 ls (.int y :: .int x :: st) h Q ↔ XE d 62 26 ls (.int (x + y) :: st) h Q := g_add rfl
theorem s62_26 : XE d 62 26 ls (.int x :: .ref a :: st) h Q ↔ XA [0, 7] (h.2.2.1 a) x (fun k => XE d 62 27 ls (.int k :: st) h Q) := g_ald rfl
theorem s62_27 : XE d 62 27 (c0 :: c1 :: c2 :: c3 :: c4 :: l) (.int x :: st) h Q ↔ XE d 62 29 (c0 :: c1 :: c2 :: c3 :: .val (.int x) :: l) st h Q := g_istore (Nat.lt_of_lt_of_le (show 4 < 5 by decide) (Nat.le_add_left 5 _)) rfl rfl
theorem s62_29 : XE d 62 29 (.val (.ref a) :: l) st h Q ↔ XE d 62 30 (.val (.ref a) :: l) (.ref a :: st) h Q := g_aload rfl rfl
theorem s62_30 : XE d 62 30 (c0 :: c1 :: c2 :: c3 :: .val (.int x) :: l) st h Q ↔ XE d 62 32 (c0 :: c1 :: c2 :: c3 :: .val (.int x) :: l) (.int x :: st) h Q := g_iload rfl rfl
theorem s62_32 : XE d 62 32 ls (.int x :: .ref a :: st) h Q ↔ (xvo 8 st = true ∧ XV [(10, 52)] (h.2.2.1 a) (fun m' => XC d m' [.ref a, .int x] h (fun v h' => XE d 62 35 ls (v.toList ++ st) h' Q))) := h_v1 rfl rfl
theorem s62_35 : XE d 62 35 ls (.int x :: st) h Q ↔ (if x = 0 then XE d 62 45 ls st h Q else XE d 62 38 ls st h Q) := g_ifeq rfl
theorem s62_38 : XE d 62 38 (c0 :: c1 :: .val (.int x) :: l) st h Q ↔ XE d 62 39 (c0 :: c1 :: .val (.int x) :: l) (.int x :: st) h Q := g_iload rfl rfl
theorem s62_39 : XE d 62 39 ls st h Q ↔ XE d 62 40 ls (.int 1 :: st) h Q := g_const rfl
theorem s62_40 : XE d 62 40 (c0 :: c1 :: c2 :: c3 :: .val (.int x) :: l) st h Q ↔ XE d 62 42 (c0 :: c1 :: c2 :: c3 :: .val (.int x) :: l) (.int x :: st) h Q := g_iload rfl rfl
theorem s62_42 : XE d 62 42 ls (.int y :: .int x :: st) h Q ↔ XE d 62 43 ls (.int (xshl x y) :: st) h Q := g_shl rfl
theorem s62_43 : XE d 62 43 ls (.int y :: .int x :: st) h Q ↔ XE d 62 44 ls (.int (x ||| y) :: st) h Q := g_or rfl
theorem s62_44 : XE d 62 44 (c0 :: c1 :: c2 :: l) (.int x :: st) h Q ↔ XE d 62 45 (c0 :: c1 :: .val (.int x) :: l) st h Q := g_istore (Nat.lt_of_lt_of_le (show 2 < 3 by decide) (Nat.le_add_left 3 _)) rfl rfl
theorem s62_45 : XE d 62 45 (c0 :: c1 :: c2 :: .val (.int x) :: l) st h Q ↔ XE d 62 48 (c0 :: c1 :: c2 :: .val (.int (x + 1)) :: l) st h Q := g_iinc rfl rfl rfl
theorem s62_48 : XE d 62 48 ls st h Q ↔ XE d 62 4 ls st h Q := g_goto rfl
theorem s62_51 : XE d 62 51 (c0 :: c1 :: .val (.int x) :: l) st h Q ↔ XE d 62 52 (c0 :: c1 :: .val (.int x) :: l) (.int x :: st) h Q := g_iload rfl rfl
theorem s62_52 : XE d 62 52 ls [.int x] h Q ↔ Q (some (.int x)) h := g_iret rfl
-- 63: TwoBells$Town.lastOf(I)I
theorem e63 : XC (d + 1) 63 [.ref a, .int x] h Q ↔ XE d 63 0 [.val (.ref a), .val (.int x), .unset, .unset] [] h Q := XC_in rfl
theorem s63_0 : XE d 63 0 (.val (.ref a) :: l) st h Q ↔ XE d 63 1 (.val (.ref a) :: l) (.ref a :: st) h Q := g_aload rfl rfl
theorem s63_1 : XE d 63 1 ls (.ref a :: st) h Q ↔ XG [10] 3 (h.2.2.1 a) (fun v => XE d 63 4 ls (v :: st) h Q) := g_getf rfl
theorem s63_4 : XE d 63 4 ls st h Q ↔ XE d 63 5 ls (.int 1 :: st) h Q := g_const rfl
theorem s63_5 : XE d 63 5 ls (.int y :: .int x :: st) h Q ↔ XE d 63 6 ls (.int (x - y) :: st) h Q := g_sub rfl
theorem s63_6 : XE d 63 6 (c0 :: c1 :: c2 :: l) (.int x :: st) h Q ↔ XE d 63 7 (c0 :: c1 :: .val (.int x) :: l) st h Q := g_istore (Nat.lt_of_lt_of_le (show 2 < 3 by decide) (Nat.le_add_left 3 _)) rfl rfl
theorem s63_7 : XE d 63 7 (c0 :: c1 :: .val (.int x) :: l) st h Q ↔ XE d 63 8 (c0 :: c1 :: .val (.int x) :: l) (.int x :: st) h Q := g_iload rfl rfl
theorem s63_8 : XE d 63 8 ls (.int x :: st) h Q ↔ (if x < 0 then XE d 63 38 ls st h Q else XE d 63 11 ls st h Q) := g_iflt rfl
theorem s63_11 : XE d 63 11 (.val (.ref a) :: l) st h Q ↔ XE d 63 12 (.val (.ref a) :: l) (.ref a :: st) h Q := g_aload rfl rfl
theorem s63_12 : XE d 63 12 ls (.ref a :: st) h Q ↔ XG [10] 16 (h.2.2.1 a) (fun v => XE d 63 15 ls (v :: st) h Q) := g_getf rfl
theorem s63_15 : XE d 63 15 (c0 :: c1 :: .val (.int x) :: l) st h Q ↔ XE d 63 16 (c0 :: c1 :: .val (.int x) :: l) (.int x :: st) h Q := g_iload rfl rfl
theorem s63_16 : XE d 63 16 ls (.int x :: .ref a :: st) h Q ↔ XQ (h.2.2.1 a) x (fun v => XE d 63 17 ls (v :: st) h Q) := g_aald rfl
theorem s63_17 : XE d 63 17 (c0 :: c1 :: c2 :: c3 :: l) (.ref a :: st) h Q ↔ XE d 63 18 (c0 :: c1 :: c2 :: .val (.ref a) :: l) st h Q := g_astore (Nat.lt_of_lt_of_le (show 3 < 4 by decide) (Nat.le_add_left 4 _)) rfl rfl
theorem s63_17n : XE d 63 17 (c0 :: c1 :: c2 :: c3 :: l) (.null :: st) h Q ↔ XE d 63 18 (c0 :: c1 :: c2 :: .val .null :: l) st h Q := g_astoreN (Nat.lt_of_lt_of_le (show 3 < 4 by decide) (Nat.le_add_left 4 _)) rfl rfl
theorem s63_18 : XE d 63 18 (c0 :: c1 :: c2 :: .val (.ref a) :: l) st h Q ↔ XE d 63 19 (c0 :: c1 :: c2 :: .val (.ref a) :: l) (.ref a :: st) h Q := g_aload rfl rfl
theorem s63_18n : XE d 63 18 (c0 :: c1 :: c2 :: .val .null :: l) st h Q ↔ XE d 63 19 (c0 :: c1 :: c2 :: .val .null :: l) (.null :: st) h Q := g_aloadN rfl rfl
theorem s63_19 : XE d 63 19 ls (.ref a :: st) h Q ↔ XE d 63 22 ls st h Q := g_ifnullR rfl
theorem s63_19n : XE d 63 19 ls (.null :: st) h Q ↔ XE d 63 32 ls st h Q := g_ifnullN rfl
theorem s63_22 : XE d 63 22 (c0 :: c1 :: c2 :: .val (.ref a) :: l) st h Q ↔ XE d 63 23 (c0 :: c1 :: c2 :: .val (.ref a) :: l) (.ref a :: st) h Q := g_aload rfl rfl
theorem s63_22n : XE d 63 22 (c0 :: c1 :: c2 :: .val .null :: l) st h Q ↔ XE d 63 23 (c0 :: c1 :: c2 :: .val .null :: l) (.null :: st) h Q := g_aloadN rfl rfl
theorem s63_23 : XE d 63 23 ls (.ref a :: st) h Q ↔ XG [8] 0 (h.2.2.1 a) (fun v => XE d 63 26 ls (v :: st) h Q) := g_getf rfl
theorem s63_26 : XE d 63 26 (c0 :: .val (.int x) :: l) st h Q ↔ XE d 63 27 (c0 :: .val (.int x) :: l) (.int x :: st) h Q := g_iload rfl rfl
theorem s63_27 : XE d 63 27 ls (.int y :: .int x :: st) h Q ↔ (if x = y then XE d 63 30 ls st h Q else XE d 63 32 ls st h Q) := g_cne rfl
theorem s63_30 : XE d 63 30 (c0 :: c1 :: .val (.int x) :: l) st h Q ↔ XE d 63 31 (c0 :: c1 :: .val (.int x) :: l) (.int x :: st) h Q := g_iload rfl rfl
theorem s63_31 : XE d 63 31 ls [.int x] h Q ↔ Q (some (.int x)) h := g_iret rfl
theorem s63_32 : XE d 63 32 (c0 :: c1 :: .val (.int x) :: l) st h Q ↔ XE d 63 35 (c0 :: c1 :: .val (.int (x + (-1))) :: l) st h Q := g_iinc rfl rfl rfl
theorem s63_35 : XE d 63 35 ls st h Q ↔ XE d 63 7 ls st h Q := g_goto rfl
theorem s63_38 : XE d 63 38 ls st h Q ↔ XE d 63 40 ls (.int (-1000000005) :: st) h Q := g_const rfl
theorem s63_40 : XE d 63 40 ls [.int x] h Q ↔ Q (some (.int x)) h := g_iret rfl
-- 64: TwoBells$Town.comesNow(I)I
theorem e64 : XC (d + 1) 64 [.ref a, .int x] h Q ↔ XE d 64 0 [.val (.ref a), .val (.int x), .unset, .unset, .unset] [] h Q := XC_in rfl
theorem s64_0 : XE d 64 0 (.val (.ref a) :: l) st h Q ↔ XE d 64 1 (.val (.ref a) :: l) (.ref a :: st) h Q := g_aload rfl rfl
theorem s64_1 : XE d 64 1 (c0 :: .val (.int x) :: l) st h Q ↔ XE d 64 2 (c0 :: .val (.int x) :: l) (.int x :: st) h Q := g_iload rfl rfl
theorem s64_2 : XE d 64 2 ls (.int x :: .ref a :: st) h Q ↔ (xvo 8 st = true ∧ XV [(10, 52)] (h.2.2.1 a) (fun m' => XC d m' [.ref a, .int x] h (fun v h' => XE d 64 5 ls (v.toList ++ st) h' Q))) := h_v1 rfl rfl
theorem s64_5 : XE d 64 5 ls (.int x :: st) h Q ↔ (if x = 0 then XE d 64 8 ls st h Q else XE d 64 10 ls st h Q) := g_ifne rfl
theorem s64_8 : XE d 64 8 ls st h Q ↔ XE d 64 9 ls (.int 0 :: st) h Q := g_const rfl
theorem s64_9 : XE d 64 9 ls [.int x] h Q ↔ Q (some (.int x)) h := g_iret rfl
theorem s64_10 : XE d 64 10 (.val (.ref a) :: l) st h Q ↔ XE d 64 11 (.val (.ref a) :: l) (.ref a :: st) h Q := g_aload rfl rfl
theorem s64_11 : XE d 64 11 (.val (.ref a) :: l) st h Q ↔ XE d 64 12 (.val (.ref a) :: l) (.ref a :: st) h Q := g_aload rfl rfl
theorem s64_12 : XE d 64 12 ls st h Q ↔ XE d 64 13 ls (.int 0 :: st) h Q := g_const rfl
theorem s64_13 : XE d 64 13 ls (.int x :: .ref a :: st) h Q ↔ (xvo 8 st = true ∧ XV [(10, 63)] (h.2.2.1 a) (fun m' => XC d m' [.ref a, .int x] h (fun v h' => XE d 64 16 ls (v.toList ++ st) h' Q))) := h_v1 rfl rfl
theorem s64_16 : XE d 64 16 ls (.int x :: .ref a :: st) h Q ↔ (xvo 8 st = true ∧ XV [(10, 55)] (h.2.2.1 a) (fun m' => XC d m' [.ref a, .int x] h (fun v h' => XE d 64 19 ls (v.toList ++ st) h' Q))) := h_v1 rfl rfl
theorem s64_19 : XE d 64 19 (c0 :: c1 :: c2 :: l) (.ref a :: st) h Q ↔ XE d 64 20 (c0 :: c1 :: .val (.ref a) :: l) st h Q := g_astore (Nat.lt_of_lt_of_le (show 2 < 3 by decide) (Nat.le_add_left 3 _)) rfl rfl
theorem s64_19n : XE d 64 19 (c0 :: c1 :: c2 :: l) (.null :: st) h Q ↔ XE d 64 20 (c0 :: c1 :: .val .null :: l) st h Q := g_astoreN (Nat.lt_of_lt_of_le (show 2 < 3 by decide) (Nat.le_add_left 3 _)) rfl rfl
theorem s64_20 : XE d 64 20 (.val (.ref a) :: l) st h Q ↔ XE d 64 21 (.val (.ref a) :: l) (.ref a :: st) h Q := g_aload rfl rfl
theorem s64_21 : XE d 64 21 (c0 :: .val (.int x) :: l) st h Q ↔ XE d 64 22 (c0 :: .val (.int x) :: l) (.int x :: st) h Q := g_iload rfl rfl
theorem s64_22 : XE d 64 22 ls st h Q ↔ XE d 64 24 ls (.int (-1000000005) :: st) h Q := g_const rfl
theorem s64_24 : XE d 64 24 ls (.int y :: .int x :: .ref a :: st) h Q ↔ (xvo 8 st = true ∧ XV [(10, 60)] (h.2.2.1 a) (fun m' => XC d m' [.ref a, .int x, .int y] h (fun v h' => XE d 64 27 ls (v.toList ++ st) h' Q))) := h_v2 rfl rfl
theorem s64_27 : XE d 64 27 (c0 :: c1 :: c2 :: c3 :: l) (.int x :: st) h Q ↔ XE d 64 28 (c0 :: c1 :: c2 :: .val (.int x) :: l) st h Q := g_istore (Nat.lt_of_lt_of_le (show 3 < 4 by decide) (Nat.le_add_left 4 _)) rfl rfl
theorem s64_28 : XE d 64 28 (c0 :: c1 :: .val (.ref a) :: l) st h Q ↔ XE d 64 29 (c0 :: c1 :: .val (.ref a) :: l) (.ref a :: st) h Q := g_aload rfl rfl
theorem s64_28n : XE d 64 28 (c0 :: c1 :: .val .null :: l) st h Q ↔ XE d 64 29 (c0 :: c1 :: .val .null :: l) (.null :: st) h Q := g_aloadN rfl rfl
theorem s64_29 : XE d 64 29 ls (.ref a :: st) h Q ↔ XE d 64 32 ls st h Q := g_ifnullR rfl
theorem s64_29n : XE d 64 29 ls (.null :: st) h Q ↔ XE d 64 60 ls st h Q := g_ifnullN rfl
theorem s64_32 : XE d 64 32 (c0 :: c1 :: .val (.ref a) :: l) st h Q ↔ XE d 64 33 (c0 :: c1 :: .val (.ref a) :: l) (.ref a :: st) h Q := g_aload rfl rfl
theorem s64_32n : XE d 64 32 (c0 :: c1 :: .val .null :: l) st h Q ↔ XE d 64 33 (c0 :: c1 :: .val .null :: l) (.null :: st) h Q := g_aloadN rfl rfl
theorem s64_33 : XE d 64 33 (.val (.ref a) :: l) st h Q ↔ XE d 64 34 (.val (.ref a) :: l) (.ref a :: st) h Q := g_aload rfl rfl
theorem s64_34 : XE d 64 34 ls (.ref a :: st) h Q ↔ XG [10] 8 (h.2.2.1 a) (fun v => XE d 64 37 ls (v :: st) h Q) := g_getf rfl
theorem s64_37 : XE d 64 37 (c0 :: .val (.int x) :: l) st h Q ↔ XE d 64 38 (c0 :: .val (.int x) :: l) (.int x :: st) h Q := g_iload rfl rfl
theorem s64_38 : XE d 64 38 ls (.int x :: .ref a :: st) h Q ↔ XA [0, 7] (h.2.2.1 a) x (fun k => XE d 64 39 ls (.int k :: st) h Q) := g_ald rfl
theorem s64_39 : XE d 64 39 (.val (.ref a) :: l) st h Q ↔ XE d 64 40 (.val (.ref a) :: l) (.ref a :: st) h Q := g_aload rfl rfl
theorem s64_40 : XE d 64 40 ls (.ref a :: st) h Q ↔ XG [10] 9 (h.2.2.1 a) (fun v => XE d 64 43 ls (v :: st) h Q) := g_getf rfl
theorem s64_43 : XE d 64 43 (c0 :: .val (.int x) :: l) st h Q ↔ XE d 64 44 (c0 :: .val (.int x) :: l) (.int x :: st) h Q := g_iload rfl rfl
theorem s64_44 : XE d 64 44 ls (.int x :: .ref a :: st) h Q ↔ XA [0, 7] (h.2.2.1 a) x (fun k => XE d 64 45 ls (.int k :: st) h Q) := g_ald rfl
theorem s64_45 : XE d 64 45 (c0 :: c1 :: c2 :: .val (.int x) :: l) st h Q ↔ XE d 64 46 (c0 :: c1 :: c2 :: .val (.int x) :: l) (.int x :: st) h Q := g_iload rfl rfl
theorem s64_46 : XE d 64 46 (.val (.ref a) :: l) st h Q ↔ XE d 64 47 (.val (.ref a) :: l) (.ref a :: st) h Q := g_aload rfl rfl
theorem s64_47 : XE d 64 47 ls (.ref a :: st) h Q ↔ XG [10] 4 (h.2.2.1 a) (fun v => XE d 64 50 ls (v :: st) h Q) := g_getf rfl
theorem s64_50 : XE d 64 50 ls (.int w :: .int z :: .int y :: .int x :: .ref a :: st) h Q ↔ (xvo 8 st = true ∧ XV [(8, 41)] (h.2.2.1 a) (fun m' => XC d m' [.ref a, .int x, .int y, .int z, .int w] h (fun v h' => XE d 64 53 ls (v.toList ++ st) h' Q))) := h_v4 rfl rfl
theorem s64_53 : XE d 64 53 ls st h Q ↔ XE d 64 54 ls (.int 0 :: st) h Q := g_const rfl
theorem s64_54 : XE d 64 54 ls st h Q ↔ XE d 64 56 ls (.int 100 :: st) h Q := g_const rfl
theorem s64_56 : XE d 64 56 ls (.int z :: .int y :: .int x :: st) h Q ↔ (xvo 8 st = true ∧ XC d 124 [.int x, .int y, .int z] h (fun v h' => XE d 64 59 ls (v.toList ++ st) h' Q)) := h_s3 rfl rfl
theorem s64_59 : XE d 64 59 ls [.int x] h Q ↔ Q (some (.int x)) h := g_iret rfl
theorem s64_60 : XE d 64 60 ls st h Q ↔ XE d 64 62 ls (.int 10 :: st) h Q := g_const rfl
theorem s64_62 : XE d 64 62 ls st h Q ↔ XE d 64 63 ls (.int 0 :: st) h Q := g_const rfl
theorem s64_63 : XE d 64 63 (c0 :: c1 :: c2 :: .val (.int x) :: l) st h Q ↔ XE d 64 64 (c0 :: c1 :: c2 :: .val (.int x) :: l) (.int x :: st) h Q := g_iload rfl rfl
theorem s64_64 : XE d 64 64 (.val (.ref a) :: l) st h Q ↔ XE d 64 65 (.val (.ref a) :: l) (.ref a :: st) h Q := g_aload rfl rfl
theorem s64_65 : XE d 64 65 ls (.ref a :: st) h Q ↔ XG [10] 4 (h.2.2.1 a) (fun v => XE d 64 68 ls (v :: st) h Q) := g_getf rfl
theorem s64_68 : XE d 64 68 ls (.int y :: .int x :: st) h Q ↔ XE d 64 69 ls (.int (x - y) :: st) h Q := g_sub rfl
theorem s64_69 : XE d 64 69 ls (.int y :: .int x :: st) h Q ↔ (xvo 8 st = true ∧ XE d 64 72 ls (.int (if x < y then y else x) :: st) h Q) := h_max rfl
theorem s64_72 : XE d 64 72 ls (.int y :: .int x :: st) h Q ↔ XE d 64 73 ls (.int (x * y) :: st) h Q := g_mul rfl
theorem s64_73 : XE d 64 73 (c0 :: c1 :: c2 :: c3 :: c4 :: l) (.int x :: st) h Q ↔ XE d 64 75 (c0 :: c1 :: c2 :: c3 :: .val (.int x) :: l) st h Q := g_istore (Nat.lt_of_lt_of_le (show 4 < 5 by decide) (Nat.le_add_left 5 _)) rfl rfl
theorem s64_75 : XE d 64 75 (.val (.ref a) :: l) st h Q ↔ XE d 64 76 (.val (.ref a) :: l) (.ref a :: st) h Q := g_aload rfl rfl
theorem s64_76 : XE d 64 76 ls (.ref a :: st) h Q ↔ XG [10] 8 (h.2.2.1 a) (fun v => XE d 64 79 ls (v :: st) h Q) := g_getf rfl
theorem s64_79 : XE d 64 79 (c0 :: .val (.int x) :: l) st h Q ↔ XE d 64 80 (c0 :: .val (.int x) :: l) (.int x :: st) h Q := g_iload rfl rfl
theorem s64_80 : XE d 64 80 ls (.int x :: .ref a :: st) h Q ↔ XA [0, 7] (h.2.2.1 a) x (fun k => XE d 64 81 ls (.int k :: st) h Q) := g_ald rfl
theorem s64_81 : XE d 64 81 (.val (.ref a) :: l) st h Q ↔ XE d 64 82 (.val (.ref a) :: l) (.ref a :: st) h Q := g_aload rfl rfl
theorem s64_82 : XE d 64 82 ls (.ref a :: st) h Q ↔ XG [10] 9 (h.2.2.1 a) (fun v => XE d 64 85 ls (v :: st) h Q) := g_getf rfl
theorem s64_85 : XE d 64 85 (c0 :: .val (.int x) :: l) st h Q ↔ XE d 64 86 (c0 :: .val (.int x) :: l) (.int x :: st) h Q := g_iload rfl rfl
theorem s64_86 : XE d 64 86 ls (.int x :: .ref a :: st) h Q ↔ XA [0, 7] (h.2.2.1 a) x (fun k => XE d 64 87 ls (.int k :: st) h Q) := g_ald rfl
theorem s64_87 : XE d 64 87 ls (.int y :: .int x :: st) h Q ↔ XE d 64 88 ls (.int (x * y) :: st) h Q := g_mul rfl
theorem s64_88 : XE d 64 88 ls st h Q ↔ XE d 64 90 ls (.int 100 :: st) h Q := g_const rfl
theorem s64_90 : XE d 64 90 ls (.int y :: .int x :: st) h Q ↔ (y ≠ 0 ∧ XE d 64 91 ls (.int (x / y) :: st) h Q) := g_div rfl
theorem s64_91 : XE d 64 91 (c0 :: c1 :: c2 :: c3 :: .val (.int x) :: l) st h Q ↔ XE d 64 93 (c0 :: c1 :: c2 :: c3 :: .val (.int x) :: l) (.int x :: st) h Q := g_iload rfl rfl
theorem s64_93 : XE d 64 93 ls (.int y :: .int x :: st) h Q ↔ XE d 64 94 ls (.int (x - y) :: st) h Q := g_sub rfl
theorem s64_94 : XE d 64 94 ls st h Q ↔ XE d 64 95 ls (.int 0 :: st) h Q := g_const rfl
theorem s64_95 : XE d 64 95 ls st h Q ↔ XE d 64 97 ls (.int 100 :: st) h Q := g_const rfl
theorem s64_97 : XE d 64 97 ls (.int z :: .int y :: .int x :: st) h Q ↔ (xvo 8 st = true ∧ XC d 124 [.int x, .int y, .int z] h (fun v h' => XE d 64 100 ls (v.toList ++ st) h' Q)) := h_s3 rfl rfl
theorem s64_100 : XE d 64 100 ls [.int x] h Q ↔ Q (some (.int x)) h := g_iret rfl
-- 65: TwoBells$Town.listen()V
theorem e65 : XC (d + 1) 65 [.ref a] h Q ↔ XE d 65 0 [.val (.ref a), .unset] [] h Q := XC_in rfl
theorem s65_0 : XE d 65 0 ls st h Q ↔ XE d 65 1 ls (.int 0 :: st) h Q := g_const rfl
theorem s65_1 : XE d 65 1 (c0 :: c1 :: l) (.int x :: st) h Q ↔ XE d 65 2 (c0 :: .val (.int x) :: l) st h Q := g_istore (Nat.lt_of_lt_of_le (show 1 < 2 by decide) (Nat.le_add_left 2 _)) rfl rfl
theorem s65_2 : XE d 65 2 (c0 :: .val (.int x) :: l) st h Q ↔ XE d 65 3 (c0 :: .val (.int x) :: l) (.int x :: st) h Q := g_iload rfl rfl
theorem s65_3 : XE d 65 3 (.val (.ref a) :: l) st h Q ↔ XE d 65 4 (.val (.ref a) :: l) (.ref a :: st) h Q := g_aload rfl rfl
theorem s65_4 : XE d 65 4 ls (.ref a :: st) h Q ↔ XG [10] 0 (h.2.2.1 a) (fun v => XE d 65 7 ls (v :: st) h Q) := g_getf rfl
theorem s65_7 : XE d 65 7 ls (.int y :: .int x :: st) h Q ↔ (if x < y then XE d 65 10 ls st h Q else XE d 65 27 ls st h Q) := g_cge rfl
theorem s65_10 : XE d 65 10 (.val (.ref a) :: l) st h Q ↔ XE d 65 11 (.val (.ref a) :: l) (.ref a :: st) h Q := g_aload rfl rfl
theorem s65_11 : XE d 65 11 ls (.ref a :: st) h Q ↔ XG [10] 17 (h.2.2.1 a) (fun v => XE d 65 14 ls (v :: st) h Q) := g_getf rfl
theorem s65_14 : XE d 65 14 (c0 :: .val (.int x) :: l) st h Q ↔ XE d 65 15 (c0 :: .val (.int x) :: l) (.int x :: st) h Q := g_iload rfl rfl
theorem s65_15 : XE d 65 15 (.val (.ref a) :: l) st h Q ↔ XE d 65 16 (.val (.ref a) :: l) (.ref a :: st) h Q := g_aload rfl rfl
theorem s65_16 : XE d 65 16 (c0 :: .val (.int x) :: l) st h Q ↔ XE d 65 17 (c0 :: .val (.int x) :: l) (.int x :: st) h Q := g_iload rfl rfl
theorem s65_17 : XE d 65 17 ls (.int x :: .ref a :: st) h Q ↔ (xvo 8 st = true ∧ XV [(10, 64)] (h.2.2.1 a) (fun m' => XC d m' [.ref a, .int x] h (fun v h' => XE d 65 20 ls (v.toList ++ st) h' Q))) := h_v1 rfl rfl
theorem s65_20 : XE d 65 20 ls (.int y :: .int x :: .ref a :: st) h Q ↔ XS 0 (h.2.2.1 a) x y (fun e => XE d 65 21 ls st (xset h a e) Q) := g_iast rfl
theorem s65_21 : XE d 65 21 (c0 :: .val (.int x) :: l) st h Q ↔ XE d 65 24 (c0 :: .val (.int (x + 1)) :: l) st h Q := g_iinc rfl rfl rfl
theorem s65_24 : XE d 65 24 ls st h Q ↔ XE d 65 2 ls st h Q := g_goto rfl
theorem s65_27 : XE d 65 27 ls [] h Q ↔ Q none h := g_ret rfl
-- 66: TwoBells$Town.missedBy(LTwoBells$Thief;I)I
theorem e66 : XC (d + 1) 66 [.ref a, .ref b, .int x] h Q ↔ XE d 66 0 [.val (.ref a), .val (.ref b), .val (.int x), .unset, .unset, .unset] [] h Q := XC_in rfl
theorem s66_0 : XE d 66 0 ls st h Q ↔ XE d 66 1 ls (.int 1 :: st) h Q := g_const rfl
theorem s66_1 : XE d 66 1 (c0 :: c1 :: c2 :: c3 :: l) (.int x :: st) h Q ↔ XE d 66 2 (c0 :: c1 :: c2 :: .val (.int x) :: l) st h Q := g_istore (Nat.lt_of_lt_of_le (show 3 < 4 by decide) (Nat.le_add_left 4 _)) rfl rfl
theorem s66_2 : XE d 66 2 ls st h Q ↔ XE d 66 3 ls (.int 0 :: st) h Q := g_const rfl
theorem s66_3 : XE d 66 3 (c0 :: c1 :: c2 :: c3 :: c4 :: l) (.int x :: st) h Q ↔ XE d 66 5 (c0 :: c1 :: c2 :: c3 :: .val (.int x) :: l) st h Q := g_istore (Nat.lt_of_lt_of_le (show 4 < 5 by decide) (Nat.le_add_left 5 _)) rfl rfl
theorem s66_5 : XE d 66 5 (c0 :: c1 :: c2 :: c3 :: .val (.int x) :: l) st h Q ↔ XE d 66 7 (c0 :: c1 :: c2 :: c3 :: .val (.int x) :: l) (.int x :: st) h Q := g_iload rfl rfl
theorem s66_7 : XE d 66 7 ls st h Q ↔ XE d 66 8 ls (.int 2 :: st) h Q := g_const rfl
theorem s66_8 : XE d 66 8 ls (.int y :: .int x :: st) h Q ↔ (if x < y then XE d 66 11 ls st h Q else XE d 66 72 ls st h Q) := g_cge rfl
theorem s66_11 : XE d 66 11 (.val (.ref a) :: l) st h Q ↔ XE d 66 12 (.val (.ref a) :: l) (.ref a :: st) h Q := g_aload rfl rfl
theorem s66_12 : XE d 66 12 (c0 :: c1 :: .val (.int x) :: l) st h Q ↔ XE d 66 13 (c0 :: c1 :: .val (.int x) :: l) (.int x :: st) h Q := g_iload rfl rfl
theorem s66_13 : XE d 66 13 ls (.int x :: .ref a :: st) h Q ↔ (xvo 8 st = true ∧ XV [(10, 53)] (h.2.2.1 a) (fun m' => XC d m' [.ref a, .int x] h (fun v h' => XE d 66 16 ls (v.toList ++ st) h' Q))) := h_v1 rfl rfl
theorem s66_16 : XE d 66 16 ls (.int x :: st) h Q ↔ (if x = 0 then XE d 66 72 ls st h Q else XE d 66 19 ls st h Q) := g_ifeq rfl
theorem s66_19 : XE d 66 19 (.val (.ref a) :: l) st h Q ↔ XE d 66 20 (.val (.ref a) :: l) (.ref a :: st) h Q := g_aload rfl rfl
theorem s66_20 : XE d 66 20 ls (.ref a :: st) h Q ↔ XG [10] 14 (h.2.2.1 a) (fun v => XE d 66 23 ls (v :: st) h Q) := g_getf rfl
theorem s66_23 : XE d 66 23 ls st h Q ↔ XE d 66 24 ls (.int 2 :: st) h Q := g_const rfl
theorem s66_24 : XE d 66 24 (c0 :: c1 :: .val (.int x) :: l) st h Q ↔ XE d 66 25 (c0 :: c1 :: .val (.int x) :: l) (.int x :: st) h Q := g_iload rfl rfl
theorem s66_25 : XE d 66 25 ls (.int y :: .int x :: st) h Q ↔ XE d 66 26 ls (.int (x * y) :: st) h Q := g_mul rfl
theorem s66_26 : XE d 66 26 (c0 :: c1 :: c2 :: c3 :: .val (.int x) :: l) st h Q ↔ XE d 66 28 (c0 :: c1 :: c2 :: c3 :: .val (.int x) :: l) (.int x :: st) h Q := g_iload rfl rfl
theorem s66_28 : XE d 66 28 ls (.int y :: .int x :: st) h Q ↔ XE d 66 29 ls (.int (x + y) :: st) h Q := g_add rfl
theorem s66_29 : XE d 66 29 ls (.int x :: .ref a :: st) h Q ↔ XA [0, 7] (h.2.2.1 a) x (fun k => XE d 66 30 ls (.int k :: st) h Q) := g_ald rfl
theorem s66_30 : XE d 66 30 (c0 :: c1 :: c2 :: c3 :: c4 :: c5 :: l) (.int x :: st) h Q ↔ XE d 66 32 (c0 :: c1 :: c2 :: c3 :: c4 :: .val (.int x) :: l) st h Q := g_istore (Nat.lt_of_lt_of_le (show 5 < 6 by decide) (Nat.le_add_left 6 _)) rfl rfl
theorem s66_32 : XE d 66 32 (c0 :: c1 :: c2 :: .val (.int x) :: l) st h Q ↔ XE d 66 33 (c0 :: c1 :: c2 :: .val (.int x) :: l) (.int x :: st) h Q := g_iload rfl rfl
theorem s66_33 : XE d 66 33 (.val (.ref a) :: l) st h Q ↔ XE d 66 34 (.val (.ref a) :: l) (.ref a :: st) h Q := g_aload rfl rfl
theorem s66_34 : XE d 66 34 (c0 :: c1 :: c2 :: c3 :: c4 :: .val (.int x) :: l) st h Q ↔ XE d 66 36 (c0 :: c1 :: c2 :: c3 :: c4 :: .val (.int x) :: l) (.int x :: st) h Q := g_iload rfl rfl
theorem s66_36 : XE d 66 36 ls (.int x :: .ref a :: st) h Q ↔ (xvo 8 st = true ∧ XV [(10, 52)] (h.2.2.1 a) (fun m' => XC d m' [.ref a, .int x] h (fun v h' => XE d 66 39 ls (v.toList ++ st) h' Q))) := h_v1 rfl rfl
theorem s66_39 : XE d 66 39 ls (.int x :: st) h Q ↔ (if x = 0 then XE d 66 62 ls st h Q else XE d 66 42 ls st h Q) := g_ifeq rfl
theorem s66_42 : XE d 66 42 ls st h Q ↔ XE d 66 44 ls (.int 100 :: st) h Q := g_const rfl
theorem s66_44 : XE d 66 44 (c0 :: .val (.ref a) :: l) st h Q ↔ XE d 66 45 (c0 :: .val (.ref a) :: l) (.ref a :: st) h Q := g_aload rfl rfl
theorem s66_44n : XE d 66 44 (c0 :: .val .null :: l) st h Q ↔ XE d 66 45 (c0 :: .val .null :: l) (.null :: st) h Q := g_aloadN rfl rfl
theorem s66_45 : XE d 66 45 (.val (.ref a) :: l) st h Q ↔ XE d 66 46 (.val (.ref a) :: l) (.ref a :: st) h Q := g_aload rfl rfl
theorem s66_46 : XE d 66 46 (c0 :: c1 :: c2 :: c3 :: c4 :: .val (.int x) :: l) st h Q ↔ XE d 66 48 (c0 :: c1 :: c2 :: c3 :: c4 :: .val (.int x) :: l) (.int x :: st) h Q := g_iload rfl rfl
theorem s66_48 : XE d 66 48 (.val (.ref a) :: l) st h Q ↔ XE d 66 49 (.val (.ref a) :: l) (.ref a :: st) h Q := g_aload rfl rfl
theorem s66_49 : XE d 66 49 ls (.ref a :: st) h Q ↔ XG [10] 17 (h.2.2.1 a) (fun v => XE d 66 52 ls (v :: st) h Q) := g_getf rfl
theorem s66_52 : XE d 66 52 (c0 :: c1 :: c2 :: c3 :: c4 :: .val (.int x) :: l) st h Q ↔ XE d 66 54 (c0 :: c1 :: c2 :: c3 :: c4 :: .val (.int x) :: l) (.int x :: st) h Q := g_iload rfl rfl
theorem s66_54 : XE d 66 54 ls (.int x :: .ref a :: st) h Q ↔ XA [0, 7] (h.2.2.1 a) x (fun k => XE d 66 55 ls (.int k :: st) h Q) := g_ald rfl
theorem s66_55 : XE d 66 55 ls (.int y :: .int x :: .ref b :: .ref a :: st) h Q ↔ (xvo 8 st = true ∧ XV [(0, 1), (1, 4), (2, 47), (3, 10), (4, 1), (9, 47)] (h.2.2.1 a) (fun m' => XC d m' [.ref a, .ref b, .int x, .int y] h (fun v h' => XE d 66 58 ls (v.toList ++ st) h' Q))) := h_v3 rfl rfl
theorem s66_58 : XE d 66 58 ls (.int y :: .int x :: st) h Q ↔ XE d 66 59 ls (.int (x - y) :: st) h Q := g_sub rfl
theorem s66_59 : XE d 66 59 ls st h Q ↔ XE d 66 64 ls st h Q := g_goto rfl
theorem s66_62 : XE d 66 62 ls st h Q ↔ XE d 66 64 ls (.int 100 :: st) h Q := g_const rfl
theorem s66_64 : XE d 66 64 ls (.int y :: .int x :: st) h Q ↔ XE d 66 65 ls (.int (x * y) :: st) h Q := g_mul rfl
theorem s66_65 : XE d 66 65 (c0 :: c1 :: c2 :: c3 :: l) (.int x :: st) h Q ↔ XE d 66 66 (c0 :: c1 :: c2 :: .val (.int x) :: l) st h Q := g_istore (Nat.lt_of_lt_of_le (show 3 < 4 by decide) (Nat.le_add_left 4 _)) rfl rfl
theorem s66_66 : XE d 66 66 (c0 :: c1 :: c2 :: c3 :: .val (.int x) :: l) st h Q ↔ XE d 66 69 (c0 :: c1 :: c2 :: c3 :: .val (.int (x + 1)) :: l) st h Q := g_iinc rfl rfl rfl
theorem s66_69 : XE d 66 69 ls st h Q ↔ XE d 66 5 ls st h Q := g_goto rfl
theorem s66_72 : XE d 66 72 (c0 :: c1 :: c2 :: .val (.int x) :: l) st h Q ↔ XE d 66 73 (c0 :: c1 :: c2 :: .val (.int x) :: l) (.int x :: st) h Q := g_iload rfl rfl
theorem s66_73 : XE d 66 73 ls [.int x] h Q ↔ Q (some (.int x)) h := g_iret rfl
-- 67: TwoBells$Town.gainOf(II)I
theorem e67 : XC (d + 1) 67 [.ref a, .int x, .int y] h Q ↔ XE d 67 0 [.val (.ref a), .val (.int x), .val (.int y), .unset, .unset] [] h Q := XC_in rfl
theorem s67_0 : XE d 67 0 (.val (.ref a) :: l) st h Q ↔ XE d 67 1 (.val (.ref a) :: l) (.ref a :: st) h Q := g_aload rfl rfl
theorem s67_1 : XE d 67 1 (c0 :: .val (.int x) :: l) st h Q ↔ XE d 67 2 (c0 :: .val (.int x) :: l) (.int x :: st) h Q := g_iload rfl rfl
theorem s67_2 : XE d 67 2 ls (.int x :: .ref a :: st) h Q ↔ (xvo 8 st = true ∧ XV [(10, 53)] (h.2.2.1 a) (fun m' => XC d m' [.ref a, .int x] h (fun v h' => XE d 67 5 ls (v.toList ++ st) h' Q))) := h_v1 rfl rfl
theorem s67_5 : XE d 67 5 ls (.int x :: st) h Q ↔ (if x = 0 then XE d 67 8 ls st h Q else XE d 67 10 ls st h Q) := g_ifne rfl
theorem s67_8 : XE d 67 8 ls st h Q ↔ XE d 67 9 ls (.int 0 :: st) h Q := g_const rfl
theorem s67_9 : XE d 67 9 ls [.int x] h Q ↔ Q (some (.int x)) h := g_iret rfl
theorem s67_10 : XE d 67 10 (.val (.ref a) :: l) st h Q ↔ XE d 67 11 (.val (.ref a) :: l) (.ref a :: st) h Q := g_aload rfl rfl
theorem s67_11 : XE d 67 11 (.val (.ref a) :: l) st h Q ↔ XE d 67 12 (.val (.ref a) :: l) (.ref a :: st) h Q := g_aload rfl rfl
theorem s67_12 : XE d 67 12 ls st h Q ↔ XE d 67 13 ls (.int 1 :: st) h Q := g_const rfl
theorem s67_13 : XE d 67 13 ls (.int x :: .ref a :: st) h Q ↔ (xvo 8 st = true ∧ XV [(10, 63)] (h.2.2.1 a) (fun m' => XC d m' [.ref a, .int x] h (fun v h' => XE d 67 16 ls (v.toList ++ st) h' Q))) := h_v1 rfl rfl
theorem s67_16 : XE d 67 16 ls (.int x :: .ref a :: st) h Q ↔ (xvo 8 st = true ∧ XV [(10, 55)] (h.2.2.1 a) (fun m' => XC d m' [.ref a, .int x] h (fun v h' => XE d 67 19 ls (v.toList ++ st) h' Q))) := h_v1 rfl rfl
theorem s67_19 : XE d 67 19 (c0 :: c1 :: c2 :: c3 :: l) (.ref a :: st) h Q ↔ XE d 67 20 (c0 :: c1 :: c2 :: .val (.ref a) :: l) st h Q := g_astore (Nat.lt_of_lt_of_le (show 3 < 4 by decide) (Nat.le_add_left 4 _)) rfl rfl
theorem s67_19n : XE d 67 19 (c0 :: c1 :: c2 :: c3 :: l) (.null :: st) h Q ↔ XE d 67 20 (c0 :: c1 :: c2 :: .val .null :: l) st h Q := g_astoreN (Nat.lt_of_lt_of_le (show 3 < 4 by decide) (Nat.le_add_left 4 _)) rfl rfl
theorem s67_20 : XE d 67 20 (c0 :: c1 :: c2 :: .val (.ref a) :: l) st h Q ↔ XE d 67 21 (c0 :: c1 :: c2 :: .val (.ref a) :: l) (.ref a :: st) h Q := g_aload rfl rfl
theorem s67_20n : XE d 67 20 (c0 :: c1 :: c2 :: .val .null :: l) st h Q ↔ XE d 67 21 (c0 :: c1 :: c2 :: .val .null :: l) (.null :: st) h Q := g_aloadN rfl rfl
theorem s67_21 : XE d 67 21 ls (.ref a :: st) h Q ↔ XE d 67 39 ls st h Q := g_ifnonR rfl
theorem s67_21n : XE d 67 21 ls (.null :: st) h Q ↔ XE d 67 24 ls st h Q := g_ifnonN rfl
theorem s67_24 : XE d 67 24 (.val (.ref a) :: l) st h Q ↔ XE d 67 25 (.val (.ref a) :: l) (.ref a :: st) h Q := g_aload rfl rfl
theorem s67_25 : XE d 67 25 ls (.ref a :: st) h Q ↔ XG [10] 12 (h.2.2.1 a) (fun v => XE d 67 28 ls (v :: st) h Q) := g_getf rfl
theorem s67_28 : XE d 67 28 (c0 :: .val (.int x) :: l) st h Q ↔ XE d 67 29 (c0 :: .val (.int x) :: l) (.int x :: st) h Q := g_iload rfl rfl
theorem s67_29 : XE d 67 29 ls (.int x :: .ref a :: st) h Q ↔ XA [0, 7] (h.2.2.1 a) x (fun k => XE d 67 30 ls (.int k :: st) h Q) := g_ald rfl
theorem s67_30 : XE d 67 30 (c0 :: c1 :: .val (.int x) :: l) st h Q ↔ XE d 67 31 (c0 :: c1 :: .val (.int x) :: l) (.int x :: st) h Q := g_iload rfl rfl
theorem s67_31 : XE d 67 31 ls (.int y :: .int x :: st) h Q ↔ XE d 67 32 ls (.int (x * y) :: st) h Q := g_mul rfl
theorem s67_32 : XE d 67 32 ls st h Q ↔ XE d 67 35 ls (.int 10000 :: st) h Q := g_const rfl
theorem s67_35 : XE d 67 35 ls (.int y :: .int x :: st) h Q ↔ (y ≠ 0 ∧ XE d 67 36 ls (.int (x / y) :: st) h Q) := g_div rfl
theorem s67_36 : XE d 67 36 ls st h Q ↔ XE d 67 52 ls st h Q := g_goto rfl
theorem s67_39 : XE d 67 39 (c0 :: c1 :: c2 :: .val (.ref a) :: l) st h Q ↔ XE d 67 40 (c0 :: c1 :: c2 :: .val (.ref a) :: l) (.ref a :: st) h Q := g_aload rfl rfl
theorem s67_39n : XE d 67 39 (c0 :: c1 :: c2 :: .val .null :: l) st h Q ↔ XE d 67 40 (c0 :: c1 :: c2 :: .val .null :: l) (.null :: st) h Q := g_aloadN rfl rfl
theorem s67_40 : XE d 67 40 (.val (.ref a) :: l) st h Q ↔ XE d 67 41 (.val (.ref a) :: l) (.ref a :: st) h Q := g_aload rfl rfl
theorem s67_41 : XE d 67 41 ls (.ref a :: st) h Q ↔ XG [10] 12 (h.2.2.1 a) (fun v => XE d 67 44 ls (v :: st) h Q) := g_getf rfl
theorem s67_44 : XE d 67 44 (c0 :: .val (.int x) :: l) st h Q ↔ XE d 67 45 (c0 :: .val (.int x) :: l) (.int x :: st) h Q := g_iload rfl rfl
theorem s67_45 : XE d 67 45 ls (.int x :: .ref a :: st) h Q ↔ XA [0, 7] (h.2.2.1 a) x (fun k => XE d 67 46 ls (.int k :: st) h Q) := g_ald rfl
theorem s67_46 : XE d 67 46 (c0 :: c1 :: .val (.int x) :: l) st h Q ↔ XE d 67 47 (c0 :: c1 :: .val (.int x) :: l) (.int x :: st) h Q := g_iload rfl rfl
theorem s67_47 : XE d 67 47 ls st h Q ↔ XE d 67 48 ls (.int 0 :: st) h Q := g_const rfl
theorem s67_48 : XE d 67 48 ls st h Q ↔ XE d 67 49 ls (.int 0 :: st) h Q := g_const rfl
theorem s67_49 : XE d 67 49 ls (.int w :: .int z :: .int y :: .int x :: .ref a :: st) h Q ↔ (xvo 8 st = true ∧ XV [(8, 41)] (h.2.2.1 a) (fun m' => XC d m' [.ref a, .int x, .int y, .int z, .int w] h (fun v h' => XE d 67 52 ls (v.toList ++ st) h' Q))) := h_v4 rfl rfl
theorem s67_52 : XE d 67 52 (c0 :: c1 :: c2 :: c3 :: c4 :: l) (.int x :: st) h Q ↔ XE d 67 54 (c0 :: c1 :: c2 :: c3 :: .val (.int x) :: l) st h Q := g_istore (Nat.lt_of_lt_of_le (show 4 < 5 by decide) (Nat.le_add_left 5 _)) rfl rfl
theorem s67_54 : XE d 67 54 (c0 :: c1 :: c2 :: c3 :: .val (.int x) :: l) st h Q ↔ XE d 67 56 (c0 :: c1 :: c2 :: c3 :: .val (.int x) :: l) (.int x :: st) h Q := g_iload rfl rfl
theorem s67_56 : XE d 67 56 ls st h Q ↔ XE d 67 57 ls (.int 0 :: st) h Q := g_const rfl
theorem s67_57 : XE d 67 57 ls st h Q ↔ XE d 67 59 ls (.int 99999 :: st) h Q := g_const rfl
theorem s67_59 : XE d 67 59 ls (.int z :: .int y :: .int x :: st) h Q ↔ (xvo 8 st = true ∧ XC d 124 [.int x, .int y, .int z] h (fun v h' => XE d 67 62 ls (v.toList ++ st) h' Q)) := h_s3 rfl rfl
theorem s67_62 : XE d 67 62 ls [.int x] h Q ↔ Q (some (.int x)) h := g_iret rfl
-- 68: TwoBells$Town.weigh()V
theorem e68 : XC (d + 1) 68 [.ref a] h Q ↔ XE d 68 0 [.val (.ref a), .unset, .unset, .unset, .unset] [] h Q := XC_in rfl
theorem s68_0 : XE d 68 0 (.val (.ref a) :: l) st h Q ↔ XE d 68 1 (.val (.ref a) :: l) (.ref a :: st) h Q := g_aload rfl rfl
theorem s68_1 : XE d 68 1 ls (.ref a :: st) h Q ↔ (xvo 8 st = true ∧ XV [(10, 65)] (h.2.2.1 a) (fun m' => XC d m' [.ref a] h (fun v h' => XE d 68 4 ls (v.toList ++ st) h' Q))) := h_v0 rfl
theorem s68_4 : XE d 68 4 ls st h Q ↔ XE d 68 5 ls (.int 0 :: st) h Q := g_const rfl
theorem s68_5 : XE d 68 5 (c0 :: c1 :: l) (.int x :: st) h Q ↔ XE d 68 6 (c0 :: .val (.int x) :: l) st h Q := g_istore (Nat.lt_of_lt_of_le (show 1 < 2 by decide) (Nat.le_add_left 2 _)) rfl rfl
theorem s68_6 : XE d 68 6 (c0 :: .val (.int x) :: l) st h Q ↔ XE d 68 7 (c0 :: .val (.int x) :: l) (.int x :: st) h Q := g_iload rfl rfl
theorem s68_7 : XE d 68 7 (.val (.ref a) :: l) st h Q ↔ XE d 68 8 (.val (.ref a) :: l) (.ref a :: st) h Q := g_aload rfl rfl
theorem s68_8 : XE d 68 8 ls (.ref a :: st) h Q ↔ XG [10] 2 (h.2.2.1 a) (fun v => XE d 68 11 ls (v :: st) h Q) := g_getf rfl
theorem s68_11 : XE d 68 11 ls (.int y :: .int x :: st) h Q ↔ (if x < y then XE d 68 14 ls st h Q else XE d 68 86 ls st h Q) := g_cge rfl
theorem s68_14 : XE d 68 14 (.val (.ref a) :: l) st h Q ↔ XE d 68 15 (.val (.ref a) :: l) (.ref a :: st) h Q := g_aload rfl rfl
theorem s68_15 : XE d 68 15 ls (.ref a :: st) h Q ↔ XG [10] 15 (h.2.2.1 a) (fun v => XE d 68 18 ls (v :: st) h Q) := g_getf rfl
theorem s68_18 : XE d 68 18 (c0 :: .val (.int x) :: l) st h Q ↔ XE d 68 19 (c0 :: .val (.int x) :: l) (.int x :: st) h Q := g_iload rfl rfl
theorem s68_19 : XE d 68 19 ls (.int x :: .ref a :: st) h Q ↔ XQ (h.2.2.1 a) x (fun v => XE d 68 20 ls (v :: st) h Q) := g_aald rfl
theorem s68_20 : XE d 68 20 (c0 :: c1 :: c2 :: l) (.ref a :: st) h Q ↔ XE d 68 21 (c0 :: c1 :: .val (.ref a) :: l) st h Q := g_astore (Nat.lt_of_lt_of_le (show 2 < 3 by decide) (Nat.le_add_left 3 _)) rfl rfl
theorem s68_20n : XE d 68 20 (c0 :: c1 :: c2 :: l) (.null :: st) h Q ↔ XE d 68 21 (c0 :: c1 :: .val .null :: l) st h Q := g_astoreN (Nat.lt_of_lt_of_le (show 2 < 3 by decide) (Nat.le_add_left 3 _)) rfl rfl
theorem s68_21 : XE d 68 21 ls st h Q ↔ XE d 68 22 ls (.int 0 :: st) h Q := g_const rfl
theorem s68_22 : XE d 68 22 (c0 :: c1 :: c2 :: c3 :: l) (.int x :: st) h Q ↔ XE d 68 23 (c0 :: c1 :: c2 :: .val (.int x) :: l) st h Q := g_istore (Nat.lt_of_lt_of_le (show 3 < 4 by decide) (Nat.le_add_left 4 _)) rfl rfl
theorem s68_23 : XE d 68 23 (c0 :: c1 :: c2 :: .val (.int x) :: l) st h Q ↔ XE d 68 24 (c0 :: c1 :: c2 :: .val (.int x) :: l) (.int x :: st) h Q := g_iload rfl rfl
theorem s68_24 : XE d 68 24 (.val (.ref a) :: l) st h Q ↔ XE d 68 25 (.val (.ref a) :: l) (.ref a :: st) h Q := g_aload rfl rfl
theorem s68_25 : XE d 68 25 ls (.ref a :: st) h Q ↔ XG [10] 1 (h.2.2.1 a) (fun v => XE d 68 28 ls (v :: st) h Q) := g_getf rfl
theorem s68_28 : XE d 68 28 ls (.int y :: .int x :: st) h Q ↔ (if x < y then XE d 68 31 ls st h Q else XE d 68 80 ls st h Q) := g_cge rfl
theorem s68_31 : XE d 68 31 (c0 :: c1 :: .val (.ref a) :: l) st h Q ↔ XE d 68 32 (c0 :: c1 :: .val (.ref a) :: l) (.ref a :: st) h Q := g_aload rfl rfl
theorem s68_31n : XE d 68 31 (c0 :: c1 :: .val .null :: l) st h Q ↔ XE d 68 32 (c0 :: c1 :: .val .null :: l) (.null :: st) h Q := g_aloadN rfl rfl
theorem s68_32 : XE d 68 32 ls (.ref a :: st) h Q ↔ XE d 68 35 ls st h Q := g_ifnullR rfl
theorem s68_32n : XE d 68 32 ls (.null :: st) h Q ↔ XE d 68 80 ls st h Q := g_ifnullN rfl
theorem s68_35 : XE d 68 35 (.val (.ref a) :: l) st h Q ↔ XE d 68 36 (.val (.ref a) :: l) (.ref a :: st) h Q := g_aload rfl rfl
theorem s68_36 : XE d 68 36 (c0 :: c1 :: .val (.ref a) :: l) st h Q ↔ XE d 68 37 (c0 :: c1 :: .val (.ref a) :: l) (.ref a :: st) h Q := g_aload rfl rfl
theorem s68_36n : XE d 68 36 (c0 :: c1 :: .val .null :: l) st h Q ↔ XE d 68 37 (c0 :: c1 :: .val .null :: l) (.null :: st) h Q := g_aloadN rfl rfl
theorem s68_37 : XE d 68 37 (c0 :: c1 :: c2 :: .val (.int x) :: l) st h Q ↔ XE d 68 38 (c0 :: c1 :: c2 :: .val (.int x) :: l) (.int x :: st) h Q := g_iload rfl rfl
theorem s68_38 : XE d 68 38 ls (.int x :: .ref b :: .ref a :: st) h Q ↔ (xvo 8 st = true ∧ XV [(10, 66)] (h.2.2.1 a) (fun m' => XC d m' [.ref a, .ref b, .int x] h (fun v h' => XE d 68 41 ls (v.toList ++ st) h' Q))) := h_v2 rfl rfl
theorem s68_41 : XE d 68 41 (c0 :: c1 :: c2 :: c3 :: c4 :: l) (.int x :: st) h Q ↔ XE d 68 43 (c0 :: c1 :: c2 :: c3 :: .val (.int x) :: l) st h Q := g_istore (Nat.lt_of_lt_of_le (show 4 < 5 by decide) (Nat.le_add_left 5 _)) rfl rfl
theorem s68_43 : XE d 68 43 (.val (.ref a) :: l) st h Q ↔ XE d 68 44 (.val (.ref a) :: l) (.ref a :: st) h Q := g_aload rfl rfl
theorem s68_44 : XE d 68 44 ls (.ref a :: st) h Q ↔ XG [10] 18 (h.2.2.1 a) (fun v => XE d 68 47 ls (v :: st) h Q) := g_getf rfl
theorem s68_47 : XE d 68 47 (c0 :: .val (.int x) :: l) st h Q ↔ XE d 68 48 (c0 :: .val (.int x) :: l) (.int x :: st) h Q := g_iload rfl rfl
theorem s68_48 : XE d 68 48 ls st h Q ↔ XE d 68 50 ls (.int 12 :: st) h Q := g_const rfl
theorem s68_50 : XE d 68 50 ls (.int y :: .int x :: st) h Q ↔ XE d 68 51 ls (.int (x * y) :: st) h Q := g_mul rfl
theorem s68_51 : XE d 68 51 (c0 :: c1 :: c2 :: .val (.int x) :: l) st h Q ↔ XE d 68 52 (c0 :: c1 :: c2 :: .val (.int x) :: l) (.int x :: st) h Q := g_iload rfl rfl
theorem s68_52 : XE d 68 52 ls (.int y :: .int x :: st) h Q ↔ XE d 68 53 ls (.int (x + y) :: st) h Q := g_add rfl
theorem s68_53 : XE d 68 53 (c0 :: c1 :: c2 :: c3 :: .val (.int x) :: l) st h Q ↔ XE d 68 55 (c0 :: c1 :: c2 :: c3 :: .val (.int x) :: l) (.int x :: st) h Q := g_iload rfl rfl
theorem s68_55 : XE d 68 55 ls (.int y :: .int x :: .ref a :: st) h Q ↔ XS 0 (h.2.2.1 a) x y (fun e => XE d 68 56 ls st (xset h a e) Q) := g_iast rfl
theorem s68_56 : XE d 68 56 (.val (.ref a) :: l) st h Q ↔ XE d 68 57 (.val (.ref a) :: l) (.ref a :: st) h Q := g_aload rfl rfl
theorem s68_57 : XE d 68 57 ls (.ref a :: st) h Q ↔ XG [10] 19 (h.2.2.1 a) (fun v => XE d 68 60 ls (v :: st) h Q) := g_getf rfl
theorem s68_60 : XE d 68 60 (c0 :: .val (.int x) :: l) st h Q ↔ XE d 68 61 (c0 :: .val (.int x) :: l) (.int x :: st) h Q := g_iload rfl rfl
theorem s68_61 : XE d 68 61 ls st h Q ↔ XE d 68 63 ls (.int 12 :: st) h Q := g_const rfl
theorem s68_63 : XE d 68 63 ls (.int y :: .int x :: st) h Q ↔ XE d 68 64 ls (.int (x * y) :: st) h Q := g_mul rfl
theorem s68_64 : XE d 68 64 (c0 :: c1 :: c2 :: .val (.int x) :: l) st h Q ↔ XE d 68 65 (c0 :: c1 :: c2 :: .val (.int x) :: l) (.int x :: st) h Q := g_iload rfl rfl
theorem s68_65 : XE d 68 65 ls (.int y :: .int x :: st) h Q ↔ XE d 68 66 ls (.int (x + y) :: st) h Q := g_add rfl
theorem s68_66 : XE d 68 66 (.val (.ref a) :: l) st h Q ↔ XE d 68 67 (.val (.ref a) :: l) (.ref a :: st) h Q := g_aload rfl rfl
theorem s68_67 : XE d 68 67 (c0 :: c1 :: c2 :: .val (.int x) :: l) st h Q ↔ XE d 68 68 (c0 :: c1 :: c2 :: .val (.int x) :: l) (.int x :: st) h Q := g_iload rfl rfl
theorem s68_68 : XE d 68 68 (c0 :: c1 :: c2 :: c3 :: .val (.int x) :: l) st h Q ↔ XE d 68 70 (c0 :: c1 :: c2 :: c3 :: .val (.int x) :: l) (.int x :: st) h Q := g_iload rfl rfl
theorem s68_70 : XE d 68 70 ls (.int y :: .int x :: .ref a :: st) h Q ↔ (xvo 8 st = true ∧ XV [(10, 67)] (h.2.2.1 a) (fun m' => XC d m' [.ref a, .int x, .int y] h (fun v h' => XE d 68 73 ls (v.toList ++ st) h' Q))) := h_v2 rfl rfl
theorem s68_73 : XE d 68 73 ls (.int y :: .int x :: .ref a :: st) h Q ↔ XS 0 (h.2.2.1 a) x y (fun e => XE d 68 74 ls st (xset h a e) Q) := g_iast rfl
theorem s68_74 : XE d 68 74 (c0 :: c1 :: c2 :: .val (.int x) :: l) st h Q ↔ XE d 68 77 (c0 :: c1 :: c2 :: .val (.int (x + 1)) :: l) st h Q := g_iinc rfl rfl rfl
theorem s68_77 : XE d 68 77 ls st h Q ↔ XE d 68 23 ls st h Q := g_goto rfl
theorem s68_80 : XE d 68 80 (c0 :: .val (.int x) :: l) st h Q ↔ XE d 68 83 (c0 :: .val (.int (x + 1)) :: l) st h Q := g_iinc rfl rfl rfl
theorem s68_83 : XE d 68 83 ls st h Q ↔ XE d 68 6 ls st h Q := g_goto rfl
theorem s68_86 : XE d 68 86 ls [] h Q ↔ Q none h := g_ret rfl
-- 69: TwoBells$Town.greatest(I[II)I
theorem e69 : XC (d + 1) 69 [.ref a, .int x, .ref b, .int y] h Q ↔ XE d 69 0 [.val (.ref a), .val (.int x), .val (.ref b), .val (.int y), .unset, .unset] [] h Q := XC_in rfl
theorem s69_0 : XE d 69 0 ls st h Q ↔ XE d 69 2 ls (.int (-1000000005) :: st) h Q := g_const rfl
theorem s69_2 : XE d 69 2 (c0 :: c1 :: c2 :: c3 :: c4 :: l) (.int x :: st) h Q ↔ XE d 69 4 (c0 :: c1 :: c2 :: c3 :: .val (.int x) :: l) st h Q := g_istore (Nat.lt_of_lt_of_le (show 4 < 5 by decide) (Nat.le_add_left 5 _)) rfl rfl
theorem s69_4 : XE d 69 4 (c0 :: c1 :: c2 :: .val (.int x) :: l) st h Q ↔ XE d 69 5 (c0 :: c1 :: c2 :: .val (.int x) :: l) (.int x :: st) h Q := g_iload rfl rfl
theorem s69_5 : XE d 69 5 ls (.int x :: st) h Q ↔ (if x < 0 then XE d 69 19 ls st h Q else XE d 69 8 ls st h Q) := g_iflt rfl
theorem s69_8 : XE d 69 8 (c0 :: c1 :: c2 :: .val (.int x) :: l) st h Q ↔ XE d 69 9 (c0 :: c1 :: c2 :: .val (.int x) :: l) (.int x :: st) h Q := g_iload rfl rfl
theorem s69_9 : XE d 69 9 (c0 :: c1 :: .val (.ref a) :: l) st h Q ↔ XE d 69 10 (c0 :: c1 :: .val (.ref a) :: l) (.ref a :: st) h Q := g_aload rfl rfl
theorem s69_9n : XE d 69 9 (c0 :: c1 :: .val .null :: l) st h Q ↔ XE d 69 10 (c0 :: c1 :: .val .null :: l) (.null :: st) h Q := g_aloadN rfl rfl
theorem s69_10 : XE d 69 10 ls (.ref a :: st) h Q ↔ XL (h.2.2.1 a) (fun k => XE d 69 11 ls (.int k :: st) h Q) := g_alen rfl
theorem s69_11 : XE d 69 11 (.val (.ref a) :: l) st h Q ↔ XE d 69 12 (.val (.ref a) :: l) (.ref a :: st) h Q := g_aload rfl rfl
theorem s69_12 : XE d 69 12 ls (.ref a :: st) h Q ↔ XG [10] 1 (h.2.2.1 a) (fun v => XE d 69 15 ls (v :: st) h Q) := g_getf rfl
theorem s69_15 : XE d 69 15 ls (.int y :: .int x :: st) h Q ↔ XE d 69 16 ls (.int (x - y) :: st) h Q := g_sub rfl
theorem s69_16 : XE d 69 16 ls (.int y :: .int x :: st) h Q ↔ (if y < x then XE d 69 19 ls st h Q else XE d 69 22 ls st h Q) := g_cle rfl
theorem s69_19 : XE d 69 19 (c0 :: c1 :: c2 :: c3 :: .val (.int x) :: l) st h Q ↔ XE d 69 21 (c0 :: c1 :: c2 :: c3 :: .val (.int x) :: l) (.int x :: st) h Q := g_iload rfl rfl
theorem s69_21 : XE d 69 21 ls [.int x] h Q ↔ Q (some (.int x)) h := g_iret rfl
theorem s69_22 : XE d 69 22 ls st h Q ↔ XE d 69 23 ls (.int 0 :: st) h Q := g_const rfl
theorem s69_23 : XE d 69 23 (c0 :: c1 :: c2 :: c3 :: c4 :: c5 :: l) (.int x :: st) h Q ↔ XE d 69 25 (c0 :: c1 :: c2 :: c3 :: c4 :: .val (.int x) :: l) st h Q := g_istore (Nat.lt_of_lt_of_le (show 5 < 6 by decide) (Nat.le_add_left 6 _)) rfl rfl
theorem s69_25 : XE d 69 25 (c0 :: c1 :: c2 :: c3 :: c4 :: .val (.int x) :: l) st h Q ↔ XE d 69 27 (c0 :: c1 :: c2 :: c3 :: c4 :: .val (.int x) :: l) (.int x :: st) h Q := g_iload rfl rfl
theorem s69_27 : XE d 69 27 (.val (.ref a) :: l) st h Q ↔ XE d 69 28 (.val (.ref a) :: l) (.ref a :: st) h Q := g_aload rfl rfl
theorem s69_28 : XE d 69 28 ls (.ref a :: st) h Q ↔ XG [10] 1 (h.2.2.1 a) (fun v => XE d 69 31 ls (v :: st) h Q) := g_getf rfl
theorem s69_31 : XE d 69 31 ls (.int y :: .int x :: st) h Q ↔ (if x < y then XE d 69 34 ls st h Q else XE d 69 77 ls st h Q) := g_cge rfl
theorem s69_34 : XE d 69 34 (.val (.ref a) :: l) st h Q ↔ XE d 69 35 (.val (.ref a) :: l) (.ref a :: st) h Q := g_aload rfl rfl
theorem s69_35 : XE d 69 35 ls (.ref a :: st) h Q ↔ XG [10] 11 (h.2.2.1 a) (fun v => XE d 69 38 ls (v :: st) h Q) := g_getf rfl
theorem s69_38 : XE d 69 38 (c0 :: c1 :: c2 :: c3 :: c4 :: .val (.int x) :: l) st h Q ↔ XE d 69 40 (c0 :: c1 :: c2 :: c3 :: c4 :: .val (.int x) :: l) (.int x :: st) h Q := g_iload rfl rfl
theorem s69_40 : XE d 69 40 ls (.int x :: .ref a :: st) h Q ↔ XA [0, 7] (h.2.2.1 a) x (fun k => XE d 69 41 ls (.int k :: st) h Q) := g_ald rfl
theorem s69_41 : XE d 69 41 (c0 :: .val (.int x) :: l) st h Q ↔ XE d 69 42 (c0 :: .val (.int x) :: l) (.int x :: st) h Q := g_iload rfl rfl
theorem s69_42 : XE d 69 42 ls (.int y :: .int x :: st) h Q ↔ (if x = y then XE d 69 71 ls st h Q else XE d 69 45 ls st h Q) := g_ceq rfl
theorem s69_45 : XE d 69 45 (c0 :: c1 :: c2 :: c3 :: .val (.int x) :: l) st h Q ↔ XE d 69 47 (c0 :: c1 :: c2 :: c3 :: .val (.int x) :: l) (.int x :: st) h Q := g_iload rfl rfl
theorem s69_47 : XE d 69 47 ls st h Q ↔ XE d 69 49 ls (.int (-1000000005) :: st) h Q := g_const rfl
theorem s69_49 : XE d 69 49 ls (.int y :: .int x :: st) h Q ↔ (if x = y then XE d 69 67 ls st h Q else XE d 69 52 ls st h Q) := g_ceq rfl
theorem s69_52 : XE d 69 52 (c0 :: c1 :: .val (.ref a) :: l) st h Q ↔ XE d 69 53 (c0 :: c1 :: .val (.ref a) :: l) (.ref a :: st) h Q := g_aload rfl rfl
theorem s69_52n : XE d 69 52 (c0 :: c1 :: .val .null :: l) st h Q ↔ XE d 69 53 (c0 :: c1 :: .val .null :: l) (.null :: st) h Q := g_aloadN rfl rfl
theorem s69_53 : XE d 69 53 (c0 :: c1 :: c2 :: .val (.int x) :: l) st h Q ↔ XE d 69 54 (c0 :: c1 :: c2 :: .val (.int x) :: l) (.int x :: st) h Q := g_iload rfl rfl
theorem s69_54 : XE d 69 54 (c0 :: c1 :: c2 :: c3 :: c4 :: .val (.int x) :: l) st h Q ↔ XE d 69 56 (c0 :: c1 :: c2 :: c3 :: c4 :: .val (.int x) :: l) (.int x :: st) h Q := g_iload rfl rfl
theorem s69_56 : XE d 69 56 ls (.int y :: .int x :: st) h Q ↔ XE d 69 57 ls (.int (x + y) :: st) h Q := g_add rfl
theorem s69_57 : XE d 69 57 ls (.int x :: .ref a :: st) h Q ↔ XA [0, 7] (h.2.2.1 a) x (fun k => XE d 69 58 ls (.int k :: st) h Q) := g_ald rfl
theorem s69_58 : XE d 69 58 (c0 :: c1 :: .val (.ref a) :: l) st h Q ↔ XE d 69 59 (c0 :: c1 :: .val (.ref a) :: l) (.ref a :: st) h Q := g_aload rfl rfl
theorem s69_58n : XE d 69 58 (c0 :: c1 :: .val .null :: l) st h Q ↔ XE d 69 59 (c0 :: c1 :: .val .null :: l) (.null :: st) h Q := g_aloadN rfl rfl
theorem s69_59 : XE d 69 59 (c0 :: c1 :: c2 :: .val (.int x) :: l) st h Q ↔ XE d 69 60 (c0 :: c1 :: c2 :: .val (.int x) :: l) (.int x :: st) h Q := g_iload rfl rfl
theorem s69_60 : XE d 69 60 (c0 :: c1 :: c2 :: c3 :: .val (.int x) :: l) st h Q ↔ XE d 69 62 (c0 :: c1 :: c2 :: c3 :: .val (.int x) :: l) (.int x :: st) h Q := g_iload rfl rfl
theorem s69_62 : XE d 69 62 ls (.int y :: .int x :: st) h Q ↔ XE d 69 63 ls (.int (x + y) :: st) h Q := g_add rfl
theorem s69_63 : XE d 69 63 ls (.int x :: .ref a :: st) h Q ↔ XA [0, 7] (h.2.2.1 a) x (fun k => XE d 69 64 ls (.int k :: st) h Q) := g_ald rfl
theorem s69_64 : XE d 69 64 ls (.int y :: .int x :: st) h Q ↔ (if y < x then XE d 69 67 ls st h Q else XE d 69 71 ls st h Q) := g_cle rfl
theorem s69_67 : XE d 69 67 (c0 :: c1 :: c2 :: c3 :: c4 :: .val (.int x) :: l) st h Q ↔ XE d 69 69 (c0 :: c1 :: c2 :: c3 :: c4 :: .val (.int x) :: l) (.int x :: st) h Q := g_iload rfl rfl
theorem s69_69 : XE d 69 69 (c0 :: c1 :: c2 :: c3 :: c4 :: l) (.int x :: st) h Q ↔ XE d 69 71 (c0 :: c1 :: c2 :: c3 :: .val (.int x) :: l) st h Q := g_istore (Nat.lt_of_lt_of_le (show 4 < 5 by decide) (Nat.le_add_left 5 _)) rfl rfl
theorem s69_71 : XE d 69 71 (c0 :: c1 :: c2 :: c3 :: c4 :: .val (.int x) :: l) st h Q ↔ XE d 69 74 (c0 :: c1 :: c2 :: c3 :: c4 :: .val (.int (x + 1)) :: l) st h Q := g_iinc rfl rfl rfl
theorem s69_74 : XE d 69 74 ls st h Q ↔ XE d 69 25 ls st h Q := g_goto rfl
theorem s69_77 : XE d 69 77 (c0 :: c1 :: c2 :: c3 :: .val (.int x) :: l) st h Q ↔ XE d 69 79 (c0 :: c1 :: c2 :: c3 :: .val (.int x) :: l) (.int x :: st) h Q := g_iload rfl rfl
theorem s69_79 : XE d 69 79 ls [.int x] h Q ↔ Q (some (.int x)) h := g_iret rfl
-- 70: TwoBells$Town.byLot(I)I
theorem e70 : XC (d + 1) 70 [.ref a, .int x] h Q ↔ XE d 70 0 [.val (.ref a), .val (.int x), .unset, .unset, .unset] [] h Q := XC_in rfl
theorem s70_0 : XE d 70 0 (.val (.ref a) :: l) st h Q ↔ XE d 70 1 (.val (.ref a) :: l) (.ref a :: st) h Q := g_aload rfl rfl
theorem s70_1 : XE d 70 1 ls (.ref a :: st) h Q ↔ XG [10] 1 (h.2.2.1 a) (fun v => XE d 70 4 ls (v :: st) h Q) := g_getf rfl
theorem s70_4 : XE d 70 4 ls (.int x :: st) h Q ↔ (if x = 0 then XE d 70 22 ls st h Q else XE d 70 7 ls st h Q) := g_ifeq rfl
theorem s70_7 : XE d 70 7 (.val (.ref a) :: l) st h Q ↔ XE d 70 8 (.val (.ref a) :: l) (.ref a :: st) h Q := g_aload rfl rfl
theorem s70_8 : XE d 70 8 (c0 :: .val (.int x) :: l) st h Q ↔ XE d 70 9 (c0 :: .val (.int x) :: l) (.int x :: st) h Q := g_iload rfl rfl
theorem s70_9 : XE d 70 9 (.val (.ref a) :: l) st h Q ↔ XE d 70 10 (.val (.ref a) :: l) (.ref a :: st) h Q := g_aload rfl rfl
theorem s70_10 : XE d 70 10 ls (.ref a :: st) h Q ↔ XG [10] 12 (h.2.2.1 a) (fun v => XE d 70 13 ls (v :: st) h Q) := g_getf rfl
theorem s70_13 : XE d 70 13 ls st h Q ↔ XE d 70 14 ls (.int 0 :: st) h Q := g_const rfl
theorem s70_14 : XE d 70 14 ls (.int y :: .ref b :: .int x :: .ref a :: st) h Q ↔ (xvo 8 st = true ∧ XV [(10, 69)] (h.2.2.1 a) (fun m' => XC d m' [.ref a, .int x, .ref b, .int y] h (fun v h' => XE d 70 17 ls (v.toList ++ st) h' Q))) := h_v3 rfl rfl
theorem s70_17 : XE d 70 17 ls st h Q ↔ XE d 70 19 ls (.int (-1000000005) :: st) h Q := g_const rfl
theorem s70_19 : XE d 70 19 ls (.int y :: .int x :: st) h Q ↔ (if x = y then XE d 70 22 ls st h Q else XE d 70 25 ls st h Q) := g_cne rfl
theorem s70_22 : XE d 70 22 ls st h Q ↔ XE d 70 24 ls (.int (-1000000005) :: st) h Q := g_const rfl
theorem s70_24 : XE d 70 24 ls [.int x] h Q ↔ Q (some (.int x)) h := g_iret rfl
theorem s70_25 : XE d 70 25 (.val (.ref a) :: l) st h Q ↔ XE d 70 26 (.val (.ref a) :: l) (.ref a :: st) h Q := g_aload rfl rfl
theorem s70_26 : XE d 70 26 ls (.ref a :: st) h Q ↔ (xvo 8 st = true ∧ XV [(10, 58)] (h.2.2.1 a) (fun m' => XC d m' [.ref a] h (fun v h' => XE d 70 29 ls (v.toList ++ st) h' Q))) := h_v0 rfl
theorem s70_29 : XE d 70 29 (.val (.ref a) :: l) st h Q ↔ XE d 70 30 (.val (.ref a) :: l) (.ref a :: st) h Q := g_aload rfl rfl
theorem s70_30 : XE d 70 30 ls (.ref a :: st) h Q ↔ XG [10] 1 (h.2.2.1 a) (fun v => XE d 70 33 ls (v :: st) h Q) := g_getf rfl
theorem s70_33 : XE d 70 33 ls (.int y :: .int x :: st) h Q ↔ (y ≠ 0 ∧ XE d 70 34 ls (.int (x % y) :: st) h Q) := g_rem rfl
theorem s70_34 : XE d 70 34 (c0 :: c1 :: c2 :: l) (.int x :: st) h Q ↔ XE d 70 35 (c0 :: c1 :: .val (.int x) :: l) st h Q := g_istore (Nat.lt_of_lt_of_le (show 2 < 3 by decide) (Nat.le_add_left 3 _)) rfl rfl
theorem s70_35 : XE d 70 35 ls st h Q ↔ XE d 70 36 ls (.int 0 :: st) h Q := g_const rfl
theorem s70_36 : XE d 70 36 (c0 :: c1 :: c2 :: c3 :: l) (.int x :: st) h Q ↔ XE d 70 37 (c0 :: c1 :: c2 :: .val (.int x) :: l) st h Q := g_istore (Nat.lt_of_lt_of_le (show 3 < 4 by decide) (Nat.le_add_left 4 _)) rfl rfl
theorem s70_37 : XE d 70 37 (c0 :: c1 :: c2 :: .val (.int x) :: l) st h Q ↔ XE d 70 38 (c0 :: c1 :: c2 :: .val (.int x) :: l) (.int x :: st) h Q := g_iload rfl rfl
theorem s70_38 : XE d 70 38 (.val (.ref a) :: l) st h Q ↔ XE d 70 39 (.val (.ref a) :: l) (.ref a :: st) h Q := g_aload rfl rfl
theorem s70_39 : XE d 70 39 ls (.ref a :: st) h Q ↔ XG [10] 1 (h.2.2.1 a) (fun v => XE d 70 42 ls (v :: st) h Q) := g_getf rfl
theorem s70_42 : XE d 70 42 ls (.int y :: .int x :: st) h Q ↔ (if x < y then XE d 70 45 ls st h Q else XE d 70 75 ls st h Q) := g_cge rfl
theorem s70_45 : XE d 70 45 (c0 :: c1 :: .val (.int x) :: l) st h Q ↔ XE d 70 46 (c0 :: c1 :: .val (.int x) :: l) (.int x :: st) h Q := g_iload rfl rfl
theorem s70_46 : XE d 70 46 (c0 :: c1 :: c2 :: .val (.int x) :: l) st h Q ↔ XE d 70 47 (c0 :: c1 :: c2 :: .val (.int x) :: l) (.int x :: st) h Q := g_iload rfl rfl
theorem s70_47 : XE d 70 47 ls (.int y :: .int x :: st) h Q ↔ XE d 70 48 ls (.int (x + y) :: st) h Q := g_add rfl
theorem s70_48 : XE d 70 48 (.val (.ref a) :: l) st h Q ↔ XE d 70 49 (.val (.ref a) :: l) (.ref a :: st) h Q := g_aload rfl rfl
theorem s70_49 : XE d 70 49 ls (.ref a :: st) h Q ↔ XG [10] 1 (h.2.2.1 a) (fun v => XE d 70 52 ls (v :: st) h Q) := g_getf rfl
theorem s70_52 : XE d 70 52 ls (.int y :: .int x :: st) h Q ↔ (y ≠ 0 ∧ XE d 70 53 ls (.int (x % y) :: st) h Q) := g_rem rfl
theorem s70_53 : XE d 70 53 (c0 :: c1 :: c2 :: c3 :: c4 :: l) (.int x :: st) h Q ↔ XE d 70 55 (c0 :: c1 :: c2 :: c3 :: .val (.int x) :: l) st h Q := g_istore (Nat.lt_of_lt_of_le (show 4 < 5 by decide) (Nat.le_add_left 5 _)) rfl rfl
theorem s70_55 : XE d 70 55 (.val (.ref a) :: l) st h Q ↔ XE d 70 56 (.val (.ref a) :: l) (.ref a :: st) h Q := g_aload rfl rfl
theorem s70_56 : XE d 70 56 ls (.ref a :: st) h Q ↔ XG [10] 11 (h.2.2.1 a) (fun v => XE d 70 59 ls (v :: st) h Q) := g_getf rfl
theorem s70_59 : XE d 70 59 (c0 :: c1 :: c2 :: c3 :: .val (.int x) :: l) st h Q ↔ XE d 70 61 (c0 :: c1 :: c2 :: c3 :: .val (.int x) :: l) (.int x :: st) h Q := g_iload rfl rfl
theorem s70_61 : XE d 70 61 ls (.int x :: .ref a :: st) h Q ↔ XA [0, 7] (h.2.2.1 a) x (fun k => XE d 70 62 ls (.int k :: st) h Q) := g_ald rfl
theorem s70_62 : XE d 70 62 (c0 :: .val (.int x) :: l) st h Q ↔ XE d 70 63 (c0 :: .val (.int x) :: l) (.int x :: st) h Q := g_iload rfl rfl
theorem s70_63 : XE d 70 63 ls (.int y :: .int x :: st) h Q ↔ (if x = y then XE d 70 69 ls st h Q else XE d 70 66 ls st h Q) := g_ceq rfl
theorem s70_66 : XE d 70 66 (c0 :: c1 :: c2 :: c3 :: .val (.int x) :: l) st h Q ↔ XE d 70 68 (c0 :: c1 :: c2 :: c3 :: .val (.int x) :: l) (.int x :: st) h Q := g_iload rfl rfl
theorem s70_68 : XE d 70 68 ls [.int x] h Q ↔ Q (some (.int x)) h := g_iret rfl
theorem s70_69 : XE d 70 69 (c0 :: c1 :: c2 :: .val (.int x) :: l) st h Q ↔ XE d 70 72 (c0 :: c1 :: c2 :: .val (.int (x + 1)) :: l) st h Q := g_iinc rfl rfl rfl
theorem s70_72 : XE d 70 72 ls st h Q ↔ XE d 70 37 ls st h Q := g_goto rfl
theorem s70_75 : XE d 70 75 ls st h Q ↔ XE d 70 77 ls (.int (-1000000005) :: st) h Q := g_const rfl
theorem s70_77 : XE d 70 77 ls [.int x] h Q ↔ Q (some (.int x)) h := g_iret rfl
-- 71: TwoBells$Town.night()V
theorem e71 : XC (d + 1) 71 [.ref a] h Q ↔ XE d 71 0 [.val (.ref a), .unset, .unset, .unset] [] h Q := XC_in rfl
theorem s71_0 : XE d 71 0 ls st h Q ↔ XE d 71 1 ls (.int 0 :: st) h Q := g_const rfl
theorem s71_1 : XE d 71 1 (c0 :: c1 :: l) (.int x :: st) h Q ↔ XE d 71 2 (c0 :: .val (.int x) :: l) st h Q := g_istore (Nat.lt_of_lt_of_le (show 1 < 2 by decide) (Nat.le_add_left 2 _)) rfl rfl
theorem s71_2 : XE d 71 2 (c0 :: .val (.int x) :: l) st h Q ↔ XE d 71 3 (c0 :: .val (.int x) :: l) (.int x :: st) h Q := g_iload rfl rfl
theorem s71_3 : XE d 71 3 (.val (.ref a) :: l) st h Q ↔ XE d 71 4 (.val (.ref a) :: l) (.ref a :: st) h Q := g_aload rfl rfl
theorem s71_4 : XE d 71 4 ls (.ref a :: st) h Q ↔ XG [10] 2 (h.2.2.1 a) (fun v => XE d 71 7 ls (v :: st) h Q) := g_getf rfl
theorem s71_7 : XE d 71 7 ls (.int y :: .int x :: st) h Q ↔ (if x < y then XE d 71 10 ls st h Q else XE d 71 97 ls st h Q) := g_cge rfl
theorem s71_10 : XE d 71 10 (.val (.ref a) :: l) st h Q ↔ XE d 71 11 (.val (.ref a) :: l) (.ref a :: st) h Q := g_aload rfl rfl
theorem s71_11 : XE d 71 11 ls (.ref a :: st) h Q ↔ XG [10] 15 (h.2.2.1 a) (fun v => XE d 71 14 ls (v :: st) h Q) := g_getf rfl
theorem s71_14 : XE d 71 14 (c0 :: .val (.int x) :: l) st h Q ↔ XE d 71 15 (c0 :: .val (.int x) :: l) (.int x :: st) h Q := g_iload rfl rfl
theorem s71_15 : XE d 71 15 ls (.int x :: .ref a :: st) h Q ↔ XQ (h.2.2.1 a) x (fun v => XE d 71 16 ls (v :: st) h Q) := g_aald rfl
theorem s71_16 : XE d 71 16 (c0 :: c1 :: c2 :: l) (.ref a :: st) h Q ↔ XE d 71 17 (c0 :: c1 :: .val (.ref a) :: l) st h Q := g_astore (Nat.lt_of_lt_of_le (show 2 < 3 by decide) (Nat.le_add_left 3 _)) rfl rfl
theorem s71_16n : XE d 71 16 (c0 :: c1 :: c2 :: l) (.null :: st) h Q ↔ XE d 71 17 (c0 :: c1 :: .val .null :: l) st h Q := g_astoreN (Nat.lt_of_lt_of_le (show 2 < 3 by decide) (Nat.le_add_left 3 _)) rfl rfl
theorem s71_17 : XE d 71 17 (c0 :: c1 :: .val (.ref a) :: l) st h Q ↔ XE d 71 18 (c0 :: c1 :: .val (.ref a) :: l) (.ref a :: st) h Q := g_aload rfl rfl
theorem s71_17n : XE d 71 17 (c0 :: c1 :: .val .null :: l) st h Q ↔ XE d 71 18 (c0 :: c1 :: .val .null :: l) (.null :: st) h Q := g_aloadN rfl rfl
theorem s71_18 : XE d 71 18 ls (.ref a :: st) h Q ↔ XE d 71 26 ls st h Q := g_ifnonR rfl
theorem s71_18n : XE d 71 18 ls (.null :: st) h Q ↔ XE d 71 21 ls st h Q := g_ifnonN rfl
theorem s71_21 : XE d 71 21 ls st h Q ↔ XE d 71 23 ls (.int (-1000000005) :: st) h Q := g_const rfl
theorem s71_23 : XE d 71 23 ls st h Q ↔ XE d 71 32 ls st h Q := g_goto rfl
theorem s71_26 : XE d 71 26 (c0 :: c1 :: .val (.ref a) :: l) st h Q ↔ XE d 71 27 (c0 :: c1 :: .val (.ref a) :: l) (.ref a :: st) h Q := g_aload rfl rfl
theorem s71_26n : XE d 71 26 (c0 :: c1 :: .val .null :: l) st h Q ↔ XE d 71 27 (c0 :: c1 :: .val .null :: l) (.null :: st) h Q := g_aloadN rfl rfl
theorem s71_27 : XE d 71 27 (.val (.ref a) :: l) st h Q ↔ XE d 71 28 (.val (.ref a) :: l) (.ref a :: st) h Q := g_aload rfl rfl
theorem s71_28 : XE d 71 28 (c0 :: .val (.int x) :: l) st h Q ↔ XE d 71 29 (c0 :: .val (.int x) :: l) (.int x :: st) h Q := g_iload rfl rfl
theorem s71_29 : XE d 71 29 ls (.int x :: .ref b :: .ref a :: st) h Q ↔ (xvo 8 st = true ∧ XV [(0, 48), (1, 48), (2, 7), (3, 7), (4, 13), (9, 48)] (h.2.2.1 a) (fun m' => XC d m' [.ref a, .ref b, .int x] h (fun v h' => XE d 71 32 ls (v.toList ++ st) h' Q))) := h_v2 rfl rfl
theorem s71_32 : XE d 71 32 (c0 :: c1 :: c2 :: c3 :: l) (.int x :: st) h Q ↔ XE d 71 33 (c0 :: c1 :: c2 :: .val (.int x) :: l) st h Q := g_istore (Nat.lt_of_lt_of_le (show 3 < 4 by decide) (Nat.le_add_left 4 _)) rfl rfl
theorem s71_33 : XE d 71 33 (.val (.ref a) :: l) st h Q ↔ XE d 71 34 (.val (.ref a) :: l) (.ref a :: st) h Q := g_aload rfl rfl
theorem s71_34 : XE d 71 34 (c0 :: c1 :: c2 :: .val (.int x) :: l) st h Q ↔ XE d 71 35 (c0 :: c1 :: c2 :: .val (.int x) :: l) (.int x :: st) h Q := g_iload rfl rfl
theorem s71_35 : XE d 71 35 ls (.int x :: .ref a :: st) h Q ↔ (xvo 8 st = true ∧ XV [(10, 53)] (h.2.2.1 a) (fun m' => XC d m' [.ref a, .int x] h (fun v h' => XE d 71 38 ls (v.toList ++ st) h' Q))) := h_v1 rfl rfl
theorem s71_38 : XE d 71 38 ls (.int x :: st) h Q ↔ (if x = 0 then XE d 71 91 ls st h Q else XE d 71 41 ls st h Q) := g_ifeq rfl
theorem s71_41 : XE d 71 41 (.val (.ref a) :: l) st h Q ↔ XE d 71 42 (.val (.ref a) :: l) (.ref a :: st) h Q := g_aload rfl rfl
theorem s71_42 : XE d 71 42 ls (.ref a :: st) h Q ↔ (xvo 8 st = true ∧ XV [(10, 58)] (h.2.2.1 a) (fun m' => XC d m' [.ref a] h (fun v h' => XE d 71 45 ls (v.toList ++ st) h' Q))) := h_v0 rfl
theorem s71_45 : XE d 71 45 ls st h Q ↔ XE d 71 48 ls (.int 10000 :: st) h Q := g_const rfl
theorem s71_48 : XE d 71 48 ls (.int y :: .int x :: st) h Q ↔ (y ≠ 0 ∧ XE d 71 49 ls (.int (x % y) :: st) h Q) := g_rem rfl
theorem s71_49 : XE d 71 49 (.val (.ref a) :: l) st h Q ↔ XE d 71 50 (.val (.ref a) :: l) (.ref a :: st) h Q := g_aload rfl rfl
theorem s71_50 : XE d 71 50 ls (.ref a :: st) h Q ↔ XG [10] 18 (h.2.2.1 a) (fun v => XE d 71 53 ls (v :: st) h Q) := g_getf rfl
theorem s71_53 : XE d 71 53 (c0 :: .val (.int x) :: l) st h Q ↔ XE d 71 54 (c0 :: .val (.int x) :: l) (.int x :: st) h Q := g_iload rfl rfl
theorem s71_54 : XE d 71 54 ls st h Q ↔ XE d 71 56 ls (.int 12 :: st) h Q := g_const rfl
theorem s71_56 : XE d 71 56 ls (.int y :: .int x :: st) h Q ↔ XE d 71 57 ls (.int (x * y) :: st) h Q := g_mul rfl
theorem s71_57 : XE d 71 57 (c0 :: c1 :: c2 :: .val (.int x) :: l) st h Q ↔ XE d 71 58 (c0 :: c1 :: c2 :: .val (.int x) :: l) (.int x :: st) h Q := g_iload rfl rfl
theorem s71_58 : XE d 71 58 ls (.int y :: .int x :: st) h Q ↔ XE d 71 59 ls (.int (x + y) :: st) h Q := g_add rfl
theorem s71_59 : XE d 71 59 ls (.int x :: .ref a :: st) h Q ↔ XA [0, 7] (h.2.2.1 a) x (fun k => XE d 71 60 ls (.int k :: st) h Q) := g_ald rfl
theorem s71_60 : XE d 71 60 ls (.int y :: .int x :: st) h Q ↔ (if x < y then XE d 71 63 ls st h Q else XE d 71 81 ls st h Q) := g_cge rfl
theorem s71_63 : XE d 71 63 (.val (.ref a) :: l) st h Q ↔ XE d 71 64 (.val (.ref a) :: l) (.ref a :: st) h Q := g_aload rfl rfl
theorem s71_64 : XE d 71 64 ls (.int x :: st) h Q ↔ XE d 71 65 ls (.int x :: .int x :: st) h Q := g_dupI rfl
theorem s71_64r : XE d 71 64 ls (.ref a :: st) h Q ↔ XE d 71 65 ls (.ref a :: .ref a :: st) h Q := g_dupR rfl
theorem s71_65 : XE d 71 65 ls (.ref a :: st) h Q ↔ XG [10] 5 (h.2.2.1 a) (fun v => XE d 71 68 ls (v :: st) h Q) := g_getf rfl
theorem s71_68 : XE d 71 68 (.val (.ref a) :: l) st h Q ↔ XE d 71 69 (.val (.ref a) :: l) (.ref a :: st) h Q := g_aload rfl rfl
theorem s71_69 : XE d 71 69 ls (.ref a :: st) h Q ↔ XG [10] 12 (h.2.2.1 a) (fun v => XE d 71 72 ls (v :: st) h Q) := g_getf rfl
theorem s71_72 : XE d 71 72 (c0 :: c1 :: c2 :: .val (.int x) :: l) st h Q ↔ XE d 71 73 (c0 :: c1 :: c2 :: .val (.int x) :: l) (.int x :: st) h Q := g_iload rfl rfl
theorem s71_73 : XE d 71 73 ls (.int x :: .ref a :: st) h Q ↔ XA [0, 7] (h.2.2.1 a) x (fun k => XE d 71 74 ls (.int k :: st) h Q) := g_ald rfl
theorem s71_74 : XE d 71 74 ls (.int y :: .int x :: st) h Q ↔ XE d 71 75 ls (.int (x + y) :: st) h Q := g_add rfl
theorem s71_75 : XE d 71 75 ls (.int x :: .ref a :: st) h Q ↔ XP [10] 5 (.int x) (h.2.2.1 a) (fun e => XE d 71 78 ls st (xset h a e) Q) := g_puti rfl
theorem s71_78 : XE d 71 78 ls st h Q ↔ XE d 71 91 ls st h Q := g_goto rfl
theorem s71_81 : XE d 71 81 (.val (.ref a) :: l) st h Q ↔ XE d 71 82 (.val (.ref a) :: l) (.ref a :: st) h Q := g_aload rfl rfl
theorem s71_82 : XE d 71 82 ls (.int x :: st) h Q ↔ XE d 71 83 ls (.int x :: .int x :: st) h Q := g_dupI rfl
theorem s71_82r : XE d 71 82 ls (.ref a :: st) h Q ↔ XE d 71 83 ls (.ref a :: .ref a :: st) h Q := g_dupR rfl
theorem s71_83 : XE d 71 83 ls (.ref a :: st) h Q ↔ XG [10] 6 (h.2.2.1 a) (fun v => XE d 71 86 ls (v :: st) h Q) := g_getf rfl
theorem s71_86 : XE d 71 86 ls st h Q ↔ XE d 71 87 ls (.int 1 :: st) h Q := g_const rfl
theorem s71_87 : XE d 71 87 ls (.int y :: .int x :: st) h Q ↔ XE d 71 88 ls (.int (x + y) :: st) h Q := g_add rfl
theorem s71_88 : XE d 71 88 ls (.int x :: .ref a :: st) h Q ↔ XP [10] 6 (.int x) (h.2.2.1 a) (fun e => XE d 71 91 ls st (xset h a e) Q) := g_puti rfl
theorem s71_91 : XE d 71 91 (c0 :: .val (.int x) :: l) st h Q ↔ XE d 71 94 (c0 :: .val (.int (x + 1)) :: l) st h Q := g_iinc rfl rfl rfl
theorem s71_94 : XE d 71 94 ls st h Q ↔ XE d 71 2 ls st h Q := g_goto rfl
theorem s71_97 : XE d 71 97 ls [] h Q ↔ Q none h := g_ret rfl
-- 72: TwoBells$Town.wouldBeLawful(III)Z
theorem e72 : XC (d + 1) 72 [.ref a, .int x, .int y, .int z] h Q ↔ XE d 72 0 [.val (.ref a), .val (.int x), .val (.int y), .val (.int z), .unset, .unset] [] h Q := XC_in rfl
theorem s72_0 : XE d 72 0 (.val (.ref a) :: l) st h Q ↔ XE d 72 1 (.val (.ref a) :: l) (.ref a :: st) h Q := g_aload rfl rfl
theorem s72_1 : XE d 72 1 (c0 :: .val (.int x) :: l) st h Q ↔ XE d 72 2 (c0 :: .val (.int x) :: l) (.int x :: st) h Q := g_iload rfl rfl
theorem s72_2 : XE d 72 2 ls (.int x :: .ref a :: st) h Q ↔ (xvo 8 st = true ∧ XV [(10, 53)] (h.2.2.1 a) (fun m' => XC d m' [.ref a, .int x] h (fun v h' => XE d 72 5 ls (v.toList ++ st) h' Q))) := h_v1 rfl rfl
theorem s72_5 : XE d 72 5 ls (.int x :: st) h Q ↔ (if x = 0 then XE d 72 29 ls st h Q else XE d 72 8 ls st h Q) := g_ifeq rfl
theorem s72_8 : XE d 72 8 (.val (.ref a) :: l) st h Q ↔ XE d 72 9 (.val (.ref a) :: l) (.ref a :: st) h Q := g_aload rfl rfl
theorem s72_9 : XE d 72 9 (c0 :: c1 :: .val (.int x) :: l) st h Q ↔ XE d 72 10 (c0 :: c1 :: .val (.int x) :: l) (.int x :: st) h Q := g_iload rfl rfl
theorem s72_10 : XE d 72 10 ls (.int x :: .ref a :: st) h Q ↔ (xvo 8 st = true ∧ XV [(10, 52)] (h.2.2.1 a) (fun m' => XC d m' [.ref a, .int x] h (fun v h' => XE d 72 13 ls (v.toList ++ st) h' Q))) := h_v1 rfl rfl
theorem s72_13 : XE d 72 13 ls (.int x :: st) h Q ↔ (if x = 0 then XE d 72 29 ls st h Q else XE d 72 16 ls st h Q) := g_ifeq rfl
theorem s72_16 : XE d 72 16 (.val (.ref a) :: l) st h Q ↔ XE d 72 17 (.val (.ref a) :: l) (.ref a :: st) h Q := g_aload rfl rfl
theorem s72_17 : XE d 72 17 (c0 :: c1 :: c2 :: .val (.int x) :: l) st h Q ↔ XE d 72 18 (c0 :: c1 :: c2 :: .val (.int x) :: l) (.int x :: st) h Q := g_iload rfl rfl
theorem s72_18 : XE d 72 18 ls (.int x :: .ref a :: st) h Q ↔ (xvo 8 st = true ∧ XV [(10, 52)] (h.2.2.1 a) (fun m' => XC d m' [.ref a, .int x] h (fun v h' => XE d 72 21 ls (v.toList ++ st) h' Q))) := h_v1 rfl rfl
theorem s72_21 : XE d 72 21 ls (.int x :: st) h Q ↔ (if x = 0 then XE d 72 29 ls st h Q else XE d 72 24 ls st h Q) := g_ifeq rfl
theorem s72_24 : XE d 72 24 (c0 :: c1 :: .val (.int x) :: l) st h Q ↔ XE d 72 25 (c0 :: c1 :: .val (.int x) :: l) (.int x :: st) h Q := g_iload rfl rfl
theorem s72_25 : XE d 72 25 (c0 :: c1 :: c2 :: .val (.int x) :: l) st h Q ↔ XE d 72 26 (c0 :: c1 :: c2 :: .val (.int x) :: l) (.int x :: st) h Q := g_iload rfl rfl
theorem s72_26 : XE d 72 26 ls (.int y :: .int x :: st) h Q ↔ (if x = y then XE d 72 29 ls st h Q else XE d 72 31 ls st h Q) := g_cne rfl
theorem s72_29 : XE d 72 29 ls st h Q ↔ XE d 72 30 ls (.int 0 :: st) h Q := g_const rfl
theorem s72_30 : XE d 72 30 ls [.int 0] h Q ↔ Q (some (.int 0)) h := g_zret rfl rfl
theorem s72_30t : XE d 72 30 ls [.int 1] h Q ↔ Q (some (.int 1)) h := g_zret rfl rfl
theorem s72_30b : XE d 72 30 ls [.int (bI q)] h Q ↔ Q (some (.int (bI q))) h := g_zret (bI_nar q) rfl
theorem s72_31 : XE d 72 31 (.val (.ref a) :: l) st h Q ↔ XE d 72 32 (.val (.ref a) :: l) (.ref a :: st) h Q := g_aload rfl rfl
theorem s72_32 : XE d 72 32 ls (.ref a :: st) h Q ↔ XG [10] 11 (h.2.2.1 a) (fun v => XE d 72 35 ls (v :: st) h Q) := g_getf rfl
theorem s72_35 : XE d 72 35 (c0 :: .val (.int x) :: l) st h Q ↔ XE d 72 36 (c0 :: .val (.int x) :: l) (.int x :: st) h Q := g_iload rfl rfl
theorem s72_36 : XE d 72 36 ls (.int x :: .ref a :: st) h Q ↔ XA [0, 7] (h.2.2.1 a) x (fun k => XE d 72 37 ls (.int k :: st) h Q) := g_ald rfl
theorem s72_37 : XE d 72 37 (c0 :: c1 :: c2 :: c3 :: c4 :: l) (.int x :: st) h Q ↔ XE d 72 39 (c0 :: c1 :: c2 :: c3 :: .val (.int x) :: l) st h Q := g_istore (Nat.lt_of_lt_of_le (show 4 < 5 by decide) (Nat.le_add_left 5 _)) rfl rfl
theorem s72_39 : XE d 72 39 (c0 :: c1 :: .val (.int x) :: l) st h Q ↔ XE d 72 40 (c0 :: c1 :: .val (.int x) :: l) (.int x :: st) h Q := g_iload rfl rfl
theorem s72_40 : XE d 72 40 (c0 :: c1 :: c2 :: c3 :: .val (.int x) :: l) st h Q ↔ XE d 72 42 (c0 :: c1 :: c2 :: c3 :: .val (.int x) :: l) (.int x :: st) h Q := g_iload rfl rfl
theorem s72_42 : XE d 72 42 ls (.int y :: .int x :: st) h Q ↔ (if x = y then XE d 72 60 ls st h Q else XE d 72 45 ls st h Q) := g_ceq rfl
theorem s72_45 : XE d 72 45 (c0 :: c1 :: c2 :: .val (.int x) :: l) st h Q ↔ XE d 72 46 (c0 :: c1 :: c2 :: .val (.int x) :: l) (.int x :: st) h Q := g_iload rfl rfl
theorem s72_46 : XE d 72 46 (c0 :: c1 :: c2 :: c3 :: .val (.int x) :: l) st h Q ↔ XE d 72 48 (c0 :: c1 :: c2 :: c3 :: .val (.int x) :: l) (.int x :: st) h Q := g_iload rfl rfl
theorem s72_48 : XE d 72 48 ls (.int y :: .int x :: st) h Q ↔ (if x = y then XE d 72 60 ls st h Q else XE d 72 51 ls st h Q) := g_ceq rfl
theorem s72_51 : XE d 72 51 (.val (.ref a) :: l) st h Q ↔ XE d 72 52 (.val (.ref a) :: l) (.ref a :: st) h Q := g_aload rfl rfl
theorem s72_52 : XE d 72 52 (c0 :: c1 :: .val (.int x) :: l) st h Q ↔ XE d 72 53 (c0 :: c1 :: .val (.int x) :: l) (.int x :: st) h Q := g_iload rfl rfl
theorem s72_53 : XE d 72 53 (c0 :: c1 :: c2 :: .val (.int x) :: l) st h Q ↔ XE d 72 54 (c0 :: c1 :: c2 :: .val (.int x) :: l) (.int x :: st) h Q := g_iload rfl rfl
theorem s72_54 : XE d 72 54 ls (.int y :: .int x :: .ref a :: st) h Q ↔ (xvo 8 st = true ∧ XV [(10, 59)] (h.2.2.1 a) (fun m' => XC d m' [.ref a, .int x, .int y] h (fun v h' => XE d 72 57 ls (v.toList ++ st) h' Q))) := h_v2 rfl rfl
theorem s72_57 : XE d 72 57 ls (.int x :: st) h Q ↔ (if x = 0 then XE d 72 62 ls st h Q else XE d 72 60 ls st h Q) := g_ifeq rfl
theorem s72_60 : XE d 72 60 ls st h Q ↔ XE d 72 61 ls (.int 0 :: st) h Q := g_const rfl
theorem s72_61 : XE d 72 61 ls [.int 0] h Q ↔ Q (some (.int 0)) h := g_zret rfl rfl
theorem s72_61t : XE d 72 61 ls [.int 1] h Q ↔ Q (some (.int 1)) h := g_zret rfl rfl
theorem s72_61b : XE d 72 61 ls [.int (bI q)] h Q ↔ Q (some (.int (bI q))) h := g_zret (bI_nar q) rfl
theorem s72_62 : XE d 72 62 (.val (.ref a) :: l) st h Q ↔ XE d 72 63 (.val (.ref a) :: l) (.ref a :: st) h Q := g_aload rfl rfl
theorem s72_63 : XE d 72 63 (.val (.ref a) :: l) st h Q ↔ XE d 72 64 (.val (.ref a) :: l) (.ref a :: st) h Q := g_aload rfl rfl
theorem s72_64 : XE d 72 64 ls st h Q ↔ XE d 72 65 ls (.int 2 :: st) h Q := g_const rfl
theorem s72_65 : XE d 72 65 ls (.int x :: .ref a :: st) h Q ↔ (xvo 8 st = true ∧ XV [(10, 63)] (h.2.2.1 a) (fun m' => XC d m' [.ref a, .int x] h (fun v h' => XE d 72 68 ls (v.toList ++ st) h' Q))) := h_v1 rfl rfl
theorem s72_68 : XE d 72 68 ls (.int x :: .ref a :: st) h Q ↔ (xvo 8 st = true ∧ XV [(10, 55)] (h.2.2.1 a) (fun m' => XC d m' [.ref a, .int x] h (fun v h' => XE d 72 71 ls (v.toList ++ st) h' Q))) := h_v1 rfl rfl
theorem s72_71 : XE d 72 71 (c0 :: c1 :: c2 :: c3 :: c4 :: c5 :: l) (.ref a :: st) h Q ↔ XE d 72 73 (c0 :: c1 :: c2 :: c3 :: c4 :: .val (.ref a) :: l) st h Q := g_astore (Nat.lt_of_lt_of_le (show 5 < 6 by decide) (Nat.le_add_left 6 _)) rfl rfl
theorem s72_71n : XE d 72 71 (c0 :: c1 :: c2 :: c3 :: c4 :: c5 :: l) (.null :: st) h Q ↔ XE d 72 73 (c0 :: c1 :: c2 :: c3 :: c4 :: .val .null :: l) st h Q := g_astoreN (Nat.lt_of_lt_of_le (show 5 < 6 by decide) (Nat.le_add_left 6 _)) rfl rfl
theorem s72_73 : XE d 72 73 (c0 :: c1 :: c2 :: c3 :: c4 :: .val (.ref a) :: l) st h Q ↔ XE d 72 75 (c0 :: c1 :: c2 :: c3 :: c4 :: .val (.ref a) :: l) (.ref a :: st) h Q := g_aload rfl rfl
theorem s72_73n : XE d 72 73 (c0 :: c1 :: c2 :: c3 :: c4 :: .val .null :: l) st h Q ↔ XE d 72 75 (c0 :: c1 :: c2 :: c3 :: c4 :: .val .null :: l) (.null :: st) h Q := g_aloadN rfl rfl
theorem s72_75 : XE d 72 75 ls (.ref a :: st) h Q ↔ XE d 72 78 ls st h Q := g_ifnullR rfl
theorem s72_75n : XE d 72 75 ls (.null :: st) h Q ↔ XE d 72 99 ls st h Q := g_ifnullN rfl
theorem s72_78 : XE d 72 78 (c0 :: c1 :: c2 :: c3 :: c4 :: .val (.ref a) :: l) st h Q ↔ XE d 72 80 (c0 :: c1 :: c2 :: c3 :: c4 :: .val (.ref a) :: l) (.ref a :: st) h Q := g_aload rfl rfl
theorem s72_78n : XE d 72 78 (c0 :: c1 :: c2 :: c3 :: c4 :: .val .null :: l) st h Q ↔ XE d 72 80 (c0 :: c1 :: c2 :: c3 :: c4 :: .val .null :: l) (.null :: st) h Q := g_aloadN rfl rfl
theorem s72_80 : XE d 72 80 (c0 :: c1 :: .val (.int x) :: l) st h Q ↔ XE d 72 81 (c0 :: c1 :: .val (.int x) :: l) (.int x :: st) h Q := g_iload rfl rfl
theorem s72_81 : XE d 72 81 (c0 :: c1 :: c2 :: .val (.int x) :: l) st h Q ↔ XE d 72 82 (c0 :: c1 :: c2 :: .val (.int x) :: l) (.int x :: st) h Q := g_iload rfl rfl
theorem s72_82 : XE d 72 82 ls (.int y :: .int x :: st) h Q ↔ (xvo 8 st = true ∧ XE d 72 85 ls (.int (if y < x then y else x) :: st) h Q) := h_min rfl
theorem s72_85 : XE d 72 85 (c0 :: c1 :: .val (.int x) :: l) st h Q ↔ XE d 72 86 (c0 :: c1 :: .val (.int x) :: l) (.int x :: st) h Q := g_iload rfl rfl
theorem s72_86 : XE d 72 86 (c0 :: c1 :: c2 :: .val (.int x) :: l) st h Q ↔ XE d 72 87 (c0 :: c1 :: c2 :: .val (.int x) :: l) (.int x :: st) h Q := g_iload rfl rfl
theorem s72_87 : XE d 72 87 ls (.int y :: .int x :: st) h Q ↔ (xvo 8 st = true ∧ XE d 72 90 ls (.int (if x < y then y else x) :: st) h Q) := h_max rfl
theorem s72_90 : XE d 72 90 (c0 :: c1 :: c2 :: c3 :: .val (.int x) :: l) st h Q ↔ XE d 72 92 (c0 :: c1 :: c2 :: c3 :: .val (.int x) :: l) (.int x :: st) h Q := g_iload rfl rfl
theorem s72_92 : XE d 72 92 ls st h Q ↔ XE d 72 93 ls (.int 0 :: st) h Q := g_const rfl
theorem s72_93 : XE d 72 93 ls (.int w :: .int z :: .int y :: .int x :: .ref a :: st) h Q ↔ (xvo 8 st = true ∧ XV [(8, 41)] (h.2.2.1 a) (fun m' => XC d m' [.ref a, .int x, .int y, .int z, .int w] h (fun v h' => XE d 72 96 ls (v.toList ++ st) h' Q))) := h_v4 rfl rfl
theorem s72_96 : XE d 72 96 ls (.int x :: st) h Q ↔ (if x = 0 then XE d 72 103 ls st h Q else XE d 72 99 ls st h Q) := g_ifeq rfl
theorem s72_99 : XE d 72 99 ls st h Q ↔ XE d 72 100 ls (.int 1 :: st) h Q := g_const rfl
theorem s72_100 : XE d 72 100 ls st h Q ↔ XE d 72 104 ls st h Q := g_goto rfl
theorem s72_103 : XE d 72 103 ls st h Q ↔ XE d 72 104 ls (.int 0 :: st) h Q := g_const rfl
theorem s72_104 : XE d 72 104 ls [.int 0] h Q ↔ Q (some (.int 0)) h := g_zret rfl rfl
theorem s72_104t : XE d 72 104 ls [.int 1] h Q ↔ Q (some (.int 1)) h := g_zret rfl rfl
theorem s72_104b : XE d 72 104 ls [.int (bI q)] h Q ↔ Q (some (.int (bI q))) h := g_zret (bI_nar q) rfl
-- 73: TwoBells$Town.isLawful(I)Z
theorem e73 : XC (d + 1) 73 [.ref a, .int x] h Q ↔ XE d 73 0 [.val (.ref a), .val (.int x)] [] h Q := XC_in rfl
theorem s73_0 : XE d 73 0 (.val (.ref a) :: l) st h Q ↔ XE d 73 1 (.val (.ref a) :: l) (.ref a :: st) h Q := g_aload rfl rfl
theorem s73_1 : XE d 73 1 (c0 :: .val (.int x) :: l) st h Q ↔ XE d 73 2 (c0 :: .val (.int x) :: l) (.int x :: st) h Q := g_iload rfl rfl
theorem s73_2 : XE d 73 2 ls (.int x :: .ref a :: st) h Q ↔ (xvo 8 st = true ∧ XV [(10, 53)] (h.2.2.1 a) (fun m' => XC d m' [.ref a, .int x] h (fun v h' => XE d 73 5 ls (v.toList ++ st) h' Q))) := h_v1 rfl rfl
theorem s73_5 : XE d 73 5 ls (.int x :: st) h Q ↔ (if x = 0 then XE d 73 38 ls st h Q else XE d 73 8 ls st h Q) := g_ifeq rfl
theorem s73_8 : XE d 73 8 (.val (.ref a) :: l) st h Q ↔ XE d 73 9 (.val (.ref a) :: l) (.ref a :: st) h Q := g_aload rfl rfl
theorem s73_9 : XE d 73 9 (c0 :: .val (.int x) :: l) st h Q ↔ XE d 73 10 (c0 :: .val (.int x) :: l) (.int x :: st) h Q := g_iload rfl rfl
theorem s73_10 : XE d 73 10 (.val (.ref a) :: l) st h Q ↔ XE d 73 11 (.val (.ref a) :: l) (.ref a :: st) h Q := g_aload rfl rfl
theorem s73_11 : XE d 73 11 ls (.ref a :: st) h Q ↔ XG [10] 14 (h.2.2.1 a) (fun v => XE d 73 14 ls (v :: st) h Q) := g_getf rfl
theorem s73_14 : XE d 73 14 ls st h Q ↔ XE d 73 15 ls (.int 2 :: st) h Q := g_const rfl
theorem s73_15 : XE d 73 15 (c0 :: .val (.int x) :: l) st h Q ↔ XE d 73 16 (c0 :: .val (.int x) :: l) (.int x :: st) h Q := g_iload rfl rfl
theorem s73_16 : XE d 73 16 ls (.int y :: .int x :: st) h Q ↔ XE d 73 17 ls (.int (x * y) :: st) h Q := g_mul rfl
theorem s73_17 : XE d 73 17 ls (.int x :: .ref a :: st) h Q ↔ XA [0, 7] (h.2.2.1 a) x (fun k => XE d 73 18 ls (.int k :: st) h Q) := g_ald rfl
theorem s73_18 : XE d 73 18 (.val (.ref a) :: l) st h Q ↔ XE d 73 19 (.val (.ref a) :: l) (.ref a :: st) h Q := g_aload rfl rfl
theorem s73_19 : XE d 73 19 ls (.ref a :: st) h Q ↔ XG [10] 14 (h.2.2.1 a) (fun v => XE d 73 22 ls (v :: st) h Q) := g_getf rfl
theorem s73_22 : XE d 73 22 ls st h Q ↔ XE d 73 23 ls (.int 2 :: st) h Q := g_const rfl
theorem s73_23 : XE d 73 23 (c0 :: .val (.int x) :: l) st h Q ↔ XE d 73 24 (c0 :: .val (.int x) :: l) (.int x :: st) h Q := g_iload rfl rfl
theorem s73_24 : XE d 73 24 ls (.int y :: .int x :: st) h Q ↔ XE d 73 25 ls (.int (x * y) :: st) h Q := g_mul rfl
theorem s73_25 : XE d 73 25 ls st h Q ↔ XE d 73 26 ls (.int 1 :: st) h Q := g_const rfl
theorem s73_26 : XE d 73 26 ls (.int y :: .int x :: st) h Q ↔ XE d 73 27 ls (.int (x + y) :: st) h Q := g_add rfl
theorem s73_27 : XE d 73 27 ls (.int x :: .ref a :: st) h Q ↔ XA [0, 7] (h.2.2.1 a) x (fun k => XE d 73 28 ls (.int k :: st) h Q) := g_ald rfl
theorem s73_28 : XE d 73 28 ls (.int z :: .int y :: .int x :: .ref a :: st) h Q ↔ (xvo 8 st = true ∧ XV [(10, 72)] (h.2.2.1 a) (fun m' => XC d m' [.ref a, .int x, .int y, .int z] h (fun v h' => XE d 73 31 ls (v.toList ++ st) h' Q))) := h_v3 rfl rfl
theorem s73_31 : XE d 73 31 ls (.int x :: st) h Q ↔ (if x = 0 then XE d 73 38 ls st h Q else XE d 73 34 ls st h Q) := g_ifeq rfl
theorem s73_34 : XE d 73 34 ls st h Q ↔ XE d 73 35 ls (.int 1 :: st) h Q := g_const rfl
theorem s73_35 : XE d 73 35 ls st h Q ↔ XE d 73 39 ls st h Q := g_goto rfl
theorem s73_38 : XE d 73 38 ls st h Q ↔ XE d 73 39 ls (.int 0 :: st) h Q := g_const rfl
theorem s73_39 : XE d 73 39 ls [.int 0] h Q ↔ Q (some (.int 0)) h := g_zret rfl rfl
theorem s73_39t : XE d 73 39 ls [.int 1] h Q ↔ Q (some (.int 1)) h := g_zret rfl rfl
theorem s73_39b : XE d 73 39 ls [.int (bI q)] h Q ↔ Q (some (.int (bI q))) h := g_zret (bI_nar q) rfl
-- 74: TwoBells$Town.howManyUnlawful()I
theorem e74 : XC (d + 1) 74 [.ref a] h Q ↔ XE d 74 0 [.val (.ref a), .unset, .unset] [] h Q := XC_in rfl
theorem s74_0 : XE d 74 0 ls st h Q ↔ XE d 74 1 ls (.int 0 :: st) h Q := g_const rfl
theorem s74_1 : XE d 74 1 (c0 :: c1 :: l) (.int x :: st) h Q ↔ XE d 74 2 (c0 :: .val (.int x) :: l) st h Q := g_istore (Nat.lt_of_lt_of_le (show 1 < 2 by decide) (Nat.le_add_left 2 _)) rfl rfl
theorem s74_2 : XE d 74 2 ls st h Q ↔ XE d 74 3 ls (.int 0 :: st) h Q := g_const rfl
theorem s74_3 : XE d 74 3 (c0 :: c1 :: c2 :: l) (.int x :: st) h Q ↔ XE d 74 4 (c0 :: c1 :: .val (.int x) :: l) st h Q := g_istore (Nat.lt_of_lt_of_le (show 2 < 3 by decide) (Nat.le_add_left 3 _)) rfl rfl
theorem s74_4 : XE d 74 4 (c0 :: c1 :: .val (.int x) :: l) st h Q ↔ XE d 74 5 (c0 :: c1 :: .val (.int x) :: l) (.int x :: st) h Q := g_iload rfl rfl
theorem s74_5 : XE d 74 5 (.val (.ref a) :: l) st h Q ↔ XE d 74 6 (.val (.ref a) :: l) (.ref a :: st) h Q := g_aload rfl rfl
theorem s74_6 : XE d 74 6 ls (.ref a :: st) h Q ↔ XG [10] 1 (h.2.2.1 a) (fun v => XE d 74 9 ls (v :: st) h Q) := g_getf rfl
theorem s74_9 : XE d 74 9 ls (.int y :: .int x :: st) h Q ↔ (if x < y then XE d 74 12 ls st h Q else XE d 74 29 ls st h Q) := g_cge rfl
theorem s74_12 : XE d 74 12 (.val (.ref a) :: l) st h Q ↔ XE d 74 13 (.val (.ref a) :: l) (.ref a :: st) h Q := g_aload rfl rfl
theorem s74_13 : XE d 74 13 (c0 :: c1 :: .val (.int x) :: l) st h Q ↔ XE d 74 14 (c0 :: c1 :: .val (.int x) :: l) (.int x :: st) h Q := g_iload rfl rfl
theorem s74_14 : XE d 74 14 ls (.int x :: .ref a :: st) h Q ↔ (xvo 8 st = true ∧ XV [(10, 73)] (h.2.2.1 a) (fun m' => XC d m' [.ref a, .int x] h (fun v h' => XE d 74 17 ls (v.toList ++ st) h' Q))) := h_v1 rfl rfl
theorem s74_17 : XE d 74 17 ls (.int x :: st) h Q ↔ (if x = 0 then XE d 74 20 ls st h Q else XE d 74 23 ls st h Q) := g_ifne rfl
theorem s74_20 : XE d 74 20 (c0 :: .val (.int x) :: l) st h Q ↔ XE d 74 23 (c0 :: .val (.int (x + 1)) :: l) st h Q := g_iinc rfl rfl rfl
theorem s74_23 : XE d 74 23 (c0 :: c1 :: .val (.int x) :: l) st h Q ↔ XE d 74 26 (c0 :: c1 :: .val (.int (x + 1)) :: l) st h Q := g_iinc rfl rfl rfl
theorem s74_26 : XE d 74 26 ls st h Q ↔ XE d 74 4 ls st h Q := g_goto rfl
theorem s74_29 : XE d 74 29 (c0 :: .val (.int x) :: l) st h Q ↔ XE d 74 30 (c0 :: .val (.int x) :: l) (.int x :: st) h Q := g_iload rfl rfl
theorem s74_30 : XE d 74 30 ls [.int x] h Q ↔ Q (some (.int x)) h := g_iret rfl
-- 75: TwoBells$Town.firstUnlawful()I
theorem e75 : XC (d + 1) 75 [.ref a] h Q ↔ XE d 75 0 [.val (.ref a), .unset] [] h Q := XC_in rfl
theorem s75_0 : XE d 75 0 ls st h Q ↔ XE d 75 1 ls (.int 0 :: st) h Q := g_const rfl
theorem s75_1 : XE d 75 1 (c0 :: c1 :: l) (.int x :: st) h Q ↔ XE d 75 2 (c0 :: .val (.int x) :: l) st h Q := g_istore (Nat.lt_of_lt_of_le (show 1 < 2 by decide) (Nat.le_add_left 2 _)) rfl rfl
theorem s75_2 : XE d 75 2 (c0 :: .val (.int x) :: l) st h Q ↔ XE d 75 3 (c0 :: .val (.int x) :: l) (.int x :: st) h Q := g_iload rfl rfl
theorem s75_3 : XE d 75 3 (.val (.ref a) :: l) st h Q ↔ XE d 75 4 (.val (.ref a) :: l) (.ref a :: st) h Q := g_aload rfl rfl
theorem s75_4 : XE d 75 4 ls (.ref a :: st) h Q ↔ XG [10] 1 (h.2.2.1 a) (fun v => XE d 75 7 ls (v :: st) h Q) := g_getf rfl
theorem s75_7 : XE d 75 7 ls (.int y :: .int x :: st) h Q ↔ (if x < y then XE d 75 10 ls st h Q else XE d 75 26 ls st h Q) := g_cge rfl
theorem s75_10 : XE d 75 10 (.val (.ref a) :: l) st h Q ↔ XE d 75 11 (.val (.ref a) :: l) (.ref a :: st) h Q := g_aload rfl rfl
theorem s75_11 : XE d 75 11 (c0 :: .val (.int x) :: l) st h Q ↔ XE d 75 12 (c0 :: .val (.int x) :: l) (.int x :: st) h Q := g_iload rfl rfl
theorem s75_12 : XE d 75 12 ls (.int x :: .ref a :: st) h Q ↔ (xvo 8 st = true ∧ XV [(10, 73)] (h.2.2.1 a) (fun m' => XC d m' [.ref a, .int x] h (fun v h' => XE d 75 15 ls (v.toList ++ st) h' Q))) := h_v1 rfl rfl
theorem s75_15 : XE d 75 15 ls (.int x :: st) h Q ↔ (if x = 0 then XE d 75 18 ls st h Q else XE d 75 20 ls st h Q) := g_ifne rfl
theorem s75_18 : XE d 75 18 (c0 :: .val (.int x) :: l) st h Q ↔ XE d 75 19 (c0 :: .val (.int x) :: l) (.int x :: st) h Q := g_iload rfl rfl
theorem s75_19 : XE d 75 19 ls [.int x] h Q ↔ Q (some (.int x)) h := g_iret rfl
theorem s75_20 : XE d 75 20 (c0 :: .val (.int x) :: l) st h Q ↔ XE d 75 23 (c0 :: .val (.int (x + 1)) :: l) st h Q := g_iinc rfl rfl rfl
theorem s75_23 : XE d 75 23 ls st h Q ↔ XE d 75 2 ls st h Q := g_goto rfl
theorem s75_26 : XE d 75 26 ls st h Q ↔ XE d 75 28 ls (.int (-1000000005) :: st) h Q := g_const rfl
theorem s75_28 : XE d 75 28 ls [.int x] h Q ↔ Q (some (.int x)) h := g_iret rfl
-- 76: TwoBells$Town.bestPair(I)I
theorem e76 : XC (d + 1) 76 [.ref a, .int x] h Q ↔ XE d 76 0 [.val (.ref a), .val (.int x), .unset, .unset, .unset, .unset, .unset] [] h Q := XC_in rfl
theorem s76_0 : XE d 76 0 ls st h Q ↔ XE d 76 2 ls (.int (-1000000005) :: st) h Q := g_const rfl
theorem s76_2 : XE d 76 2 (c0 :: c1 :: c2 :: l) (.int x :: st) h Q ↔ XE d 76 3 (c0 :: c1 :: .val (.int x) :: l) st h Q := g_istore (Nat.lt_of_lt_of_le (show 2 < 3 by decide) (Nat.le_add_left 3 _)) rfl rfl
theorem s76_3 : XE d 76 3 ls st h Q ↔ XE d 76 4 ls (.int 0 :: st) h Q := g_const rfl
theorem s76_4 : XE d 76 4 (c0 :: c1 :: c2 :: c3 :: l) (.int x :: st) h Q ↔ XE d 76 5 (c0 :: c1 :: c2 :: .val (.int x) :: l) st h Q := g_istore (Nat.lt_of_lt_of_le (show 3 < 4 by decide) (Nat.le_add_left 4 _)) rfl rfl
theorem s76_5 : XE d 76 5 ls st h Q ↔ XE d 76 6 ls (.int 0 :: st) h Q := g_const rfl
theorem s76_6 : XE d 76 6 (c0 :: c1 :: c2 :: c3 :: c4 :: l) (.int x :: st) h Q ↔ XE d 76 8 (c0 :: c1 :: c2 :: c3 :: .val (.int x) :: l) st h Q := g_istore (Nat.lt_of_lt_of_le (show 4 < 5 by decide) (Nat.le_add_left 5 _)) rfl rfl
theorem s76_8 : XE d 76 8 (c0 :: c1 :: c2 :: c3 :: .val (.int x) :: l) st h Q ↔ XE d 76 10 (c0 :: c1 :: c2 :: c3 :: .val (.int x) :: l) (.int x :: st) h Q := g_iload rfl rfl
theorem s76_10 : XE d 76 10 (.val (.ref a) :: l) st h Q ↔ XE d 76 11 (.val (.ref a) :: l) (.ref a :: st) h Q := g_aload rfl rfl
theorem s76_11 : XE d 76 11 ls (.ref a :: st) h Q ↔ XG [10] 0 (h.2.2.1 a) (fun v => XE d 76 14 ls (v :: st) h Q) := g_getf rfl
theorem s76_14 : XE d 76 14 ls (.int y :: .int x :: st) h Q ↔ (if x < y then XE d 76 17 ls st h Q else XE d 76 97 ls st h Q) := g_cge rfl
theorem s76_17 : XE d 76 17 (c0 :: c1 :: c2 :: c3 :: .val (.int x) :: l) st h Q ↔ XE d 76 19 (c0 :: c1 :: c2 :: c3 :: .val (.int x) :: l) (.int x :: st) h Q := g_iload rfl rfl
theorem s76_19 : XE d 76 19 ls st h Q ↔ XE d 76 20 ls (.int 1 :: st) h Q := g_const rfl
theorem s76_20 : XE d 76 20 ls (.int y :: .int x :: st) h Q ↔ XE d 76 21 ls (.int (x + y) :: st) h Q := g_add rfl
theorem s76_21 : XE d 76 21 (c0 :: c1 :: c2 :: c3 :: c4 :: c5 :: l) (.int x :: st) h Q ↔ XE d 76 23 (c0 :: c1 :: c2 :: c3 :: c4 :: .val (.int x) :: l) st h Q := g_istore (Nat.lt_of_lt_of_le (show 5 < 6 by decide) (Nat.le_add_left 6 _)) rfl rfl
theorem s76_23 : XE d 76 23 (c0 :: c1 :: c2 :: c3 :: c4 :: .val (.int x) :: l) st h Q ↔ XE d 76 25 (c0 :: c1 :: c2 :: c3 :: c4 :: .val (.int x) :: l) (.int x :: st) h Q := g_iload rfl rfl
theorem s76_25 : XE d 76 25 (.val (.ref a) :: l) st h Q ↔ XE d 76 26 (.val (.ref a) :: l) (.ref a :: st) h Q := g_aload rfl rfl
theorem s76_26 : XE d 76 26 ls (.ref a :: st) h Q ↔ XG [10] 0 (h.2.2.1 a) (fun v => XE d 76 29 ls (v :: st) h Q) := g_getf rfl
theorem s76_29 : XE d 76 29 ls (.int y :: .int x :: st) h Q ↔ (if x < y then XE d 76 32 ls st h Q else XE d 76 91 ls st h Q) := g_cge rfl
theorem s76_32 : XE d 76 32 (.val (.ref a) :: l) st h Q ↔ XE d 76 33 (.val (.ref a) :: l) (.ref a :: st) h Q := g_aload rfl rfl
theorem s76_33 : XE d 76 33 (c0 :: c1 :: c2 :: c3 :: .val (.int x) :: l) st h Q ↔ XE d 76 35 (c0 :: c1 :: c2 :: c3 :: .val (.int x) :: l) (.int x :: st) h Q := g_iload rfl rfl
theorem s76_35 : XE d 76 35 (c0 :: .val (.int x) :: l) st h Q ↔ XE d 76 36 (c0 :: .val (.int x) :: l) (.int x :: st) h Q := g_iload rfl rfl
theorem s76_36 : XE d 76 36 ls (.int y :: .int x :: .ref a :: st) h Q ↔ (xvo 8 st = true ∧ XV [(10, 60)] (h.2.2.1 a) (fun m' => XC d m' [.ref a, .int x, .int y] h (fun v h' => XE d 76 39 ls (v.toList ++ st) h' Q))) := h_v2 rfl rfl
theorem s76_39 : XE d 76 39 (.val (.ref a) :: l) st h Q ↔ XE d 76 40 (.val (.ref a) :: l) (.ref a :: st) h Q := g_aload rfl rfl
theorem s76_40 : XE d 76 40 (c0 :: c1 :: c2 :: c3 :: c4 :: .val (.int x) :: l) st h Q ↔ XE d 76 42 (c0 :: c1 :: c2 :: c3 :: c4 :: .val (.int x) :: l) (.int x :: st) h Q := g_iload rfl rfl
theorem s76_42 : XE d 76 42 (c0 :: .val (.int x) :: l) st h Q ↔ XE d 76 43 (c0 :: .val (.int x) :: l) (.int x :: st) h Q := g_iload rfl rfl
theorem s76_43 : XE d 76 43 ls (.int y :: .int x :: .ref a :: st) h Q ↔ (xvo 8 st = true ∧ XV [(10, 60)] (h.2.2.1 a) (fun m' => XC d m' [.ref a, .int x, .int y] h (fun v h' => XE d 76 46 ls (v.toList ++ st) h' Q))) := h_v2 rfl rfl
theorem s76_46 : XE d 76 46 ls (.int y :: .int x :: st) h Q ↔ XE d 76 47 ls (.int (x + y) :: st) h Q := g_add rfl
theorem s76_47 : XE d 76 47 (c0 :: c1 :: c2 :: c3 :: c4 :: c5 :: c6 :: l) (.int x :: st) h Q ↔ XE d 76 49 (c0 :: c1 :: c2 :: c3 :: c4 :: c5 :: .val (.int x) :: l) st h Q := g_istore (Nat.lt_of_lt_of_le (show 6 < 7 by decide) (Nat.le_add_left 7 _)) rfl rfl
theorem s76_49 : XE d 76 49 (c0 :: c1 :: .val (.int x) :: l) st h Q ↔ XE d 76 50 (c0 :: c1 :: .val (.int x) :: l) (.int x :: st) h Q := g_iload rfl rfl
theorem s76_50 : XE d 76 50 ls st h Q ↔ XE d 76 52 ls (.int (-1000000005) :: st) h Q := g_const rfl
theorem s76_52 : XE d 76 52 ls (.int y :: .int x :: st) h Q ↔ (if x = y then XE d 76 61 ls st h Q else XE d 76 55 ls st h Q) := g_ceq rfl
theorem s76_55 : XE d 76 55 (c0 :: c1 :: c2 :: c3 :: c4 :: c5 :: .val (.int x) :: l) st h Q ↔ XE d 76 57 (c0 :: c1 :: c2 :: c3 :: c4 :: c5 :: .val (.int x) :: l) (.int x :: st) h Q := g_iload rfl rfl
theorem s76_57 : XE d 76 57 (c0 :: c1 :: c2 :: .val (.int x) :: l) st h Q ↔ XE d 76 58 (c0 :: c1 :: c2 :: .val (.int x) :: l) (.int x :: st) h Q := g_iload rfl rfl
theorem s76_58 : XE d 76 58 ls (.int y :: .int x :: st) h Q ↔ (if x < y then XE d 76 61 ls st h Q else XE d 76 85 ls st h Q) := g_cge rfl
theorem s76_61 : XE d 76 61 (.val (.ref a) :: l) st h Q ↔ XE d 76 62 (.val (.ref a) :: l) (.ref a :: st) h Q := g_aload rfl rfl
theorem s76_62 : XE d 76 62 (c0 :: .val (.int x) :: l) st h Q ↔ XE d 76 63 (c0 :: .val (.int x) :: l) (.int x :: st) h Q := g_iload rfl rfl
theorem s76_63 : XE d 76 63 (c0 :: c1 :: c2 :: c3 :: .val (.int x) :: l) st h Q ↔ XE d 76 65 (c0 :: c1 :: c2 :: c3 :: .val (.int x) :: l) (.int x :: st) h Q := g_iload rfl rfl
theorem s76_65 : XE d 76 65 (c0 :: c1 :: c2 :: c3 :: c4 :: .val (.int x) :: l) st h Q ↔ XE d 76 67 (c0 :: c1 :: c2 :: c3 :: c4 :: .val (.int x) :: l) (.int x :: st) h Q := g_iload rfl rfl
theorem s76_67 : XE d 76 67 ls (.int z :: .int y :: .int x :: .ref a :: st) h Q ↔ (xvo 8 st = true ∧ XV [(10, 72)] (h.2.2.1 a) (fun m' => XC d m' [.ref a, .int x, .int y, .int z] h (fun v h' => XE d 76 70 ls (v.toList ++ st) h' Q))) := h_v3 rfl rfl
theorem s76_70 : XE d 76 70 ls (.int x :: st) h Q ↔ (if x = 0 then XE d 76 85 ls st h Q else XE d 76 73 ls st h Q) := g_ifeq rfl
theorem s76_73 : XE d 76 73 ls st h Q ↔ XE d 76 75 ls (.int 100 :: st) h Q := g_const rfl
theorem s76_75 : XE d 76 75 (c0 :: c1 :: c2 :: c3 :: .val (.int x) :: l) st h Q ↔ XE d 76 77 (c0 :: c1 :: c2 :: c3 :: .val (.int x) :: l) (.int x :: st) h Q := g_iload rfl rfl
theorem s76_77 : XE d 76 77 ls (.int y :: .int x :: st) h Q ↔ XE d 76 78 ls (.int (x * y) :: st) h Q := g_mul rfl
theorem s76_78 : XE d 76 78 (c0 :: c1 :: c2 :: c3 :: c4 :: .val (.int x) :: l) st h Q ↔ XE d 76 80 (c0 :: c1 :: c2 :: c3 :: c4 :: .val (.int x) :: l) (.int x :: st) h Q := g_iload rfl rfl
theorem s76_80 : XE d 76 80 ls (.int y :: .int x :: st) h Q ↔ XE d 76 81 ls (.int (x + y) :: st) h Q := g_add rfl
theorem s76_81 : XE d 76 81 (c0 :: c1 :: c2 :: l) (.int x :: st) h Q ↔ XE d 76 82 (c0 :: c1 :: .val (.int x) :: l) st h Q := g_istore (Nat.lt_of_lt_of_le (show 2 < 3 by decide) (Nat.le_add_left 3 _)) rfl rfl
theorem s76_82 : XE d 76 82 (c0 :: c1 :: c2 :: c3 :: c4 :: c5 :: .val (.int x) :: l) st h Q ↔ XE d 76 84 (c0 :: c1 :: c2 :: c3 :: c4 :: c5 :: .val (.int x) :: l) (.int x :: st) h Q := g_iload rfl rfl
theorem s76_84 : XE d 76 84 (c0 :: c1 :: c2 :: c3 :: l) (.int x :: st) h Q ↔ XE d 76 85 (c0 :: c1 :: c2 :: .val (.int x) :: l) st h Q := g_istore (Nat.lt_of_lt_of_le (show 3 < 4 by decide) (Nat.le_add_left 4 _)) rfl rfl
theorem s76_85 : XE d 76 85 (c0 :: c1 :: c2 :: c3 :: c4 :: .val (.int x) :: l) st h Q ↔ XE d 76 88 (c0 :: c1 :: c2 :: c3 :: c4 :: .val (.int (x + 1)) :: l) st h Q := g_iinc rfl rfl rfl
theorem s76_88 : XE d 76 88 ls st h Q ↔ XE d 76 23 ls st h Q := g_goto rfl
theorem s76_91 : XE d 76 91 (c0 :: c1 :: c2 :: c3 :: .val (.int x) :: l) st h Q ↔ XE d 76 94 (c0 :: c1 :: c2 :: c3 :: .val (.int (x + 1)) :: l) st h Q := g_iinc rfl rfl rfl
theorem s76_94 : XE d 76 94 ls st h Q ↔ XE d 76 8 ls st h Q := g_goto rfl
theorem s76_97 : XE d 76 97 (c0 :: c1 :: .val (.int x) :: l) st h Q ↔ XE d 76 98 (c0 :: c1 :: .val (.int x) :: l) (.int x :: st) h Q := g_iload rfl rfl
theorem s76_98 : XE d 76 98 ls [.int x] h Q ↔ Q (some (.int x)) h := g_iret rfl
end PR
