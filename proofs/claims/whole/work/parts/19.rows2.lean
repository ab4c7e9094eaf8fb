section PR
variable {d : Nat} {ls l : List Slot} {c0 c1 c2 c3 c4 c5 c6 c7 c8 c9 c10 c11 : Slot} {st : List Value} {h : xH} {Q : Option Value → xH → Prop} {x y z w u : Int32} {a b : Nat} {v : Value} {q : Bool}
-- 144: TwoBellsModel.draw()I
theorem e144 : XC (d + 1) 144 [.ref a] h Q ↔ XE d 144 0 [.val (.ref a)] [] h Q := XC_in rfl
theorem s144_0 : XE d 144 0 (.val (.ref a) :: l) st h Q ↔ XE d 144 1 (.val (.ref a) :: l) (.ref a :: st) h Q := g_aload rfl rfl
theorem s144_1 : XE d 144 1 ls (.ref a :: st) h Q ↔ XG [12] 0 (h.2.2.1 a) (fun v => XE d 144 4 ls (v :: st) h Q) := g_getf rfl
theorem s144_4 : XE d 144 4 ls st h Q ↔ XE d 144 5 ls (.int 0 :: st) h Q := g_const rfl
theorem s144_5 : XE d 144 5 (.val (.ref a) :: l) st h Q ↔ XE d 144 6 (.val (.ref a) :: l) (.ref a :: st) h Q := g_aload rfl rfl
theorem s144_6 : XE d 144 6 ls (.ref a :: st) h Q ↔ XG [12] 0 (h.2.2.1 a) (fun v => XE d 144 9 ls (v :: st) h Q) := g_getf rfl
theorem s144_9 : XE d 144 9 ls st h Q ↔ XE d 144 10 ls (.int 0 :: st) h Q := g_const rfl
theorem s144_10 : XE d 144 10 ls (.int x :: .ref a :: st) h Q ↔ XA [0, 7] (h.2.2.1 a) x (fun k => XE d 144 11 ls (.int k :: st) h Q) := g_ald rfl
theorem s144_11 : XE d 144 11 ls st h Q ↔ XE d 144 13 ls (.int 1103515245 :: st) h Q := g_const rfl
theorem s144_13 : XE d 144 13 ls (.int y :: .int x :: st) h Q ↔ XE d 144 14 ls (.int (x * y) :: st) h Q := g_mul rfl
theorem s144_14 : XE d 144 14 ls st h Q ↔ XE d 144 17 ls (.int 12345 :: st) h Q := g_const rfl
theorem s144_17 : XE d 144 17 ls (.int y :: .int x :: st) h Q ↔ XE d 144 18 ls (.int (x + y) :: st) h Q := g_add rfl
theorem s144_18 : XE d 144 18 ls (.int y :: .int x :: .ref a :: st) h Q ↔ XS 0 (h.2.2.1 a) x y (fun e => XE d 144 19 ls st (xset h a e) Q) := g_iast rfl
theorem s144_19 : XE d 144 19 (.val (.ref a) :: l) st h Q ↔ XE d 144 20 (.val (.ref a) :: l) (.ref a :: st) h Q := g_aload rfl rfl
theorem s144_20 : XE d 144 20 ls (.ref a :: st) h Q ↔ XG [12] 0 (h.2.2.1 a) (fun v => XE d 144 23 ls (v :: st) h Q) := g_getf rfl
theorem s144_23 : XE d 144 23 ls st h Q ↔ XE d 144 24 ls (.int 0 :: st) h Q := g_const rfl
theorem s144_24 : XE d 144 24 ls (.int x :: .ref a :: st) h Q ↔ XA [0, 7] (h.2.2.1 a) x (fun k => XE d 144 25 ls (.int k :: st) h Q) := g_ald rfl
theorem s144_25 : XE d 144 25 ls st h Q ↔ XE d 144 27 ls (.int 8 :: st) h Q := g_const rfl
theorem s144_27 : XE d 144 27 ls (.int y :: .int x :: st) h Q ↔ XE d 144 28 ls (.int (xushr x y) :: st) h Q := g_ushr rfl
theorem s144_28 : XE d 144 28 ls [.int x] h Q ↔ Q (some (.int x)) h := g_iret rfl
-- 145: TwoBellsModel.comes(II)I
theorem e145 : XC (d + 1) 145 [.ref a, .int x, .int y] h Q ↔ XE d 145 0 [.val (.ref a), .val (.int x), .val (.int y), .unset] [] h Q := XC_in rfl
theorem s145_0 : XE d 145 0 ls st h Q ↔ XE d 145 2 ls (.int 8 :: st) h Q := g_const rfl
theorem s145_2 : XE d 145 2 ls st h Q ↔ XE d 145 3 ls (.int 3 :: st) h Q := g_const rfl
theorem s145_3 : XE d 145 3 (.val (.ref a) :: l) st h Q ↔ XE d 145 4 (.val (.ref a) :: l) (.ref a :: st) h Q := g_aload rfl rfl
theorem s145_4 : XE d 145 4 ls (.ref a :: st) h Q ↔ XG [12] 0 (h.2.2.1 a) (fun v => XE d 145 7 ls (v :: st) h Q) := g_getf rfl
theorem s145_7 : XE d 145 7 ls st h Q ↔ XE d 145 8 ls (.int 1 :: st) h Q := g_const rfl
theorem s145_8 : XE d 145 8 ls (.int x :: .ref a :: st) h Q ↔ XA [0, 7] (h.2.2.1 a) x (fun k => XE d 145 9 ls (.int k :: st) h Q) := g_ald rfl
theorem s145_9 : XE d 145 9 ls (.int y :: .int x :: st) h Q ↔ XE d 145 10 ls (.int (x * y) :: st) h Q := g_mul rfl
theorem s145_10 : XE d 145 10 ls (.int y :: .int x :: st) h Q ↔ XE d 145 11 ls (.int (x + y) :: st) h Q := g_add rfl
theorem s145_11 : XE d 145 11 (c0 :: c1 :: c2 :: c3 :: l) (.int x :: st) h Q ↔ XE d 145 12 (c0 :: c1 :: c2 :: .val (.int x) :: l) st h Q := g_istore (Nat.lt_of_lt_of_le (show 3 < 4 by decide) (Nat.le_add_left 4 _)) rfl rfl
theorem s145_12 : XE d 145 12 (.val (.ref a) :: l) st h Q ↔ XE d 145 13 (.val (.ref a) :: l) (.ref a :: st) h Q := g_aload rfl rfl
theorem s145_13 : XE d 145 13 ls (.ref a :: st) h Q ↔ XG [12] 0 (h.2.2.1 a) (fun v => XE d 145 16 ls (v :: st) h Q) := g_getf rfl
theorem s145_16 : XE d 145 16 (c0 :: c1 :: c2 :: .val (.int x) :: l) st h Q ↔ XE d 145 17 (c0 :: c1 :: c2 :: .val (.int x) :: l) (.int x :: st) h Q := g_iload rfl rfl
theorem s145_17 : XE d 145 17 (c0 :: .val (.int x) :: l) st h Q ↔ XE d 145 18 (c0 :: .val (.int x) :: l) (.int x :: st) h Q := g_iload rfl rfl
theorem s145_18 : XE d 145 18 ls (.int y :: .int x :: .ref a :: st) h Q ↔ XS 0 (h.2.2.1 a) x y (fun e => XE d 145 19 ls st (xset h a e) Q) := g_iast rfl
theorem s145_19 : XE d 145 19 (.val (.ref a) :: l) st h Q ↔ XE d 145 20 (.val (.ref a) :: l) (.ref a :: st) h Q := g_aload rfl rfl
theorem s145_20 : XE d 145 20 ls (.ref a :: st) h Q ↔ XG [12] 0 (h.2.2.1 a) (fun v => XE d 145 23 ls (v :: st) h Q) := g_getf rfl
theorem s145_23 : XE d 145 23 (c0 :: c1 :: c2 :: .val (.int x) :: l) st h Q ↔ XE d 145 24 (c0 :: c1 :: c2 :: .val (.int x) :: l) (.int x :: st) h Q := g_iload rfl rfl
theorem s145_24 : XE d 145 24 ls st h Q ↔ XE d 145 25 ls (.int 1 :: st) h Q := g_const rfl
theorem s145_25 : XE d 145 25 ls (.int y :: .int x :: st) h Q ↔ XE d 145 26 ls (.int (x + y) :: st) h Q := g_add rfl
theorem s145_26 : XE d 145 26 (c0 :: c1 :: .val (.int x) :: l) st h Q ↔ XE d 145 27 (c0 :: c1 :: .val (.int x) :: l) (.int x :: st) h Q := g_iload rfl rfl
theorem s145_27 : XE d 145 27 ls (.int y :: .int x :: .ref a :: st) h Q ↔ XS 0 (h.2.2.1 a) x y (fun e => XE d 145 28 ls st (xset h a e) Q) := g_iast rfl
theorem s145_28 : XE d 145 28 (.val (.ref a) :: l) st h Q ↔ XE d 145 29 (.val (.ref a) :: l) (.ref a :: st) h Q := g_aload rfl rfl
theorem s145_29 : XE d 145 29 ls (.ref a :: st) h Q ↔ XG [12] 0 (h.2.2.1 a) (fun v => XE d 145 32 ls (v :: st) h Q) := g_getf rfl
theorem s145_32 : XE d 145 32 (c0 :: c1 :: c2 :: .val (.int x) :: l) st h Q ↔ XE d 145 33 (c0 :: c1 :: c2 :: .val (.int x) :: l) (.int x :: st) h Q := g_iload rfl rfl
theorem s145_33 : XE d 145 33 ls st h Q ↔ XE d 145 34 ls (.int 2 :: st) h Q := g_const rfl
theorem s145_34 : XE d 145 34 ls (.int y :: .int x :: st) h Q ↔ XE d 145 35 ls (.int (x + y) :: st) h Q := g_add rfl
theorem s145_35 : XE d 145 35 ls st h Q ↔ XE d 145 36 ls (.int 0 :: st) h Q := g_const rfl
theorem s145_36 : XE d 145 36 ls (.int y :: .int x :: .ref a :: st) h Q ↔ XS 0 (h.2.2.1 a) x y (fun e => XE d 145 37 ls st (xset h a e) Q) := g_iast rfl
theorem s145_37 : XE d 145 37 (.val (.ref a) :: l) st h Q ↔ XE d 145 38 (.val (.ref a) :: l) (.ref a :: st) h Q := g_aload rfl rfl
theorem s145_38 : XE d 145 38 ls (.ref a :: st) h Q ↔ XG [12] 0 (h.2.2.1 a) (fun v => XE d 145 41 ls (v :: st) h Q) := g_getf rfl
theorem s145_41 : XE d 145 41 ls st h Q ↔ XE d 145 42 ls (.int 1 :: st) h Q := g_const rfl
theorem s145_42 : XE d 145 42 ls (.int x :: .ref a :: st) h Q ↔ XE d 145 43 ls (.int x :: .ref a :: .int x :: .ref a :: st) h Q := g_dup2 rfl
theorem s145_43 : XE d 145 43 ls (.int x :: .ref a :: st) h Q ↔ XA [0, 7] (h.2.2.1 a) x (fun k => XE d 145 44 ls (.int k :: st) h Q) := g_ald rfl
theorem s145_44 : XE d 145 44 ls st h Q ↔ XE d 145 45 ls (.int 1 :: st) h Q := g_const rfl
theorem s145_45 : XE d 145 45 ls (.int y :: .int x :: st) h Q ↔ XE d 145 46 ls (.int (x + y) :: st) h Q := g_add rfl
theorem s145_46 : XE d 145 46 ls (.int y :: .int x :: .ref a :: st) h Q ↔ XS 0 (h.2.2.1 a) x y (fun e => XE d 145 47 ls st (xset h a e) Q) := g_iast rfl
theorem s145_47 : XE d 145 47 (.val (.ref a) :: l) st h Q ↔ XE d 145 48 (.val (.ref a) :: l) (.ref a :: st) h Q := g_aload rfl rfl
theorem s145_48 : XE d 145 48 ls (.ref a :: st) h Q ↔ XG [12] 0 (h.2.2.1 a) (fun v => XE d 145 51 ls (v :: st) h Q) := g_getf rfl
theorem s145_51 : XE d 145 51 ls st h Q ↔ XE d 145 52 ls (.int 1 :: st) h Q := g_const rfl
theorem s145_52 : XE d 145 52 ls (.int x :: .ref a :: st) h Q ↔ XA [0, 7] (h.2.2.1 a) x (fun k => XE d 145 53 ls (.int k :: st) h Q) := g_ald rfl
theorem s145_53 : XE d 145 53 ls st h Q ↔ XE d 145 54 ls (.int 1 :: st) h Q := g_const rfl
theorem s145_54 : XE d 145 54 ls (.int y :: .int x :: st) h Q ↔ XE d 145 55 ls (.int (x - y) :: st) h Q := g_sub rfl
theorem s145_55 : XE d 145 55 ls [.int x] h Q ↔ Q (some (.int x)) h := g_iret rfl
-- 146: TwoBellsModel.house(II)I
theorem e146 : XC (d + 1) 146 [.ref a, .int x, .int y] h Q ↔ XE d 146 0 [.val (.ref a), .val (.int x), .val (.int y)] [] h Q := XC_in rfl
theorem s146_0 : XE d 146 0 (c0 :: .val (.int x) :: l) st h Q ↔ XE d 146 1 (c0 :: .val (.int x) :: l) (.int x :: st) h Q := g_iload rfl rfl
theorem s146_1 : XE d 146 1 ls st h Q ↔ XE d 146 2 ls (.int 0 :: st) h Q := g_const rfl
theorem s146_2 : XE d 146 2 ls st h Q ↔ XE d 146 4 ls (.int 100 :: st) h Q := g_const rfl
theorem s146_4 : XE d 146 4 ls (.int z :: .int y :: .int x :: st) h Q ↔ (xvo 8 st = true ∧ XC d 132 [.int x, .int y, .int z] h (fun v h' => XE d 146 7 ls (v.toList ++ st) h' Q)) := h_s3 rfl rfl
theorem s146_7 : XE d 146 7 ls (.int x :: st) h Q ↔ (if x = 0 then XE d 146 20 ls st h Q else XE d 146 10 ls st h Q) := g_ifeq rfl
theorem s146_10 : XE d 146 10 (c0 :: c1 :: .val (.int x) :: l) st h Q ↔ XE d 146 11 (c0 :: c1 :: .val (.int x) :: l) (.int x :: st) h Q := g_iload rfl rfl
theorem s146_11 : XE d 146 11 ls st h Q ↔ XE d 146 12 ls (.int 0 :: st) h Q := g_const rfl
theorem s146_12 : XE d 146 12 ls st h Q ↔ XE d 146 14 ls (.int 100 :: st) h Q := g_const rfl
theorem s146_14 : XE d 146 14 ls (.int z :: .int y :: .int x :: st) h Q ↔ (xvo 8 st = true ∧ XC d 132 [.int x, .int y, .int z] h (fun v h' => XE d 146 17 ls (v.toList ++ st) h' Q)) := h_s3 rfl rfl
theorem s146_17 : XE d 146 17 ls (.int x :: st) h Q ↔ (if x = 0 then XE d 146 20 ls st h Q else XE d 146 23 ls st h Q) := g_ifne rfl
theorem s146_20 : XE d 146 20 ls st h Q ↔ XE d 146 22 ls (.int (-1000000001) :: st) h Q := g_const rfl
theorem s146_22 : XE d 146 22 ls [.int x] h Q ↔ Q (some (.int x)) h := g_iret rfl
theorem s146_23 : XE d 146 23 (.val (.ref a) :: l) st h Q ↔ XE d 146 24 (.val (.ref a) :: l) (.ref a :: st) h Q := g_aload rfl rfl
theorem s146_24 : XE d 146 24 ls (.ref a :: st) h Q ↔ XG [12] 0 (h.2.2.1 a) (fun v => XE d 146 27 ls (v :: st) h Q) := g_getf rfl
theorem s146_27 : XE d 146 27 ls st h Q ↔ XE d 146 28 ls (.int 1 :: st) h Q := g_const rfl
theorem s146_28 : XE d 146 28 ls (.int x :: .ref a :: st) h Q ↔ XA [0, 7] (h.2.2.1 a) x (fun k => XE d 146 29 ls (.int k :: st) h Q) := g_ald rfl
theorem s146_29 : XE d 146 29 ls st h Q ↔ XE d 146 31 ls (.int 10 :: st) h Q := g_const rfl
theorem s146_31 : XE d 146 31 ls (.int y :: .int x :: st) h Q ↔ (if x = y then XE d 146 34 ls st h Q else XE d 146 39 ls st h Q) := g_cne rfl
theorem s146_34 : XE d 146 34 ls st h Q ↔ XE d 146 36 ls (.int (-1000000003) :: st) h Q := g_const rfl
theorem s146_36 : XE d 146 36 ls st h Q ↔ XE d 146 45 ls st h Q := g_goto rfl
theorem s146_39 : XE d 146 39 (.val (.ref a) :: l) st h Q ↔ XE d 146 40 (.val (.ref a) :: l) (.ref a :: st) h Q := g_aload rfl rfl
theorem s146_40 : XE d 146 40 (c0 :: .val (.int x) :: l) st h Q ↔ XE d 146 41 (c0 :: .val (.int x) :: l) (.int x :: st) h Q := g_iload rfl rfl
theorem s146_41 : XE d 146 41 (c0 :: c1 :: .val (.int x) :: l) st h Q ↔ XE d 146 42 (c0 :: c1 :: .val (.int x) :: l) (.int x :: st) h Q := g_iload rfl rfl
theorem s146_42 : XE d 146 42 ls (.int y :: .int x :: .ref a :: st) h Q ↔ (xvo 8 st = true ∧ XV [(12, 145)] (h.2.2.1 a) (fun m' => XC d m' [.ref a, .int x, .int y] h (fun v h' => XE d 146 45 ls (v.toList ++ st) h' Q))) := h_v2 rfl rfl
theorem s146_45 : XE d 146 45 ls [.int x] h Q ↔ Q (some (.int x)) h := g_iret rfl
-- 147: TwoBellsModel.bellsIn(IIZ)I
theorem e147 : XC (d + 1) 147 [.ref a, .int x, .int y, .int z] h Q ↔ XE d 147 0 [.val (.ref a), .val (.int x), .val (.int y), .val (.int z), .unset, .unset, .unset] [] h Q := XC_in rfl
theorem s147_0 : XE d 147 0 ls st h Q ↔ XE d 147 1 ls (.int 0 :: st) h Q := g_const rfl
theorem s147_1 : XE d 147 1 (c0 :: c1 :: c2 :: c3 :: c4 :: l) (.int x :: st) h Q ↔ XE d 147 3 (c0 :: c1 :: c2 :: c3 :: .val (.int x) :: l) st h Q := g_istore (Nat.lt_of_lt_of_le (show 4 < 5 by decide) (Nat.le_add_left 5 _)) rfl rfl
theorem s147_3 : XE d 147 3 ls st h Q ↔ XE d 147 4 ls (.int 0 :: st) h Q := g_const rfl
theorem s147_4 : XE d 147 4 (c0 :: c1 :: c2 :: c3 :: c4 :: c5 :: l) (.int x :: st) h Q ↔ XE d 147 6 (c0 :: c1 :: c2 :: c3 :: c4 :: .val (.int x) :: l) st h Q := g_istore (Nat.lt_of_lt_of_le (show 5 < 6 by decide) (Nat.le_add_left 6 _)) rfl rfl
theorem s147_6 : XE d 147 6 (c0 :: c1 :: c2 :: c3 :: c4 :: .val (.int x) :: l) st h Q ↔ XE d 147 8 (c0 :: c1 :: c2 :: c3 :: c4 :: .val (.int x) :: l) (.int x :: st) h Q := g_iload rfl rfl
theorem s147_8 : XE d 147 8 (.val (.ref a) :: l) st h Q ↔ XE d 147 9 (.val (.ref a) :: l) (.ref a :: st) h Q := g_aload rfl rfl
theorem s147_9 : XE d 147 9 ls (.ref a :: st) h Q ↔ XG [12] 0 (h.2.2.1 a) (fun v => XE d 147 12 ls (v :: st) h Q) := g_getf rfl
theorem s147_12 : XE d 147 12 ls st h Q ↔ XE d 147 13 ls (.int 2 :: st) h Q := g_const rfl
theorem s147_13 : XE d 147 13 ls (.int x :: .ref a :: st) h Q ↔ XA [0, 7] (h.2.2.1 a) x (fun k => XE d 147 14 ls (.int k :: st) h Q) := g_ald rfl
theorem s147_14 : XE d 147 14 ls (.int y :: .int x :: st) h Q ↔ (if x < y then XE d 147 17 ls st h Q else XE d 147 82 ls st h Q) := g_cge rfl
theorem s147_17 : XE d 147 17 ls st h Q ↔ XE d 147 18 ls (.int 0 :: st) h Q := g_const rfl
theorem s147_18 : XE d 147 18 (c0 :: c1 :: c2 :: c3 :: c4 :: c5 :: c6 :: l) (.int x :: st) h Q ↔ XE d 147 20 (c0 :: c1 :: c2 :: c3 :: c4 :: c5 :: .val (.int x) :: l) st h Q := g_istore (Nat.lt_of_lt_of_le (show 6 < 7 by decide) (Nat.le_add_left 7 _)) rfl rfl
theorem s147_20 : XE d 147 20 (c0 :: c1 :: c2 :: c3 :: c4 :: c5 :: .val (.int x) :: l) st h Q ↔ XE d 147 22 (c0 :: c1 :: c2 :: c3 :: c4 :: c5 :: .val (.int x) :: l) (.int x :: st) h Q := g_iload rfl rfl
theorem s147_22 : XE d 147 22 ls st h Q ↔ XE d 147 23 ls (.int 2 :: st) h Q := g_const rfl
theorem s147_23 : XE d 147 23 ls (.int y :: .int x :: st) h Q ↔ (if x < y then XE d 147 26 ls st h Q else XE d 147 76 ls st h Q) := g_cge rfl
theorem s147_26 : XE d 147 26 (c0 :: c1 :: c2 :: c3 :: c4 :: .val (.int x) :: l) st h Q ↔ XE d 147 28 (c0 :: c1 :: c2 :: c3 :: c4 :: .val (.int x) :: l) (.int x :: st) h Q := g_iload rfl rfl
theorem s147_28 : XE d 147 28 (c0 :: c1 :: .val (.int x) :: l) st h Q ↔ XE d 147 29 (c0 :: c1 :: .val (.int x) :: l) (.int x :: st) h Q := g_iload rfl rfl
theorem s147_29 : XE d 147 29 ls (.int y :: .int x :: st) h Q ↔ (if x = y then XE d 147 76 ls st h Q else XE d 147 32 ls st h Q) := g_ceq rfl
theorem s147_32 : XE d 147 32 (c0 :: c1 :: c2 :: c3 :: .val (.int x) :: l) st h Q ↔ XE d 147 34 (c0 :: c1 :: c2 :: c3 :: .val (.int x) :: l) (.int x :: st) h Q := g_iload rfl rfl
theorem s147_34 : XE d 147 34 (.val (.ref a) :: l) st h Q ↔ XE d 147 35 (.val (.ref a) :: l) (.ref a :: st) h Q := g_aload rfl rfl
theorem s147_35 : XE d 147 35 (c0 :: c1 :: c2 :: c3 :: c4 :: .val (.int x) :: l) st h Q ↔ XE d 147 37 (c0 :: c1 :: c2 :: c3 :: c4 :: .val (.int x) :: l) (.int x :: st) h Q := g_iload rfl rfl
theorem s147_37 : XE d 147 37 ls st h Q ↔ XE d 147 38 ls (.int 3 :: st) h Q := g_const rfl
theorem s147_38 : XE d 147 38 (c0 :: c1 :: c2 :: c3 :: c4 :: c5 :: .val (.int x) :: l) st h Q ↔ XE d 147 40 (c0 :: c1 :: c2 :: c3 :: c4 :: c5 :: .val (.int x) :: l) (.int x :: st) h Q := g_iload rfl rfl
theorem s147_40 : XE d 147 40 ls (.int y :: .int x :: st) h Q ↔ XE d 147 41 ls (.int (x + y) :: st) h Q := g_add rfl
theorem s147_41 : XE d 147 41 ls (.int y :: .int x :: .ref a :: st) h Q ↔ (xvo 8 st = true ∧ XV [(12, 140)] (h.2.2.1 a) (fun m' => XC d m' [.ref a, .int x, .int y] h (fun v h' => XE d 147 44 ls (v.toList ++ st) h' Q))) := h_v2 rfl rfl
theorem s147_44 : XE d 147 44 (c0 :: .val (.int x) :: l) st h Q ↔ XE d 147 45 (c0 :: .val (.int x) :: l) (.int x :: st) h Q := g_iload rfl rfl
theorem s147_45 : XE d 147 45 ls (.int y :: .int x :: st) h Q ↔ (if x = y then XE d 147 52 ls st h Q else XE d 147 48 ls st h Q) := g_ceq rfl
theorem s147_48 : XE d 147 48 ls st h Q ↔ XE d 147 49 ls (.int 0 :: st) h Q := g_const rfl
theorem s147_49 : XE d 147 49 ls st h Q ↔ XE d 147 67 ls st h Q := g_goto rfl
theorem s147_52 : XE d 147 52 (c0 :: c1 :: c2 :: .val (.int x) :: l) st h Q ↔ XE d 147 53 (c0 :: c1 :: c2 :: .val (.int x) :: l) (.int x :: st) h Q := g_iload rfl rfl
theorem s147_53 : XE d 147 53 ls (.int x :: st) h Q ↔ (if x = 0 then XE d 147 66 ls st h Q else XE d 147 56 ls st h Q) := g_ifeq rfl
theorem s147_56 : XE d 147 56 (.val (.ref a) :: l) st h Q ↔ XE d 147 57 (.val (.ref a) :: l) (.ref a :: st) h Q := g_aload rfl rfl
theorem s147_57 : XE d 147 57 (c0 :: c1 :: c2 :: c3 :: c4 :: .val (.int x) :: l) st h Q ↔ XE d 147 59 (c0 :: c1 :: c2 :: c3 :: c4 :: .val (.int x) :: l) (.int x :: st) h Q := g_iload rfl rfl
theorem s147_59 : XE d 147 59 ls st h Q ↔ XE d 147 60 ls (.int 2 :: st) h Q := g_const rfl
theorem s147_60 : XE d 147 60 ls (.int y :: .int x :: .ref a :: st) h Q ↔ (xvo 8 st = true ∧ XV [(12, 140)] (h.2.2.1 a) (fun m' => XC d m' [.ref a, .int x, .int y] h (fun v h' => XE d 147 63 ls (v.toList ++ st) h' Q))) := h_v2 rfl rfl
theorem s147_63 : XE d 147 63 ls st h Q ↔ XE d 147 67 ls st h Q := g_goto rfl
theorem s147_66 : XE d 147 66 ls st h Q ↔ XE d 147 67 ls (.int 1 :: st) h Q := g_const rfl
theorem s147_67 : XE d 147 67 ls (.int y :: .int x :: st) h Q ↔ XE d 147 68 ls (.int (x + y) :: st) h Q := g_add rfl
theorem s147_68 : XE d 147 68 (c0 :: c1 :: c2 :: c3 :: c4 :: l) (.int x :: st) h Q ↔ XE d 147 70 (c0 :: c1 :: c2 :: c3 :: .val (.int x) :: l) st h Q := g_istore (Nat.lt_of_lt_of_le (show 4 < 5 by decide) (Nat.le_add_left 5 _)) rfl rfl
theorem s147_70 : XE d 147 70 (c0 :: c1 :: c2 :: c3 :: c4 :: c5 :: .val (.int x) :: l) st h Q ↔ XE d 147 73 (c0 :: c1 :: c2 :: c3 :: c4 :: c5 :: .val (.int (x + 1)) :: l) st h Q := g_iinc rfl rfl rfl
theorem s147_73 : XE d 147 73 ls st h Q ↔ XE d 147 20 ls st h Q := g_goto rfl
theorem s147_76 : XE d 147 76 (c0 :: c1 :: c2 :: c3 :: c4 :: .val (.int x) :: l) st h Q ↔ XE d 147 79 (c0 :: c1 :: c2 :: c3 :: c4 :: .val (.int (x + 1)) :: l) st h Q := g_iinc rfl rfl rfl
theorem s147_79 : XE d 147 79 ls st h Q ↔ XE d 147 6 ls st h Q := g_goto rfl
theorem s147_82 : XE d 147 82 (c0 :: c1 :: c2 :: c3 :: .val (.int x) :: l) st h Q ↔ XE d 147 84 (c0 :: c1 :: c2 :: c3 :: .val (.int x) :: l) (.int x :: st) h Q := g_iload rfl rfl
theorem s147_84 : XE d 147 84 ls [.int x] h Q ↔ Q (some (.int x)) h := g_iret rfl
-- 148: TwoBellsModel.comesOf(I)I
theorem e148 : XC (d + 1) 148 [.ref a, .int x] h Q ↔ XE d 148 0 [.val (.ref a), .val (.int x), .unset, .unset, .unset] [] h Q := XC_in rfl
theorem s148_0 : XE d 148 0 (.val (.ref a) :: l) st h Q ↔ XE d 148 1 (.val (.ref a) :: l) (.ref a :: st) h Q := g_aload rfl rfl
theorem s148_1 : XE d 148 1 (c0 :: .val (.int x) :: l) st h Q ↔ XE d 148 2 (c0 :: .val (.int x) :: l) (.int x :: st) h Q := g_iload rfl rfl
theorem s148_2 : XE d 148 2 ls st h Q ↔ XE d 148 3 ls (.int (-1) :: st) h Q := g_const rfl
theorem s148_3 : XE d 148 3 ls st h Q ↔ XE d 148 4 ls (.int 0 :: st) h Q := g_const rfl
theorem s148_4 : XE d 148 4 ls (.int z :: .int y :: .int x :: .ref a :: st) h Q ↔ (xvo 8 st = true ∧ XV [(12, 147)] (h.2.2.1 a) (fun m' => XC d m' [.ref a, .int x, .int y, .int z] h (fun v h' => XE d 148 7 ls (v.toList ++ st) h' Q))) := h_v3 rfl rfl
theorem s148_7 : XE d 148 7 (c0 :: c1 :: c2 :: l) (.int x :: st) h Q ↔ XE d 148 8 (c0 :: c1 :: .val (.int x) :: l) st h Q := g_istore (Nat.lt_of_lt_of_le (show 2 < 3 by decide) (Nat.le_add_left 3 _)) rfl rfl
theorem s148_8 : XE d 148 8 (.val (.ref a) :: l) st h Q ↔ XE d 148 9 (.val (.ref a) :: l) (.ref a :: st) h Q := g_aload rfl rfl
theorem s148_9 : XE d 148 9 ls st h Q ↔ XE d 148 10 ls (.int 0 :: st) h Q := g_const rfl
theorem s148_10 : XE d 148 10 ls (.int x :: .ref a :: st) h Q ↔ (xvo 8 st = true ∧ XV [(12, 206)] (h.2.2.1 a) (fun m' => XC d m' [.ref a, .int x] h (fun v h' => XE d 148 13 ls (v.toList ++ st) h' Q))) := h_v1 rfl rfl
theorem s148_13 : XE d 148 13 (c0 :: c1 :: c2 :: c3 :: l) (.int x :: st) h Q ↔ XE d 148 14 (c0 :: c1 :: c2 :: .val (.int x) :: l) st h Q := g_istore (Nat.lt_of_lt_of_le (show 3 < 4 by decide) (Nat.le_add_left 4 _)) rfl rfl
theorem s148_14 : XE d 148 14 (.val (.ref a) :: l) st h Q ↔ XE d 148 15 (.val (.ref a) :: l) (.ref a :: st) h Q := g_aload rfl rfl
theorem s148_15 : XE d 148 15 ls (.ref a :: st) h Q ↔ XG [12] 21 (h.2.2.1 a) (fun v => XE d 148 18 ls (v :: st) h Q) := g_getf rfl
theorem s148_18 : XE d 148 18 ls st h Q ↔ XE d 148 19 ls (.int 0 :: st) h Q := g_const rfl
theorem s148_19 : XE d 148 19 (.val (.ref a) :: l) st h Q ↔ XE d 148 20 (.val (.ref a) :: l) (.ref a :: st) h Q := g_aload rfl rfl
theorem s148_20 : XE d 148 20 (c0 :: .val (.int x) :: l) st h Q ↔ XE d 148 21 (c0 :: .val (.int x) :: l) (.int x :: st) h Q := g_iload rfl rfl
theorem s148_21 : XE d 148 21 ls st h Q ↔ XE d 148 22 ls (.int 0 :: st) h Q := g_const rfl
theorem s148_22 : XE d 148 22 ls (.int y :: .int x :: .ref a :: st) h Q ↔ (xvo 8 st = true ∧ XV [(12, 139)] (h.2.2.1 a) (fun m' => XC d m' [.ref a, .int x, .int y] h (fun v h' => XE d 148 25 ls (v.toList ++ st) h' Q))) := h_v2 rfl rfl
theorem s148_25 : XE d 148 25 ls (.int y :: .int x :: .ref a :: st) h Q ↔ XS 0 (h.2.2.1 a) x y (fun e => XE d 148 26 ls st (xset h a e) Q) := g_iast rfl
theorem s148_26 : XE d 148 26 (.val (.ref a) :: l) st h Q ↔ XE d 148 27 (.val (.ref a) :: l) (.ref a :: st) h Q := g_aload rfl rfl
theorem s148_27 : XE d 148 27 ls (.ref a :: st) h Q ↔ XG [12] 21 (h.2.2.1 a) (fun v => XE d 148 30 ls (v :: st) h Q) := g_getf rfl
theorem s148_30 : XE d 148 30 ls st h Q ↔ XE d 148 31 ls (.int 1 :: st) h Q := g_const rfl
theorem s148_31 : XE d 148 31 (.val (.ref a) :: l) st h Q ↔ XE d 148 32 (.val (.ref a) :: l) (.ref a :: st) h Q := g_aload rfl rfl
theorem s148_32 : XE d 148 32 (c0 :: .val (.int x) :: l) st h Q ↔ XE d 148 33 (c0 :: .val (.int x) :: l) (.int x :: st) h Q := g_iload rfl rfl
theorem s148_33 : XE d 148 33 ls st h Q ↔ XE d 148 34 ls (.int 1 :: st) h Q := g_const rfl
theorem s148_34 : XE d 148 34 ls (.int y :: .int x :: .ref a :: st) h Q ↔ (xvo 8 st = true ∧ XV [(12, 139)] (h.2.2.1 a) (fun m' => XC d m' [.ref a, .int x, .int y] h (fun v h' => XE d 148 37 ls (v.toList ++ st) h' Q))) := h_v2 rfl rfl
theorem s148_37 : XE d 148 37 ls (.int y :: .int x :: .ref a :: st) h Q ↔ XS 0 (h.2.2.1 a) x y (fun e => XE d 148 38 ls st (xset h a e) Q) := g_iast rfl
theorem s148_38 : XE d 148 38 (.val (.ref a) :: l) st h Q ↔ XE d 148 39 (.val (.ref a) :: l) (.ref a :: st) h Q := g_aload rfl rfl
theorem s148_39 : XE d 148 39 ls (.ref a :: st) h Q ↔ XG [12] 21 (h.2.2.1 a) (fun v => XE d 148 42 ls (v :: st) h Q) := g_getf rfl
theorem s148_42 : XE d 148 42 ls st h Q ↔ XE d 148 43 ls (.int 2 :: st) h Q := g_const rfl
theorem s148_43 : XE d 148 43 (c0 :: c1 :: .val (.int x) :: l) st h Q ↔ XE d 148 44 (c0 :: c1 :: .val (.int x) :: l) (.int x :: st) h Q := g_iload rfl rfl
theorem s148_44 : XE d 148 44 ls (.int y :: .int x :: .ref a :: st) h Q ↔ XS 0 (h.2.2.1 a) x y (fun e => XE d 148 45 ls st (xset h a e) Q) := g_iast rfl
theorem s148_45 : XE d 148 45 (.val (.ref a) :: l) st h Q ↔ XE d 148 46 (.val (.ref a) :: l) (.ref a :: st) h Q := g_aload rfl rfl
theorem s148_46 : XE d 148 46 ls (.ref a :: st) h Q ↔ XG [12] 21 (h.2.2.1 a) (fun v => XE d 148 49 ls (v :: st) h Q) := g_getf rfl
theorem s148_49 : XE d 148 49 ls st h Q ↔ XE d 148 50 ls (.int 3 :: st) h Q := g_const rfl
theorem s148_50 : XE d 148 50 (.val (.ref a) :: l) st h Q ↔ XE d 148 51 (.val (.ref a) :: l) (.ref a :: st) h Q := g_aload rfl rfl
theorem s148_51 : XE d 148 51 ls (.ref a :: st) h Q ↔ XG [12] 0 (h.2.2.1 a) (fun v => XE d 148 54 ls (v :: st) h Q) := g_getf rfl
theorem s148_54 : XE d 148 54 ls st h Q ↔ XE d 148 56 ls (.int 6 :: st) h Q := g_const rfl
theorem s148_56 : XE d 148 56 ls (.int x :: .ref a :: st) h Q ↔ XA [0, 7] (h.2.2.1 a) x (fun k => XE d 148 57 ls (.int k :: st) h Q) := g_ald rfl
theorem s148_57 : XE d 148 57 ls (.int y :: .int x :: .ref a :: st) h Q ↔ XS 0 (h.2.2.1 a) x y (fun e => XE d 148 58 ls st (xset h a e) Q) := g_iast rfl
theorem s148_58 : XE d 148 58 (.val (.ref a) :: l) st h Q ↔ XE d 148 59 (.val (.ref a) :: l) (.ref a :: st) h Q := g_aload rfl rfl
theorem s148_59 : XE d 148 59 (c0 :: .val (.int x) :: l) st h Q ↔ XE d 148 60 (c0 :: .val (.int x) :: l) (.int x :: st) h Q := g_iload rfl rfl
theorem s148_60 : XE d 148 60 ls st h Q ↔ XE d 148 61 ls (.int 0 :: st) h Q := g_const rfl
theorem s148_61 : XE d 148 61 ls (.int y :: .int x :: .ref a :: st) h Q ↔ (xvo 8 st = true ∧ XV [(12, 139)] (h.2.2.1 a) (fun m' => XC d m' [.ref a, .int x, .int y] h (fun v h' => XE d 148 64 ls (v.toList ++ st) h' Q))) := h_v2 rfl rfl
theorem s148_64 : XE d 148 64 (.val (.ref a) :: l) st h Q ↔ XE d 148 65 (.val (.ref a) :: l) (.ref a :: st) h Q := g_aload rfl rfl
theorem s148_65 : XE d 148 65 (c0 :: .val (.int x) :: l) st h Q ↔ XE d 148 66 (c0 :: .val (.int x) :: l) (.int x :: st) h Q := g_iload rfl rfl
theorem s148_66 : XE d 148 66 ls st h Q ↔ XE d 148 67 ls (.int 1 :: st) h Q := g_const rfl
theorem s148_67 : XE d 148 67 ls (.int y :: .int x :: .ref a :: st) h Q ↔ (xvo 8 st = true ∧ XV [(12, 139)] (h.2.2.1 a) (fun m' => XC d m' [.ref a, .int x, .int y] h (fun v h' => XE d 148 70 ls (v.toList ++ st) h' Q))) := h_v2 rfl rfl
theorem s148_70 : XE d 148 70 ls (.int y :: .int x :: st) h Q ↔ XE d 148 71 ls (.int (x * y) :: st) h Q := g_mul rfl
theorem s148_71 : XE d 148 71 ls st h Q ↔ XE d 148 73 ls (.int 100 :: st) h Q := g_const rfl
theorem s148_73 : XE d 148 73 ls (.int y :: .int x :: st) h Q ↔ (y ≠ 0 ∧ XE d 148 74 ls (.int (x / y) :: st) h Q) := g_div rfl
theorem s148_74 : XE d 148 74 ls st h Q ↔ XE d 148 76 ls (.int 10 :: st) h Q := g_const rfl
theorem s148_76 : XE d 148 76 (c0 :: c1 :: .val (.int x) :: l) st h Q ↔ XE d 148 77 (c0 :: c1 :: .val (.int x) :: l) (.int x :: st) h Q := g_iload rfl rfl
theorem s148_77 : XE d 148 77 (.val (.ref a) :: l) st h Q ↔ XE d 148 78 (.val (.ref a) :: l) (.ref a :: st) h Q := g_aload rfl rfl
theorem s148_78 : XE d 148 78 ls (.ref a :: st) h Q ↔ XG [12] 0 (h.2.2.1 a) (fun v => XE d 148 81 ls (v :: st) h Q) := g_getf rfl
theorem s148_81 : XE d 148 81 ls st h Q ↔ XE d 148 83 ls (.int 6 :: st) h Q := g_const rfl
theorem s148_83 : XE d 148 83 ls (.int x :: .ref a :: st) h Q ↔ XA [0, 7] (h.2.2.1 a) x (fun k => XE d 148 84 ls (.int k :: st) h Q) := g_ald rfl
theorem s148_84 : XE d 148 84 ls (.int y :: .int x :: st) h Q ↔ XE d 148 85 ls (.int (x - y) :: st) h Q := g_sub rfl
theorem s148_85 : XE d 148 85 ls st h Q ↔ XE d 148 86 ls (.int 0 :: st) h Q := g_const rfl
theorem s148_86 : XE d 148 86 ls st h Q ↔ XE d 148 88 ls (.int 99 :: st) h Q := g_const rfl
theorem s148_88 : XE d 148 88 ls (.int z :: .int y :: .int x :: st) h Q ↔ (xvo 8 st = true ∧ XC d 133 [.int x, .int y, .int z] h (fun v h' => XE d 148 91 ls (v.toList ++ st) h' Q)) := h_s3 rfl rfl
theorem s148_91 : XE d 148 91 ls (.int y :: .int x :: st) h Q ↔ XE d 148 92 ls (.int (x * y) :: st) h Q := g_mul rfl
theorem s148_92 : XE d 148 92 ls (.int y :: .int x :: st) h Q ↔ XE d 148 93 ls (.int (x - y) :: st) h Q := g_sub rfl
theorem s148_93 : XE d 148 93 (c0 :: c1 :: c2 :: c3 :: c4 :: l) (.int x :: st) h Q ↔ XE d 148 95 (c0 :: c1 :: c2 :: c3 :: .val (.int x) :: l) st h Q := g_istore (Nat.lt_of_lt_of_le (show 4 < 5 by decide) (Nat.le_add_left 5 _)) rfl rfl
theorem s148_95 : XE d 148 95 (c0 :: c1 :: c2 :: .val (.int x) :: l) st h Q ↔ XE d 148 96 (c0 :: c1 :: c2 :: .val (.int x) :: l) (.int x :: st) h Q := g_iload rfl rfl
theorem s148_96 : XE d 148 96 ls (.int x :: st) h Q ↔ (if x < 0 then XE d 148 99 ls st h Q else XE d 148 104 ls st h Q) := g_ifge rfl
theorem s148_99 : XE d 148 99 (c0 :: c1 :: c2 :: c3 :: .val (.int x) :: l) st h Q ↔ XE d 148 101 (c0 :: c1 :: c2 :: c3 :: .val (.int x) :: l) (.int x :: st) h Q := g_iload rfl rfl
theorem s148_101 : XE d 148 101 ls st h Q ↔ XE d 148 109 ls st h Q := g_goto rfl
theorem s148_104 : XE d 148 104 (.val (.ref a) :: l) st h Q ↔ XE d 148 105 (.val (.ref a) :: l) (.ref a :: st) h Q := g_aload rfl rfl
theorem s148_105 : XE d 148 105 (c0 :: c1 :: c2 :: .val (.int x) :: l) st h Q ↔ XE d 148 106 (c0 :: c1 :: c2 :: .val (.int x) :: l) (.int x :: st) h Q := g_iload rfl rfl
theorem s148_106 : XE d 148 106 ls (.int x :: .ref a :: st) h Q ↔ (xvo 8 st = true ∧ XV [(12, 209)] (h.2.2.1 a) (fun m' => XC d m' [.ref a, .int x] h (fun v h' => XE d 148 109 ls (v.toList ++ st) h' Q))) := h_v1 rfl rfl
theorem s148_109 : XE d 148 109 ls st h Q ↔ XE d 148 110 ls (.int 0 :: st) h Q := g_const rfl
theorem s148_110 : XE d 148 110 ls st h Q ↔ XE d 148 112 ls (.int 100 :: st) h Q := g_const rfl
theorem s148_112 : XE d 148 112 ls (.int z :: .int y :: .int x :: st) h Q ↔ (xvo 8 st = true ∧ XC d 133 [.int x, .int y, .int z] h (fun v h' => XE d 148 115 ls (v.toList ++ st) h' Q)) := h_s3 rfl rfl
theorem s148_115 : XE d 148 115 ls [.int x] h Q ↔ Q (some (.int x)) h := g_iret rfl
-- 149: TwoBellsModel.houseTold(II)I
theorem e149 : XC (d + 1) 149 [.ref a, .int x, .int y] h Q ↔ XE d 149 0 [.val (.ref a), .val (.int x), .val (.int y)] [] h Q := XC_in rfl
theorem s149_0 : XE d 149 0 (.val (.ref a) :: l) st h Q ↔ XE d 149 1 (.val (.ref a) :: l) (.ref a :: st) h Q := g_aload rfl rfl
theorem s149_1 : XE d 149 1 (c0 :: .val (.int x) :: l) st h Q ↔ XE d 149 2 (c0 :: .val (.int x) :: l) (.int x :: st) h Q := g_iload rfl rfl
theorem s149_2 : XE d 149 2 ls (.int x :: .ref a :: st) h Q ↔ (xvo 8 st = true ∧ XV [(12, 136)] (h.2.2.1 a) (fun m' => XC d m' [.ref a, .int x] h (fun v h' => XE d 149 5 ls (v.toList ++ st) h' Q))) := h_v1 rfl rfl
theorem s149_5 : XE d 149 5 ls (.int x :: st) h Q ↔ (if x = 0 then XE d 149 8 ls st h Q else XE d 149 11 ls st h Q) := g_ifne rfl
theorem s149_8 : XE d 149 8 ls st h Q ↔ XE d 149 10 ls (.int (-1000000001) :: st) h Q := g_const rfl
theorem s149_10 : XE d 149 10 ls [.int x] h Q ↔ Q (some (.int x)) h := g_iret rfl
theorem s149_11 : XE d 149 11 (c0 :: c1 :: .val (.int x) :: l) st h Q ↔ XE d 149 12 (c0 :: c1 :: .val (.int x) :: l) (.int x :: st) h Q := g_iload rfl rfl
theorem s149_12 : XE d 149 12 ls (.int x :: st) h Q ↔ xswi d 149 x 88 ls st h Q [(0, 52), (1, 52), (2, 59), (3, 67), (4, 75), (5, 81)] := g_switch rfl
theorem s149_52 : XE d 149 52 (.val (.ref a) :: l) st h Q ↔ XE d 149 53 (.val (.ref a) :: l) (.ref a :: st) h Q := g_aload rfl rfl
theorem s149_53 : XE d 149 53 (c0 :: .val (.int x) :: l) st h Q ↔ XE d 149 54 (c0 :: .val (.int x) :: l) (.int x :: st) h Q := g_iload rfl rfl
theorem s149_54 : XE d 149 54 (c0 :: c1 :: .val (.int x) :: l) st h Q ↔ XE d 149 55 (c0 :: c1 :: .val (.int x) :: l) (.int x :: st) h Q := g_iload rfl rfl
theorem s149_55 : XE d 149 55 ls (.int y :: .int x :: .ref a :: st) h Q ↔ (xvo 8 st = true ∧ XV [(12, 139)] (h.2.2.1 a) (fun m' => XC d m' [.ref a, .int x, .int y] h (fun v h' => XE d 149 58 ls (v.toList ++ st) h' Q))) := h_v2 rfl rfl
theorem s149_58 : XE d 149 58 ls [.int x] h Q ↔ Q (some (.int x)) h := g_iret rfl
theorem s149_59 : XE d 149 59 (.val (.ref a) :: l) st h Q ↔ XE d 149 60 (.val (.ref a) :: l) (.ref a :: st) h Q := g_aload rfl rfl
theorem s149_60 : XE d 149 60 (c0 :: .val (.int x) :: l) st h Q ↔ XE d 149 61 (c0 :: .val (.int x) :: l) (.int x :: st) h Q := g_iload rfl rfl
theorem s149_61 : XE d 149 61 ls st h Q ↔ XE d 149 62 ls (.int (-1) :: st) h Q := g_const rfl
theorem s149_62 : XE d 149 62 ls st h Q ↔ XE d 149 63 ls (.int 0 :: st) h Q := g_const rfl
theorem s149_63 : XE d 149 63 ls (.int z :: .int y :: .int x :: .ref a :: st) h Q ↔ (xvo 8 st = true ∧ XV [(12, 147)] (h.2.2.1 a) (fun m' => XC d m' [.ref a, .int x, .int y, .int z] h (fun v h' => XE d 149 66 ls (v.toList ++ st) h' Q))) := h_v3 rfl rfl
theorem s149_66 : XE d 149 66 ls [.int x] h Q ↔ Q (some (.int x)) h := g_iret rfl
theorem s149_67 : XE d 149 67 (.val (.ref a) :: l) st h Q ↔ XE d 149 68 (.val (.ref a) :: l) (.ref a :: st) h Q := g_aload rfl rfl
theorem s149_68 : XE d 149 68 (c0 :: .val (.int x) :: l) st h Q ↔ XE d 149 69 (c0 :: .val (.int x) :: l) (.int x :: st) h Q := g_iload rfl rfl
theorem s149_69 : XE d 149 69 ls st h Q ↔ XE d 149 70 ls (.int (-1) :: st) h Q := g_const rfl
theorem s149_70 : XE d 149 70 ls st h Q ↔ XE d 149 71 ls (.int 1 :: st) h Q := g_const rfl
theorem s149_71 : XE d 149 71 ls (.int z :: .int y :: .int x :: .ref a :: st) h Q ↔ (xvo 8 st = true ∧ XV [(12, 147)] (h.2.2.1 a) (fun m' => XC d m' [.ref a, .int x, .int y, .int z] h (fun v h' => XE d 149 74 ls (v.toList ++ st) h' Q))) := h_v3 rfl rfl
theorem s149_74 : XE d 149 74 ls [.int x] h Q ↔ Q (some (.int x)) h := g_iret rfl
theorem s149_75 : XE d 149 75 (.val (.ref a) :: l) st h Q ↔ XE d 149 76 (.val (.ref a) :: l) (.ref a :: st) h Q := g_aload rfl rfl
theorem s149_76 : XE d 149 76 (c0 :: .val (.int x) :: l) st h Q ↔ XE d 149 77 (c0 :: .val (.int x) :: l) (.int x :: st) h Q := g_iload rfl rfl
theorem s149_77 : XE d 149 77 ls (.int x :: .ref a :: st) h Q ↔ (xvo 8 st = true ∧ XV [(12, 148)] (h.2.2.1 a) (fun m' => XC d m' [.ref a, .int x] h (fun v h' => XE d 149 80 ls (v.toList ++ st) h' Q))) := h_v1 rfl rfl
theorem s149_80 : XE d 149 80 ls [.int x] h Q ↔ Q (some (.int x)) h := g_iret rfl
theorem s149_81 : XE d 149 81 (.val (.ref a) :: l) st h Q ↔ XE d 149 82 (.val (.ref a) :: l) (.ref a :: st) h Q := g_aload rfl rfl
theorem s149_82 : XE d 149 82 (c0 :: .val (.int x) :: l) st h Q ↔ XE d 149 83 (c0 :: .val (.int x) :: l) (.int x :: st) h Q := g_iload rfl rfl
theorem s149_83 : XE d 149 83 ls st h Q ↔ XE d 149 84 ls (.int 2 :: st) h Q := g_const rfl
theorem s149_84 : XE d 149 84 ls (.int y :: .int x :: .ref a :: st) h Q ↔ (xvo 8 st = true ∧ XV [(12, 139)] (h.2.2.1 a) (fun m' => XC d m' [.ref a, .int x, .int y] h (fun v h' => XE d 149 87 ls (v.toList ++ st) h' Q))) := h_v2 rfl rfl
theorem s149_87 : XE d 149 87 ls [.int x] h Q ↔ Q (some (.int x)) h := g_iret rfl
theorem s149_88 : XE d 149 88 ls st h Q ↔ XE d 149 90 ls (.int (-1000000001) :: st) h Q := g_const rfl
theorem s149_90 : XE d 149 90 ls [.int x] h Q ↔ Q (some (.int x)) h := g_iret rfl
-- 150: TwoBellsModel.change(III)I
theorem e150 : XC (d + 1) 150 [.ref a, .int x, .int y, .int z] h Q ↔ XE d 150 0 [.val (.ref a), .val (.int x), .val (.int y), .val (.int z)] [] h Q := XC_in rfl
theorem s150_0 : XE d 150 0 (.val (.ref a) :: l) st h Q ↔ XE d 150 1 (.val (.ref a) :: l) (.ref a :: st) h Q := g_aload rfl rfl
theorem s150_1 : XE d 150 1 (c0 :: .val (.int x) :: l) st h Q ↔ XE d 150 2 (c0 :: .val (.int x) :: l) (.int x :: st) h Q := g_iload rfl rfl
theorem s150_2 : XE d 150 2 ls (.int x :: .ref a :: st) h Q ↔ (xvo 8 st = true ∧ XV [(12, 136)] (h.2.2.1 a) (fun m' => XC d m' [.ref a, .int x] h (fun v h' => XE d 150 5 ls (v.toList ++ st) h' Q))) := h_v1 rfl rfl
theorem s150_5 : XE d 150 5 ls (.int x :: st) h Q ↔ (if x = 0 then XE d 150 43 ls st h Q else XE d 150 8 ls st h Q) := g_ifeq rfl
theorem s150_8 : XE d 150 8 (c0 :: c1 :: .val (.int x) :: l) st h Q ↔ XE d 150 9 (c0 :: c1 :: .val (.int x) :: l) (.int x :: st) h Q := g_iload rfl rfl
theorem s150_9 : XE d 150 9 ls st h Q ↔ XE d 150 10 ls (.int 0 :: st) h Q := g_const rfl
theorem s150_10 : XE d 150 10 ls st h Q ↔ XE d 150 11 ls (.int 1 :: st) h Q := g_const rfl
theorem s150_11 : XE d 150 11 ls (.int z :: .int y :: .int x :: st) h Q ↔ (xvo 8 st = true ∧ XC d 132 [.int x, .int y, .int z] h (fun v h' => XE d 150 14 ls (v.toList ++ st) h' Q)) := h_s3 rfl rfl
theorem s150_14 : XE d 150 14 ls (.int x :: st) h Q ↔ (if x = 0 then XE d 150 43 ls st h Q else XE d 150 17 ls st h Q) := g_ifeq rfl
theorem s150_17 : XE d 150 17 (c0 :: c1 :: c2 :: .val (.int x) :: l) st h Q ↔ XE d 150 18 (c0 :: c1 :: c2 :: .val (.int x) :: l) (.int x :: st) h Q := g_iload rfl rfl
theorem s150_18 : XE d 150 18 ls st h Q ↔ XE d 150 19 ls (.int 0 :: st) h Q := g_const rfl
theorem s150_19 : XE d 150 19 ls st h Q ↔ XE d 150 21 ls (.int 100 :: st) h Q := g_const rfl
theorem s150_21 : XE d 150 21 ls (.int z :: .int y :: .int x :: st) h Q ↔ (xvo 8 st = true ∧ XC d 132 [.int x, .int y, .int z] h (fun v h' => XE d 150 24 ls (v.toList ++ st) h' Q)) := h_s3 rfl rfl
theorem s150_24 : XE d 150 24 ls (.int x :: st) h Q ↔ (if x = 0 then XE d 150 43 ls st h Q else XE d 150 27 ls st h Q) := g_ifeq rfl
theorem s150_27 : XE d 150 27 (.val (.ref a) :: l) st h Q ↔ XE d 150 28 (.val (.ref a) :: l) (.ref a :: st) h Q := g_aload rfl rfl
theorem s150_28 : XE d 150 28 ls st h Q ↔ XE d 150 30 ls (.int 8 :: st) h Q := g_const rfl
theorem s150_30 : XE d 150 30 ls st h Q ↔ XE d 150 31 ls (.int 3 :: st) h Q := g_const rfl
theorem s150_31 : XE d 150 31 (c0 :: .val (.int x) :: l) st h Q ↔ XE d 150 32 (c0 :: .val (.int x) :: l) (.int x :: st) h Q := g_iload rfl rfl
theorem s150_32 : XE d 150 32 ls (.int y :: .int x :: st) h Q ↔ XE d 150 33 ls (.int (x * y) :: st) h Q := g_mul rfl
theorem s150_33 : XE d 150 33 ls (.int y :: .int x :: st) h Q ↔ XE d 150 34 ls (.int (x + y) :: st) h Q := g_add rfl
theorem s150_34 : XE d 150 34 (c0 :: c1 :: .val (.int x) :: l) st h Q ↔ XE d 150 35 (c0 :: c1 :: .val (.int x) :: l) (.int x :: st) h Q := g_iload rfl rfl
theorem s150_35 : XE d 150 35 ls (.int y :: .int x :: st) h Q ↔ XE d 150 36 ls (.int (x + y) :: st) h Q := g_add rfl
theorem s150_36 : XE d 150 36 (c0 :: c1 :: c2 :: .val (.int x) :: l) st h Q ↔ XE d 150 37 (c0 :: c1 :: c2 :: .val (.int x) :: l) (.int x :: st) h Q := g_iload rfl rfl
theorem s150_37 : XE d 150 37 ls (.int y :: .int x :: .ref a :: st) h Q ↔ (xvo 8 st = true ∧ XV [(12, 143)] (h.2.2.1 a) (fun m' => XC d m' [.ref a, .int x, .int y] h (fun v h' => XE d 150 40 ls (v.toList ++ st) h' Q))) := h_v2 rfl rfl
theorem s150_40 : XE d 150 40 ls st h Q ↔ XE d 150 45 ls st h Q := g_goto rfl
theorem s150_43 : XE d 150 43 ls st h Q ↔ XE d 150 45 ls (.int (-1000000001) :: st) h Q := g_const rfl
theorem s150_45 : XE d 150 45 ls [.int x] h Q ↔ Q (some (.int x)) h := g_iret rfl
-- 151: TwoBellsModel.doAgree(II)Z
theorem e151 : XC (d + 1) 151 [.ref a, .int x, .int y] h Q ↔ XE d 151 0 [.val (.ref a), .val (.int x), .val (.int y)] [] h Q := XC_in rfl
theorem s151_0 : XE d 151 0 (.val (.ref a) :: l) st h Q ↔ XE d 151 1 (.val (.ref a) :: l) (.ref a :: st) h Q := g_aload rfl rfl
theorem s151_1 : XE d 151 1 (c0 :: .val (.int x) :: l) st h Q ↔ XE d 151 2 (c0 :: .val (.int x) :: l) (.int x :: st) h Q := g_iload rfl rfl
theorem s151_2 : XE d 151 2 ls st h Q ↔ XE d 151 3 ls (.int 2 :: st) h Q := g_const rfl
theorem s151_3 : XE d 151 3 ls (.int y :: .int x :: .ref a :: st) h Q ↔ (xvo 8 st = true ∧ XV [(12, 139)] (h.2.2.1 a) (fun m' => XC d m' [.ref a, .int x, .int y] h (fun v h' => XE d 151 6 ls (v.toList ++ st) h' Q))) := h_v2 rfl rfl
theorem s151_6 : XE d 151 6 (c0 :: c1 :: .val (.int x) :: l) st h Q ↔ XE d 151 7 (c0 :: c1 :: .val (.int x) :: l) (.int x :: st) h Q := g_iload rfl rfl
theorem s151_7 : XE d 151 7 ls (.int y :: .int x :: st) h Q ↔ XE d 151 8 ls (.int (xshr x y) :: st) h Q := g_shr rfl
theorem s151_8 : XE d 151 8 ls st h Q ↔ XE d 151 9 ls (.int 1 :: st) h Q := g_const rfl
theorem s151_9 : XE d 151 9 ls (.int y :: .int x :: st) h Q ↔ XE d 151 10 ls (.int (x &&& y) :: st) h Q := g_and rfl
theorem s151_10 : XE d 151 10 ls st h Q ↔ XE d 151 11 ls (.int 1 :: st) h Q := g_const rfl
theorem s151_11 : XE d 151 11 ls (.int y :: .int x :: st) h Q ↔ (if x = y then XE d 151 14 ls st h Q else XE d 151 18 ls st h Q) := g_cne rfl
theorem s151_14 : XE d 151 14 ls st h Q ↔ XE d 151 15 ls (.int 1 :: st) h Q := g_const rfl
theorem s151_15 : XE d 151 15 ls st h Q ↔ XE d 151 19 ls st h Q := g_goto rfl
theorem s151_18 : XE d 151 18 ls st h Q ↔ XE d 151 19 ls (.int 0 :: st) h Q := g_const rfl
theorem s151_19 : XE d 151 19 ls [.int 0] h Q ↔ Q (some (.int 0)) h := g_zret rfl rfl
theorem s151_19t : XE d 151 19 ls [.int 1] h Q ↔ Q (some (.int 1)) h := g_zret rfl rfl
theorem s151_19b : XE d 151 19 ls [.int (bI q)] h Q ↔ Q (some (.int (bI q))) h := g_zret (bI_nar q) rfl
-- 152: TwoBellsModel.agree(III)I
theorem e152 : XC (d + 1) 152 [.ref a, .int x, .int y, .int z] h Q ↔ XE d 152 0 [.val (.ref a), .val (.int x), .val (.int y), .val (.int z), .unset] [] h Q := XC_in rfl
theorem s152_0 : XE d 152 0 (.val (.ref a) :: l) st h Q ↔ XE d 152 1 (.val (.ref a) :: l) (.ref a :: st) h Q := g_aload rfl rfl
theorem s152_1 : XE d 152 1 (c0 :: .val (.int x) :: l) st h Q ↔ XE d 152 2 (c0 :: .val (.int x) :: l) (.int x :: st) h Q := g_iload rfl rfl
theorem s152_2 : XE d 152 2 ls (.int x :: .ref a :: st) h Q ↔ (xvo 8 st = true ∧ XV [(12, 136)] (h.2.2.1 a) (fun m' => XC d m' [.ref a, .int x] h (fun v h' => XE d 152 5 ls (v.toList ++ st) h' Q))) := h_v1 rfl rfl
theorem s152_5 : XE d 152 5 ls (.int x :: st) h Q ↔ (if x = 0 then XE d 152 30 ls st h Q else XE d 152 8 ls st h Q) := g_ifeq rfl
theorem s152_8 : XE d 152 8 (.val (.ref a) :: l) st h Q ↔ XE d 152 9 (.val (.ref a) :: l) (.ref a :: st) h Q := g_aload rfl rfl
theorem s152_9 : XE d 152 9 (c0 :: c1 :: .val (.int x) :: l) st h Q ↔ XE d 152 10 (c0 :: c1 :: .val (.int x) :: l) (.int x :: st) h Q := g_iload rfl rfl
theorem s152_10 : XE d 152 10 ls (.int x :: .ref a :: st) h Q ↔ (xvo 8 st = true ∧ XV [(12, 136)] (h.2.2.1 a) (fun m' => XC d m' [.ref a, .int x] h (fun v h' => XE d 152 13 ls (v.toList ++ st) h' Q))) := h_v1 rfl rfl
theorem s152_13 : XE d 152 13 ls (.int x :: st) h Q ↔ (if x = 0 then XE d 152 30 ls st h Q else XE d 152 16 ls st h Q) := g_ifeq rfl
theorem s152_16 : XE d 152 16 (c0 :: .val (.int x) :: l) st h Q ↔ XE d 152 17 (c0 :: .val (.int x) :: l) (.int x :: st) h Q := g_iload rfl rfl
theorem s152_17 : XE d 152 17 (c0 :: c1 :: .val (.int x) :: l) st h Q ↔ XE d 152 18 (c0 :: c1 :: .val (.int x) :: l) (.int x :: st) h Q := g_iload rfl rfl
theorem s152_18 : XE d 152 18 ls (.int y :: .int x :: st) h Q ↔ (if x = y then XE d 152 30 ls st h Q else XE d 152 21 ls st h Q) := g_ceq rfl
theorem s152_21 : XE d 152 21 (c0 :: c1 :: c2 :: .val (.int x) :: l) st h Q ↔ XE d 152 22 (c0 :: c1 :: c2 :: .val (.int x) :: l) (.int x :: st) h Q := g_iload rfl rfl
theorem s152_22 : XE d 152 22 ls st h Q ↔ XE d 152 23 ls (.int 0 :: st) h Q := g_const rfl
theorem s152_23 : XE d 152 23 ls st h Q ↔ XE d 152 24 ls (.int 1 :: st) h Q := g_const rfl
theorem s152_24 : XE d 152 24 ls (.int z :: .int y :: .int x :: st) h Q ↔ (xvo 8 st = true ∧ XC d 132 [.int x, .int y, .int z] h (fun v h' => XE d 152 27 ls (v.toList ++ st) h' Q)) := h_s3 rfl rfl
theorem s152_27 : XE d 152 27 ls (.int x :: st) h Q ↔ (if x = 0 then XE d 152 30 ls st h Q else XE d 152 33 ls st h Q) := g_ifne rfl
theorem s152_30 : XE d 152 30 ls st h Q ↔ XE d 152 32 ls (.int (-1000000001) :: st) h Q := g_const rfl
theorem s152_32 : XE d 152 32 ls [.int x] h Q ↔ Q (some (.int x)) h := g_iret rfl
theorem s152_33 : XE d 152 33 (.val (.ref a) :: l) st h Q ↔ XE d 152 34 (.val (.ref a) :: l) (.ref a :: st) h Q := g_aload rfl rfl
theorem s152_34 : XE d 152 34 (c0 :: .val (.int x) :: l) st h Q ↔ XE d 152 35 (c0 :: .val (.int x) :: l) (.int x :: st) h Q := g_iload rfl rfl
theorem s152_35 : XE d 152 35 (c0 :: c1 :: .val (.int x) :: l) st h Q ↔ XE d 152 36 (c0 :: c1 :: .val (.int x) :: l) (.int x :: st) h Q := g_iload rfl rfl
theorem s152_36 : XE d 152 36 ls (.int y :: .int x :: .ref a :: st) h Q ↔ (xvo 8 st = true ∧ XV [(12, 151)] (h.2.2.1 a) (fun m' => XC d m' [.ref a, .int x, .int y] h (fun v h' => XE d 152 39 ls (v.toList ++ st) h' Q))) := h_v2 rfl rfl
theorem s152_39 : XE d 152 39 ls (.int x :: st) h Q ↔ (if x = 0 then XE d 152 46 ls st h Q else XE d 152 42 ls st h Q) := g_ifeq rfl
theorem s152_42 : XE d 152 42 ls st h Q ↔ XE d 152 43 ls (.int 1 :: st) h Q := g_const rfl
theorem s152_43 : XE d 152 43 ls st h Q ↔ XE d 152 47 ls st h Q := g_goto rfl
theorem s152_46 : XE d 152 46 ls st h Q ↔ XE d 152 47 ls (.int 0 :: st) h Q := g_const rfl
theorem s152_47 : XE d 152 47 (c0 :: c1 :: c2 :: c3 :: c4 :: l) (.int x :: st) h Q ↔ XE d 152 49 (c0 :: c1 :: c2 :: c3 :: .val (.int x) :: l) st h Q := g_istore (Nat.lt_of_lt_of_le (show 4 < 5 by decide) (Nat.le_add_left 5 _)) rfl rfl
theorem s152_49 : XE d 152 49 (c0 :: c1 :: c2 :: c3 :: .val (.int x) :: l) st h Q ↔ XE d 152 51 (c0 :: c1 :: c2 :: c3 :: .val (.int x) :: l) (.int x :: st) h Q := g_iload rfl rfl
theorem s152_51 : XE d 152 51 (c0 :: c1 :: c2 :: .val (.int x) :: l) st h Q ↔ XE d 152 52 (c0 :: c1 :: c2 :: .val (.int x) :: l) (.int x :: st) h Q := g_iload rfl rfl
theorem s152_52 : XE d 152 52 ls (.int y :: .int x :: st) h Q ↔ (if x = y then XE d 152 93 ls st h Q else XE d 152 55 ls st h Q) := g_ceq rfl
theorem s152_55 : XE d 152 55 (.val (.ref a) :: l) st h Q ↔ XE d 152 56 (.val (.ref a) :: l) (.ref a :: st) h Q := g_aload rfl rfl
theorem s152_56 : XE d 152 56 ls (.ref a :: st) h Q ↔ XG [12] 0 (h.2.2.1 a) (fun v => XE d 152 59 ls (v :: st) h Q) := g_getf rfl
theorem s152_59 : XE d 152 59 ls st h Q ↔ XE d 152 61 ls (.int 8 :: st) h Q := g_const rfl
theorem s152_61 : XE d 152 61 ls st h Q ↔ XE d 152 62 ls (.int 3 :: st) h Q := g_const rfl
theorem s152_62 : XE d 152 62 (c0 :: .val (.int x) :: l) st h Q ↔ XE d 152 63 (c0 :: .val (.int x) :: l) (.int x :: st) h Q := g_iload rfl rfl
theorem s152_63 : XE d 152 63 ls (.int y :: .int x :: st) h Q ↔ XE d 152 64 ls (.int (x * y) :: st) h Q := g_mul rfl
theorem s152_64 : XE d 152 64 ls (.int y :: .int x :: st) h Q ↔ XE d 152 65 ls (.int (x + y) :: st) h Q := g_add rfl
theorem s152_65 : XE d 152 65 ls st h Q ↔ XE d 152 66 ls (.int 2 :: st) h Q := g_const rfl
theorem s152_66 : XE d 152 66 ls (.int y :: .int x :: st) h Q ↔ XE d 152 67 ls (.int (x + y) :: st) h Q := g_add rfl
theorem s152_67 : XE d 152 67 ls (.int x :: .ref a :: st) h Q ↔ XE d 152 68 ls (.int x :: .ref a :: .int x :: .ref a :: st) h Q := g_dup2 rfl
theorem s152_68 : XE d 152 68 ls (.int x :: .ref a :: st) h Q ↔ XA [0, 7] (h.2.2.1 a) x (fun k => XE d 152 69 ls (.int k :: st) h Q) := g_ald rfl
theorem s152_69 : XE d 152 69 ls st h Q ↔ XE d 152 70 ls (.int 1 :: st) h Q := g_const rfl
theorem s152_70 : XE d 152 70 (c0 :: c1 :: .val (.int x) :: l) st h Q ↔ XE d 152 71 (c0 :: c1 :: .val (.int x) :: l) (.int x :: st) h Q := g_iload rfl rfl
theorem s152_71 : XE d 152 71 ls (.int y :: .int x :: st) h Q ↔ XE d 152 72 ls (.int (xshl x y) :: st) h Q := g_shl rfl
theorem s152_72 : XE d 152 72 ls (.int y :: .int x :: st) h Q ↔ XE d 152 73 ls (.int (x ^^^ y) :: st) h Q := g_xor rfl
theorem s152_73 : XE d 152 73 ls (.int y :: .int x :: .ref a :: st) h Q ↔ XS 0 (h.2.2.1 a) x y (fun e => XE d 152 74 ls st (xset h a e) Q) := g_iast rfl
theorem s152_74 : XE d 152 74 (.val (.ref a) :: l) st h Q ↔ XE d 152 75 (.val (.ref a) :: l) (.ref a :: st) h Q := g_aload rfl rfl
theorem s152_75 : XE d 152 75 ls (.ref a :: st) h Q ↔ XG [12] 0 (h.2.2.1 a) (fun v => XE d 152 78 ls (v :: st) h Q) := g_getf rfl
theorem s152_78 : XE d 152 78 ls st h Q ↔ XE d 152 80 ls (.int 8 :: st) h Q := g_const rfl
theorem s152_80 : XE d 152 80 ls st h Q ↔ XE d 152 81 ls (.int 3 :: st) h Q := g_const rfl
theorem s152_81 : XE d 152 81 (c0 :: c1 :: .val (.int x) :: l) st h Q ↔ XE d 152 82 (c0 :: c1 :: .val (.int x) :: l) (.int x :: st) h Q := g_iload rfl rfl
theorem s152_82 : XE d 152 82 ls (.int y :: .int x :: st) h Q ↔ XE d 152 83 ls (.int (x * y) :: st) h Q := g_mul rfl
theorem s152_83 : XE d 152 83 ls (.int y :: .int x :: st) h Q ↔ XE d 152 84 ls (.int (x + y) :: st) h Q := g_add rfl
theorem s152_84 : XE d 152 84 ls st h Q ↔ XE d 152 85 ls (.int 2 :: st) h Q := g_const rfl
theorem s152_85 : XE d 152 85 ls (.int y :: .int x :: st) h Q ↔ XE d 152 86 ls (.int (x + y) :: st) h Q := g_add rfl
theorem s152_86 : XE d 152 86 ls (.int x :: .ref a :: st) h Q ↔ XE d 152 87 ls (.int x :: .ref a :: .int x :: .ref a :: st) h Q := g_dup2 rfl
theorem s152_87 : XE d 152 87 ls (.int x :: .ref a :: st) h Q ↔ XA [0, 7] (h.2.2.1 a) x (fun k => XE d 152 88 ls (.int k :: st) h Q) := g_ald rfl
theorem s152_88 : XE d 152 88 ls st h Q ↔ XE d 152 89 ls (.int 1 :: st) h Q := g_const rfl
theorem s152_89 : XE d 152 89 (c0 :: .val (.int x) :: l) st h Q ↔ XE d 152 90 (c0 :: .val (.int x) :: l) (.int x :: st) h Q := g_iload rfl rfl
theorem s152_90 : XE d 152 90 ls (.int y :: .int x :: st) h Q ↔ XE d 152 91 ls (.int (xshl x y) :: st) h Q := g_shl rfl
theorem s152_91 : XE d 152 91 ls (.int y :: .int x :: st) h Q ↔ XE d 152 92 ls (.int (x ^^^ y) :: st) h Q := g_xor rfl
theorem s152_92 : XE d 152 92 ls (.int y :: .int x :: .ref a :: st) h Q ↔ XS 0 (h.2.2.1 a) x y (fun e => XE d 152 93 ls st (xset h a e) Q) := g_iast rfl
theorem s152_93 : XE d 152 93 (c0 :: c1 :: c2 :: c3 :: .val (.int x) :: l) st h Q ↔ XE d 152 95 (c0 :: c1 :: c2 :: c3 :: .val (.int x) :: l) (.int x :: st) h Q := g_iload rfl rfl
theorem s152_95 : XE d 152 95 ls [.int x] h Q ↔ Q (some (.int x)) h := g_iret rfl
-- 153: TwoBellsModel.patience(I)I
theorem e153 : XC (d + 1) 153 [.ref a, .int x] h Q ↔ XE d 153 0 [.val (.ref a), .val (.int x)] [] h Q := XC_in rfl
theorem s153_0 : XE d 153 0 (c0 :: .val (.int x) :: l) st h Q ↔ XE d 153 1 (c0 :: .val (.int x) :: l) (.int x :: st) h Q := g_iload rfl rfl
theorem s153_1 : XE d 153 1 ls st h Q ↔ XE d 153 2 ls (.int 0 :: st) h Q := g_const rfl
theorem s153_2 : XE d 153 2 ls st h Q ↔ XE d 153 4 ls (.int 24 :: st) h Q := g_const rfl
theorem s153_4 : XE d 153 4 ls (.int z :: .int y :: .int x :: st) h Q ↔ (xvo 8 st = true ∧ XC d 132 [.int x, .int y, .int z] h (fun v h' => XE d 153 7 ls (v.toList ++ st) h' Q)) := h_s3 rfl rfl
theorem s153_7 : XE d 153 7 ls (.int x :: st) h Q ↔ (if x = 0 then XE d 153 20 ls st h Q else XE d 153 10 ls st h Q) := g_ifeq rfl
theorem s153_10 : XE d 153 10 (.val (.ref a) :: l) st h Q ↔ XE d 153 11 (.val (.ref a) :: l) (.ref a :: st) h Q := g_aload rfl rfl
theorem s153_11 : XE d 153 11 ls st h Q ↔ XE d 153 13 ls (.int 6 :: st) h Q := g_const rfl
theorem s153_13 : XE d 153 13 (c0 :: .val (.int x) :: l) st h Q ↔ XE d 153 14 (c0 :: .val (.int x) :: l) (.int x :: st) h Q := g_iload rfl rfl
theorem s153_14 : XE d 153 14 ls (.int y :: .int x :: .ref a :: st) h Q ↔ (xvo 8 st = true ∧ XV [(12, 143)] (h.2.2.1 a) (fun m' => XC d m' [.ref a, .int x, .int y] h (fun v h' => XE d 153 17 ls (v.toList ++ st) h' Q))) := h_v2 rfl rfl
theorem s153_17 : XE d 153 17 ls st h Q ↔ XE d 153 22 ls st h Q := g_goto rfl
theorem s153_20 : XE d 153 20 ls st h Q ↔ XE d 153 22 ls (.int (-1000000001) :: st) h Q := g_const rfl
theorem s153_22 : XE d 153 22 ls [.int x] h Q ↔ Q (some (.int x)) h := g_iret rfl
-- 154: TwoBellsModel.deal(I)I
theorem e154 : XC (d + 1) 154 [.ref a, .int x] h Q ↔ XE d 154 0 [.val (.ref a), .val (.int x), .unset, .unset, .unset] [] h Q := XC_in rfl
theorem s154_0 : XE d 154 0 (c0 :: .val (.int x) :: l) st h Q ↔ XE d 154 1 (c0 :: .val (.int x) :: l) (.int x :: st) h Q := g_iload rfl rfl
theorem s154_1 : XE d 154 1 ls st h Q ↔ XE d 154 2 ls (.int 1 :: st) h Q := g_const rfl
theorem s154_2 : XE d 154 2 ls st h Q ↔ XE d 154 4 ls (.int 10 :: st) h Q := g_const rfl
theorem s154_4 : XE d 154 4 ls (.int z :: .int y :: .int x :: st) h Q ↔ (xvo 8 st = true ∧ XC d 132 [.int x, .int y, .int z] h (fun v h' => XE d 154 7 ls (v.toList ++ st) h' Q)) := h_s3 rfl rfl
theorem s154_7 : XE d 154 7 ls (.int x :: st) h Q ↔ (if x = 0 then XE d 154 10 ls st h Q else XE d 154 13 ls st h Q) := g_ifne rfl
theorem s154_10 : XE d 154 10 ls st h Q ↔ XE d 154 12 ls (.int (-1000000001) :: st) h Q := g_const rfl
theorem s154_12 : XE d 154 12 ls [.int x] h Q ↔ Q (some (.int x)) h := g_iret rfl
theorem s154_13 : XE d 154 13 ls st h Q ↔ XE d 154 14 ls (.int 0 :: st) h Q := g_const rfl
theorem s154_14 : XE d 154 14 (c0 :: c1 :: c2 :: l) (.int x :: st) h Q ↔ XE d 154 15 (c0 :: c1 :: .val (.int x) :: l) st h Q := g_istore (Nat.lt_of_lt_of_le (show 2 < 3 by decide) (Nat.le_add_left 3 _)) rfl rfl
theorem s154_15 : XE d 154 15 (c0 :: c1 :: .val (.int x) :: l) st h Q ↔ XE d 154 16 (c0 :: c1 :: .val (.int x) :: l) (.int x :: st) h Q := g_iload rfl rfl
theorem s154_16 : XE d 154 16 (c0 :: .val (.int x) :: l) st h Q ↔ XE d 154 17 (c0 :: .val (.int x) :: l) (.int x :: st) h Q := g_iload rfl rfl
theorem s154_17 : XE d 154 17 ls (.int y :: .int x :: st) h Q ↔ (if x < y then XE d 154 20 ls st h Q else XE d 154 59 ls st h Q) := g_cge rfl
theorem s154_20 : XE d 154 20 (.val (.ref a) :: l) st h Q ↔ XE d 154 21 (.val (.ref a) :: l) (.ref a :: st) h Q := g_aload rfl rfl
theorem s154_21 : XE d 154 21 ls (.ref a :: st) h Q ↔ XG [12] 0 (h.2.2.1 a) (fun v => XE d 154 24 ls (v :: st) h Q) := g_getf rfl
theorem s154_24 : XE d 154 24 ls st h Q ↔ XE d 154 25 ls (.int 1 :: st) h Q := g_const rfl
theorem s154_25 : XE d 154 25 ls (.int x :: .ref a :: st) h Q ↔ XA [0, 7] (h.2.2.1 a) x (fun k => XE d 154 26 ls (.int k :: st) h Q) := g_ald rfl
theorem s154_26 : XE d 154 26 ls st h Q ↔ XE d 154 28 ls (.int 10 :: st) h Q := g_const rfl
theorem s154_28 : XE d 154 28 ls (.int y :: .int x :: st) h Q ↔ (if x < y then XE d 154 31 ls st h Q else XE d 154 59 ls st h Q) := g_cge rfl
theorem s154_31 : XE d 154 31 (.val (.ref a) :: l) st h Q ↔ XE d 154 32 (.val (.ref a) :: l) (.ref a :: st) h Q := g_aload rfl rfl
theorem s154_32 : XE d 154 32 ls (.ref a :: st) h Q ↔ (xvo 8 st = true ∧ XV [(12, 144)] (h.2.2.1 a) (fun m' => XC d m' [.ref a] h (fun v h' => XE d 154 35 ls (v.toList ++ st) h' Q))) := h_v0 rfl
theorem s154_35 : XE d 154 35 ls st h Q ↔ XE d 154 37 ls (.int 101 :: st) h Q := g_const rfl
theorem s154_37 : XE d 154 37 ls (.int y :: .int x :: st) h Q ↔ (y ≠ 0 ∧ XE d 154 38 ls (.int (x % y) :: st) h Q) := g_rem rfl
theorem s154_38 : XE d 154 38 (c0 :: c1 :: c2 :: c3 :: l) (.int x :: st) h Q ↔ XE d 154 39 (c0 :: c1 :: c2 :: .val (.int x) :: l) st h Q := g_istore (Nat.lt_of_lt_of_le (show 3 < 4 by decide) (Nat.le_add_left 4 _)) rfl rfl
theorem s154_39 : XE d 154 39 (.val (.ref a) :: l) st h Q ↔ XE d 154 40 (.val (.ref a) :: l) (.ref a :: st) h Q := g_aload rfl rfl
theorem s154_40 : XE d 154 40 (c0 :: c1 :: c2 :: .val (.int x) :: l) st h Q ↔ XE d 154 41 (c0 :: c1 :: c2 :: .val (.int x) :: l) (.int x :: st) h Q := g_iload rfl rfl
theorem s154_41 : XE d 154 41 (.val (.ref a) :: l) st h Q ↔ XE d 154 42 (.val (.ref a) :: l) (.ref a :: st) h Q := g_aload rfl rfl
theorem s154_42 : XE d 154 42 ls (.ref a :: st) h Q ↔ (xvo 8 st = true ∧ XV [(12, 144)] (h.2.2.1 a) (fun m' => XC d m' [.ref a] h (fun v h' => XE d 154 45 ls (v.toList ++ st) h' Q))) := h_v0 rfl
theorem s154_45 : XE d 154 45 ls st h Q ↔ XE d 154 47 ls (.int 101 :: st) h Q := g_const rfl
theorem s154_47 : XE d 154 47 ls (.int y :: .int x :: st) h Q ↔ (y ≠ 0 ∧ XE d 154 48 ls (.int (x % y) :: st) h Q) := g_rem rfl
theorem s154_48 : XE d 154 48 ls (.int y :: .int x :: .ref a :: st) h Q ↔ (xvo 8 st = true ∧ XV [(12, 145)] (h.2.2.1 a) (fun m' => XC d m' [.ref a, .int x, .int y] h (fun v h' => XE d 154 51 ls (v.toList ++ st) h' Q))) := h_v2 rfl rfl
theorem s154_51 : XE d 154 51 (c0 :: c1 :: c2 :: c3 :: c4 :: l) (.int x :: st) h Q ↔ XE d 154 53 (c0 :: c1 :: c2 :: c3 :: .val (.int x) :: l) st h Q := g_istore (Nat.lt_of_lt_of_le (show 4 < 5 by decide) (Nat.le_add_left 5 _)) rfl rfl
theorem s154_53 : XE d 154 53 (c0 :: c1 :: .val (.int x) :: l) st h Q ↔ XE d 154 56 (c0 :: c1 :: .val (.int (x + 1)) :: l) st h Q := g_iinc rfl rfl rfl
theorem s154_56 : XE d 154 56 ls st h Q ↔ XE d 154 15 ls st h Q := g_goto rfl
theorem s154_59 : XE d 154 59 (c0 :: c1 :: .val (.int x) :: l) st h Q ↔ XE d 154 60 (c0 :: c1 :: .val (.int x) :: l) (.int x :: st) h Q := g_iload rfl rfl
theorem s154_60 : XE d 154 60 ls [.int x] h Q ↔ Q (some (.int x)) h := g_iret rfl
-- 155: TwoBellsModel.door(II)I
theorem e155 : XC (d + 1) 155 [.ref a, .int x, .int y] h Q ↔ XE d 155 0 [.val (.ref a), .val (.int x), .val (.int y), .unset] [] h Q := XC_in rfl
theorem s155_0 : XE d 155 0 (.val (.ref a) :: l) st h Q ↔ XE d 155 1 (.val (.ref a) :: l) (.ref a :: st) h Q := g_aload rfl rfl
theorem s155_1 : XE d 155 1 (c0 :: .val (.int x) :: l) st h Q ↔ XE d 155 2 (c0 :: .val (.int x) :: l) (.int x :: st) h Q := g_iload rfl rfl
theorem s155_2 : XE d 155 2 ls (.int x :: .ref a :: st) h Q ↔ (xvo 8 st = true ∧ XV [(12, 136)] (h.2.2.1 a) (fun m' => XC d m' [.ref a, .int x] h (fun v h' => XE d 155 5 ls (v.toList ++ st) h' Q))) := h_v1 rfl rfl
theorem s155_5 : XE d 155 5 ls (.int x :: st) h Q ↔ (if x = 0 then XE d 155 19 ls st h Q else XE d 155 8 ls st h Q) := g_ifeq rfl
theorem s155_8 : XE d 155 8 (c0 :: c1 :: .val (.int x) :: l) st h Q ↔ XE d 155 9 (c0 :: c1 :: .val (.int x) :: l) (.int x :: st) h Q := g_iload rfl rfl
theorem s155_9 : XE d 155 9 ls st h Q ↔ XE d 155 10 ls (.int 0 :: st) h Q := g_const rfl
theorem s155_10 : XE d 155 10 ls st h Q ↔ XE d 155 13 ls (.int 999 :: st) h Q := g_const rfl
theorem s155_13 : XE d 155 13 ls (.int z :: .int y :: .int x :: st) h Q ↔ (xvo 8 st = true ∧ XC d 132 [.int x, .int y, .int z] h (fun v h' => XE d 155 16 ls (v.toList ++ st) h' Q)) := h_s3 rfl rfl
theorem s155_16 : XE d 155 16 ls (.int x :: st) h Q ↔ (if x = 0 then XE d 155 19 ls st h Q else XE d 155 22 ls st h Q) := g_ifne rfl
theorem s155_19 : XE d 155 19 ls st h Q ↔ XE d 155 21 ls (.int (-1000000001) :: st) h Q := g_const rfl
theorem s155_21 : XE d 155 21 ls [.int x] h Q ↔ Q (some (.int x)) h := g_iret rfl
theorem s155_22 : XE d 155 22 (.val (.ref a) :: l) st h Q ↔ XE d 155 23 (.val (.ref a) :: l) (.ref a :: st) h Q := g_aload rfl rfl
theorem s155_23 : XE d 155 23 ls (.ref a :: st) h Q ↔ XG [12] 0 (h.2.2.1 a) (fun v => XE d 155 26 ls (v :: st) h Q) := g_getf rfl
theorem s155_26 : XE d 155 26 ls st h Q ↔ XE d 155 27 ls (.int 2 :: st) h Q := g_const rfl
theorem s155_27 : XE d 155 27 ls (.int x :: .ref a :: st) h Q ↔ XA [0, 7] (h.2.2.1 a) x (fun k => XE d 155 28 ls (.int k :: st) h Q) := g_ald rfl
theorem s155_28 : XE d 155 28 ls st h Q ↔ XE d 155 30 ls (.int 12 :: st) h Q := g_const rfl
theorem s155_30 : XE d 155 30 ls (.int y :: .int x :: st) h Q ↔ (if x = y then XE d 155 33 ls st h Q else XE d 155 36 ls st h Q) := g_cne rfl
theorem s155_33 : XE d 155 33 ls st h Q ↔ XE d 155 35 ls (.int (-1000000003) :: st) h Q := g_const rfl
theorem s155_35 : XE d 155 35 ls [.int x] h Q ↔ Q (some (.int x)) h := g_iret rfl
theorem s155_36 : XE d 155 36 ls st h Q ↔ XE d 155 38 ls (.int 38 :: st) h Q := g_const rfl
theorem s155_38 : XE d 155 38 ls st h Q ↔ XE d 155 39 ls (.int 5 :: st) h Q := g_const rfl
theorem s155_39 : XE d 155 39 (.val (.ref a) :: l) st h Q ↔ XE d 155 40 (.val (.ref a) :: l) (.ref a :: st) h Q := g_aload rfl rfl
theorem s155_40 : XE d 155 40 ls (.ref a :: st) h Q ↔ XG [12] 0 (h.2.2.1 a) (fun v => XE d 155 43 ls (v :: st) h Q) := g_getf rfl
theorem s155_43 : XE d 155 43 ls st h Q ↔ XE d 155 44 ls (.int 2 :: st) h Q := g_const rfl
theorem s155_44 : XE d 155 44 ls (.int x :: .ref a :: st) h Q ↔ XA [0, 7] (h.2.2.1 a) x (fun k => XE d 155 45 ls (.int k :: st) h Q) := g_ald rfl
theorem s155_45 : XE d 155 45 ls (.int y :: .int x :: st) h Q ↔ XE d 155 46 ls (.int (x * y) :: st) h Q := g_mul rfl
theorem s155_46 : XE d 155 46 ls (.int y :: .int x :: st) h Q ↔ XE d 155 47 ls (.int (x + y) :: st) h Q := g_add rfl
theorem s155_47 : XE d 155 47 (c0 :: c1 :: c2 :: c3 :: l) (.int x :: st) h Q ↔ XE d 155 48 (c0 :: c1 :: c2 :: .val (.int x) :: l) st h Q := g_istore (Nat.lt_of_lt_of_le (show 3 < 4 by decide) (Nat.le_add_left 4 _)) rfl rfl
theorem s155_48 : XE d 155 48 (.val (.ref a) :: l) st h Q ↔ XE d 155 49 (.val (.ref a) :: l) (.ref a :: st) h Q := g_aload rfl rfl
theorem s155_49 : XE d 155 49 ls (.ref a :: st) h Q ↔ XG [12] 0 (h.2.2.1 a) (fun v => XE d 155 52 ls (v :: st) h Q) := g_getf rfl
theorem s155_52 : XE d 155 52 (c0 :: c1 :: c2 :: .val (.int x) :: l) st h Q ↔ XE d 155 53 (c0 :: c1 :: c2 :: .val (.int x) :: l) (.int x :: st) h Q := g_iload rfl rfl
theorem s155_53 : XE d 155 53 (c0 :: .val (.int x) :: l) st h Q ↔ XE d 155 54 (c0 :: .val (.int x) :: l) (.int x :: st) h Q := g_iload rfl rfl
theorem s155_54 : XE d 155 54 ls (.int y :: .int x :: .ref a :: st) h Q ↔ XS 0 (h.2.2.1 a) x y (fun e => XE d 155 55 ls st (xset h a e) Q) := g_iast rfl
theorem s155_55 : XE d 155 55 (.val (.ref a) :: l) st h Q ↔ XE d 155 56 (.val (.ref a) :: l) (.ref a :: st) h Q := g_aload rfl rfl
theorem s155_56 : XE d 155 56 ls (.ref a :: st) h Q ↔ XG [12] 0 (h.2.2.1 a) (fun v => XE d 155 59 ls (v :: st) h Q) := g_getf rfl
theorem s155_59 : XE d 155 59 (c0 :: c1 :: c2 :: .val (.int x) :: l) st h Q ↔ XE d 155 60 (c0 :: c1 :: c2 :: .val (.int x) :: l) (.int x :: st) h Q := g_iload rfl rfl
theorem s155_60 : XE d 155 60 ls st h Q ↔ XE d 155 61 ls (.int 1 :: st) h Q := g_const rfl
theorem s155_61 : XE d 155 61 ls (.int y :: .int x :: st) h Q ↔ XE d 155 62 ls (.int (x + y) :: st) h Q := g_add rfl
theorem s155_62 : XE d 155 62 (c0 :: c1 :: .val (.int x) :: l) st h Q ↔ XE d 155 63 (c0 :: c1 :: .val (.int x) :: l) (.int x :: st) h Q := g_iload rfl rfl
theorem s155_63 : XE d 155 63 ls (.int y :: .int x :: .ref a :: st) h Q ↔ XS 0 (h.2.2.1 a) x y (fun e => XE d 155 64 ls st (xset h a e) Q) := g_iast rfl
theorem s155_64 : XE d 155 64 (.val (.ref a) :: l) st h Q ↔ XE d 155 65 (.val (.ref a) :: l) (.ref a :: st) h Q := g_aload rfl rfl
theorem s155_65 : XE d 155 65 ls (.ref a :: st) h Q ↔ XG [12] 0 (h.2.2.1 a) (fun v => XE d 155 68 ls (v :: st) h Q) := g_getf rfl
theorem s155_68 : XE d 155 68 (c0 :: c1 :: c2 :: .val (.int x) :: l) st h Q ↔ XE d 155 69 (c0 :: c1 :: c2 :: .val (.int x) :: l) (.int x :: st) h Q := g_iload rfl rfl
theorem s155_69 : XE d 155 69 ls st h Q ↔ XE d 155 70 ls (.int 2 :: st) h Q := g_const rfl
theorem s155_70 : XE d 155 70 ls (.int y :: .int x :: st) h Q ↔ XE d 155 71 ls (.int (x + y) :: st) h Q := g_add rfl
theorem s155_71 : XE d 155 71 ls st h Q ↔ XE d 155 72 ls (.int 1 :: st) h Q := g_const rfl
theorem s155_72 : XE d 155 72 ls (.int y :: .int x :: .ref a :: st) h Q ↔ XS 0 (h.2.2.1 a) x y (fun e => XE d 155 73 ls st (xset h a e) Q) := g_iast rfl
theorem s155_73 : XE d 155 73 (.val (.ref a) :: l) st h Q ↔ XE d 155 74 (.val (.ref a) :: l) (.ref a :: st) h Q := g_aload rfl rfl
theorem s155_74 : XE d 155 74 ls (.ref a :: st) h Q ↔ XG [12] 0 (h.2.2.1 a) (fun v => XE d 155 77 ls (v :: st) h Q) := g_getf rfl
theorem s155_77 : XE d 155 77 (c0 :: c1 :: c2 :: .val (.int x) :: l) st h Q ↔ XE d 155 78 (c0 :: c1 :: c2 :: .val (.int x) :: l) (.int x :: st) h Q := g_iload rfl rfl
theorem s155_78 : XE d 155 78 ls st h Q ↔ XE d 155 79 ls (.int 3 :: st) h Q := g_const rfl
theorem s155_79 : XE d 155 79 ls (.int y :: .int x :: st) h Q ↔ XE d 155 80 ls (.int (x + y) :: st) h Q := g_add rfl
theorem s155_80 : XE d 155 80 ls st h Q ↔ XE d 155 81 ls (.int (-1) :: st) h Q := g_const rfl
theorem s155_81 : XE d 155 81 ls (.int y :: .int x :: .ref a :: st) h Q ↔ XS 0 (h.2.2.1 a) x y (fun e => XE d 155 82 ls st (xset h a e) Q) := g_iast rfl
theorem s155_82 : XE d 155 82 (.val (.ref a) :: l) st h Q ↔ XE d 155 83 (.val (.ref a) :: l) (.ref a :: st) h Q := g_aload rfl rfl
theorem s155_83 : XE d 155 83 ls (.ref a :: st) h Q ↔ XG [12] 0 (h.2.2.1 a) (fun v => XE d 155 86 ls (v :: st) h Q) := g_getf rfl
theorem s155_86 : XE d 155 86 (c0 :: c1 :: c2 :: .val (.int x) :: l) st h Q ↔ XE d 155 87 (c0 :: c1 :: c2 :: .val (.int x) :: l) (.int x :: st) h Q := g_iload rfl rfl
theorem s155_87 : XE d 155 87 ls st h Q ↔ XE d 155 88 ls (.int 3 :: st) h Q := g_const rfl
theorem s155_88 : XE d 155 88 ls (.int y :: .int x :: st) h Q ↔ XE d 155 89 ls (.int (x + y) :: st) h Q := g_add rfl
theorem s155_89 : XE d 155 89 ls st h Q ↔ XE d 155 90 ls (.int 1 :: st) h Q := g_const rfl
theorem s155_90 : XE d 155 90 ls (.int y :: .int x :: st) h Q ↔ XE d 155 91 ls (.int (x + y) :: st) h Q := g_add rfl
theorem s155_91 : XE d 155 91 ls st h Q ↔ XE d 155 92 ls (.int (-1) :: st) h Q := g_const rfl
theorem s155_92 : XE d 155 92 ls (.int y :: .int x :: .ref a :: st) h Q ↔ XS 0 (h.2.2.1 a) x y (fun e => XE d 155 93 ls st (xset h a e) Q) := g_iast rfl
theorem s155_93 : XE d 155 93 (.val (.ref a) :: l) st h Q ↔ XE d 155 94 (.val (.ref a) :: l) (.ref a :: st) h Q := g_aload rfl rfl
theorem s155_94 : XE d 155 94 ls (.ref a :: st) h Q ↔ XG [12] 0 (h.2.2.1 a) (fun v => XE d 155 97 ls (v :: st) h Q) := g_getf rfl
theorem s155_97 : XE d 155 97 ls st h Q ↔ XE d 155 98 ls (.int 2 :: st) h Q := g_const rfl
theorem s155_98 : XE d 155 98 ls (.int x :: .ref a :: st) h Q ↔ XE d 155 99 ls (.int x :: .ref a :: .int x :: .ref a :: st) h Q := g_dup2 rfl
theorem s155_99 : XE d 155 99 ls (.int x :: .ref a :: st) h Q ↔ XA [0, 7] (h.2.2.1 a) x (fun k => XE d 155 100 ls (.int k :: st) h Q) := g_ald rfl
theorem s155_100 : XE d 155 100 ls st h Q ↔ XE d 155 101 ls (.int 1 :: st) h Q := g_const rfl
theorem s155_101 : XE d 155 101 ls (.int y :: .int x :: st) h Q ↔ XE d 155 102 ls (.int (x + y) :: st) h Q := g_add rfl
theorem s155_102 : XE d 155 102 ls (.int y :: .int x :: .ref a :: st) h Q ↔ XS 0 (h.2.2.1 a) x y (fun e => XE d 155 103 ls st (xset h a e) Q) := g_iast rfl
theorem s155_103 : XE d 155 103 (.val (.ref a) :: l) st h Q ↔ XE d 155 104 (.val (.ref a) :: l) (.ref a :: st) h Q := g_aload rfl rfl
theorem s155_104 : XE d 155 104 ls (.ref a :: st) h Q ↔ XG [12] 0 (h.2.2.1 a) (fun v => XE d 155 107 ls (v :: st) h Q) := g_getf rfl
theorem s155_107 : XE d 155 107 ls st h Q ↔ XE d 155 108 ls (.int 2 :: st) h Q := g_const rfl
theorem s155_108 : XE d 155 108 ls (.int x :: .ref a :: st) h Q ↔ XA [0, 7] (h.2.2.1 a) x (fun k => XE d 155 109 ls (.int k :: st) h Q) := g_ald rfl
theorem s155_109 : XE d 155 109 ls st h Q ↔ XE d 155 110 ls (.int 1 :: st) h Q := g_const rfl
theorem s155_110 : XE d 155 110 ls (.int y :: .int x :: st) h Q ↔ XE d 155 111 ls (.int (x - y) :: st) h Q := g_sub rfl
theorem s155_111 : XE d 155 111 ls [.int x] h Q ↔ Q (some (.int x)) h := g_iret rfl
-- 156: TwoBellsModel.isLawfulWith(III)Z
theorem e156 : XC (d + 1) 156 [.ref a, .int x, .int y, .int z] h Q ↔ XE d 156 0 [.val (.ref a), .val (.int x), .val (.int y), .val (.int z), .unset, .unset] [] h Q := XC_in rfl
theorem s156_0 : XE d 156 0 (.val (.ref a) :: l) st h Q ↔ XE d 156 1 (.val (.ref a) :: l) (.ref a :: st) h Q := g_aload rfl rfl
theorem s156_1 : XE d 156 1 (c0 :: .val (.int x) :: l) st h Q ↔ XE d 156 2 (c0 :: .val (.int x) :: l) (.int x :: st) h Q := g_iload rfl rfl
theorem s156_2 : XE d 156 2 ls st h Q ↔ XE d 156 3 ls (.int 0 :: st) h Q := g_const rfl
theorem s156_3 : XE d 156 3 ls (.int y :: .int x :: .ref a :: st) h Q ↔ (xvo 8 st = true ∧ XV [(12, 140)] (h.2.2.1 a) (fun m' => XC d m' [.ref a, .int x, .int y] h (fun v h' => XE d 156 6 ls (v.toList ++ st) h' Q))) := h_v2 rfl rfl
theorem s156_6 : XE d 156 6 (c0 :: c1 :: c2 :: c3 :: c4 :: l) (.int x :: st) h Q ↔ XE d 156 8 (c0 :: c1 :: c2 :: c3 :: .val (.int x) :: l) st h Q := g_istore (Nat.lt_of_lt_of_le (show 4 < 5 by decide) (Nat.le_add_left 5 _)) rfl rfl
theorem s156_8 : XE d 156 8 (c0 :: c1 :: .val (.int x) :: l) st h Q ↔ XE d 156 9 (c0 :: c1 :: .val (.int x) :: l) (.int x :: st) h Q := g_iload rfl rfl
theorem s156_9 : XE d 156 9 ls (.int x :: st) h Q ↔ (if x < 0 then XE d 156 42 ls st h Q else XE d 156 12 ls st h Q) := g_iflt rfl
theorem s156_12 : XE d 156 12 (c0 :: c1 :: c2 :: .val (.int x) :: l) st h Q ↔ XE d 156 13 (c0 :: c1 :: c2 :: .val (.int x) :: l) (.int x :: st) h Q := g_iload rfl rfl
theorem s156_13 : XE d 156 13 ls (.int x :: st) h Q ↔ (if x < 0 then XE d 156 42 ls st h Q else XE d 156 16 ls st h Q) := g_iflt rfl
theorem s156_16 : XE d 156 16 (c0 :: c1 :: .val (.int x) :: l) st h Q ↔ XE d 156 17 (c0 :: c1 :: .val (.int x) :: l) (.int x :: st) h Q := g_iload rfl rfl
theorem s156_17 : XE d 156 17 (c0 :: c1 :: c2 :: .val (.int x) :: l) st h Q ↔ XE d 156 18 (c0 :: c1 :: c2 :: .val (.int x) :: l) (.int x :: st) h Q := g_iload rfl rfl
theorem s156_18 : XE d 156 18 ls (.int y :: .int x :: st) h Q ↔ (if x = y then XE d 156 42 ls st h Q else XE d 156 21 ls st h Q) := g_ceq rfl
theorem s156_21 : XE d 156 21 (c0 :: c1 :: .val (.int x) :: l) st h Q ↔ XE d 156 22 (c0 :: c1 :: .val (.int x) :: l) (.int x :: st) h Q := g_iload rfl rfl
theorem s156_22 : XE d 156 22 (c0 :: c1 :: c2 :: c3 :: .val (.int x) :: l) st h Q ↔ XE d 156 24 (c0 :: c1 :: c2 :: c3 :: .val (.int x) :: l) (.int x :: st) h Q := g_iload rfl rfl
theorem s156_24 : XE d 156 24 ls (.int y :: .int x :: st) h Q ↔ (if x = y then XE d 156 42 ls st h Q else XE d 156 27 ls st h Q) := g_ceq rfl
theorem s156_27 : XE d 156 27 (c0 :: c1 :: c2 :: .val (.int x) :: l) st h Q ↔ XE d 156 28 (c0 :: c1 :: c2 :: .val (.int x) :: l) (.int x :: st) h Q := g_iload rfl rfl
theorem s156_28 : XE d 156 28 (c0 :: c1 :: c2 :: c3 :: .val (.int x) :: l) st h Q ↔ XE d 156 30 (c0 :: c1 :: c2 :: c3 :: .val (.int x) :: l) (.int x :: st) h Q := g_iload rfl rfl
theorem s156_30 : XE d 156 30 ls (.int y :: .int x :: st) h Q ↔ (if x = y then XE d 156 42 ls st h Q else XE d 156 33 ls st h Q) := g_ceq rfl
theorem s156_33 : XE d 156 33 (.val (.ref a) :: l) st h Q ↔ XE d 156 34 (.val (.ref a) :: l) (.ref a :: st) h Q := g_aload rfl rfl
theorem s156_34 : XE d 156 34 (c0 :: c1 :: .val (.int x) :: l) st h Q ↔ XE d 156 35 (c0 :: c1 :: .val (.int x) :: l) (.int x :: st) h Q := g_iload rfl rfl
theorem s156_35 : XE d 156 35 (c0 :: c1 :: c2 :: .val (.int x) :: l) st h Q ↔ XE d 156 36 (c0 :: c1 :: c2 :: .val (.int x) :: l) (.int x :: st) h Q := g_iload rfl rfl
theorem s156_36 : XE d 156 36 ls (.int y :: .int x :: .ref a :: st) h Q ↔ (xvo 8 st = true ∧ XV [(12, 151)] (h.2.2.1 a) (fun m' => XC d m' [.ref a, .int x, .int y] h (fun v h' => XE d 156 39 ls (v.toList ++ st) h' Q))) := h_v2 rfl rfl
theorem s156_39 : XE d 156 39 ls (.int x :: st) h Q ↔ (if x = 0 then XE d 156 44 ls st h Q else XE d 156 42 ls st h Q) := g_ifeq rfl
theorem s156_42 : XE d 156 42 ls st h Q ↔ XE d 156 43 ls (.int 0 :: st) h Q := g_const rfl
theorem s156_43 : XE d 156 43 ls [.int 0] h Q ↔ Q (some (.int 0)) h := g_zret rfl rfl
theorem s156_43t : XE d 156 43 ls [.int 1] h Q ↔ Q (some (.int 1)) h := g_zret rfl rfl
theorem s156_43b : XE d 156 43 ls [.int (bI q)] h Q ↔ Q (some (.int (bI q))) h := g_zret (bI_nar q) rfl
theorem s156_44 : XE d 156 44 (.val (.ref a) :: l) st h Q ↔ XE d 156 45 (.val (.ref a) :: l) (.ref a :: st) h Q := g_aload rfl rfl
theorem s156_45 : XE d 156 45 ls st h Q ↔ XE d 156 46 ls (.int 2 :: st) h Q := g_const rfl
theorem s156_46 : XE d 156 46 ls (.int x :: .ref a :: st) h Q ↔ (xvo 8 st = true ∧ XV [(12, 206)] (h.2.2.1 a) (fun m' => XC d m' [.ref a, .int x] h (fun v h' => XE d 156 49 ls (v.toList ++ st) h' Q))) := h_v1 rfl rfl
theorem s156_49 : XE d 156 49 (c0 :: c1 :: c2 :: c3 :: c4 :: c5 :: l) (.int x :: st) h Q ↔ XE d 156 51 (c0 :: c1 :: c2 :: c3 :: c4 :: .val (.int x) :: l) st h Q := g_istore (Nat.lt_of_lt_of_le (show 5 < 6 by decide) (Nat.le_add_left 6 _)) rfl rfl
theorem s156_51 : XE d 156 51 (.val (.ref a) :: l) st h Q ↔ XE d 156 52 (.val (.ref a) :: l) (.ref a :: st) h Q := g_aload rfl rfl
theorem s156_52 : XE d 156 52 ls (.ref a :: st) h Q ↔ XG [12] 21 (h.2.2.1 a) (fun v => XE d 156 55 ls (v :: st) h Q) := g_getf rfl
theorem s156_55 : XE d 156 55 ls st h Q ↔ XE d 156 56 ls (.int 0 :: st) h Q := g_const rfl
theorem s156_56 : XE d 156 56 (c0 :: c1 :: .val (.int x) :: l) st h Q ↔ XE d 156 57 (c0 :: c1 :: .val (.int x) :: l) (.int x :: st) h Q := g_iload rfl rfl
theorem s156_57 : XE d 156 57 (c0 :: c1 :: c2 :: .val (.int x) :: l) st h Q ↔ XE d 156 58 (c0 :: c1 :: c2 :: .val (.int x) :: l) (.int x :: st) h Q := g_iload rfl rfl
theorem s156_58 : XE d 156 58 ls (.int y :: .int x :: st) h Q ↔ (if x < y then XE d 156 61 ls st h Q else XE d 156 65 ls st h Q) := g_cge rfl
theorem s156_61 : XE d 156 61 (c0 :: c1 :: .val (.int x) :: l) st h Q ↔ XE d 156 62 (c0 :: c1 :: .val (.int x) :: l) (.int x :: st) h Q := g_iload rfl rfl
theorem s156_62 : XE d 156 62 ls st h Q ↔ XE d 156 66 ls st h Q := g_goto rfl
theorem s156_65 : XE d 156 65 (c0 :: c1 :: c2 :: .val (.int x) :: l) st h Q ↔ XE d 156 66 (c0 :: c1 :: c2 :: .val (.int x) :: l) (.int x :: st) h Q := g_iload rfl rfl
theorem s156_66 : XE d 156 66 ls (.int y :: .int x :: .ref a :: st) h Q ↔ XS 0 (h.2.2.1 a) x y (fun e => XE d 156 67 ls st (xset h a e) Q) := g_iast rfl
theorem s156_67 : XE d 156 67 (.val (.ref a) :: l) st h Q ↔ XE d 156 68 (.val (.ref a) :: l) (.ref a :: st) h Q := g_aload rfl rfl
theorem s156_68 : XE d 156 68 ls (.ref a :: st) h Q ↔ XG [12] 21 (h.2.2.1 a) (fun v => XE d 156 71 ls (v :: st) h Q) := g_getf rfl
theorem s156_71 : XE d 156 71 ls st h Q ↔ XE d 156 72 ls (.int 1 :: st) h Q := g_const rfl
theorem s156_72 : XE d 156 72 (c0 :: c1 :: .val (.int x) :: l) st h Q ↔ XE d 156 73 (c0 :: c1 :: .val (.int x) :: l) (.int x :: st) h Q := g_iload rfl rfl
theorem s156_73 : XE d 156 73 (c0 :: c1 :: c2 :: .val (.int x) :: l) st h Q ↔ XE d 156 74 (c0 :: c1 :: c2 :: .val (.int x) :: l) (.int x :: st) h Q := g_iload rfl rfl
theorem s156_74 : XE d 156 74 ls (.int y :: .int x :: st) h Q ↔ (if x < y then XE d 156 77 ls st h Q else XE d 156 81 ls st h Q) := g_cge rfl
theorem s156_77 : XE d 156 77 (c0 :: c1 :: c2 :: .val (.int x) :: l) st h Q ↔ XE d 156 78 (c0 :: c1 :: c2 :: .val (.int x) :: l) (.int x :: st) h Q := g_iload rfl rfl
theorem s156_78 : XE d 156 78 ls st h Q ↔ XE d 156 82 ls st h Q := g_goto rfl
theorem s156_81 : XE d 156 81 (c0 :: c1 :: .val (.int x) :: l) st h Q ↔ XE d 156 82 (c0 :: c1 :: .val (.int x) :: l) (.int x :: st) h Q := g_iload rfl rfl
theorem s156_82 : XE d 156 82 ls (.int y :: .int x :: .ref a :: st) h Q ↔ XS 0 (h.2.2.1 a) x y (fun e => XE d 156 83 ls st (xset h a e) Q) := g_iast rfl
theorem s156_83 : XE d 156 83 (.val (.ref a) :: l) st h Q ↔ XE d 156 84 (.val (.ref a) :: l) (.ref a :: st) h Q := g_aload rfl rfl
theorem s156_84 : XE d 156 84 ls (.ref a :: st) h Q ↔ XG [12] 21 (h.2.2.1 a) (fun v => XE d 156 87 ls (v :: st) h Q) := g_getf rfl
theorem s156_87 : XE d 156 87 ls st h Q ↔ XE d 156 88 ls (.int 2 :: st) h Q := g_const rfl
theorem s156_88 : XE d 156 88 (c0 :: c1 :: c2 :: c3 :: .val (.int x) :: l) st h Q ↔ XE d 156 90 (c0 :: c1 :: c2 :: c3 :: .val (.int x) :: l) (.int x :: st) h Q := g_iload rfl rfl
theorem s156_90 : XE d 156 90 ls (.int y :: .int x :: .ref a :: st) h Q ↔ XS 0 (h.2.2.1 a) x y (fun e => XE d 156 91 ls st (xset h a e) Q) := g_iast rfl
theorem s156_91 : XE d 156 91 (c0 :: c1 :: c2 :: c3 :: c4 :: .val (.int x) :: l) st h Q ↔ XE d 156 93 (c0 :: c1 :: c2 :: c3 :: c4 :: .val (.int x) :: l) (.int x :: st) h Q := g_iload rfl rfl
theorem s156_93 : XE d 156 93 ls (.int x :: st) h Q ↔ (if x < 0 then XE d 156 105 ls st h Q else XE d 156 96 ls st h Q) := g_iflt rfl
theorem s156_96 : XE d 156 96 (.val (.ref a) :: l) st h Q ↔ XE d 156 97 (.val (.ref a) :: l) (.ref a :: st) h Q := g_aload rfl rfl
theorem s156_97 : XE d 156 97 (c0 :: c1 :: c2 :: c3 :: c4 :: .val (.int x) :: l) st h Q ↔ XE d 156 99 (c0 :: c1 :: c2 :: c3 :: c4 :: .val (.int x) :: l) (.int x :: st) h Q := g_iload rfl rfl
theorem s156_99 : XE d 156 99 ls (.int x :: .ref a :: st) h Q ↔ (xvo 8 st = true ∧ XV [(12, 209)] (h.2.2.1 a) (fun m' => XC d m' [.ref a, .int x] h (fun v h' => XE d 156 102 ls (v.toList ++ st) h' Q))) := h_v1 rfl rfl
theorem s156_102 : XE d 156 102 ls (.int x :: st) h Q ↔ (if x = 0 then XE d 156 109 ls st h Q else XE d 156 105 ls st h Q) := g_ifeq rfl
theorem s156_105 : XE d 156 105 ls st h Q ↔ XE d 156 106 ls (.int 1 :: st) h Q := g_const rfl
theorem s156_106 : XE d 156 106 ls st h Q ↔ XE d 156 110 ls st h Q := g_goto rfl
theorem s156_109 : XE d 156 109 ls st h Q ↔ XE d 156 110 ls (.int 0 :: st) h Q := g_const rfl
theorem s156_110 : XE d 156 110 ls [.int 0] h Q ↔ Q (some (.int 0)) h := g_zret rfl rfl
theorem s156_110t : XE d 156 110 ls [.int 1] h Q ↔ Q (some (.int 1)) h := g_zret rfl rfl
theorem s156_110b : XE d 156 110 ls [.int (bI q)] h Q ↔ Q (some (.int (bI q))) h := g_zret (bI_nar q) rfl
-- 157: TwoBellsModel.isLawful(I)Z
theorem e157 : XC (d + 1) 157 [.ref a, .int x] h Q ↔ XE d 157 0 [.val (.ref a), .val (.int x)] [] h Q := XC_in rfl
theorem s157_0 : XE d 157 0 (.val (.ref a) :: l) st h Q ↔ XE d 157 1 (.val (.ref a) :: l) (.ref a :: st) h Q := g_aload rfl rfl
theorem s157_1 : XE d 157 1 (c0 :: .val (.int x) :: l) st h Q ↔ XE d 157 2 (c0 :: .val (.int x) :: l) (.int x :: st) h Q := g_iload rfl rfl
theorem s157_2 : XE d 157 2 (.val (.ref a) :: l) st h Q ↔ XE d 157 3 (.val (.ref a) :: l) (.ref a :: st) h Q := g_aload rfl rfl
theorem s157_3 : XE d 157 3 (c0 :: .val (.int x) :: l) st h Q ↔ XE d 157 4 (c0 :: .val (.int x) :: l) (.int x :: st) h Q := g_iload rfl rfl
theorem s157_4 : XE d 157 4 ls st h Q ↔ XE d 157 5 ls (.int 3 :: st) h Q := g_const rfl
theorem s157_5 : XE d 157 5 ls (.int y :: .int x :: .ref a :: st) h Q ↔ (xvo 8 st = true ∧ XV [(12, 140)] (h.2.2.1 a) (fun m' => XC d m' [.ref a, .int x, .int y] h (fun v h' => XE d 157 8 ls (v.toList ++ st) h' Q))) := h_v2 rfl rfl
theorem s157_8 : XE d 157 8 (.val (.ref a) :: l) st h Q ↔ XE d 157 9 (.val (.ref a) :: l) (.ref a :: st) h Q := g_aload rfl rfl
theorem s157_9 : XE d 157 9 (c0 :: .val (.int x) :: l) st h Q ↔ XE d 157 10 (c0 :: .val (.int x) :: l) (.int x :: st) h Q := g_iload rfl rfl
theorem s157_10 : XE d 157 10 ls st h Q ↔ XE d 157 11 ls (.int 4 :: st) h Q := g_const rfl
theorem s157_11 : XE d 157 11 ls (.int y :: .int x :: .ref a :: st) h Q ↔ (xvo 8 st = true ∧ XV [(12, 140)] (h.2.2.1 a) (fun m' => XC d m' [.ref a, .int x, .int y] h (fun v h' => XE d 157 14 ls (v.toList ++ st) h' Q))) := h_v2 rfl rfl
theorem s157_14 : XE d 157 14 ls (.int z :: .int y :: .int x :: .ref a :: st) h Q ↔ (xvo 8 st = true ∧ XV [(12, 156)] (h.2.2.1 a) (fun m' => XC d m' [.ref a, .int x, .int y, .int z] h (fun v h' => XE d 157 17 ls (v.toList ++ st) h' Q))) := h_v3 rfl rfl
theorem s157_17 : XE d 157 17 ls [.int 0] h Q ↔ Q (some (.int 0)) h := g_zret rfl rfl
theorem s157_17t : XE d 157 17 ls [.int 1] h Q ↔ Q (some (.int 1)) h := g_zret rfl rfl
theorem s157_17b : XE d 157 17 ls [.int (bI q)] h Q ↔ Q (some (.int (bI q))) h := g_zret (bI_nar q) rfl
-- 158: TwoBellsModel.doorTold(II)I
theorem e158 : XC (d + 1) 158 [.ref a, .int x, .int y] h Q ↔ XE d 158 0 [.val (.ref a), .val (.int x), .val (.int y)] [] h Q := XC_in rfl
theorem s158_0 : XE d 158 0 (.val (.ref a) :: l) st h Q ↔ XE d 158 1 (.val (.ref a) :: l) (.ref a :: st) h Q := g_aload rfl rfl
theorem s158_1 : XE d 158 1 (c0 :: .val (.int x) :: l) st h Q ↔ XE d 158 2 (c0 :: .val (.int x) :: l) (.int x :: st) h Q := g_iload rfl rfl
theorem s158_2 : XE d 158 2 ls (.int x :: .ref a :: st) h Q ↔ (xvo 8 st = true ∧ XV [(12, 137)] (h.2.2.1 a) (fun m' => XC d m' [.ref a, .int x] h (fun v h' => XE d 158 5 ls (v.toList ++ st) h' Q))) := h_v1 rfl rfl
theorem s158_5 : XE d 158 5 ls (.int x :: st) h Q ↔ (if x = 0 then XE d 158 17 ls st h Q else XE d 158 8 ls st h Q) := g_ifeq rfl
theorem s158_8 : XE d 158 8 (c0 :: c1 :: .val (.int x) :: l) st h Q ↔ XE d 158 9 (c0 :: c1 :: .val (.int x) :: l) (.int x :: st) h Q := g_iload rfl rfl
theorem s158_9 : XE d 158 9 ls st h Q ↔ XE d 158 10 ls (.int 0 :: st) h Q := g_const rfl
theorem s158_10 : XE d 158 10 ls st h Q ↔ XE d 158 11 ls (.int 5 :: st) h Q := g_const rfl
theorem s158_11 : XE d 158 11 ls (.int z :: .int y :: .int x :: st) h Q ↔ (xvo 8 st = true ∧ XC d 132 [.int x, .int y, .int z] h (fun v h' => XE d 158 14 ls (v.toList ++ st) h' Q)) := h_s3 rfl rfl
theorem s158_14 : XE d 158 14 ls (.int x :: st) h Q ↔ (if x = 0 then XE d 158 17 ls st h Q else XE d 158 20 ls st h Q) := g_ifne rfl
theorem s158_17 : XE d 158 17 ls st h Q ↔ XE d 158 19 ls (.int (-1000000001) :: st) h Q := g_const rfl
theorem s158_19 : XE d 158 19 ls [.int x] h Q ↔ Q (some (.int x)) h := g_iret rfl
theorem s158_20 : XE d 158 20 (c0 :: c1 :: .val (.int x) :: l) st h Q ↔ XE d 158 21 (c0 :: c1 :: .val (.int x) :: l) (.int x :: st) h Q := g_iload rfl rfl
theorem s158_21 : XE d 158 21 ls st h Q ↔ XE d 158 22 ls (.int 5 :: st) h Q := g_const rfl
theorem s158_22 : XE d 158 22 ls (.int y :: .int x :: st) h Q ↔ (if x = y then XE d 158 25 ls st h Q else XE d 158 39 ls st h Q) := g_cne rfl
theorem s158_25 : XE d 158 25 (.val (.ref a) :: l) st h Q ↔ XE d 158 26 (.val (.ref a) :: l) (.ref a :: st) h Q := g_aload rfl rfl
theorem s158_26 : XE d 158 26 (c0 :: .val (.int x) :: l) st h Q ↔ XE d 158 27 (c0 :: .val (.int x) :: l) (.int x :: st) h Q := g_iload rfl rfl
theorem s158_27 : XE d 158 27 ls (.int x :: .ref a :: st) h Q ↔ (xvo 8 st = true ∧ XV [(12, 157)] (h.2.2.1 a) (fun m' => XC d m' [.ref a, .int x] h (fun v h' => XE d 158 30 ls (v.toList ++ st) h' Q))) := h_v1 rfl rfl
theorem s158_30 : XE d 158 30 ls (.int x :: st) h Q ↔ (if x = 0 then XE d 158 37 ls st h Q else XE d 158 33 ls st h Q) := g_ifeq rfl
theorem s158_33 : XE d 158 33 ls st h Q ↔ XE d 158 34 ls (.int 1 :: st) h Q := g_const rfl
theorem s158_34 : XE d 158 34 ls st h Q ↔ XE d 158 38 ls st h Q := g_goto rfl
theorem s158_37 : XE d 158 37 ls st h Q ↔ XE d 158 38 ls (.int 0 :: st) h Q := g_const rfl
theorem s158_38 : XE d 158 38 ls [.int x] h Q ↔ Q (some (.int x)) h := g_iret rfl
theorem s158_39 : XE d 158 39 (c0 :: c1 :: .val (.int x) :: l) st h Q ↔ XE d 158 40 (c0 :: c1 :: .val (.int x) :: l) (.int x :: st) h Q := g_iload rfl rfl
theorem s158_40 : XE d 158 40 ls st h Q ↔ XE d 158 41 ls (.int 3 :: st) h Q := g_const rfl
theorem s158_41 : XE d 158 41 ls (.int y :: .int x :: st) h Q ↔ (if x < y then XE d 158 44 ls st h Q else XE d 158 53 ls st h Q) := g_cge rfl
theorem s158_44 : XE d 158 44 (.val (.ref a) :: l) st h Q ↔ XE d 158 45 (.val (.ref a) :: l) (.ref a :: st) h Q := g_aload rfl rfl
theorem s158_45 : XE d 158 45 (c0 :: .val (.int x) :: l) st h Q ↔ XE d 158 46 (c0 :: .val (.int x) :: l) (.int x :: st) h Q := g_iload rfl rfl
theorem s158_46 : XE d 158 46 (c0 :: c1 :: .val (.int x) :: l) st h Q ↔ XE d 158 47 (c0 :: c1 :: .val (.int x) :: l) (.int x :: st) h Q := g_iload rfl rfl
theorem s158_47 : XE d 158 47 ls (.int y :: .int x :: .ref a :: st) h Q ↔ (xvo 8 st = true ∧ XV [(12, 140)] (h.2.2.1 a) (fun m' => XC d m' [.ref a, .int x, .int y] h (fun v h' => XE d 158 50 ls (v.toList ++ st) h' Q))) := h_v2 rfl rfl
theorem s158_50 : XE d 158 50 ls st h Q ↔ XE d 158 62 ls st h Q := g_goto rfl
theorem s158_53 : XE d 158 53 (.val (.ref a) :: l) st h Q ↔ XE d 158 54 (.val (.ref a) :: l) (.ref a :: st) h Q := g_aload rfl rfl
theorem s158_54 : XE d 158 54 (c0 :: .val (.int x) :: l) st h Q ↔ XE d 158 55 (c0 :: .val (.int x) :: l) (.int x :: st) h Q := g_iload rfl rfl
theorem s158_55 : XE d 158 55 (c0 :: c1 :: .val (.int x) :: l) st h Q ↔ XE d 158 56 (c0 :: c1 :: .val (.int x) :: l) (.int x :: st) h Q := g_iload rfl rfl
theorem s158_56 : XE d 158 56 ls (.int y :: .int x :: .ref a :: st) h Q ↔ (xvo 8 st = true ∧ XV [(12, 140)] (h.2.2.1 a) (fun m' => XC d m' [.ref a, .int x, .int y] h (fun v h' => XE d 158 59 ls (v.toList ++ st) h' Q))) := h_v2 rfl rfl
theorem s158_59 : XE d 158 59 ls (.int x :: st) h Q ↔ (xvo 8 st = true ∧ XC d 135 [.int x] h (fun v h' => XE d 158 62 ls (v.toList ++ st) h' Q)) := h_s1 rfl rfl
theorem s158_62 : XE d 158 62 ls [.int x] h Q ↔ Q (some (.int x)) h := g_iret rfl
-- 159: TwoBellsModel.set(III)I
theorem e159 : XC (d + 1) 159 [.ref a, .int x, .int y, .int z] h Q ↔ XE d 159 0 [.val (.ref a), .val (.int x), .val (.int y), .val (.int z)] [] h Q := XC_in rfl
theorem s159_0 : XE d 159 0 (.val (.ref a) :: l) st h Q ↔ XE d 159 1 (.val (.ref a) :: l) (.ref a :: st) h Q := g_aload rfl rfl
theorem s159_1 : XE d 159 1 (c0 :: .val (.int x) :: l) st h Q ↔ XE d 159 2 (c0 :: .val (.int x) :: l) (.int x :: st) h Q := g_iload rfl rfl
theorem s159_2 : XE d 159 2 ls (.int x :: .ref a :: st) h Q ↔ (xvo 8 st = true ∧ XV [(12, 137)] (h.2.2.1 a) (fun m' => XC d m' [.ref a, .int x] h (fun v h' => XE d 159 5 ls (v.toList ++ st) h' Q))) := h_v1 rfl rfl
theorem s159_5 : XE d 159 5 ls (.int x :: st) h Q ↔ (if x = 0 then XE d 159 54 ls st h Q else XE d 159 8 ls st h Q) := g_ifeq rfl
theorem s159_8 : XE d 159 8 (c0 :: c1 :: .val (.int x) :: l) st h Q ↔ XE d 159 9 (c0 :: c1 :: .val (.int x) :: l) (.int x :: st) h Q := g_iload rfl rfl
theorem s159_9 : XE d 159 9 ls st h Q ↔ XE d 159 10 ls (.int 1 :: st) h Q := g_const rfl
theorem s159_10 : XE d 159 10 ls st h Q ↔ XE d 159 11 ls (.int 2 :: st) h Q := g_const rfl
theorem s159_11 : XE d 159 11 ls (.int z :: .int y :: .int x :: st) h Q ↔ (xvo 8 st = true ∧ XC d 132 [.int x, .int y, .int z] h (fun v h' => XE d 159 14 ls (v.toList ++ st) h' Q)) := h_s3 rfl rfl
theorem s159_14 : XE d 159 14 ls (.int x :: st) h Q ↔ (if x = 0 then XE d 159 54 ls st h Q else XE d 159 17 ls st h Q) := g_ifeq rfl
theorem s159_17 : XE d 159 17 (c0 :: c1 :: c2 :: .val (.int x) :: l) st h Q ↔ XE d 159 18 (c0 :: c1 :: c2 :: .val (.int x) :: l) (.int x :: st) h Q := g_iload rfl rfl
theorem s159_18 : XE d 159 18 ls st h Q ↔ XE d 159 19 ls (.int 0 :: st) h Q := g_const rfl
theorem s159_19 : XE d 159 19 (c0 :: c1 :: .val (.int x) :: l) st h Q ↔ XE d 159 20 (c0 :: c1 :: .val (.int x) :: l) (.int x :: st) h Q := g_iload rfl rfl
theorem s159_20 : XE d 159 20 ls st h Q ↔ XE d 159 21 ls (.int 1 :: st) h Q := g_const rfl
theorem s159_21 : XE d 159 21 ls (.int y :: .int x :: st) h Q ↔ (if x = y then XE d 159 24 ls st h Q else XE d 159 30 ls st h Q) := g_cne rfl
theorem s159_24 : XE d 159 24 ls st h Q ↔ XE d 159 27 ls (.int 999 :: st) h Q := g_const rfl
theorem s159_27 : XE d 159 27 ls st h Q ↔ XE d 159 32 ls st h Q := g_goto rfl
theorem s159_30 : XE d 159 30 ls st h Q ↔ XE d 159 32 ls (.int 9 :: st) h Q := g_const rfl
theorem s159_32 : XE d 159 32 ls (.int z :: .int y :: .int x :: st) h Q ↔ (xvo 8 st = true ∧ XC d 132 [.int x, .int y, .int z] h (fun v h' => XE d 159 35 ls (v.toList ++ st) h' Q)) := h_s3 rfl rfl
theorem s159_35 : XE d 159 35 ls (.int x :: st) h Q ↔ (if x = 0 then XE d 159 54 ls st h Q else XE d 159 38 ls st h Q) := g_ifeq rfl
theorem s159_38 : XE d 159 38 (.val (.ref a) :: l) st h Q ↔ XE d 159 39 (.val (.ref a) :: l) (.ref a :: st) h Q := g_aload rfl rfl
theorem s159_39 : XE d 159 39 ls st h Q ↔ XE d 159 41 ls (.int 38 :: st) h Q := g_const rfl
theorem s159_41 : XE d 159 41 ls st h Q ↔ XE d 159 42 ls (.int 5 :: st) h Q := g_const rfl
theorem s159_42 : XE d 159 42 (c0 :: .val (.int x) :: l) st h Q ↔ XE d 159 43 (c0 :: .val (.int x) :: l) (.int x :: st) h Q := g_iload rfl rfl
theorem s159_43 : XE d 159 43 ls (.int y :: .int x :: st) h Q ↔ XE d 159 44 ls (.int (x * y) :: st) h Q := g_mul rfl
theorem s159_44 : XE d 159 44 ls (.int y :: .int x :: st) h Q ↔ XE d 159 45 ls (.int (x + y) :: st) h Q := g_add rfl
theorem s159_45 : XE d 159 45 (c0 :: c1 :: .val (.int x) :: l) st h Q ↔ XE d 159 46 (c0 :: c1 :: .val (.int x) :: l) (.int x :: st) h Q := g_iload rfl rfl
theorem s159_46 : XE d 159 46 ls (.int y :: .int x :: st) h Q ↔ XE d 159 47 ls (.int (x + y) :: st) h Q := g_add rfl
theorem s159_47 : XE d 159 47 (c0 :: c1 :: c2 :: .val (.int x) :: l) st h Q ↔ XE d 159 48 (c0 :: c1 :: c2 :: .val (.int x) :: l) (.int x :: st) h Q := g_iload rfl rfl
theorem s159_48 : XE d 159 48 ls (.int y :: .int x :: .ref a :: st) h Q ↔ (xvo 8 st = true ∧ XV [(12, 143)] (h.2.2.1 a) (fun m' => XC d m' [.ref a, .int x, .int y] h (fun v h' => XE d 159 51 ls (v.toList ++ st) h' Q))) := h_v2 rfl rfl
theorem s159_51 : XE d 159 51 ls st h Q ↔ XE d 159 56 ls st h Q := g_goto rfl
theorem s159_54 : XE d 159 54 ls st h Q ↔ XE d 159 56 ls (.int (-1000000001) :: st) h Q := g_const rfl
theorem s159_56 : XE d 159 56 ls [.int x] h Q ↔ Q (some (.int x)) h := g_iret rfl
-- 160: TwoBellsModel.wire(III)I
theorem e160 : XC (d + 1) 160 [.ref a, .int x, .int y, .int z] h Q ↔ XE d 160 0 [.val (.ref a), .val (.int x), .val (.int y), .val (.int z)] [] h Q := XC_in rfl
theorem s160_0 : XE d 160 0 (.val (.ref a) :: l) st h Q ↔ XE d 160 1 (.val (.ref a) :: l) (.ref a :: st) h Q := g_aload rfl rfl
theorem s160_1 : XE d 160 1 (c0 :: .val (.int x) :: l) st h Q ↔ XE d 160 2 (c0 :: .val (.int x) :: l) (.int x :: st) h Q := g_iload rfl rfl
theorem s160_2 : XE d 160 2 ls (.int x :: .ref a :: st) h Q ↔ (xvo 8 st = true ∧ XV [(12, 137)] (h.2.2.1 a) (fun m' => XC d m' [.ref a, .int x] h (fun v h' => XE d 160 5 ls (v.toList ++ st) h' Q))) := h_v1 rfl rfl
theorem s160_5 : XE d 160 5 ls (.int x :: st) h Q ↔ (if x = 0 then XE d 160 31 ls st h Q else XE d 160 8 ls st h Q) := g_ifeq rfl
theorem s160_8 : XE d 160 8 (c0 :: c1 :: .val (.int x) :: l) st h Q ↔ XE d 160 9 (c0 :: c1 :: .val (.int x) :: l) (.int x :: st) h Q := g_iload rfl rfl
theorem s160_9 : XE d 160 9 ls st h Q ↔ XE d 160 10 ls (.int 0 :: st) h Q := g_const rfl
theorem s160_10 : XE d 160 10 ls st h Q ↔ XE d 160 11 ls (.int 1 :: st) h Q := g_const rfl
theorem s160_11 : XE d 160 11 ls (.int z :: .int y :: .int x :: st) h Q ↔ (xvo 8 st = true ∧ XC d 132 [.int x, .int y, .int z] h (fun v h' => XE d 160 14 ls (v.toList ++ st) h' Q)) := h_s3 rfl rfl
theorem s160_14 : XE d 160 14 ls (.int x :: st) h Q ↔ (if x = 0 then XE d 160 31 ls st h Q else XE d 160 17 ls st h Q) := g_ifeq rfl
theorem s160_17 : XE d 160 17 (c0 :: c1 :: c2 :: .val (.int x) :: l) st h Q ↔ XE d 160 18 (c0 :: c1 :: c2 :: .val (.int x) :: l) (.int x :: st) h Q := g_iload rfl rfl
theorem s160_18 : XE d 160 18 ls st h Q ↔ XE d 160 20 ls (.int (-1000000005) :: st) h Q := g_const rfl
theorem s160_20 : XE d 160 20 ls (.int y :: .int x :: st) h Q ↔ (if x = y then XE d 160 34 ls st h Q else XE d 160 23 ls st h Q) := g_ceq rfl
theorem s160_23 : XE d 160 23 (.val (.ref a) :: l) st h Q ↔ XE d 160 24 (.val (.ref a) :: l) (.ref a :: st) h Q := g_aload rfl rfl
theorem s160_24 : XE d 160 24 (c0 :: c1 :: c2 :: .val (.int x) :: l) st h Q ↔ XE d 160 25 (c0 :: c1 :: c2 :: .val (.int x) :: l) (.int x :: st) h Q := g_iload rfl rfl
theorem s160_25 : XE d 160 25 ls (.int x :: .ref a :: st) h Q ↔ (xvo 8 st = true ∧ XV [(12, 136)] (h.2.2.1 a) (fun m' => XC d m' [.ref a, .int x] h (fun v h' => XE d 160 28 ls (v.toList ++ st) h' Q))) := h_v1 rfl rfl
theorem s160_28 : XE d 160 28 ls (.int x :: st) h Q ↔ (if x = 0 then XE d 160 31 ls st h Q else XE d 160 34 ls st h Q) := g_ifne rfl
theorem s160_31 : XE d 160 31 ls st h Q ↔ XE d 160 33 ls (.int (-1000000001) :: st) h Q := g_const rfl
theorem s160_33 : XE d 160 33 ls [.int x] h Q ↔ Q (some (.int x)) h := g_iret rfl
theorem s160_34 : XE d 160 34 (.val (.ref a) :: l) st h Q ↔ XE d 160 35 (.val (.ref a) :: l) (.ref a :: st) h Q := g_aload rfl rfl
theorem s160_35 : XE d 160 35 ls st h Q ↔ XE d 160 37 ls (.int 38 :: st) h Q := g_const rfl
theorem s160_37 : XE d 160 37 ls st h Q ↔ XE d 160 38 ls (.int 5 :: st) h Q := g_const rfl
theorem s160_38 : XE d 160 38 (c0 :: .val (.int x) :: l) st h Q ↔ XE d 160 39 (c0 :: .val (.int x) :: l) (.int x :: st) h Q := g_iload rfl rfl
theorem s160_39 : XE d 160 39 ls (.int y :: .int x :: st) h Q ↔ XE d 160 40 ls (.int (x * y) :: st) h Q := g_mul rfl
theorem s160_40 : XE d 160 40 ls (.int y :: .int x :: st) h Q ↔ XE d 160 41 ls (.int (x + y) :: st) h Q := g_add rfl
theorem s160_41 : XE d 160 41 ls st h Q ↔ XE d 160 42 ls (.int 3 :: st) h Q := g_const rfl
theorem s160_42 : XE d 160 42 ls (.int y :: .int x :: st) h Q ↔ XE d 160 43 ls (.int (x + y) :: st) h Q := g_add rfl
theorem s160_43 : XE d 160 43 (c0 :: c1 :: .val (.int x) :: l) st h Q ↔ XE d 160 44 (c0 :: c1 :: .val (.int x) :: l) (.int x :: st) h Q := g_iload rfl rfl
theorem s160_44 : XE d 160 44 ls (.int y :: .int x :: st) h Q ↔ XE d 160 45 ls (.int (x + y) :: st) h Q := g_add rfl
theorem s160_45 : XE d 160 45 (c0 :: c1 :: c2 :: .val (.int x) :: l) st h Q ↔ XE d 160 46 (c0 :: c1 :: c2 :: .val (.int x) :: l) (.int x :: st) h Q := g_iload rfl rfl
theorem s160_46 : XE d 160 46 ls st h Q ↔ XE d 160 48 ls (.int (-1000000005) :: st) h Q := g_const rfl
theorem s160_48 : XE d 160 48 ls (.int y :: .int x :: st) h Q ↔ (if x = y then XE d 160 51 ls st h Q else XE d 160 55 ls st h Q) := g_cne rfl
theorem s160_51 : XE d 160 51 ls st h Q ↔ XE d 160 52 ls (.int (-1) :: st) h Q := g_const rfl
theorem s160_52 : XE d 160 52 ls st h Q ↔ XE d 160 56 ls st h Q := g_goto rfl
theorem s160_55 : XE d 160 55 (c0 :: c1 :: c2 :: .val (.int x) :: l) st h Q ↔ XE d 160 56 (c0 :: c1 :: c2 :: .val (.int x) :: l) (.int x :: st) h Q := g_iload rfl rfl
theorem s160_56 : XE d 160 56 ls (.int y :: .int x :: .ref a :: st) h Q ↔ (xvo 8 st = true ∧ XV [(12, 143)] (h.2.2.1 a) (fun m' => XC d m' [.ref a, .int x, .int y] h (fun v h' => XE d 160 59 ls (v.toList ++ st) h' Q))) := h_v2 rfl rfl
theorem s160_59 : XE d 160 59 ls (.int x :: st) h Q ↔ (xvo 8 st = true ∧ XC d 135 [.int x] h (fun v h' => XE d 160 62 ls (v.toList ++ st) h' Q)) := h_s1 rfl rfl
theorem s160_62 : XE d 160 62 ls [.int x] h Q ↔ Q (some (.int x)) h := g_iret rfl
-- 161: TwoBellsModel.thief(II)I
theorem e161 : XC (d + 1) 161 [.ref a, .int x, .int y] h Q ↔ XE d 161 0 [.val (.ref a), .val (.int x), .val (.int y)] [] h Q := XC_in rfl
theorem s161_0 : XE d 161 0 (c0 :: .val (.int x) :: l) st h Q ↔ XE d 161 1 (c0 :: .val (.int x) :: l) (.int x :: st) h Q := g_iload rfl rfl
theorem s161_1 : XE d 161 1 ls st h Q ↔ XE d 161 2 ls (.int 0 :: st) h Q := g_const rfl
theorem s161_2 : XE d 161 2 ls st h Q ↔ XE d 161 3 ls (.int 5 :: st) h Q := g_const rfl
theorem s161_3 : XE d 161 3 ls (.int z :: .int y :: .int x :: st) h Q ↔ (xvo 8 st = true ∧ XC d 132 [.int x, .int y, .int z] h (fun v h' => XE d 161 6 ls (v.toList ++ st) h' Q)) := h_s3 rfl rfl
theorem s161_6 : XE d 161 6 ls (.int x :: st) h Q ↔ (if x = 0 then XE d 161 17 ls st h Q else XE d 161 9 ls st h Q) := g_ifeq rfl
theorem s161_9 : XE d 161 9 (.val (.ref a) :: l) st h Q ↔ XE d 161 10 (.val (.ref a) :: l) (.ref a :: st) h Q := g_aload rfl rfl
theorem s161_10 : XE d 161 10 (c0 :: c1 :: .val (.int x) :: l) st h Q ↔ XE d 161 11 (c0 :: c1 :: .val (.int x) :: l) (.int x :: st) h Q := g_iload rfl rfl
theorem s161_11 : XE d 161 11 ls (.int x :: .ref a :: st) h Q ↔ (xvo 8 st = true ∧ XV [(12, 136)] (h.2.2.1 a) (fun m' => XC d m' [.ref a, .int x] h (fun v h' => XE d 161 14 ls (v.toList ++ st) h' Q))) := h_v1 rfl rfl
theorem s161_14 : XE d 161 14 ls (.int x :: st) h Q ↔ (if x = 0 then XE d 161 17 ls st h Q else XE d 161 20 ls st h Q) := g_ifne rfl
theorem s161_17 : XE d 161 17 ls st h Q ↔ XE d 161 19 ls (.int (-1000000001) :: st) h Q := g_const rfl
theorem s161_19 : XE d 161 19 ls [.int x] h Q ↔ Q (some (.int x)) h := g_iret rfl
theorem s161_20 : XE d 161 20 (.val (.ref a) :: l) st h Q ↔ XE d 161 21 (.val (.ref a) :: l) (.ref a :: st) h Q := g_aload rfl rfl
theorem s161_21 : XE d 161 21 ls (.ref a :: st) h Q ↔ XG [12] 0 (h.2.2.1 a) (fun v => XE d 161 24 ls (v :: st) h Q) := g_getf rfl
theorem s161_24 : XE d 161 24 ls st h Q ↔ XE d 161 25 ls (.int 3 :: st) h Q := g_const rfl
theorem s161_25 : XE d 161 25 ls (.int x :: .ref a :: st) h Q ↔ XA [0, 7] (h.2.2.1 a) x (fun k => XE d 161 26 ls (.int k :: st) h Q) := g_ald rfl
theorem s161_26 : XE d 161 26 ls st h Q ↔ XE d 161 28 ls (.int 6 :: st) h Q := g_const rfl
theorem s161_28 : XE d 161 28 ls (.int y :: .int x :: st) h Q ↔ (if x = y then XE d 161 31 ls st h Q else XE d 161 34 ls st h Q) := g_cne rfl
theorem s161_31 : XE d 161 31 ls st h Q ↔ XE d 161 33 ls (.int (-1000000003) :: st) h Q := g_const rfl
theorem s161_33 : XE d 161 33 ls [.int x] h Q ↔ Q (some (.int x)) h := g_iret rfl
theorem s161_34 : XE d 161 34 (.val (.ref a) :: l) st h Q ↔ XE d 161 35 (.val (.ref a) :: l) (.ref a :: st) h Q := g_aload rfl rfl
theorem s161_35 : XE d 161 35 ls (.ref a :: st) h Q ↔ XG [12] 0 (h.2.2.1 a) (fun v => XE d 161 38 ls (v :: st) h Q) := g_getf rfl
theorem s161_38 : XE d 161 38 ls st h Q ↔ XE d 161 40 ls (.int 98 :: st) h Q := g_const rfl
theorem s161_40 : XE d 161 40 ls st h Q ↔ XE d 161 41 ls (.int 2 :: st) h Q := g_const rfl
theorem s161_41 : XE d 161 41 (.val (.ref a) :: l) st h Q ↔ XE d 161 42 (.val (.ref a) :: l) (.ref a :: st) h Q := g_aload rfl rfl
theorem s161_42 : XE d 161 42 ls (.ref a :: st) h Q ↔ XG [12] 0 (h.2.2.1 a) (fun v => XE d 161 45 ls (v :: st) h Q) := g_getf rfl
theorem s161_45 : XE d 161 45 ls st h Q ↔ XE d 161 46 ls (.int 3 :: st) h Q := g_const rfl
theorem s161_46 : XE d 161 46 ls (.int x :: .ref a :: st) h Q ↔ XA [0, 7] (h.2.2.1 a) x (fun k => XE d 161 47 ls (.int k :: st) h Q) := g_ald rfl
theorem s161_47 : XE d 161 47 ls (.int y :: .int x :: st) h Q ↔ XE d 161 48 ls (.int (x * y) :: st) h Q := g_mul rfl
theorem s161_48 : XE d 161 48 ls (.int y :: .int x :: st) h Q ↔ XE d 161 49 ls (.int (x + y) :: st) h Q := g_add rfl
theorem s161_49 : XE d 161 49 (c0 :: .val (.int x) :: l) st h Q ↔ XE d 161 50 (c0 :: .val (.int x) :: l) (.int x :: st) h Q := g_iload rfl rfl
theorem s161_50 : XE d 161 50 ls (.int y :: .int x :: .ref a :: st) h Q ↔ XS 0 (h.2.2.1 a) x y (fun e => XE d 161 51 ls st (xset h a e) Q) := g_iast rfl
theorem s161_51 : XE d 161 51 (.val (.ref a) :: l) st h Q ↔ XE d 161 52 (.val (.ref a) :: l) (.ref a :: st) h Q := g_aload rfl rfl
theorem s161_52 : XE d 161 52 ls (.ref a :: st) h Q ↔ XG [12] 0 (h.2.2.1 a) (fun v => XE d 161 55 ls (v :: st) h Q) := g_getf rfl
theorem s161_55 : XE d 161 55 ls st h Q ↔ XE d 161 57 ls (.int 98 :: st) h Q := g_const rfl
theorem s161_57 : XE d 161 57 ls st h Q ↔ XE d 161 58 ls (.int 2 :: st) h Q := g_const rfl
theorem s161_58 : XE d 161 58 (.val (.ref a) :: l) st h Q ↔ XE d 161 59 (.val (.ref a) :: l) (.ref a :: st) h Q := g_aload rfl rfl
theorem s161_59 : XE d 161 59 ls (.ref a :: st) h Q ↔ XG [12] 0 (h.2.2.1 a) (fun v => XE d 161 62 ls (v :: st) h Q) := g_getf rfl
theorem s161_62 : XE d 161 62 ls st h Q ↔ XE d 161 63 ls (.int 3 :: st) h Q := g_const rfl
theorem s161_63 : XE d 161 63 ls (.int x :: .ref a :: st) h Q ↔ XA [0, 7] (h.2.2.1 a) x (fun k => XE d 161 64 ls (.int k :: st) h Q) := g_ald rfl
theorem s161_64 : XE d 161 64 ls (.int y :: .int x :: st) h Q ↔ XE d 161 65 ls (.int (x * y) :: st) h Q := g_mul rfl
theorem s161_65 : XE d 161 65 ls (.int y :: .int x :: st) h Q ↔ XE d 161 66 ls (.int (x + y) :: st) h Q := g_add rfl
theorem s161_66 : XE d 161 66 ls st h Q ↔ XE d 161 67 ls (.int 1 :: st) h Q := g_const rfl
theorem s161_67 : XE d 161 67 ls (.int y :: .int x :: st) h Q ↔ XE d 161 68 ls (.int (x + y) :: st) h Q := g_add rfl
theorem s161_68 : XE d 161 68 (c0 :: c1 :: .val (.int x) :: l) st h Q ↔ XE d 161 69 (c0 :: c1 :: .val (.int x) :: l) (.int x :: st) h Q := g_iload rfl rfl
theorem s161_69 : XE d 161 69 ls (.int y :: .int x :: .ref a :: st) h Q ↔ XS 0 (h.2.2.1 a) x y (fun e => XE d 161 70 ls st (xset h a e) Q) := g_iast rfl
theorem s161_70 : XE d 161 70 (.val (.ref a) :: l) st h Q ↔ XE d 161 71 (.val (.ref a) :: l) (.ref a :: st) h Q := g_aload rfl rfl
theorem s161_71 : XE d 161 71 ls (.ref a :: st) h Q ↔ XG [12] 0 (h.2.2.1 a) (fun v => XE d 161 74 ls (v :: st) h Q) := g_getf rfl
theorem s161_74 : XE d 161 74 ls st h Q ↔ XE d 161 75 ls (.int 3 :: st) h Q := g_const rfl
theorem s161_75 : XE d 161 75 ls (.int x :: .ref a :: st) h Q ↔ XE d 161 76 ls (.int x :: .ref a :: .int x :: .ref a :: st) h Q := g_dup2 rfl
theorem s161_76 : XE d 161 76 ls (.int x :: .ref a :: st) h Q ↔ XA [0, 7] (h.2.2.1 a) x (fun k => XE d 161 77 ls (.int k :: st) h Q) := g_ald rfl
theorem s161_77 : XE d 161 77 ls st h Q ↔ XE d 161 78 ls (.int 1 :: st) h Q := g_const rfl
theorem s161_78 : XE d 161 78 ls (.int y :: .int x :: st) h Q ↔ XE d 161 79 ls (.int (x + y) :: st) h Q := g_add rfl
theorem s161_79 : XE d 161 79 ls (.int y :: .int x :: .ref a :: st) h Q ↔ XS 0 (h.2.2.1 a) x y (fun e => XE d 161 80 ls st (xset h a e) Q) := g_iast rfl
theorem s161_80 : XE d 161 80 (.val (.ref a) :: l) st h Q ↔ XE d 161 81 (.val (.ref a) :: l) (.ref a :: st) h Q := g_aload rfl rfl
theorem s161_81 : XE d 161 81 ls (.ref a :: st) h Q ↔ XG [12] 0 (h.2.2.1 a) (fun v => XE d 161 84 ls (v :: st) h Q) := g_getf rfl
theorem s161_84 : XE d 161 84 ls st h Q ↔ XE d 161 85 ls (.int 3 :: st) h Q := g_const rfl
theorem s161_85 : XE d 161 85 ls (.int x :: .ref a :: st) h Q ↔ XA [0, 7] (h.2.2.1 a) x (fun k => XE d 161 86 ls (.int k :: st) h Q) := g_ald rfl
theorem s161_86 : XE d 161 86 ls st h Q ↔ XE d 161 87 ls (.int 1 :: st) h Q := g_const rfl
theorem s161_87 : XE d 161 87 ls (.int y :: .int x :: st) h Q ↔ XE d 161 88 ls (.int (x - y) :: st) h Q := g_sub rfl
theorem s161_88 : XE d 161 88 ls [.int x] h Q ↔ Q (some (.int x)) h := g_iret rfl
-- 162: TwoBellsModel.worthOf(I)I
theorem e162 : XC (d + 1) 162 [.ref a, .int x] h Q ↔ XE d 162 0 [.val (.ref a), .val (.int x), .unset] [] h Q := XC_in rfl
theorem s162_0 : XE d 162 0 (.val (.ref a) :: l) st h Q ↔ XE d 162 1 (.val (.ref a) :: l) (.ref a :: st) h Q := g_aload rfl rfl
theorem s162_1 : XE d 162 1 (c0 :: .val (.int x) :: l) st h Q ↔ XE d 162 2 (c0 :: .val (.int x) :: l) (.int x :: st) h Q := g_iload rfl rfl
theorem s162_2 : XE d 162 2 ls (.int x :: .ref a :: st) h Q ↔ (xvo 8 st = true ∧ XV [(12, 142)] (h.2.2.1 a) (fun m' => XC d m' [.ref a, .int x] h (fun v h' => XE d 162 5 ls (v.toList ++ st) h' Q))) := h_v1 rfl rfl
theorem s162_5 : XE d 162 5 (c0 :: c1 :: c2 :: l) (.int x :: st) h Q ↔ XE d 162 6 (c0 :: c1 :: .val (.int x) :: l) st h Q := g_istore (Nat.lt_of_lt_of_le (show 2 < 3 by decide) (Nat.le_add_left 3 _)) rfl rfl
theorem s162_6 : XE d 162 6 (.val (.ref a) :: l) st h Q ↔ XE d 162 7 (.val (.ref a) :: l) (.ref a :: st) h Q := g_aload rfl rfl
theorem s162_7 : XE d 162 7 (c0 :: .val (.int x) :: l) st h Q ↔ XE d 162 8 (c0 :: .val (.int x) :: l) (.int x :: st) h Q := g_iload rfl rfl
theorem s162_8 : XE d 162 8 ls (.int x :: .ref a :: st) h Q ↔ (xvo 8 st = true ∧ XV [(12, 141)] (h.2.2.1 a) (fun m' => XC d m' [.ref a, .int x] h (fun v h' => XE d 162 11 ls (v.toList ++ st) h' Q))) := h_v1 rfl rfl
theorem s162_11 : XE d 162 11 ls (.int x :: st) h Q ↔ xswi d 162 x 68 ls st h Q [(1, 44), (2, 49), (3, 53), (4, 60), (5, 65)] := g_switch rfl
theorem s162_44 : XE d 162 44 (c0 :: c1 :: .val (.int x) :: l) st h Q ↔ XE d 162 45 (c0 :: c1 :: .val (.int x) :: l) (.int x :: st) h Q := g_iload rfl rfl
theorem s162_45 : XE d 162 45 ls st h Q ↔ XE d 162 47 ls (.int 10 :: st) h Q := g_const rfl
theorem s162_47 : XE d 162 47 ls (.int y :: .int x :: st) h Q ↔ XE d 162 48 ls (.int (x + y) :: st) h Q := g_add rfl
theorem s162_48 : XE d 162 48 ls [.int x] h Q ↔ Q (some (.int x)) h := g_iret rfl
theorem s162_49 : XE d 162 49 (c0 :: c1 :: .val (.int x) :: l) st h Q ↔ XE d 162 50 (c0 :: c1 :: .val (.int x) :: l) (.int x :: st) h Q := g_iload rfl rfl
theorem s162_50 : XE d 162 50 ls st h Q ↔ XE d 162 51 ls (.int 1 :: st) h Q := g_const rfl
theorem s162_51 : XE d 162 51 ls (.int y :: .int x :: st) h Q ↔ XE d 162 52 ls (.int (x - y) :: st) h Q := g_sub rfl
theorem s162_52 : XE d 162 52 ls [.int x] h Q ↔ Q (some (.int x)) h := g_iret rfl
theorem s162_53 : XE d 162 53 ls st h Q ↔ XE d 162 54 ls (.int 2 :: st) h Q := g_const rfl
theorem s162_54 : XE d 162 54 (c0 :: c1 :: .val (.int x) :: l) st h Q ↔ XE d 162 55 (c0 :: c1 :: .val (.int x) :: l) (.int x :: st) h Q := g_iload rfl rfl
theorem s162_55 : XE d 162 55 ls st h Q ↔ XE d 162 57 ls (.int 10 :: st) h Q := g_const rfl
theorem s162_57 : XE d 162 57 ls (.int y :: .int x :: st) h Q ↔ XE d 162 58 ls (.int (x + y) :: st) h Q := g_add rfl
theorem s162_58 : XE d 162 58 ls (.int y :: .int x :: st) h Q ↔ XE d 162 59 ls (.int (x * y) :: st) h Q := g_mul rfl
theorem s162_59 : XE d 162 59 ls [.int x] h Q ↔ Q (some (.int x)) h := g_iret rfl
theorem s162_60 : XE d 162 60 (c0 :: c1 :: .val (.int x) :: l) st h Q ↔ XE d 162 61 (c0 :: c1 :: .val (.int x) :: l) (.int x :: st) h Q := g_iload rfl rfl
theorem s162_61 : XE d 162 61 ls st h Q ↔ XE d 162 63 ls (.int 19 :: st) h Q := g_const rfl
theorem s162_63 : XE d 162 63 ls (.int y :: .int x :: st) h Q ↔ XE d 162 64 ls (.int (x + y) :: st) h Q := g_add rfl
theorem s162_64 : XE d 162 64 ls [.int x] h Q ↔ Q (some (.int x)) h := g_iret rfl
theorem s162_65 : XE d 162 65 ls st h Q ↔ XE d 162 67 ls (.int 30 :: st) h Q := g_const rfl
theorem s162_67 : XE d 162 67 ls [.int x] h Q ↔ Q (some (.int x)) h := g_iret rfl
theorem s162_68 : XE d 162 68 (c0 :: c1 :: .val (.int x) :: l) st h Q ↔ XE d 162 69 (c0 :: c1 :: .val (.int x) :: l) (.int x :: st) h Q := g_iload rfl rfl
theorem s162_69 : XE d 162 69 ls [.int x] h Q ↔ Q (some (.int x)) h := g_iret rfl
-- 163: TwoBellsModel.told(II)I
theorem e163 : XC (d + 1) 163 [.ref a, .int x, .int y] h Q ↔ XE d 163 0 [.val (.ref a), .val (.int x), .val (.int y)] [] h Q := XC_in rfl
theorem s163_0 : XE d 163 0 (.val (.ref a) :: l) st h Q ↔ XE d 163 1 (.val (.ref a) :: l) (.ref a :: st) h Q := g_aload rfl rfl
theorem s163_1 : XE d 163 1 (c0 :: .val (.int x) :: l) st h Q ↔ XE d 163 2 (c0 :: .val (.int x) :: l) (.int x :: st) h Q := g_iload rfl rfl
theorem s163_2 : XE d 163 2 ls (.int x :: .ref a :: st) h Q ↔ (xvo 8 st = true ∧ XV [(12, 138)] (h.2.2.1 a) (fun m' => XC d m' [.ref a, .int x] h (fun v h' => XE d 163 5 ls (v.toList ++ st) h' Q))) := h_v1 rfl rfl
theorem s163_5 : XE d 163 5 ls (.int x :: st) h Q ↔ (if x = 0 then XE d 163 17 ls st h Q else XE d 163 8 ls st h Q) := g_ifeq rfl
theorem s163_8 : XE d 163 8 (c0 :: c1 :: .val (.int x) :: l) st h Q ↔ XE d 163 9 (c0 :: c1 :: .val (.int x) :: l) (.int x :: st) h Q := g_iload rfl rfl
theorem s163_9 : XE d 163 9 ls st h Q ↔ XE d 163 10 ls (.int 0 :: st) h Q := g_const rfl
theorem s163_10 : XE d 163 10 ls st h Q ↔ XE d 163 11 ls (.int 2 :: st) h Q := g_const rfl
theorem s163_11 : XE d 163 11 ls (.int z :: .int y :: .int x :: st) h Q ↔ (xvo 8 st = true ∧ XC d 132 [.int x, .int y, .int z] h (fun v h' => XE d 163 14 ls (v.toList ++ st) h' Q)) := h_s3 rfl rfl
theorem s163_14 : XE d 163 14 ls (.int x :: st) h Q ↔ (if x = 0 then XE d 163 17 ls st h Q else XE d 163 20 ls st h Q) := g_ifne rfl
theorem s163_17 : XE d 163 17 ls st h Q ↔ XE d 163 19 ls (.int (-1000000001) :: st) h Q := g_const rfl
theorem s163_19 : XE d 163 19 ls [.int x] h Q ↔ Q (some (.int x)) h := g_iret rfl
theorem s163_20 : XE d 163 20 (c0 :: c1 :: .val (.int x) :: l) st h Q ↔ XE d 163 21 (c0 :: c1 :: .val (.int x) :: l) (.int x :: st) h Q := g_iload rfl rfl
theorem s163_21 : XE d 163 21 ls (.int x :: st) h Q ↔ (if x = 0 then XE d 163 24 ls st h Q else XE d 163 32 ls st h Q) := g_ifne rfl
theorem s163_24 : XE d 163 24 (.val (.ref a) :: l) st h Q ↔ XE d 163 25 (.val (.ref a) :: l) (.ref a :: st) h Q := g_aload rfl rfl
theorem s163_25 : XE d 163 25 (c0 :: .val (.int x) :: l) st h Q ↔ XE d 163 26 (c0 :: .val (.int x) :: l) (.int x :: st) h Q := g_iload rfl rfl
theorem s163_26 : XE d 163 26 ls (.int x :: .ref a :: st) h Q ↔ (xvo 8 st = true ∧ XV [(12, 141)] (h.2.2.1 a) (fun m' => XC d m' [.ref a, .int x] h (fun v h' => XE d 163 29 ls (v.toList ++ st) h' Q))) := h_v1 rfl rfl
theorem s163_29 : XE d 163 29 ls st h Q ↔ XE d 163 50 ls st h Q := g_goto rfl
theorem s163_32 : XE d 163 32 (c0 :: c1 :: .val (.int x) :: l) st h Q ↔ XE d 163 33 (c0 :: c1 :: .val (.int x) :: l) (.int x :: st) h Q := g_iload rfl rfl
theorem s163_33 : XE d 163 33 ls st h Q ↔ XE d 163 34 ls (.int 1 :: st) h Q := g_const rfl
theorem s163_34 : XE d 163 34 ls (.int y :: .int x :: st) h Q ↔ (if x = y then XE d 163 37 ls st h Q else XE d 163 45 ls st h Q) := g_cne rfl
theorem s163_37 : XE d 163 37 (.val (.ref a) :: l) st h Q ↔ XE d 163 38 (.val (.ref a) :: l) (.ref a :: st) h Q := g_aload rfl rfl
theorem s163_38 : XE d 163 38 (c0 :: .val (.int x) :: l) st h Q ↔ XE d 163 39 (c0 :: .val (.int x) :: l) (.int x :: st) h Q := g_iload rfl rfl
theorem s163_39 : XE d 163 39 ls (.int x :: .ref a :: st) h Q ↔ (xvo 8 st = true ∧ XV [(12, 142)] (h.2.2.1 a) (fun m' => XC d m' [.ref a, .int x] h (fun v h' => XE d 163 42 ls (v.toList ++ st) h' Q))) := h_v1 rfl rfl
theorem s163_42 : XE d 163 42 ls st h Q ↔ XE d 163 50 ls st h Q := g_goto rfl
theorem s163_45 : XE d 163 45 (.val (.ref a) :: l) st h Q ↔ XE d 163 46 (.val (.ref a) :: l) (.ref a :: st) h Q := g_aload rfl rfl
theorem s163_46 : XE d 163 46 (c0 :: .val (.int x) :: l) st h Q ↔ XE d 163 47 (c0 :: .val (.int x) :: l) (.int x :: st) h Q := g_iload rfl rfl
theorem s163_47 : XE d 163 47 ls (.int x :: .ref a :: st) h Q ↔ (xvo 8 st = true ∧ XV [(12, 162)] (h.2.2.1 a) (fun m' => XC d m' [.ref a, .int x] h (fun v h' => XE d 163 50 ls (v.toList ++ st) h' Q))) := h_v1 rfl rfl
theorem s163_50 : XE d 163 50 ls [.int x] h Q ↔ Q (some (.int x)) h := g_iret rfl
-- 164: TwoBellsModel.isUnder(II)Z
theorem e164 : XC (d + 1) 164 [.int x, .int y] h Q ↔ XE d 164 0 [.val (.int x), .val (.int y)] [] h Q := XC_in rfl
theorem s164_0 : XE d 164 0 (c0 :: .val (.int x) :: l) st h Q ↔ XE d 164 1 (c0 :: .val (.int x) :: l) (.int x :: st) h Q := g_iload rfl rfl
theorem s164_1 : XE d 164 1 ls (.int x :: st) h Q ↔ (if x = 0 then XE d 164 29 ls st h Q else XE d 164 4 ls st h Q) := g_ifeq rfl
theorem s164_4 : XE d 164 4 (.val (.int x) :: l) st h Q ↔ XE d 164 5 (.val (.int x) :: l) (.int x :: st) h Q := g_iload rfl rfl
theorem s164_5 : XE d 164 5 (c0 :: .val (.int x) :: l) st h Q ↔ XE d 164 6 (c0 :: .val (.int x) :: l) (.int x :: st) h Q := g_iload rfl rfl
theorem s164_6 : XE d 164 6 ls (.int y :: .int x :: st) h Q ↔ (if x = y then XE d 164 29 ls st h Q else XE d 164 9 ls st h Q) := g_ceq rfl
theorem s164_9 : XE d 164 9 (c0 :: .val (.int x) :: l) st h Q ↔ XE d 164 10 (c0 :: .val (.int x) :: l) (.int x :: st) h Q := g_iload rfl rfl
theorem s164_10 : XE d 164 10 ls st h Q ↔ XE d 164 11 ls (.int 1 :: st) h Q := g_const rfl
theorem s164_11 : XE d 164 11 ls (.int y :: .int x :: st) h Q ↔ (if x = y then XE d 164 14 ls st h Q else XE d 164 19 ls st h Q) := g_cne rfl
theorem s164_14 : XE d 164 14 (.val (.int x) :: l) st h Q ↔ XE d 164 15 (.val (.int x) :: l) (.int x :: st) h Q := g_iload rfl rfl
theorem s164_15 : XE d 164 15 ls st h Q ↔ XE d 164 16 ls (.int 3 :: st) h Q := g_const rfl
theorem s164_16 : XE d 164 16 ls (.int y :: .int x :: st) h Q ↔ (if x = y then XE d 164 29 ls st h Q else XE d 164 19 ls st h Q) := g_ceq rfl
theorem s164_19 : XE d 164 19 (c0 :: .val (.int x) :: l) st h Q ↔ XE d 164 20 (c0 :: .val (.int x) :: l) (.int x :: st) h Q := g_iload rfl rfl
theorem s164_20 : XE d 164 20 ls st h Q ↔ XE d 164 21 ls (.int 2 :: st) h Q := g_const rfl
theorem s164_21 : XE d 164 21 ls (.int y :: .int x :: st) h Q ↔ (if x = y then XE d 164 24 ls st h Q else XE d 164 33 ls st h Q) := g_cne rfl
theorem s164_24 : XE d 164 24 (.val (.int x) :: l) st h Q ↔ XE d 164 25 (.val (.int x) :: l) (.int x :: st) h Q := g_iload rfl rfl
theorem s164_25 : XE d 164 25 ls st h Q ↔ XE d 164 26 ls (.int 4 :: st) h Q := g_const rfl
theorem s164_26 : XE d 164 26 ls (.int y :: .int x :: st) h Q ↔ (if x = y then XE d 164 29 ls st h Q else XE d 164 33 ls st h Q) := g_cne rfl
theorem s164_29 : XE d 164 29 ls st h Q ↔ XE d 164 30 ls (.int 1 :: st) h Q := g_const rfl
theorem s164_30 : XE d 164 30 ls st h Q ↔ XE d 164 34 ls st h Q := g_goto rfl
theorem s164_33 : XE d 164 33 ls st h Q ↔ XE d 164 34 ls (.int 0 :: st) h Q := g_const rfl
theorem s164_34 : XE d 164 34 ls [.int 0] h Q ↔ Q (some (.int 0)) h := g_zret rfl rfl
theorem s164_34t : XE d 164 34 ls [.int 1] h Q ↔ Q (some (.int 1)) h := g_zret rfl rfl
theorem s164_34b : XE d 164 34 ls [.int (bI q)] h Q ↔ Q (some (.int (bI q))) h := g_zret (bI_nar q) rfl
-- 165: TwoBellsModel.as(II)I
theorem e165 : XC (d + 1) 165 [.ref a, .int x, .int y] h Q ↔ XE d 165 0 [.val (.ref a), .val (.int x), .val (.int y)] [] h Q := XC_in rfl
theorem s165_0 : XE d 165 0 (.val (.ref a) :: l) st h Q ↔ XE d 165 1 (.val (.ref a) :: l) (.ref a :: st) h Q := g_aload rfl rfl
theorem s165_1 : XE d 165 1 (c0 :: .val (.int x) :: l) st h Q ↔ XE d 165 2 (c0 :: .val (.int x) :: l) (.int x :: st) h Q := g_iload rfl rfl
theorem s165_2 : XE d 165 2 ls (.int x :: .ref a :: st) h Q ↔ (xvo 8 st = true ∧ XV [(12, 138)] (h.2.2.1 a) (fun m' => XC d m' [.ref a, .int x] h (fun v h' => XE d 165 5 ls (v.toList ++ st) h' Q))) := h_v1 rfl rfl
theorem s165_5 : XE d 165 5 ls (.int x :: st) h Q ↔ (if x = 0 then XE d 165 17 ls st h Q else XE d 165 8 ls st h Q) := g_ifeq rfl
theorem s165_8 : XE d 165 8 (c0 :: c1 :: .val (.int x) :: l) st h Q ↔ XE d 165 9 (c0 :: c1 :: .val (.int x) :: l) (.int x :: st) h Q := g_iload rfl rfl
theorem s165_9 : XE d 165 9 ls st h Q ↔ XE d 165 10 ls (.int 0 :: st) h Q := g_const rfl
theorem s165_10 : XE d 165 10 ls st h Q ↔ XE d 165 11 ls (.int 5 :: st) h Q := g_const rfl
theorem s165_11 : XE d 165 11 ls (.int z :: .int y :: .int x :: st) h Q ↔ (xvo 8 st = true ∧ XC d 132 [.int x, .int y, .int z] h (fun v h' => XE d 165 14 ls (v.toList ++ st) h' Q)) := h_s3 rfl rfl
theorem s165_14 : XE d 165 14 ls (.int x :: st) h Q ↔ (if x = 0 then XE d 165 17 ls st h Q else XE d 165 20 ls st h Q) := g_ifne rfl
theorem s165_17 : XE d 165 17 ls st h Q ↔ XE d 165 19 ls (.int (-1000000001) :: st) h Q := g_const rfl
theorem s165_19 : XE d 165 19 ls [.int x] h Q ↔ Q (some (.int x)) h := g_iret rfl
theorem s165_20 : XE d 165 20 (.val (.ref a) :: l) st h Q ↔ XE d 165 21 (.val (.ref a) :: l) (.ref a :: st) h Q := g_aload rfl rfl
theorem s165_21 : XE d 165 21 (c0 :: .val (.int x) :: l) st h Q ↔ XE d 165 22 (c0 :: .val (.int x) :: l) (.int x :: st) h Q := g_iload rfl rfl
theorem s165_22 : XE d 165 22 ls (.int x :: .ref a :: st) h Q ↔ (xvo 8 st = true ∧ XV [(12, 141)] (h.2.2.1 a) (fun m' => XC d m' [.ref a, .int x] h (fun v h' => XE d 165 25 ls (v.toList ++ st) h' Q))) := h_v1 rfl rfl
theorem s165_25 : XE d 165 25 (c0 :: c1 :: .val (.int x) :: l) st h Q ↔ XE d 165 26 (c0 :: c1 :: .val (.int x) :: l) (.int x :: st) h Q := g_iload rfl rfl
theorem s165_26 : XE d 165 26 ls (.int y :: .int x :: st) h Q ↔ (xvo 8 st = true ∧ XC d 164 [.int x, .int y] h (fun v h' => XE d 165 29 ls (v.toList ++ st) h' Q)) := h_s2 rfl rfl
theorem s165_29 : XE d 165 29 ls (.int x :: st) h Q ↔ (if x = 0 then XE d 165 40 ls st h Q else XE d 165 32 ls st h Q) := g_ifeq rfl
theorem s165_32 : XE d 165 32 (.val (.ref a) :: l) st h Q ↔ XE d 165 33 (.val (.ref a) :: l) (.ref a :: st) h Q := g_aload rfl rfl
theorem s165_33 : XE d 165 33 (c0 :: .val (.int x) :: l) st h Q ↔ XE d 165 34 (c0 :: .val (.int x) :: l) (.int x :: st) h Q := g_iload rfl rfl
theorem s165_34 : XE d 165 34 ls (.int x :: .ref a :: st) h Q ↔ (xvo 8 st = true ∧ XV [(12, 142)] (h.2.2.1 a) (fun m' => XC d m' [.ref a, .int x] h (fun v h' => XE d 165 37 ls (v.toList ++ st) h' Q))) := h_v1 rfl rfl
theorem s165_37 : XE d 165 37 ls st h Q ↔ XE d 165 42 ls st h Q := g_goto rfl
theorem s165_40 : XE d 165 40 ls st h Q ↔ XE d 165 42 ls (.int (-1000000012) :: st) h Q := g_const rfl
theorem s165_42 : XE d 165 42 ls [.int x] h Q ↔ Q (some (.int x)) h := g_iret rfl
-- 166: TwoBellsModel.turns(II)I
theorem e166 : XC (d + 1) 166 [.ref a, .int x, .int y] h Q ↔ XE d 166 0 [.val (.ref a), .val (.int x), .val (.int y)] [] h Q := XC_in rfl
theorem s166_0 : XE d 166 0 (.val (.ref a) :: l) st h Q ↔ XE d 166 1 (.val (.ref a) :: l) (.ref a :: st) h Q := g_aload rfl rfl
theorem s166_1 : XE d 166 1 (c0 :: .val (.int x) :: l) st h Q ↔ XE d 166 2 (c0 :: .val (.int x) :: l) (.int x :: st) h Q := g_iload rfl rfl
theorem s166_2 : XE d 166 2 ls (.int x :: .ref a :: st) h Q ↔ (xvo 8 st = true ∧ XV [(12, 138)] (h.2.2.1 a) (fun m' => XC d m' [.ref a, .int x] h (fun v h' => XE d 166 5 ls (v.toList ++ st) h' Q))) := h_v1 rfl rfl
theorem s166_5 : XE d 166 5 ls (.int x :: st) h Q ↔ (if x = 0 then XE d 166 31 ls st h Q else XE d 166 8 ls st h Q) := g_ifeq rfl
theorem s166_8 : XE d 166 8 (c0 :: c1 :: .val (.int x) :: l) st h Q ↔ XE d 166 9 (c0 :: c1 :: .val (.int x) :: l) (.int x :: st) h Q := g_iload rfl rfl
theorem s166_9 : XE d 166 9 ls st h Q ↔ XE d 166 10 ls (.int 0 :: st) h Q := g_const rfl
theorem s166_10 : XE d 166 10 ls st h Q ↔ XE d 166 11 ls (.int 5 :: st) h Q := g_const rfl
theorem s166_11 : XE d 166 11 ls (.int z :: .int y :: .int x :: st) h Q ↔ (xvo 8 st = true ∧ XC d 132 [.int x, .int y, .int z] h (fun v h' => XE d 166 14 ls (v.toList ++ st) h' Q)) := h_s3 rfl rfl
theorem s166_14 : XE d 166 14 ls (.int x :: st) h Q ↔ (if x = 0 then XE d 166 31 ls st h Q else XE d 166 17 ls st h Q) := g_ifeq rfl
theorem s166_17 : XE d 166 17 (.val (.ref a) :: l) st h Q ↔ XE d 166 18 (.val (.ref a) :: l) (.ref a :: st) h Q := g_aload rfl rfl
theorem s166_18 : XE d 166 18 ls st h Q ↔ XE d 166 20 ls (.int 98 :: st) h Q := g_const rfl
theorem s166_20 : XE d 166 20 ls st h Q ↔ XE d 166 21 ls (.int 2 :: st) h Q := g_const rfl
theorem s166_21 : XE d 166 21 (c0 :: .val (.int x) :: l) st h Q ↔ XE d 166 22 (c0 :: .val (.int x) :: l) (.int x :: st) h Q := g_iload rfl rfl
theorem s166_22 : XE d 166 22 ls (.int y :: .int x :: st) h Q ↔ XE d 166 23 ls (.int (x * y) :: st) h Q := g_mul rfl
theorem s166_23 : XE d 166 23 ls (.int y :: .int x :: st) h Q ↔ XE d 166 24 ls (.int (x + y) :: st) h Q := g_add rfl
theorem s166_24 : XE d 166 24 (c0 :: c1 :: .val (.int x) :: l) st h Q ↔ XE d 166 25 (c0 :: c1 :: .val (.int x) :: l) (.int x :: st) h Q := g_iload rfl rfl
theorem s166_25 : XE d 166 25 ls (.int y :: .int x :: .ref a :: st) h Q ↔ (xvo 8 st = true ∧ XV [(12, 143)] (h.2.2.1 a) (fun m' => XC d m' [.ref a, .int x, .int y] h (fun v h' => XE d 166 28 ls (v.toList ++ st) h' Q))) := h_v2 rfl rfl
theorem s166_28 : XE d 166 28 ls st h Q ↔ XE d 166 33 ls st h Q := g_goto rfl
theorem s166_31 : XE d 166 31 ls st h Q ↔ XE d 166 33 ls (.int (-1000000001) :: st) h Q := g_const rfl
theorem s166_33 : XE d 166 33 ls [.int x] h Q ↔ Q (some (.int x)) h := g_iret rfl
-- 167: TwoBellsModel.heedOf(II)I
theorem e167 : XC (d + 1) 167 [.ref a, .int x, .int y] h Q ↔ XE d 167 0 [.val (.ref a), .val (.int x), .val (.int y), .unset, .unset] [] h Q := XC_in rfl
theorem s167_0 : XE d 167 0 (.val (.ref a) :: l) st h Q ↔ XE d 167 1 (.val (.ref a) :: l) (.ref a :: st) h Q := g_aload rfl rfl
theorem s167_1 : XE d 167 1 (c0 :: c1 :: .val (.int x) :: l) st h Q ↔ XE d 167 2 (c0 :: c1 :: .val (.int x) :: l) (.int x :: st) h Q := g_iload rfl rfl
theorem s167_2 : XE d 167 2 ls (.int x :: .ref a :: st) h Q ↔ (xvo 8 st = true ∧ XV [(12, 148)] (h.2.2.1 a) (fun m' => XC d m' [.ref a, .int x] h (fun v h' => XE d 167 5 ls (v.toList ++ st) h' Q))) := h_v1 rfl rfl
theorem s167_5 : XE d 167 5 (c0 :: c1 :: c2 :: c3 :: l) (.int x :: st) h Q ↔ XE d 167 6 (c0 :: c1 :: c2 :: .val (.int x) :: l) st h Q := g_istore (Nat.lt_of_lt_of_le (show 3 < 4 by decide) (Nat.le_add_left 4 _)) rfl rfl
theorem s167_6 : XE d 167 6 (.val (.ref a) :: l) st h Q ↔ XE d 167 7 (.val (.ref a) :: l) (.ref a :: st) h Q := g_aload rfl rfl
theorem s167_7 : XE d 167 7 (c0 :: .val (.int x) :: l) st h Q ↔ XE d 167 8 (c0 :: .val (.int x) :: l) (.int x :: st) h Q := g_iload rfl rfl
theorem s167_8 : XE d 167 8 ls (.int x :: .ref a :: st) h Q ↔ (xvo 8 st = true ∧ XV [(12, 142)] (h.2.2.1 a) (fun m' => XC d m' [.ref a, .int x] h (fun v h' => XE d 167 11 ls (v.toList ++ st) h' Q))) := h_v1 rfl rfl
theorem s167_11 : XE d 167 11 (c0 :: c1 :: c2 :: c3 :: c4 :: l) (.int x :: st) h Q ↔ XE d 167 13 (c0 :: c1 :: c2 :: c3 :: .val (.int x) :: l) st h Q := g_istore (Nat.lt_of_lt_of_le (show 4 < 5 by decide) (Nat.le_add_left 5 _)) rfl rfl
theorem s167_13 : XE d 167 13 (.val (.ref a) :: l) st h Q ↔ XE d 167 14 (.val (.ref a) :: l) (.ref a :: st) h Q := g_aload rfl rfl
theorem s167_14 : XE d 167 14 (c0 :: .val (.int x) :: l) st h Q ↔ XE d 167 15 (c0 :: .val (.int x) :: l) (.int x :: st) h Q := g_iload rfl rfl
theorem s167_15 : XE d 167 15 ls (.int x :: .ref a :: st) h Q ↔ (xvo 8 st = true ∧ XV [(12, 141)] (h.2.2.1 a) (fun m' => XC d m' [.ref a, .int x] h (fun v h' => XE d 167 18 ls (v.toList ++ st) h' Q))) := h_v1 rfl rfl
theorem s167_18 : XE d 167 18 ls (.int x :: st) h Q ↔ xswi d 167 x 85 ls st h Q [(2, 48), (3, 52), (4, 48), (5, 74)] := g_switch rfl
theorem s167_48 : XE d 167 48 (c0 :: c1 :: c2 :: .val (.int x) :: l) st h Q ↔ XE d 167 49 (c0 :: c1 :: c2 :: .val (.int x) :: l) (.int x :: st) h Q := g_iload rfl rfl
theorem s167_49 : XE d 167 49 ls st h Q ↔ XE d 167 50 ls (.int 2 :: st) h Q := g_const rfl
theorem s167_50 : XE d 167 50 ls (.int y :: .int x :: st) h Q ↔ (y ≠ 0 ∧ XE d 167 51 ls (.int (x / y) :: st) h Q) := g_div rfl
theorem s167_51 : XE d 167 51 ls [.int x] h Q ↔ Q (some (.int x)) h := g_iret rfl
theorem s167_52 : XE d 167 52 (c0 :: c1 :: .val (.int x) :: l) st h Q ↔ XE d 167 53 (c0 :: c1 :: .val (.int x) :: l) (.int x :: st) h Q := g_iload rfl rfl
theorem s167_53 : XE d 167 53 (c0 :: c1 :: c2 :: c3 :: .val (.int x) :: l) st h Q ↔ XE d 167 55 (c0 :: c1 :: c2 :: c3 :: .val (.int x) :: l) (.int x :: st) h Q := g_iload rfl rfl
theorem s167_55 : XE d 167 55 ls (.int y :: .int x :: st) h Q ↔ (if x = y then XE d 167 68 ls st h Q else XE d 167 58 ls st h Q) := g_ceq rfl
theorem s167_58 : XE d 167 58 (.val (.ref a) :: l) st h Q ↔ XE d 167 59 (.val (.ref a) :: l) (.ref a :: st) h Q := g_aload rfl rfl
theorem s167_59 : XE d 167 59 (c0 :: c1 :: c2 :: c3 :: .val (.int x) :: l) st h Q ↔ XE d 167 61 (c0 :: c1 :: c2 :: c3 :: .val (.int x) :: l) (.int x :: st) h Q := g_iload rfl rfl
theorem s167_61 : XE d 167 61 (c0 :: c1 :: .val (.int x) :: l) st h Q ↔ XE d 167 62 (c0 :: c1 :: .val (.int x) :: l) (.int x :: st) h Q := g_iload rfl rfl
theorem s167_62 : XE d 167 62 ls (.int y :: .int x :: .ref a :: st) h Q ↔ (xvo 8 st = true ∧ XV [(12, 151)] (h.2.2.1 a) (fun m' => XC d m' [.ref a, .int x, .int y] h (fun v h' => XE d 167 65 ls (v.toList ++ st) h' Q))) := h_v2 rfl rfl
theorem s167_65 : XE d 167 65 ls (.int x :: st) h Q ↔ (if x = 0 then XE d 167 72 ls st h Q else XE d 167 68 ls st h Q) := g_ifeq rfl
theorem s167_68 : XE d 167 68 ls st h Q ↔ XE d 167 69 ls (.int 0 :: st) h Q := g_const rfl
theorem s167_69 : XE d 167 69 ls st h Q ↔ XE d 167 73 ls st h Q := g_goto rfl
theorem s167_72 : XE d 167 72 (c0 :: c1 :: c2 :: .val (.int x) :: l) st h Q ↔ XE d 167 73 (c0 :: c1 :: c2 :: .val (.int x) :: l) (.int x :: st) h Q := g_iload rfl rfl
theorem s167_73 : XE d 167 73 ls [.int x] h Q ↔ Q (some (.int x)) h := g_iret rfl
theorem s167_74 : XE d 167 74 (c0 :: c1 :: c2 :: .val (.int x) :: l) st h Q ↔ XE d 167 75 (c0 :: c1 :: c2 :: .val (.int x) :: l) (.int x :: st) h Q := g_iload rfl rfl
theorem s167_75 : XE d 167 75 ls st h Q ↔ XE d 167 77 ls (.int 30 :: st) h Q := g_const rfl
theorem s167_77 : XE d 167 77 ls (.int y :: .int x :: st) h Q ↔ XE d 167 78 ls (.int (x - y) :: st) h Q := g_sub rfl
theorem s167_78 : XE d 167 78 ls st h Q ↔ XE d 167 79 ls (.int 0 :: st) h Q := g_const rfl
theorem s167_79 : XE d 167 79 ls st h Q ↔ XE d 167 81 ls (.int 100 :: st) h Q := g_const rfl
theorem s167_81 : XE d 167 81 ls (.int z :: .int y :: .int x :: st) h Q ↔ (xvo 8 st = true ∧ XC d 133 [.int x, .int y, .int z] h (fun v h' => XE d 167 84 ls (v.toList ++ st) h' Q)) := h_s3 rfl rfl
theorem s167_84 : XE d 167 84 ls [.int x] h Q ↔ Q (some (.int x)) h := g_iret rfl
theorem s167_85 : XE d 167 85 (c0 :: c1 :: c2 :: .val (.int x) :: l) st h Q ↔ XE d 167 86 (c0 :: c1 :: c2 :: .val (.int x) :: l) (.int x :: st) h Q := g_iload rfl rfl
theorem s167_86 : XE d 167 86 ls [.int x] h Q ↔ Q (some (.int x)) h := g_iret rfl
-- 168: TwoBellsModel.missedAt(II)I
theorem e168 : XC (d + 1) 168 [.ref a, .int x, .int y] h Q ↔ XE d 168 0 [.val (.ref a), .val (.int x), .val (.int y), .unset, .unset, .unset] [] h Q := XC_in rfl
theorem s168_0 : XE d 168 0 ls st h Q ↔ XE d 168 1 ls (.int 1 :: st) h Q := g_const rfl
theorem s168_1 : XE d 168 1 (c0 :: c1 :: c2 :: c3 :: l) (.int x :: st) h Q ↔ XE d 168 2 (c0 :: c1 :: c2 :: .val (.int x) :: l) st h Q := g_istore (Nat.lt_of_lt_of_le (show 3 < 4 by decide) (Nat.le_add_left 4 _)) rfl rfl
theorem s168_2 : XE d 168 2 ls st h Q ↔ XE d 168 3 ls (.int 0 :: st) h Q := g_const rfl
theorem s168_3 : XE d 168 3 (c0 :: c1 :: c2 :: c3 :: c4 :: l) (.int x :: st) h Q ↔ XE d 168 5 (c0 :: c1 :: c2 :: c3 :: .val (.int x) :: l) st h Q := g_istore (Nat.lt_of_lt_of_le (show 4 < 5 by decide) (Nat.le_add_left 5 _)) rfl rfl
theorem s168_5 : XE d 168 5 (c0 :: c1 :: c2 :: c3 :: .val (.int x) :: l) st h Q ↔ XE d 168 7 (c0 :: c1 :: c2 :: c3 :: .val (.int x) :: l) (.int x :: st) h Q := g_iload rfl rfl
theorem s168_7 : XE d 168 7 ls st h Q ↔ XE d 168 8 ls (.int 2 :: st) h Q := g_const rfl
theorem s168_8 : XE d 168 8 ls (.int y :: .int x :: st) h Q ↔ (if x < y then XE d 168 11 ls st h Q else XE d 168 51 ls st h Q) := g_cge rfl
theorem s168_11 : XE d 168 11 (.val (.ref a) :: l) st h Q ↔ XE d 168 12 (.val (.ref a) :: l) (.ref a :: st) h Q := g_aload rfl rfl
theorem s168_12 : XE d 168 12 (c0 :: c1 :: .val (.int x) :: l) st h Q ↔ XE d 168 13 (c0 :: c1 :: .val (.int x) :: l) (.int x :: st) h Q := g_iload rfl rfl
theorem s168_13 : XE d 168 13 ls st h Q ↔ XE d 168 14 ls (.int 3 :: st) h Q := g_const rfl
theorem s168_14 : XE d 168 14 (c0 :: c1 :: c2 :: c3 :: .val (.int x) :: l) st h Q ↔ XE d 168 16 (c0 :: c1 :: c2 :: c3 :: .val (.int x) :: l) (.int x :: st) h Q := g_iload rfl rfl
theorem s168_16 : XE d 168 16 ls (.int y :: .int x :: st) h Q ↔ XE d 168 17 ls (.int (x + y) :: st) h Q := g_add rfl
theorem s168_17 : XE d 168 17 ls (.int y :: .int x :: .ref a :: st) h Q ↔ (xvo 8 st = true ∧ XV [(12, 140)] (h.2.2.1 a) (fun m' => XC d m' [.ref a, .int x, .int y] h (fun v h' => XE d 168 20 ls (v.toList ++ st) h' Q))) := h_v2 rfl rfl
theorem s168_20 : XE d 168 20 (c0 :: c1 :: c2 :: c3 :: c4 :: c5 :: l) (.int x :: st) h Q ↔ XE d 168 22 (c0 :: c1 :: c2 :: c3 :: c4 :: .val (.int x) :: l) st h Q := g_istore (Nat.lt_of_lt_of_le (show 5 < 6 by decide) (Nat.le_add_left 6 _)) rfl rfl
theorem s168_22 : XE d 168 22 (c0 :: c1 :: c2 :: .val (.int x) :: l) st h Q ↔ XE d 168 23 (c0 :: c1 :: c2 :: .val (.int x) :: l) (.int x :: st) h Q := g_iload rfl rfl
theorem s168_23 : XE d 168 23 (c0 :: c1 :: c2 :: c3 :: c4 :: .val (.int x) :: l) st h Q ↔ XE d 168 25 (c0 :: c1 :: c2 :: c3 :: c4 :: .val (.int x) :: l) (.int x :: st) h Q := g_iload rfl rfl
theorem s168_25 : XE d 168 25 ls (.int x :: st) h Q ↔ (if x < 0 then XE d 168 28 ls st h Q else XE d 168 33 ls st h Q) := g_ifge rfl
theorem s168_28 : XE d 168 28 ls st h Q ↔ XE d 168 30 ls (.int 100 :: st) h Q := g_const rfl
theorem s168_30 : XE d 168 30 ls st h Q ↔ XE d 168 43 ls st h Q := g_goto rfl
theorem s168_33 : XE d 168 33 ls st h Q ↔ XE d 168 35 ls (.int 100 :: st) h Q := g_const rfl
theorem s168_35 : XE d 168 35 (.val (.ref a) :: l) st h Q ↔ XE d 168 36 (.val (.ref a) :: l) (.ref a :: st) h Q := g_aload rfl rfl
theorem s168_36 : XE d 168 36 (c0 :: .val (.int x) :: l) st h Q ↔ XE d 168 37 (c0 :: .val (.int x) :: l) (.int x :: st) h Q := g_iload rfl rfl
theorem s168_37 : XE d 168 37 (c0 :: c1 :: c2 :: c3 :: c4 :: .val (.int x) :: l) st h Q ↔ XE d 168 39 (c0 :: c1 :: c2 :: c3 :: c4 :: .val (.int x) :: l) (.int x :: st) h Q := g_iload rfl rfl
theorem s168_39 : XE d 168 39 ls (.int y :: .int x :: .ref a :: st) h Q ↔ (xvo 8 st = true ∧ XV [(12, 167)] (h.2.2.1 a) (fun m' => XC d m' [.ref a, .int x, .int y] h (fun v h' => XE d 168 42 ls (v.toList ++ st) h' Q))) := h_v2 rfl rfl
theorem s168_42 : XE d 168 42 ls (.int y :: .int x :: st) h Q ↔ XE d 168 43 ls (.int (x - y) :: st) h Q := g_sub rfl
theorem s168_43 : XE d 168 43 ls (.int y :: .int x :: st) h Q ↔ XE d 168 44 ls (.int (x * y) :: st) h Q := g_mul rfl
theorem s168_44 : XE d 168 44 (c0 :: c1 :: c2 :: c3 :: l) (.int x :: st) h Q ↔ XE d 168 45 (c0 :: c1 :: c2 :: .val (.int x) :: l) st h Q := g_istore (Nat.lt_of_lt_of_le (show 3 < 4 by decide) (Nat.le_add_left 4 _)) rfl rfl
theorem s168_45 : XE d 168 45 (c0 :: c1 :: c2 :: c3 :: .val (.int x) :: l) st h Q ↔ XE d 168 48 (c0 :: c1 :: c2 :: c3 :: .val (.int (x + 1)) :: l) st h Q := g_iinc rfl rfl rfl
theorem s168_48 : XE d 168 48 ls st h Q ↔ XE d 168 5 ls st h Q := g_goto rfl
theorem s168_51 : XE d 168 51 (c0 :: c1 :: c2 :: .val (.int x) :: l) st h Q ↔ XE d 168 52 (c0 :: c1 :: c2 :: .val (.int x) :: l) (.int x :: st) h Q := g_iload rfl rfl
theorem s168_52 : XE d 168 52 ls [.int x] h Q ↔ Q (some (.int x)) h := g_iret rfl
-- 169: TwoBellsModel.gainAt(II)I
theorem e169 : XC (d + 1) 169 [.ref a, .int x, .int y] h Q ↔ XE d 169 0 [.val (.ref a), .val (.int x), .val (.int y), .unset, .unset] [] h Q := XC_in rfl
theorem s169_0 : XE d 169 0 (.val (.ref a) :: l) st h Q ↔ XE d 169 1 (.val (.ref a) :: l) (.ref a :: st) h Q := g_aload rfl rfl
theorem s169_1 : XE d 169 1 (c0 :: .val (.int x) :: l) st h Q ↔ XE d 169 2 (c0 :: .val (.int x) :: l) (.int x :: st) h Q := g_iload rfl rfl
theorem s169_2 : XE d 169 2 (c0 :: c1 :: .val (.int x) :: l) st h Q ↔ XE d 169 3 (c0 :: c1 :: .val (.int x) :: l) (.int x :: st) h Q := g_iload rfl rfl
theorem s169_3 : XE d 169 3 ls (.int y :: .int x :: .ref a :: st) h Q ↔ (xvo 8 st = true ∧ XV [(12, 168)] (h.2.2.1 a) (fun m' => XC d m' [.ref a, .int x, .int y] h (fun v h' => XE d 169 6 ls (v.toList ++ st) h' Q))) := h_v2 rfl rfl
theorem s169_6 : XE d 169 6 (c0 :: c1 :: c2 :: c3 :: l) (.int x :: st) h Q ↔ XE d 169 7 (c0 :: c1 :: c2 :: .val (.int x) :: l) st h Q := g_istore (Nat.lt_of_lt_of_le (show 3 < 4 by decide) (Nat.le_add_left 4 _)) rfl rfl
theorem s169_7 : XE d 169 7 (.val (.ref a) :: l) st h Q ↔ XE d 169 8 (.val (.ref a) :: l) (.ref a :: st) h Q := g_aload rfl rfl
theorem s169_8 : XE d 169 8 ls st h Q ↔ XE d 169 9 ls (.int 1 :: st) h Q := g_const rfl
theorem s169_9 : XE d 169 9 ls (.int x :: .ref a :: st) h Q ↔ (xvo 8 st = true ∧ XV [(12, 206)] (h.2.2.1 a) (fun m' => XC d m' [.ref a, .int x] h (fun v h' => XE d 169 12 ls (v.toList ++ st) h' Q))) := h_v1 rfl rfl
theorem s169_12 : XE d 169 12 (c0 :: c1 :: c2 :: c3 :: c4 :: l) (.int x :: st) h Q ↔ XE d 169 14 (c0 :: c1 :: c2 :: c3 :: .val (.int x) :: l) st h Q := g_istore (Nat.lt_of_lt_of_le (show 4 < 5 by decide) (Nat.le_add_left 5 _)) rfl rfl
theorem s169_14 : XE d 169 14 (.val (.ref a) :: l) st h Q ↔ XE d 169 15 (.val (.ref a) :: l) (.ref a :: st) h Q := g_aload rfl rfl
theorem s169_15 : XE d 169 15 ls (.ref a :: st) h Q ↔ XG [12] 21 (h.2.2.1 a) (fun v => XE d 169 18 ls (v :: st) h Q) := g_getf rfl
theorem s169_18 : XE d 169 18 ls st h Q ↔ XE d 169 19 ls (.int 0 :: st) h Q := g_const rfl
theorem s169_19 : XE d 169 19 (.val (.ref a) :: l) st h Q ↔ XE d 169 20 (.val (.ref a) :: l) (.ref a :: st) h Q := g_aload rfl rfl
theorem s169_20 : XE d 169 20 (c0 :: c1 :: .val (.int x) :: l) st h Q ↔ XE d 169 21 (c0 :: c1 :: .val (.int x) :: l) (.int x :: st) h Q := g_iload rfl rfl
theorem s169_21 : XE d 169 21 ls st h Q ↔ XE d 169 22 ls (.int 1 :: st) h Q := g_const rfl
theorem s169_22 : XE d 169 22 ls (.int y :: .int x :: .ref a :: st) h Q ↔ (xvo 8 st = true ∧ XV [(12, 140)] (h.2.2.1 a) (fun m' => XC d m' [.ref a, .int x, .int y] h (fun v h' => XE d 169 25 ls (v.toList ++ st) h' Q))) := h_v2 rfl rfl
theorem s169_25 : XE d 169 25 ls (.int y :: .int x :: .ref a :: st) h Q ↔ XS 0 (h.2.2.1 a) x y (fun e => XE d 169 26 ls st (xset h a e) Q) := g_iast rfl
theorem s169_26 : XE d 169 26 (.val (.ref a) :: l) st h Q ↔ XE d 169 27 (.val (.ref a) :: l) (.ref a :: st) h Q := g_aload rfl rfl
theorem s169_27 : XE d 169 27 ls (.ref a :: st) h Q ↔ XG [12] 21 (h.2.2.1 a) (fun v => XE d 169 30 ls (v :: st) h Q) := g_getf rfl
theorem s169_30 : XE d 169 30 ls st h Q ↔ XE d 169 31 ls (.int 1 :: st) h Q := g_const rfl
theorem s169_31 : XE d 169 31 (c0 :: c1 :: c2 :: .val (.int x) :: l) st h Q ↔ XE d 169 32 (c0 :: c1 :: c2 :: .val (.int x) :: l) (.int x :: st) h Q := g_iload rfl rfl
theorem s169_32 : XE d 169 32 ls (.int y :: .int x :: .ref a :: st) h Q ↔ XS 0 (h.2.2.1 a) x y (fun e => XE d 169 33 ls st (xset h a e) Q) := g_iast rfl
theorem s169_33 : XE d 169 33 (c0 :: c1 :: c2 :: c3 :: .val (.int x) :: l) st h Q ↔ XE d 169 35 (c0 :: c1 :: c2 :: c3 :: .val (.int x) :: l) (.int x :: st) h Q := g_iload rfl rfl
theorem s169_35 : XE d 169 35 ls (.int x :: st) h Q ↔ (if x < 0 then XE d 169 38 ls st h Q else XE d 169 53 ls st h Q) := g_ifge rfl
theorem s169_38 : XE d 169 38 (.val (.ref a) :: l) st h Q ↔ XE d 169 39 (.val (.ref a) :: l) (.ref a :: st) h Q := g_aload rfl rfl
theorem s169_39 : XE d 169 39 (c0 :: c1 :: .val (.int x) :: l) st h Q ↔ XE d 169 40 (c0 :: c1 :: .val (.int x) :: l) (.int x :: st) h Q := g_iload rfl rfl
theorem s169_40 : XE d 169 40 ls st h Q ↔ XE d 169 41 ls (.int 1 :: st) h Q := g_const rfl
theorem s169_41 : XE d 169 41 ls (.int y :: .int x :: .ref a :: st) h Q ↔ (xvo 8 st = true ∧ XV [(12, 140)] (h.2.2.1 a) (fun m' => XC d m' [.ref a, .int x, .int y] h (fun v h' => XE d 169 44 ls (v.toList ++ st) h' Q))) := h_v2 rfl rfl
theorem s169_44 : XE d 169 44 (c0 :: c1 :: c2 :: .val (.int x) :: l) st h Q ↔ XE d 169 45 (c0 :: c1 :: c2 :: .val (.int x) :: l) (.int x :: st) h Q := g_iload rfl rfl
theorem s169_45 : XE d 169 45 ls (.int y :: .int x :: st) h Q ↔ XE d 169 46 ls (.int (x * y) :: st) h Q := g_mul rfl
theorem s169_46 : XE d 169 46 ls st h Q ↔ XE d 169 49 ls (.int 10000 :: st) h Q := g_const rfl
theorem s169_49 : XE d 169 49 ls (.int y :: .int x :: st) h Q ↔ (y ≠ 0 ∧ XE d 169 50 ls (.int (x / y) :: st) h Q) := g_div rfl
theorem s169_50 : XE d 169 50 ls st h Q ↔ XE d 169 65 ls st h Q := g_goto rfl
theorem s169_53 : XE d 169 53 (.val (.ref a) :: l) st h Q ↔ XE d 169 54 (.val (.ref a) :: l) (.ref a :: st) h Q := g_aload rfl rfl
theorem s169_54 : XE d 169 54 (c0 :: c1 :: c2 :: c3 :: .val (.int x) :: l) st h Q ↔ XE d 169 56 (c0 :: c1 :: c2 :: c3 :: .val (.int x) :: l) (.int x :: st) h Q := g_iload rfl rfl
theorem s169_56 : XE d 169 56 ls (.int x :: .ref a :: st) h Q ↔ (xvo 8 st = true ∧ XV [(12, 209)] (h.2.2.1 a) (fun m' => XC d m' [.ref a, .int x] h (fun v h' => XE d 169 59 ls (v.toList ++ st) h' Q))) := h_v1 rfl rfl
theorem s169_59 : XE d 169 59 ls st h Q ↔ XE d 169 60 ls (.int 0 :: st) h Q := g_const rfl
theorem s169_60 : XE d 169 60 ls st h Q ↔ XE d 169 62 ls (.int 99999 :: st) h Q := g_const rfl
theorem s169_62 : XE d 169 62 ls (.int z :: .int y :: .int x :: st) h Q ↔ (xvo 8 st = true ∧ XC d 133 [.int x, .int y, .int z] h (fun v h' => XE d 169 65 ls (v.toList ++ st) h' Q)) := h_s3 rfl rfl
theorem s169_65 : XE d 169 65 ls [.int x] h Q ↔ Q (some (.int x)) h := g_iret rfl
-- 170: TwoBellsModel.isOpen(II)Z
theorem e170 : XC (d + 1) 170 [.ref a, .int x, .int y] h Q ↔ XE d 170 0 [.val (.ref a), .val (.int x), .val (.int y)] [] h Q := XC_in rfl
theorem s170_0 : XE d 170 0 (.val (.ref a) :: l) st h Q ↔ XE d 170 1 (.val (.ref a) :: l) (.ref a :: st) h Q := g_aload rfl rfl
theorem s170_1 : XE d 170 1 (c0 :: c1 :: .val (.int x) :: l) st h Q ↔ XE d 170 2 (c0 :: c1 :: .val (.int x) :: l) (.int x :: st) h Q := g_iload rfl rfl
theorem s170_2 : XE d 170 2 ls st h Q ↔ XE d 170 3 ls (.int 0 :: st) h Q := g_const rfl
theorem s170_3 : XE d 170 3 ls (.int y :: .int x :: .ref a :: st) h Q ↔ (xvo 8 st = true ∧ XV [(12, 140)] (h.2.2.1 a) (fun m' => XC d m' [.ref a, .int x, .int y] h (fun v h' => XE d 170 6 ls (v.toList ++ st) h' Q))) := h_v2 rfl rfl
theorem s170_6 : XE d 170 6 (.val (.ref a) :: l) st h Q ↔ XE d 170 7 (.val (.ref a) :: l) (.ref a :: st) h Q := g_aload rfl rfl
theorem s170_7 : XE d 170 7 (c0 :: .val (.int x) :: l) st h Q ↔ XE d 170 8 (c0 :: .val (.int x) :: l) (.int x :: st) h Q := g_iload rfl rfl
theorem s170_8 : XE d 170 8 ls (.int x :: .ref a :: st) h Q ↔ (xvo 8 st = true ∧ XV [(12, 142)] (h.2.2.1 a) (fun m' => XC d m' [.ref a, .int x] h (fun v h' => XE d 170 11 ls (v.toList ++ st) h' Q))) := h_v1 rfl rfl
theorem s170_11 : XE d 170 11 ls (.int y :: .int x :: st) h Q ↔ (if x = y then XE d 170 14 ls st h Q else XE d 170 18 ls st h Q) := g_cne rfl
theorem s170_14 : XE d 170 14 ls st h Q ↔ XE d 170 15 ls (.int 1 :: st) h Q := g_const rfl
theorem s170_15 : XE d 170 15 ls st h Q ↔ XE d 170 19 ls st h Q := g_goto rfl
theorem s170_18 : XE d 170 18 ls st h Q ↔ XE d 170 19 ls (.int 0 :: st) h Q := g_const rfl
theorem s170_19 : XE d 170 19 ls [.int 0] h Q ↔ Q (some (.int 0)) h := g_zret rfl rfl
theorem s170_19t : XE d 170 19 ls [.int 1] h Q ↔ Q (some (.int 1)) h := g_zret rfl rfl
theorem s170_19b : XE d 170 19 ls [.int (bI q)] h Q ↔ Q (some (.int (bI q))) h := g_zret (bI_nar q) rfl
-- 171: TwoBellsModel.at(III)I
theorem e171 : XC (d + 1) 171 [.ref a, .int x, .int y, .int z] h Q ↔ XE d 171 0 [.val (.ref a), .val (.int x), .val (.int y), .val (.int z)] [] h Q := XC_in rfl
theorem s171_0 : XE d 171 0 (.val (.ref a) :: l) st h Q ↔ XE d 171 1 (.val (.ref a) :: l) (.ref a :: st) h Q := g_aload rfl rfl
theorem s171_1 : XE d 171 1 (c0 :: .val (.int x) :: l) st h Q ↔ XE d 171 2 (c0 :: .val (.int x) :: l) (.int x :: st) h Q := g_iload rfl rfl
theorem s171_2 : XE d 171 2 ls (.int x :: .ref a :: st) h Q ↔ (xvo 8 st = true ∧ XV [(12, 138)] (h.2.2.1 a) (fun m' => XC d m' [.ref a, .int x] h (fun v h' => XE d 171 5 ls (v.toList ++ st) h' Q))) := h_v1 rfl rfl
theorem s171_5 : XE d 171 5 ls (.int x :: st) h Q ↔ (if x = 0 then XE d 171 25 ls st h Q else XE d 171 8 ls st h Q) := g_ifeq rfl
theorem s171_8 : XE d 171 8 (.val (.ref a) :: l) st h Q ↔ XE d 171 9 (.val (.ref a) :: l) (.ref a :: st) h Q := g_aload rfl rfl
theorem s171_9 : XE d 171 9 (c0 :: c1 :: .val (.int x) :: l) st h Q ↔ XE d 171 10 (c0 :: c1 :: .val (.int x) :: l) (.int x :: st) h Q := g_iload rfl rfl
theorem s171_10 : XE d 171 10 ls (.int x :: .ref a :: st) h Q ↔ (xvo 8 st = true ∧ XV [(12, 137)] (h.2.2.1 a) (fun m' => XC d m' [.ref a, .int x] h (fun v h' => XE d 171 13 ls (v.toList ++ st) h' Q))) := h_v1 rfl rfl
theorem s171_13 : XE d 171 13 ls (.int x :: st) h Q ↔ (if x = 0 then XE d 171 25 ls st h Q else XE d 171 16 ls st h Q) := g_ifeq rfl
theorem s171_16 : XE d 171 16 (c0 :: c1 :: c2 :: .val (.int x) :: l) st h Q ↔ XE d 171 17 (c0 :: c1 :: c2 :: .val (.int x) :: l) (.int x :: st) h Q := g_iload rfl rfl
theorem s171_17 : XE d 171 17 ls st h Q ↔ XE d 171 18 ls (.int 0 :: st) h Q := g_const rfl
theorem s171_18 : XE d 171 18 ls st h Q ↔ XE d 171 19 ls (.int 2 :: st) h Q := g_const rfl
theorem s171_19 : XE d 171 19 ls (.int z :: .int y :: .int x :: st) h Q ↔ (xvo 8 st = true ∧ XC d 132 [.int x, .int y, .int z] h (fun v h' => XE d 171 22 ls (v.toList ++ st) h' Q)) := h_s3 rfl rfl
theorem s171_22 : XE d 171 22 ls (.int x :: st) h Q ↔ (if x = 0 then XE d 171 25 ls st h Q else XE d 171 28 ls st h Q) := g_ifne rfl
theorem s171_25 : XE d 171 25 ls st h Q ↔ XE d 171 27 ls (.int (-1000000001) :: st) h Q := g_const rfl
theorem s171_27 : XE d 171 27 ls [.int x] h Q ↔ Q (some (.int x)) h := g_iret rfl
theorem s171_28 : XE d 171 28 (c0 :: c1 :: c2 :: .val (.int x) :: l) st h Q ↔ XE d 171 29 (c0 :: c1 :: c2 :: .val (.int x) :: l) (.int x :: st) h Q := g_iload rfl rfl
theorem s171_29 : XE d 171 29 ls (.int x :: st) h Q ↔ (if x = 0 then XE d 171 32 ls st h Q else XE d 171 41 ls st h Q) := g_ifne rfl
theorem s171_32 : XE d 171 32 (.val (.ref a) :: l) st h Q ↔ XE d 171 33 (.val (.ref a) :: l) (.ref a :: st) h Q := g_aload rfl rfl
theorem s171_33 : XE d 171 33 (c0 :: .val (.int x) :: l) st h Q ↔ XE d 171 34 (c0 :: .val (.int x) :: l) (.int x :: st) h Q := g_iload rfl rfl
theorem s171_34 : XE d 171 34 (c0 :: c1 :: .val (.int x) :: l) st h Q ↔ XE d 171 35 (c0 :: c1 :: .val (.int x) :: l) (.int x :: st) h Q := g_iload rfl rfl
theorem s171_35 : XE d 171 35 ls (.int y :: .int x :: .ref a :: st) h Q ↔ (xvo 8 st = true ∧ XV [(12, 168)] (h.2.2.1 a) (fun m' => XC d m' [.ref a, .int x, .int y] h (fun v h' => XE d 171 38 ls (v.toList ++ st) h' Q))) := h_v2 rfl rfl
theorem s171_38 : XE d 171 38 ls st h Q ↔ XE d 171 69 ls st h Q := g_goto rfl
theorem s171_41 : XE d 171 41 (c0 :: c1 :: c2 :: .val (.int x) :: l) st h Q ↔ XE d 171 42 (c0 :: c1 :: c2 :: .val (.int x) :: l) (.int x :: st) h Q := g_iload rfl rfl
theorem s171_42 : XE d 171 42 ls st h Q ↔ XE d 171 43 ls (.int 1 :: st) h Q := g_const rfl
theorem s171_43 : XE d 171 43 ls (.int y :: .int x :: st) h Q ↔ (if x = y then XE d 171 46 ls st h Q else XE d 171 55 ls st h Q) := g_cne rfl
theorem s171_46 : XE d 171 46 (.val (.ref a) :: l) st h Q ↔ XE d 171 47 (.val (.ref a) :: l) (.ref a :: st) h Q := g_aload rfl rfl
theorem s171_47 : XE d 171 47 (c0 :: .val (.int x) :: l) st h Q ↔ XE d 171 48 (c0 :: .val (.int x) :: l) (.int x :: st) h Q := g_iload rfl rfl
theorem s171_48 : XE d 171 48 (c0 :: c1 :: .val (.int x) :: l) st h Q ↔ XE d 171 49 (c0 :: c1 :: .val (.int x) :: l) (.int x :: st) h Q := g_iload rfl rfl
theorem s171_49 : XE d 171 49 ls (.int y :: .int x :: .ref a :: st) h Q ↔ (xvo 8 st = true ∧ XV [(12, 169)] (h.2.2.1 a) (fun m' => XC d m' [.ref a, .int x, .int y] h (fun v h' => XE d 171 52 ls (v.toList ++ st) h' Q))) := h_v2 rfl rfl
theorem s171_52 : XE d 171 52 ls st h Q ↔ XE d 171 69 ls st h Q := g_goto rfl
theorem s171_55 : XE d 171 55 (.val (.ref a) :: l) st h Q ↔ XE d 171 56 (.val (.ref a) :: l) (.ref a :: st) h Q := g_aload rfl rfl
theorem s171_56 : XE d 171 56 (c0 :: .val (.int x) :: l) st h Q ↔ XE d 171 57 (c0 :: .val (.int x) :: l) (.int x :: st) h Q := g_iload rfl rfl
theorem s171_57 : XE d 171 57 (c0 :: c1 :: .val (.int x) :: l) st h Q ↔ XE d 171 58 (c0 :: c1 :: .val (.int x) :: l) (.int x :: st) h Q := g_iload rfl rfl
theorem s171_58 : XE d 171 58 ls (.int y :: .int x :: .ref a :: st) h Q ↔ (xvo 8 st = true ∧ XV [(12, 170)] (h.2.2.1 a) (fun m' => XC d m' [.ref a, .int x, .int y] h (fun v h' => XE d 171 61 ls (v.toList ++ st) h' Q))) := h_v2 rfl rfl
theorem s171_61 : XE d 171 61 ls (.int x :: st) h Q ↔ (if x = 0 then XE d 171 68 ls st h Q else XE d 171 64 ls st h Q) := g_ifeq rfl
theorem s171_64 : XE d 171 64 ls st h Q ↔ XE d 171 65 ls (.int 1 :: st) h Q := g_const rfl
theorem s171_65 : XE d 171 65 ls st h Q ↔ XE d 171 69 ls st h Q := g_goto rfl
theorem s171_68 : XE d 171 68 ls st h Q ↔ XE d 171 69 ls (.int 0 :: st) h Q := g_const rfl
theorem s171_69 : XE d 171 69 ls [.int x] h Q ↔ Q (some (.int x)) h := g_iret rfl
-- 172: TwoBellsModel.heed(II)I
theorem e172 : XC (d + 1) 172 [.ref a, .int x, .int y] h Q ↔ XE d 172 0 [.val (.ref a), .val (.int x), .val (.int y)] [] h Q := XC_in rfl
theorem s172_0 : XE d 172 0 (.val (.ref a) :: l) st h Q ↔ XE d 172 1 (.val (.ref a) :: l) (.ref a :: st) h Q := g_aload rfl rfl
theorem s172_1 : XE d 172 1 (c0 :: .val (.int x) :: l) st h Q ↔ XE d 172 2 (c0 :: .val (.int x) :: l) (.int x :: st) h Q := g_iload rfl rfl
theorem s172_2 : XE d 172 2 ls (.int x :: .ref a :: st) h Q ↔ (xvo 8 st = true ∧ XV [(12, 138)] (h.2.2.1 a) (fun m' => XC d m' [.ref a, .int x] h (fun v h' => XE d 172 5 ls (v.toList ++ st) h' Q))) := h_v1 rfl rfl
theorem s172_5 : XE d 172 5 ls (.int x :: st) h Q ↔ (if x = 0 then XE d 172 25 ls st h Q else XE d 172 8 ls st h Q) := g_ifeq rfl
theorem s172_8 : XE d 172 8 (.val (.ref a) :: l) st h Q ↔ XE d 172 9 (.val (.ref a) :: l) (.ref a :: st) h Q := g_aload rfl rfl
theorem s172_9 : XE d 172 9 (c0 :: c1 :: .val (.int x) :: l) st h Q ↔ XE d 172 10 (c0 :: c1 :: .val (.int x) :: l) (.int x :: st) h Q := g_iload rfl rfl
theorem s172_10 : XE d 172 10 ls (.int x :: .ref a :: st) h Q ↔ (xvo 8 st = true ∧ XV [(12, 136)] (h.2.2.1 a) (fun m' => XC d m' [.ref a, .int x] h (fun v h' => XE d 172 13 ls (v.toList ++ st) h' Q))) := h_v1 rfl rfl
theorem s172_13 : XE d 172 13 ls (.int x :: st) h Q ↔ (if x = 0 then XE d 172 25 ls st h Q else XE d 172 16 ls st h Q) := g_ifeq rfl
theorem s172_16 : XE d 172 16 (.val (.ref a) :: l) st h Q ↔ XE d 172 17 (.val (.ref a) :: l) (.ref a :: st) h Q := g_aload rfl rfl
theorem s172_17 : XE d 172 17 (c0 :: .val (.int x) :: l) st h Q ↔ XE d 172 18 (c0 :: .val (.int x) :: l) (.int x :: st) h Q := g_iload rfl rfl
theorem s172_18 : XE d 172 18 (c0 :: c1 :: .val (.int x) :: l) st h Q ↔ XE d 172 19 (c0 :: c1 :: .val (.int x) :: l) (.int x :: st) h Q := g_iload rfl rfl
theorem s172_19 : XE d 172 19 ls (.int y :: .int x :: .ref a :: st) h Q ↔ (xvo 8 st = true ∧ XV [(12, 167)] (h.2.2.1 a) (fun m' => XC d m' [.ref a, .int x, .int y] h (fun v h' => XE d 172 22 ls (v.toList ++ st) h' Q))) := h_v2 rfl rfl
theorem s172_22 : XE d 172 22 ls st h Q ↔ XE d 172 27 ls st h Q := g_goto rfl
theorem s172_25 : XE d 172 25 ls st h Q ↔ XE d 172 27 ls (.int (-1000000001) :: st) h Q := g_const rfl
theorem s172_27 : XE d 172 27 ls [.int x] h Q ↔ Q (some (.int x)) h := g_iret rfl
-- 173: TwoBellsModel.bestFor(IZ)I
theorem e173 : XC (d + 1) 173 [.ref a, .int x, .int y] h Q ↔ XE d 173 0 [.val (.ref a), .val (.int x), .val (.int y), .unset, .unset, .unset, .unset] [] h Q := XC_in rfl
theorem s173_0 : XE d 173 0 ls st h Q ↔ XE d 173 1 ls (.int (-1) :: st) h Q := g_const rfl
theorem s173_1 : XE d 173 1 (c0 :: c1 :: c2 :: c3 :: l) (.int x :: st) h Q ↔ XE d 173 2 (c0 :: c1 :: c2 :: .val (.int x) :: l) st h Q := g_istore (Nat.lt_of_lt_of_le (show 3 < 4 by decide) (Nat.le_add_left 4 _)) rfl rfl
theorem s173_2 : XE d 173 2 ls st h Q ↔ XE d 173 3 ls (.int 0 :: st) h Q := g_const rfl
theorem s173_3 : XE d 173 3 (c0 :: c1 :: c2 :: c3 :: c4 :: l) (.int x :: st) h Q ↔ XE d 173 5 (c0 :: c1 :: c2 :: c3 :: .val (.int x) :: l) st h Q := g_istore (Nat.lt_of_lt_of_le (show 4 < 5 by decide) (Nat.le_add_left 5 _)) rfl rfl
theorem s173_5 : XE d 173 5 ls st h Q ↔ XE d 173 6 ls (.int 0 :: st) h Q := g_const rfl
theorem s173_6 : XE d 173 6 (c0 :: c1 :: c2 :: c3 :: c4 :: c5 :: l) (.int x :: st) h Q ↔ XE d 173 8 (c0 :: c1 :: c2 :: c3 :: c4 :: .val (.int x) :: l) st h Q := g_istore (Nat.lt_of_lt_of_le (show 5 < 6 by decide) (Nat.le_add_left 6 _)) rfl rfl
theorem s173_8 : XE d 173 8 (c0 :: c1 :: c2 :: c3 :: c4 :: .val (.int x) :: l) st h Q ↔ XE d 173 10 (c0 :: c1 :: c2 :: c3 :: c4 :: .val (.int x) :: l) (.int x :: st) h Q := g_iload rfl rfl
theorem s173_10 : XE d 173 10 (.val (.ref a) :: l) st h Q ↔ XE d 173 11 (.val (.ref a) :: l) (.ref a :: st) h Q := g_aload rfl rfl
theorem s173_11 : XE d 173 11 ls (.ref a :: st) h Q ↔ XG [12] 0 (h.2.2.1 a) (fun v => XE d 173 14 ls (v :: st) h Q) := g_getf rfl
theorem s173_14 : XE d 173 14 ls st h Q ↔ XE d 173 15 ls (.int 2 :: st) h Q := g_const rfl
theorem s173_15 : XE d 173 15 ls (.int x :: .ref a :: st) h Q ↔ XA [0, 7] (h.2.2.1 a) x (fun k => XE d 173 16 ls (.int k :: st) h Q) := g_ald rfl
theorem s173_16 : XE d 173 16 ls (.int y :: .int x :: st) h Q ↔ (if x < y then XE d 173 19 ls st h Q else XE d 173 91 ls st h Q) := g_cge rfl
theorem s173_19 : XE d 173 19 (.val (.ref a) :: l) st h Q ↔ XE d 173 20 (.val (.ref a) :: l) (.ref a :: st) h Q := g_aload rfl rfl
theorem s173_20 : XE d 173 20 (c0 :: .val (.int x) :: l) st h Q ↔ XE d 173 21 (c0 :: .val (.int x) :: l) (.int x :: st) h Q := g_iload rfl rfl
theorem s173_21 : XE d 173 21 (c0 :: c1 :: c2 :: c3 :: c4 :: .val (.int x) :: l) st h Q ↔ XE d 173 23 (c0 :: c1 :: c2 :: c3 :: c4 :: .val (.int x) :: l) (.int x :: st) h Q := g_iload rfl rfl
theorem s173_23 : XE d 173 23 ls (.int y :: .int x :: .ref a :: st) h Q ↔ (xvo 8 st = true ∧ XV [(12, 170)] (h.2.2.1 a) (fun m' => XC d m' [.ref a, .int x, .int y] h (fun v h' => XE d 173 26 ls (v.toList ++ st) h' Q))) := h_v2 rfl rfl
theorem s173_26 : XE d 173 26 ls (.int x :: st) h Q ↔ (if x = 0 then XE d 173 29 ls st h Q else XE d 173 85 ls st h Q) := g_ifne rfl
theorem s173_29 : XE d 173 29 (c0 :: c1 :: .val (.int x) :: l) st h Q ↔ XE d 173 30 (c0 :: c1 :: .val (.int x) :: l) (.int x :: st) h Q := g_iload rfl rfl
theorem s173_30 : XE d 173 30 ls (.int x :: st) h Q ↔ (if x = 0 then XE d 173 43 ls st h Q else XE d 173 33 ls st h Q) := g_ifeq rfl
theorem s173_33 : XE d 173 33 (.val (.ref a) :: l) st h Q ↔ XE d 173 34 (.val (.ref a) :: l) (.ref a :: st) h Q := g_aload rfl rfl
theorem s173_34 : XE d 173 34 (c0 :: c1 :: c2 :: c3 :: c4 :: .val (.int x) :: l) st h Q ↔ XE d 173 36 (c0 :: c1 :: c2 :: c3 :: c4 :: .val (.int x) :: l) (.int x :: st) h Q := g_iload rfl rfl
theorem s173_36 : XE d 173 36 ls st h Q ↔ XE d 173 37 ls (.int 1 :: st) h Q := g_const rfl
theorem s173_37 : XE d 173 37 ls (.int y :: .int x :: .ref a :: st) h Q ↔ (xvo 8 st = true ∧ XV [(12, 140)] (h.2.2.1 a) (fun m' => XC d m' [.ref a, .int x, .int y] h (fun v h' => XE d 173 40 ls (v.toList ++ st) h' Q))) := h_v2 rfl rfl
theorem s173_40 : XE d 173 40 ls st h Q ↔ XE d 173 50 ls st h Q := g_goto rfl
theorem s173_43 : XE d 173 43 (.val (.ref a) :: l) st h Q ↔ XE d 173 44 (.val (.ref a) :: l) (.ref a :: st) h Q := g_aload rfl rfl
theorem s173_44 : XE d 173 44 (c0 :: .val (.int x) :: l) st h Q ↔ XE d 173 45 (c0 :: .val (.int x) :: l) (.int x :: st) h Q := g_iload rfl rfl
theorem s173_45 : XE d 173 45 (c0 :: c1 :: c2 :: c3 :: c4 :: .val (.int x) :: l) st h Q ↔ XE d 173 47 (c0 :: c1 :: c2 :: c3 :: c4 :: .val (.int x) :: l) (.int x :: st) h Q := g_iload rfl rfl
theorem s173_47 : XE d 173 47 ls (.int y :: .int x :: .ref a :: st) h Q ↔ (xvo 8 st = true ∧ XV [(12, 169)] (h.2.2.1 a) (fun m' => XC d m' [.ref a, .int x, .int y] h (fun v h' => XE d 173 50 ls (v.toList ++ st) h' Q))) := h_v2 rfl rfl
theorem s173_50 : XE d 173 50 (c0 :: c1 :: c2 :: c3 :: c4 :: c5 :: c6 :: l) (.int x :: st) h Q ↔ XE d 173 52 (c0 :: c1 :: c2 :: c3 :: c4 :: c5 :: .val (.int x) :: l) st h Q := g_istore (Nat.lt_of_lt_of_le (show 6 < 7 by decide) (Nat.le_add_left 7 _)) rfl rfl
theorem s173_52 : XE d 173 52 (c0 :: c1 :: c2 :: .val (.int x) :: l) st h Q ↔ XE d 173 53 (c0 :: c1 :: c2 :: .val (.int x) :: l) (.int x :: st) h Q := g_iload rfl rfl
theorem s173_53 : XE d 173 53 ls (.int x :: st) h Q ↔ (if x < 0 then XE d 173 63 ls st h Q else XE d 173 56 ls st h Q) := g_iflt rfl
theorem s173_56 : XE d 173 56 (c0 :: c1 :: c2 :: c3 :: c4 :: c5 :: .val (.int x) :: l) st h Q ↔ XE d 173 58 (c0 :: c1 :: c2 :: c3 :: c4 :: c5 :: .val (.int x) :: l) (.int x :: st) h Q := g_iload rfl rfl
theorem s173_58 : XE d 173 58 (c0 :: c1 :: c2 :: c3 :: .val (.int x) :: l) st h Q ↔ XE d 173 60 (c0 :: c1 :: c2 :: c3 :: .val (.int x) :: l) (.int x :: st) h Q := g_iload rfl rfl
theorem s173_60 : XE d 173 60 ls (.int y :: .int x :: st) h Q ↔ (if y < x then XE d 173 63 ls st h Q else XE d 173 68 ls st h Q) := g_cle rfl
theorem s173_63 : XE d 173 63 (c0 :: c1 :: c2 :: c3 :: c4 :: .val (.int x) :: l) st h Q ↔ XE d 173 65 (c0 :: c1 :: c2 :: c3 :: c4 :: .val (.int x) :: l) (.int x :: st) h Q := g_iload rfl rfl
theorem s173_65 : XE d 173 65 ls st h Q ↔ XE d 173 69 ls st h Q := g_goto rfl
theorem s173_68 : XE d 173 68 (c0 :: c1 :: c2 :: .val (.int x) :: l) st h Q ↔ XE d 173 69 (c0 :: c1 :: c2 :: .val (.int x) :: l) (.int x :: st) h Q := g_iload rfl rfl
theorem s173_69 : XE d 173 69 (c0 :: c1 :: c2 :: c3 :: l) (.int x :: st) h Q ↔ XE d 173 70 (c0 :: c1 :: c2 :: .val (.int x) :: l) st h Q := g_istore (Nat.lt_of_lt_of_le (show 3 < 4 by decide) (Nat.le_add_left 4 _)) rfl rfl
theorem s173_70 : XE d 173 70 (c0 :: c1 :: c2 :: .val (.int x) :: l) st h Q ↔ XE d 173 71 (c0 :: c1 :: c2 :: .val (.int x) :: l) (.int x :: st) h Q := g_iload rfl rfl
theorem s173_71 : XE d 173 71 (c0 :: c1 :: c2 :: c3 :: c4 :: .val (.int x) :: l) st h Q ↔ XE d 173 73 (c0 :: c1 :: c2 :: c3 :: c4 :: .val (.int x) :: l) (.int x :: st) h Q := g_iload rfl rfl
theorem s173_73 : XE d 173 73 ls (.int y :: .int x :: st) h Q ↔ (if x = y then XE d 173 76 ls st h Q else XE d 173 81 ls st h Q) := g_cne rfl
theorem s173_76 : XE d 173 76 (c0 :: c1 :: c2 :: c3 :: c4 :: c5 :: .val (.int x) :: l) st h Q ↔ XE d 173 78 (c0 :: c1 :: c2 :: c3 :: c4 :: c5 :: .val (.int x) :: l) (.int x :: st) h Q := g_iload rfl rfl
theorem s173_78 : XE d 173 78 ls st h Q ↔ XE d 173 83 ls st h Q := g_goto rfl
theorem s173_81 : XE d 173 81 (c0 :: c1 :: c2 :: c3 :: .val (.int x) :: l) st h Q ↔ XE d 173 83 (c0 :: c1 :: c2 :: c3 :: .val (.int x) :: l) (.int x :: st) h Q := g_iload rfl rfl
theorem s173_83 : XE d 173 83 (c0 :: c1 :: c2 :: c3 :: c4 :: l) (.int x :: st) h Q ↔ XE d 173 85 (c0 :: c1 :: c2 :: c3 :: .val (.int x) :: l) st h Q := g_istore (Nat.lt_of_lt_of_le (show 4 < 5 by decide) (Nat.le_add_left 5 _)) rfl rfl
theorem s173_85 : XE d 173 85 (c0 :: c1 :: c2 :: c3 :: c4 :: .val (.int x) :: l) st h Q ↔ XE d 173 88 (c0 :: c1 :: c2 :: c3 :: c4 :: .val (.int (x + 1)) :: l) st h Q := g_iinc rfl rfl rfl
theorem s173_88 : XE d 173 88 ls st h Q ↔ XE d 173 8 ls st h Q := g_goto rfl
theorem s173_91 : XE d 173 91 (c0 :: c1 :: c2 :: .val (.int x) :: l) st h Q ↔ XE d 173 92 (c0 :: c1 :: c2 :: .val (.int x) :: l) (.int x :: st) h Q := g_iload rfl rfl
theorem s173_92 : XE d 173 92 ls [.int x] h Q ↔ Q (some (.int x)) h := g_iret rfl
-- 174: TwoBellsModel.choiceOf(I)I
theorem e174 : XC (d + 1) 174 [.ref a, .int x] h Q ↔ XE d 174 0 [.val (.ref a), .val (.int x), .unset, .unset, .unset] [] h Q := XC_in rfl
theorem s174_0 : XE d 174 0 (.val (.ref a) :: l) st h Q ↔ XE d 174 1 (.val (.ref a) :: l) (.ref a :: st) h Q := g_aload rfl rfl
theorem s174_1 : XE d 174 1 (c0 :: .val (.int x) :: l) st h Q ↔ XE d 174 2 (c0 :: .val (.int x) :: l) (.int x :: st) h Q := g_iload rfl rfl
theorem s174_2 : XE d 174 2 ls (.int x :: .ref a :: st) h Q ↔ (xvo 8 st = true ∧ XV [(12, 141)] (h.2.2.1 a) (fun m' => XC d m' [.ref a, .int x] h (fun v h' => XE d 174 5 ls (v.toList ++ st) h' Q))) := h_v1 rfl rfl
theorem s174_5 : XE d 174 5 (c0 :: c1 :: c2 :: l) (.int x :: st) h Q ↔ XE d 174 6 (c0 :: c1 :: .val (.int x) :: l) st h Q := g_istore (Nat.lt_of_lt_of_le (show 2 < 3 by decide) (Nat.le_add_left 3 _)) rfl rfl
theorem s174_6 : XE d 174 6 (.val (.ref a) :: l) st h Q ↔ XE d 174 7 (.val (.ref a) :: l) (.ref a :: st) h Q := g_aload rfl rfl
theorem s174_7 : XE d 174 7 (c0 :: .val (.int x) :: l) st h Q ↔ XE d 174 8 (c0 :: .val (.int x) :: l) (.int x :: st) h Q := g_iload rfl rfl
theorem s174_8 : XE d 174 8 (c0 :: c1 :: .val (.int x) :: l) st h Q ↔ XE d 174 9 (c0 :: c1 :: .val (.int x) :: l) (.int x :: st) h Q := g_iload rfl rfl
theorem s174_9 : XE d 174 9 ls st h Q ↔ XE d 174 10 ls (.int 1 :: st) h Q := g_const rfl
theorem s174_10 : XE d 174 10 ls (.int y :: .int x :: st) h Q ↔ (if x = y then XE d 174 22 ls st h Q else XE d 174 13 ls st h Q) := g_ceq rfl
theorem s174_13 : XE d 174 13 (c0 :: c1 :: .val (.int x) :: l) st h Q ↔ XE d 174 14 (c0 :: c1 :: .val (.int x) :: l) (.int x :: st) h Q := g_iload rfl rfl
theorem s174_14 : XE d 174 14 ls st h Q ↔ XE d 174 15 ls (.int 3 :: st) h Q := g_const rfl
theorem s174_15 : XE d 174 15 ls (.int y :: .int x :: st) h Q ↔ (if x = y then XE d 174 22 ls st h Q else XE d 174 18 ls st h Q) := g_ceq rfl
theorem s174_18 : XE d 174 18 ls st h Q ↔ XE d 174 19 ls (.int 1 :: st) h Q := g_const rfl
theorem s174_19 : XE d 174 19 ls st h Q ↔ XE d 174 23 ls st h Q := g_goto rfl
theorem s174_22 : XE d 174 22 ls st h Q ↔ XE d 174 23 ls (.int 0 :: st) h Q := g_const rfl
theorem s174_23 : XE d 174 23 ls (.int y :: .int x :: .ref a :: st) h Q ↔ (xvo 8 st = true ∧ XV [(12, 173)] (h.2.2.1 a) (fun m' => XC d m' [.ref a, .int x, .int y] h (fun v h' => XE d 174 26 ls (v.toList ++ st) h' Q))) := h_v2 rfl rfl
theorem s174_26 : XE d 174 26 (c0 :: c1 :: c2 :: c3 :: l) (.int x :: st) h Q ↔ XE d 174 27 (c0 :: c1 :: c2 :: .val (.int x) :: l) st h Q := g_istore (Nat.lt_of_lt_of_le (show 3 < 4 by decide) (Nat.le_add_left 4 _)) rfl rfl
theorem s174_27 : XE d 174 27 (c0 :: c1 :: c2 :: .val (.int x) :: l) st h Q ↔ XE d 174 28 (c0 :: c1 :: c2 :: .val (.int x) :: l) (.int x :: st) h Q := g_iload rfl rfl
theorem s174_28 : XE d 174 28 ls (.int x :: st) h Q ↔ (if x < 0 then XE d 174 46 ls st h Q else XE d 174 31 ls st h Q) := g_iflt rfl
theorem s174_31 : XE d 174 31 (c0 :: c1 :: .val (.int x) :: l) st h Q ↔ XE d 174 32 (c0 :: c1 :: .val (.int x) :: l) (.int x :: st) h Q := g_iload rfl rfl
theorem s174_32 : XE d 174 32 ls st h Q ↔ XE d 174 33 ls (.int 1 :: st) h Q := g_const rfl
theorem s174_33 : XE d 174 33 ls (.int y :: .int x :: st) h Q ↔ (if x = y then XE d 174 46 ls st h Q else XE d 174 36 ls st h Q) := g_ceq rfl
theorem s174_36 : XE d 174 36 (c0 :: c1 :: .val (.int x) :: l) st h Q ↔ XE d 174 37 (c0 :: c1 :: .val (.int x) :: l) (.int x :: st) h Q := g_iload rfl rfl
theorem s174_37 : XE d 174 37 ls st h Q ↔ XE d 174 38 ls (.int 3 :: st) h Q := g_const rfl
theorem s174_38 : XE d 174 38 ls (.int y :: .int x :: st) h Q ↔ (if x = y then XE d 174 46 ls st h Q else XE d 174 41 ls st h Q) := g_ceq rfl
theorem s174_41 : XE d 174 41 (c0 :: c1 :: .val (.int x) :: l) st h Q ↔ XE d 174 42 (c0 :: c1 :: .val (.int x) :: l) (.int x :: st) h Q := g_iload rfl rfl
theorem s174_42 : XE d 174 42 ls st h Q ↔ XE d 174 43 ls (.int 4 :: st) h Q := g_const rfl
theorem s174_43 : XE d 174 43 ls (.int y :: .int x :: st) h Q ↔ (if x = y then XE d 174 46 ls st h Q else XE d 174 48 ls st h Q) := g_cne rfl
theorem s174_46 : XE d 174 46 (c0 :: c1 :: c2 :: .val (.int x) :: l) st h Q ↔ XE d 174 47 (c0 :: c1 :: c2 :: .val (.int x) :: l) (.int x :: st) h Q := g_iload rfl rfl
theorem s174_47 : XE d 174 47 ls [.int x] h Q ↔ Q (some (.int x)) h := g_iret rfl
theorem s174_48 : XE d 174 48 (.val (.ref a) :: l) st h Q ↔ XE d 174 49 (.val (.ref a) :: l) (.ref a :: st) h Q := g_aload rfl rfl
theorem s174_49 : XE d 174 49 ls (.ref a :: st) h Q ↔ (xvo 8 st = true ∧ XV [(12, 144)] (h.2.2.1 a) (fun m' => XC d m' [.ref a] h (fun v h' => XE d 174 52 ls (v.toList ++ st) h' Q))) := h_v0 rfl
theorem s174_52 : XE d 174 52 (.val (.ref a) :: l) st h Q ↔ XE d 174 53 (.val (.ref a) :: l) (.ref a :: st) h Q := g_aload rfl rfl
theorem s174_53 : XE d 174 53 ls (.ref a :: st) h Q ↔ XG [12] 0 (h.2.2.1 a) (fun v => XE d 174 56 ls (v :: st) h Q) := g_getf rfl
theorem s174_56 : XE d 174 56 ls st h Q ↔ XE d 174 57 ls (.int 2 :: st) h Q := g_const rfl
theorem s174_57 : XE d 174 57 ls (.int x :: .ref a :: st) h Q ↔ XA [0, 7] (h.2.2.1 a) x (fun k => XE d 174 58 ls (.int k :: st) h Q) := g_ald rfl
theorem s174_58 : XE d 174 58 ls (.int y :: .int x :: st) h Q ↔ (y ≠ 0 ∧ XE d 174 59 ls (.int (x % y) :: st) h Q) := g_rem rfl
theorem s174_59 : XE d 174 59 (c0 :: c1 :: c2 :: c3 :: c4 :: l) (.int x :: st) h Q ↔ XE d 174 61 (c0 :: c1 :: c2 :: c3 :: .val (.int x) :: l) st h Q := g_istore (Nat.lt_of_lt_of_le (show 4 < 5 by decide) (Nat.le_add_left 5 _)) rfl rfl
theorem s174_61 : XE d 174 61 (.val (.ref a) :: l) st h Q ↔ XE d 174 62 (.val (.ref a) :: l) (.ref a :: st) h Q := g_aload rfl rfl
theorem s174_62 : XE d 174 62 (c0 :: .val (.int x) :: l) st h Q ↔ XE d 174 63 (c0 :: .val (.int x) :: l) (.int x :: st) h Q := g_iload rfl rfl
theorem s174_63 : XE d 174 63 (c0 :: c1 :: c2 :: c3 :: .val (.int x) :: l) st h Q ↔ XE d 174 65 (c0 :: c1 :: c2 :: c3 :: .val (.int x) :: l) (.int x :: st) h Q := g_iload rfl rfl
theorem s174_65 : XE d 174 65 ls (.int y :: .int x :: .ref a :: st) h Q ↔ (xvo 8 st = true ∧ XV [(12, 170)] (h.2.2.1 a) (fun m' => XC d m' [.ref a, .int x, .int y] h (fun v h' => XE d 174 68 ls (v.toList ++ st) h' Q))) := h_v2 rfl rfl
theorem s174_68 : XE d 174 68 ls (.int x :: st) h Q ↔ (if x = 0 then XE d 174 87 ls st h Q else XE d 174 71 ls st h Q) := g_ifeq rfl
theorem s174_71 : XE d 174 71 (c0 :: c1 :: c2 :: c3 :: .val (.int x) :: l) st h Q ↔ XE d 174 73 (c0 :: c1 :: c2 :: c3 :: .val (.int x) :: l) (.int x :: st) h Q := g_iload rfl rfl
theorem s174_73 : XE d 174 73 ls st h Q ↔ XE d 174 74 ls (.int 1 :: st) h Q := g_const rfl
theorem s174_74 : XE d 174 74 ls (.int y :: .int x :: st) h Q ↔ XE d 174 75 ls (.int (x + y) :: st) h Q := g_add rfl
theorem s174_75 : XE d 174 75 (.val (.ref a) :: l) st h Q ↔ XE d 174 76 (.val (.ref a) :: l) (.ref a :: st) h Q := g_aload rfl rfl
theorem s174_76 : XE d 174 76 ls (.ref a :: st) h Q ↔ XG [12] 0 (h.2.2.1 a) (fun v => XE d 174 79 ls (v :: st) h Q) := g_getf rfl
theorem s174_79 : XE d 174 79 ls st h Q ↔ XE d 174 80 ls (.int 2 :: st) h Q := g_const rfl
theorem s174_80 : XE d 174 80 ls (.int x :: .ref a :: st) h Q ↔ XA [0, 7] (h.2.2.1 a) x (fun k => XE d 174 81 ls (.int k :: st) h Q) := g_ald rfl
theorem s174_81 : XE d 174 81 ls (.int y :: .int x :: st) h Q ↔ (y ≠ 0 ∧ XE d 174 82 ls (.int (x % y) :: st) h Q) := g_rem rfl
theorem s174_82 : XE d 174 82 (c0 :: c1 :: c2 :: c3 :: c4 :: l) (.int x :: st) h Q ↔ XE d 174 84 (c0 :: c1 :: c2 :: c3 :: .val (.int x) :: l) st h Q := g_istore (Nat.lt_of_lt_of_le (show 4 < 5 by decide) (Nat.le_add_left 5 _)) rfl rfl
theorem s174_84 : XE d 174 84 ls st h Q ↔ XE d 174 61 ls st h Q := g_goto rfl
theorem s174_87 : XE d 174 87 (c0 :: c1 :: c2 :: c3 :: .val (.int x) :: l) st h Q ↔ XE d 174 89 (c0 :: c1 :: c2 :: c3 :: .val (.int x) :: l) (.int x :: st) h Q := g_iload rfl rfl
theorem s174_89 : XE d 174 89 ls [.int x] h Q ↔ Q (some (.int x)) h := g_iret rfl
-- 175: TwoBellsModel.choice(I)I
theorem e175 : XC (d + 1) 175 [.ref a, .int x] h Q ↔ XE d 175 0 [.val (.ref a), .val (.int x)] [] h Q := XC_in rfl
theorem s175_0 : XE d 175 0 (.val (.ref a) :: l) st h Q ↔ XE d 175 1 (.val (.ref a) :: l) (.ref a :: st) h Q := g_aload rfl rfl
theorem s175_1 : XE d 175 1 (c0 :: .val (.int x) :: l) st h Q ↔ XE d 175 2 (c0 :: .val (.int x) :: l) (.int x :: st) h Q := g_iload rfl rfl
theorem s175_2 : XE d 175 2 ls (.int x :: .ref a :: st) h Q ↔ (xvo 8 st = true ∧ XV [(12, 138)] (h.2.2.1 a) (fun m' => XC d m' [.ref a, .int x] h (fun v h' => XE d 175 5 ls (v.toList ++ st) h' Q))) := h_v1 rfl rfl
theorem s175_5 : XE d 175 5 ls (.int x :: st) h Q ↔ (if x = 0 then XE d 175 19 ls st h Q else XE d 175 8 ls st h Q) := g_ifeq rfl
theorem s175_8 : XE d 175 8 (.val (.ref a) :: l) st h Q ↔ XE d 175 9 (.val (.ref a) :: l) (.ref a :: st) h Q := g_aload rfl rfl
theorem s175_9 : XE d 175 9 (c0 :: .val (.int x) :: l) st h Q ↔ XE d 175 10 (c0 :: .val (.int x) :: l) (.int x :: st) h Q := g_iload rfl rfl
theorem s175_10 : XE d 175 10 ls (.int x :: .ref a :: st) h Q ↔ (xvo 8 st = true ∧ XV [(12, 174)] (h.2.2.1 a) (fun m' => XC d m' [.ref a, .int x] h (fun v h' => XE d 175 13 ls (v.toList ++ st) h' Q))) := h_v1 rfl rfl
theorem s175_13 : XE d 175 13 ls (.int x :: st) h Q ↔ (xvo 8 st = true ∧ XC d 135 [.int x] h (fun v h' => XE d 175 16 ls (v.toList ++ st) h' Q)) := h_s1 rfl rfl
theorem s175_16 : XE d 175 16 ls st h Q ↔ XE d 175 21 ls st h Q := g_goto rfl
theorem s175_19 : XE d 175 19 ls st h Q ↔ XE d 175 21 ls (.int (-1000000001) :: st) h Q := g_const rfl
theorem s175_21 : XE d 175 21 ls [.int x] h Q ↔ Q (some (.int x)) h := g_iret rfl
-- 176: TwoBellsModel.night()V
theorem e176 : XC (d + 1) 176 [.ref a] h Q ↔ XE d 176 0 [.val (.ref a), .unset, .unset, .unset] [] h Q := XC_in rfl
theorem s176_0 : XE d 176 0 ls st h Q ↔ XE d 176 1 ls (.int 0 :: st) h Q := g_const rfl
theorem s176_1 : XE d 176 1 (c0 :: c1 :: l) (.int x :: st) h Q ↔ XE d 176 2 (c0 :: .val (.int x) :: l) st h Q := g_istore (Nat.lt_of_lt_of_le (show 1 < 2 by decide) (Nat.le_add_left 2 _)) rfl rfl
theorem s176_2 : XE d 176 2 (c0 :: .val (.int x) :: l) st h Q ↔ XE d 176 3 (c0 :: .val (.int x) :: l) (.int x :: st) h Q := g_iload rfl rfl
theorem s176_3 : XE d 176 3 (.val (.ref a) :: l) st h Q ↔ XE d 176 4 (.val (.ref a) :: l) (.ref a :: st) h Q := g_aload rfl rfl
theorem s176_4 : XE d 176 4 ls (.ref a :: st) h Q ↔ XG [12] 0 (h.2.2.1 a) (fun v => XE d 176 7 ls (v :: st) h Q) := g_getf rfl
theorem s176_7 : XE d 176 7 ls st h Q ↔ XE d 176 8 ls (.int 3 :: st) h Q := g_const rfl
theorem s176_8 : XE d 176 8 ls (.int x :: .ref a :: st) h Q ↔ XA [0, 7] (h.2.2.1 a) x (fun k => XE d 176 9 ls (.int k :: st) h Q) := g_ald rfl
theorem s176_9 : XE d 176 9 ls (.int y :: .int x :: st) h Q ↔ (if x < y then XE d 176 12 ls st h Q else XE d 176 92 ls st h Q) := g_cge rfl
theorem s176_12 : XE d 176 12 (.val (.ref a) :: l) st h Q ↔ XE d 176 13 (.val (.ref a) :: l) (.ref a :: st) h Q := g_aload rfl rfl
theorem s176_13 : XE d 176 13 (c0 :: .val (.int x) :: l) st h Q ↔ XE d 176 14 (c0 :: .val (.int x) :: l) (.int x :: st) h Q := g_iload rfl rfl
theorem s176_14 : XE d 176 14 ls (.int x :: .ref a :: st) h Q ↔ (xvo 8 st = true ∧ XV [(12, 174)] (h.2.2.1 a) (fun m' => XC d m' [.ref a, .int x] h (fun v h' => XE d 176 17 ls (v.toList ++ st) h' Q))) := h_v1 rfl rfl
theorem s176_17 : XE d 176 17 (c0 :: c1 :: c2 :: l) (.int x :: st) h Q ↔ XE d 176 18 (c0 :: c1 :: .val (.int x) :: l) st h Q := g_istore (Nat.lt_of_lt_of_le (show 2 < 3 by decide) (Nat.le_add_left 3 _)) rfl rfl
theorem s176_18 : XE d 176 18 (c0 :: c1 :: .val (.int x) :: l) st h Q ↔ XE d 176 19 (c0 :: c1 :: .val (.int x) :: l) (.int x :: st) h Q := g_iload rfl rfl
theorem s176_19 : XE d 176 19 ls (.int x :: st) h Q ↔ (if x < 0 then XE d 176 86 ls st h Q else XE d 176 22 ls st h Q) := g_iflt rfl
theorem s176_22 : XE d 176 22 (.val (.ref a) :: l) st h Q ↔ XE d 176 23 (.val (.ref a) :: l) (.ref a :: st) h Q := g_aload rfl rfl
theorem s176_23 : XE d 176 23 ls (.ref a :: st) h Q ↔ (xvo 8 st = true ∧ XV [(12, 144)] (h.2.2.1 a) (fun m' => XC d m' [.ref a] h (fun v h' => XE d 176 26 ls (v.toList ++ st) h' Q))) := h_v0 rfl
theorem s176_26 : XE d 176 26 ls st h Q ↔ XE d 176 29 ls (.int 10000 :: st) h Q := g_const rfl
theorem s176_29 : XE d 176 29 ls (.int y :: .int x :: st) h Q ↔ (y ≠ 0 ∧ XE d 176 30 ls (.int (x % y) :: st) h Q) := g_rem rfl
theorem s176_30 : XE d 176 30 (.val (.ref a) :: l) st h Q ↔ XE d 176 31 (.val (.ref a) :: l) (.ref a :: st) h Q := g_aload rfl rfl
theorem s176_31 : XE d 176 31 (c0 :: .val (.int x) :: l) st h Q ↔ XE d 176 32 (c0 :: .val (.int x) :: l) (.int x :: st) h Q := g_iload rfl rfl
theorem s176_32 : XE d 176 32 (c0 :: c1 :: .val (.int x) :: l) st h Q ↔ XE d 176 33 (c0 :: c1 :: .val (.int x) :: l) (.int x :: st) h Q := g_iload rfl rfl
theorem s176_33 : XE d 176 33 ls (.int y :: .int x :: .ref a :: st) h Q ↔ (xvo 8 st = true ∧ XV [(12, 168)] (h.2.2.1 a) (fun m' => XC d m' [.ref a, .int x, .int y] h (fun v h' => XE d 176 36 ls (v.toList ++ st) h' Q))) := h_v2 rfl rfl
theorem s176_36 : XE d 176 36 ls (.int y :: .int x :: st) h Q ↔ (if x < y then XE d 176 39 ls st h Q else XE d 176 43 ls st h Q) := g_cge rfl
theorem s176_39 : XE d 176 39 ls st h Q ↔ XE d 176 40 ls (.int 1 :: st) h Q := g_const rfl
theorem s176_40 : XE d 176 40 ls st h Q ↔ XE d 176 44 ls st h Q := g_goto rfl
theorem s176_43 : XE d 176 43 ls st h Q ↔ XE d 176 44 ls (.int 0 :: st) h Q := g_const rfl
theorem s176_44 : XE d 176 44 (c0 :: c1 :: c2 :: c3 :: l) (.int x :: st) h Q ↔ XE d 176 45 (c0 :: c1 :: c2 :: .val (.int x) :: l) st h Q := g_istore (Nat.lt_of_lt_of_le (show 3 < 4 by decide) (Nat.le_add_left 4 _)) rfl rfl
theorem s176_45 : XE d 176 45 (.val (.ref a) :: l) st h Q ↔ XE d 176 46 (.val (.ref a) :: l) (.ref a :: st) h Q := g_aload rfl rfl
theorem s176_46 : XE d 176 46 ls (.ref a :: st) h Q ↔ XG [12] 0 (h.2.2.1 a) (fun v => XE d 176 49 ls (v :: st) h Q) := g_getf rfl
theorem s176_49 : XE d 176 49 ls st h Q ↔ XE d 176 50 ls (.int 4 :: st) h Q := g_const rfl
theorem s176_50 : XE d 176 50 ls (.int x :: .ref a :: st) h Q ↔ XE d 176 51 ls (.int x :: .ref a :: .int x :: .ref a :: st) h Q := g_dup2 rfl
theorem s176_51 : XE d 176 51 ls (.int x :: .ref a :: st) h Q ↔ XA [0, 7] (h.2.2.1 a) x (fun k => XE d 176 52 ls (.int k :: st) h Q) := g_ald rfl
theorem s176_52 : XE d 176 52 (c0 :: c1 :: c2 :: .val (.int x) :: l) st h Q ↔ XE d 176 53 (c0 :: c1 :: c2 :: .val (.int x) :: l) (.int x :: st) h Q := g_iload rfl rfl
theorem s176_53 : XE d 176 53 ls (.int x :: st) h Q ↔ (if x = 0 then XE d 176 65 ls st h Q else XE d 176 56 ls st h Q) := g_ifeq rfl
theorem s176_56 : XE d 176 56 (.val (.ref a) :: l) st h Q ↔ XE d 176 57 (.val (.ref a) :: l) (.ref a :: st) h Q := g_aload rfl rfl
theorem s176_57 : XE d 176 57 (c0 :: c1 :: .val (.int x) :: l) st h Q ↔ XE d 176 58 (c0 :: c1 :: .val (.int x) :: l) (.int x :: st) h Q := g_iload rfl rfl
theorem s176_58 : XE d 176 58 ls st h Q ↔ XE d 176 59 ls (.int 1 :: st) h Q := g_const rfl
theorem s176_59 : XE d 176 59 ls (.int y :: .int x :: .ref a :: st) h Q ↔ (xvo 8 st = true ∧ XV [(12, 140)] (h.2.2.1 a) (fun m' => XC d m' [.ref a, .int x, .int y] h (fun v h' => XE d 176 62 ls (v.toList ++ st) h' Q))) := h_v2 rfl rfl
theorem s176_62 : XE d 176 62 ls st h Q ↔ XE d 176 66 ls st h Q := g_goto rfl
theorem s176_65 : XE d 176 65 ls st h Q ↔ XE d 176 66 ls (.int 0 :: st) h Q := g_const rfl
theorem s176_66 : XE d 176 66 ls (.int y :: .int x :: st) h Q ↔ XE d 176 67 ls (.int (x + y) :: st) h Q := g_add rfl
theorem s176_67 : XE d 176 67 ls (.int y :: .int x :: .ref a :: st) h Q ↔ XS 0 (h.2.2.1 a) x y (fun e => XE d 176 68 ls st (xset h a e) Q) := g_iast rfl
theorem s176_68 : XE d 176 68 (.val (.ref a) :: l) st h Q ↔ XE d 176 69 (.val (.ref a) :: l) (.ref a :: st) h Q := g_aload rfl rfl
theorem s176_69 : XE d 176 69 ls (.ref a :: st) h Q ↔ XG [12] 0 (h.2.2.1 a) (fun v => XE d 176 72 ls (v :: st) h Q) := g_getf rfl
theorem s176_72 : XE d 176 72 ls st h Q ↔ XE d 176 73 ls (.int 5 :: st) h Q := g_const rfl
theorem s176_73 : XE d 176 73 ls (.int x :: .ref a :: st) h Q ↔ XE d 176 74 ls (.int x :: .ref a :: .int x :: .ref a :: st) h Q := g_dup2 rfl
theorem s176_74 : XE d 176 74 ls (.int x :: .ref a :: st) h Q ↔ XA [0, 7] (h.2.2.1 a) x (fun k => XE d 176 75 ls (.int k :: st) h Q) := g_ald rfl
theorem s176_75 : XE d 176 75 (c0 :: c1 :: c2 :: .val (.int x) :: l) st h Q ↔ XE d 176 76 (c0 :: c1 :: c2 :: .val (.int x) :: l) (.int x :: st) h Q := g_iload rfl rfl
theorem s176_76 : XE d 176 76 ls (.int x :: st) h Q ↔ (if x = 0 then XE d 176 83 ls st h Q else XE d 176 79 ls st h Q) := g_ifeq rfl
theorem s176_79 : XE d 176 79 ls st h Q ↔ XE d 176 80 ls (.int 0 :: st) h Q := g_const rfl
theorem s176_80 : XE d 176 80 ls st h Q ↔ XE d 176 84 ls st h Q := g_goto rfl
theorem s176_83 : XE d 176 83 ls st h Q ↔ XE d 176 84 ls (.int 1 :: st) h Q := g_const rfl
theorem s176_84 : XE d 176 84 ls (.int y :: .int x :: st) h Q ↔ XE d 176 85 ls (.int (x + y) :: st) h Q := g_add rfl
theorem s176_85 : XE d 176 85 ls (.int y :: .int x :: .ref a :: st) h Q ↔ XS 0 (h.2.2.1 a) x y (fun e => XE d 176 86 ls st (xset h a e) Q) := g_iast rfl
theorem s176_86 : XE d 176 86 (c0 :: .val (.int x) :: l) st h Q ↔ XE d 176 89 (c0 :: .val (.int (x + 1)) :: l) st h Q := g_iinc rfl rfl rfl
theorem s176_89 : XE d 176 89 ls st h Q ↔ XE d 176 2 ls st h Q := g_goto rfl
theorem s176_92 : XE d 176 92 ls [] h Q ↔ Q none h := g_ret rfl
-- 177: TwoBellsModel.nights(I)I
theorem e177 : XC (d + 1) 177 [.ref a, .int x] h Q ↔ XE d 177 0 [.val (.ref a), .val (.int x), .unset] [] h Q := XC_in rfl
theorem s177_0 : XE d 177 0 (c0 :: .val (.int x) :: l) st h Q ↔ XE d 177 1 (c0 :: .val (.int x) :: l) (.int x :: st) h Q := g_iload rfl rfl
theorem s177_1 : XE d 177 1 ls st h Q ↔ XE d 177 2 ls (.int 1 :: st) h Q := g_const rfl
theorem s177_2 : XE d 177 2 ls st h Q ↔ XE d 177 4 ls (.int 60 :: st) h Q := g_const rfl
theorem s177_4 : XE d 177 4 ls (.int z :: .int y :: .int x :: st) h Q ↔ (xvo 8 st = true ∧ XC d 132 [.int x, .int y, .int z] h (fun v h' => XE d 177 7 ls (v.toList ++ st) h' Q)) := h_s3 rfl rfl
theorem s177_7 : XE d 177 7 ls (.int x :: st) h Q ↔ (if x = 0 then XE d 177 10 ls st h Q else XE d 177 13 ls st h Q) := g_ifne rfl
theorem s177_10 : XE d 177 10 ls st h Q ↔ XE d 177 12 ls (.int (-1000000001) :: st) h Q := g_const rfl
theorem s177_12 : XE d 177 12 ls [.int x] h Q ↔ Q (some (.int x)) h := g_iret rfl
theorem s177_13 : XE d 177 13 ls st h Q ↔ XE d 177 14 ls (.int 0 :: st) h Q := g_const rfl
theorem s177_14 : XE d 177 14 (c0 :: c1 :: c2 :: l) (.int x :: st) h Q ↔ XE d 177 15 (c0 :: c1 :: .val (.int x) :: l) st h Q := g_istore (Nat.lt_of_lt_of_le (show 2 < 3 by decide) (Nat.le_add_left 3 _)) rfl rfl
theorem s177_15 : XE d 177 15 (c0 :: c1 :: .val (.int x) :: l) st h Q ↔ XE d 177 16 (c0 :: c1 :: .val (.int x) :: l) (.int x :: st) h Q := g_iload rfl rfl
theorem s177_16 : XE d 177 16 (c0 :: .val (.int x) :: l) st h Q ↔ XE d 177 17 (c0 :: .val (.int x) :: l) (.int x :: st) h Q := g_iload rfl rfl
theorem s177_17 : XE d 177 17 ls (.int y :: .int x :: st) h Q ↔ (if x < y then XE d 177 20 ls st h Q else XE d 177 30 ls st h Q) := g_cge rfl
theorem s177_20 : XE d 177 20 (.val (.ref a) :: l) st h Q ↔ XE d 177 21 (.val (.ref a) :: l) (.ref a :: st) h Q := g_aload rfl rfl
theorem s177_21 : XE d 177 21 ls (.ref a :: st) h Q ↔ (xvo 8 st = true ∧ XV [(12, 176)] (h.2.2.1 a) (fun m' => XC d m' [.ref a] h (fun v h' => XE d 177 24 ls (v.toList ++ st) h' Q))) := h_v0 rfl
theorem s177_24 : XE d 177 24 (c0 :: c1 :: .val (.int x) :: l) st h Q ↔ XE d 177 27 (c0 :: c1 :: .val (.int (x + 1)) :: l) st h Q := g_iinc rfl rfl rfl
theorem s177_27 : XE d 177 27 ls st h Q ↔ XE d 177 15 ls st h Q := g_goto rfl
theorem s177_30 : XE d 177 30 (.val (.ref a) :: l) st h Q ↔ XE d 177 31 (.val (.ref a) :: l) (.ref a :: st) h Q := g_aload rfl rfl
theorem s177_31 : XE d 177 31 ls (.ref a :: st) h Q ↔ XG [12] 0 (h.2.2.1 a) (fun v => XE d 177 34 ls (v :: st) h Q) := g_getf rfl
theorem s177_34 : XE d 177 34 ls st h Q ↔ XE d 177 35 ls (.int 4 :: st) h Q := g_const rfl
theorem s177_35 : XE d 177 35 ls (.int x :: .ref a :: st) h Q ↔ XA [0, 7] (h.2.2.1 a) x (fun k => XE d 177 36 ls (.int k :: st) h Q) := g_ald rfl
theorem s177_36 : XE d 177 36 ls [.int x] h Q ↔ Q (some (.int x)) h := g_iret rfl
-- 178: TwoBellsModel.seed(I)I
theorem e178 : XC (d + 1) 178 [.ref a, .int x] h Q ↔ XE d 178 0 [.val (.ref a), .val (.int x), .unset] [] h Q := XC_in rfl
theorem s178_0 : XE d 178 0 (.val (.ref a) :: l) st h Q ↔ XE d 178 1 (.val (.ref a) :: l) (.ref a :: st) h Q := g_aload rfl rfl
theorem s178_1 : XE d 178 1 ls (.ref a :: st) h Q ↔ XG [12] 0 (h.2.2.1 a) (fun v => XE d 178 4 ls (v :: st) h Q) := g_getf rfl
theorem s178_4 : XE d 178 4 ls st h Q ↔ XE d 178 5 ls (.int 0 :: st) h Q := g_const rfl
theorem s178_5 : XE d 178 5 ls (.int x :: .ref a :: st) h Q ↔ XA [0, 7] (h.2.2.1 a) x (fun k => XE d 178 6 ls (.int k :: st) h Q) := g_ald rfl
theorem s178_6 : XE d 178 6 (c0 :: c1 :: c2 :: l) (.int x :: st) h Q ↔ XE d 178 7 (c0 :: c1 :: .val (.int x) :: l) st h Q := g_istore (Nat.lt_of_lt_of_le (show 2 < 3 by decide) (Nat.le_add_left 3 _)) rfl rfl
theorem s178_7 : XE d 178 7 (.val (.ref a) :: l) st h Q ↔ XE d 178 8 (.val (.ref a) :: l) (.ref a :: st) h Q := g_aload rfl rfl
theorem s178_8 : XE d 178 8 ls (.ref a :: st) h Q ↔ XG [12] 0 (h.2.2.1 a) (fun v => XE d 178 11 ls (v :: st) h Q) := g_getf rfl
theorem s178_11 : XE d 178 11 ls st h Q ↔ XE d 178 12 ls (.int 0 :: st) h Q := g_const rfl
theorem s178_12 : XE d 178 12 (c0 :: .val (.int x) :: l) st h Q ↔ XE d 178 13 (c0 :: .val (.int x) :: l) (.int x :: st) h Q := g_iload rfl rfl
theorem s178_13 : XE d 178 13 ls (.int y :: .int x :: .ref a :: st) h Q ↔ XS 0 (h.2.2.1 a) x y (fun e => XE d 178 14 ls st (xset h a e) Q) := g_iast rfl
theorem s178_14 : XE d 178 14 (c0 :: c1 :: .val (.int x) :: l) st h Q ↔ XE d 178 15 (c0 :: c1 :: .val (.int x) :: l) (.int x :: st) h Q := g_iload rfl rfl
theorem s178_15 : XE d 178 15 ls [.int x] h Q ↔ Q (some (.int x)) h := g_iret rfl
-- 179: TwoBellsModel.pairOf(I)I
theorem e179 : XC (d + 1) 179 [.ref a, .int x] h Q ↔ XE d 179 0 [.val (.ref a), .val (.int x), .unset, .unset, .unset, .unset, .unset] [] h Q := XC_in rfl
theorem s179_0 : XE d 179 0 ls st h Q ↔ XE d 179 1 ls (.int (-1) :: st) h Q := g_const rfl
theorem s179_1 : XE d 179 1 (c0 :: c1 :: c2 :: l) (.int x :: st) h Q ↔ XE d 179 2 (c0 :: c1 :: .val (.int x) :: l) st h Q := g_istore (Nat.lt_of_lt_of_le (show 2 < 3 by decide) (Nat.le_add_left 3 _)) rfl rfl
theorem s179_2 : XE d 179 2 ls st h Q ↔ XE d 179 3 ls (.int 0 :: st) h Q := g_const rfl
theorem s179_3 : XE d 179 3 (c0 :: c1 :: c2 :: c3 :: l) (.int x :: st) h Q ↔ XE d 179 4 (c0 :: c1 :: c2 :: .val (.int x) :: l) st h Q := g_istore (Nat.lt_of_lt_of_le (show 3 < 4 by decide) (Nat.le_add_left 4 _)) rfl rfl
theorem s179_4 : XE d 179 4 ls st h Q ↔ XE d 179 5 ls (.int 0 :: st) h Q := g_const rfl
theorem s179_5 : XE d 179 5 (c0 :: c1 :: c2 :: c3 :: c4 :: l) (.int x :: st) h Q ↔ XE d 179 7 (c0 :: c1 :: c2 :: c3 :: .val (.int x) :: l) st h Q := g_istore (Nat.lt_of_lt_of_le (show 4 < 5 by decide) (Nat.le_add_left 5 _)) rfl rfl
theorem s179_7 : XE d 179 7 (c0 :: c1 :: c2 :: c3 :: .val (.int x) :: l) st h Q ↔ XE d 179 9 (c0 :: c1 :: c2 :: c3 :: .val (.int x) :: l) (.int x :: st) h Q := g_iload rfl rfl
theorem s179_9 : XE d 179 9 (.val (.ref a) :: l) st h Q ↔ XE d 179 10 (.val (.ref a) :: l) (.ref a :: st) h Q := g_aload rfl rfl
theorem s179_10 : XE d 179 10 ls (.ref a :: st) h Q ↔ XG [12] 0 (h.2.2.1 a) (fun v => XE d 179 13 ls (v :: st) h Q) := g_getf rfl
theorem s179_13 : XE d 179 13 ls st h Q ↔ XE d 179 14 ls (.int 1 :: st) h Q := g_const rfl
theorem s179_14 : XE d 179 14 ls (.int x :: .ref a :: st) h Q ↔ XA [0, 7] (h.2.2.1 a) x (fun k => XE d 179 15 ls (.int k :: st) h Q) := g_ald rfl
theorem s179_15 : XE d 179 15 ls (.int y :: .int x :: st) h Q ↔ (if x < y then XE d 179 18 ls st h Q else XE d 179 100 ls st h Q) := g_cge rfl
theorem s179_18 : XE d 179 18 (c0 :: c1 :: c2 :: c3 :: .val (.int x) :: l) st h Q ↔ XE d 179 20 (c0 :: c1 :: c2 :: c3 :: .val (.int x) :: l) (.int x :: st) h Q := g_iload rfl rfl
theorem s179_20 : XE d 179 20 ls st h Q ↔ XE d 179 21 ls (.int 1 :: st) h Q := g_const rfl
theorem s179_21 : XE d 179 21 ls (.int y :: .int x :: st) h Q ↔ XE d 179 22 ls (.int (x + y) :: st) h Q := g_add rfl
theorem s179_22 : XE d 179 22 (c0 :: c1 :: c2 :: c3 :: c4 :: c5 :: l) (.int x :: st) h Q ↔ XE d 179 24 (c0 :: c1 :: c2 :: c3 :: c4 :: .val (.int x) :: l) st h Q := g_istore (Nat.lt_of_lt_of_le (show 5 < 6 by decide) (Nat.le_add_left 6 _)) rfl rfl
theorem s179_24 : XE d 179 24 (c0 :: c1 :: c2 :: c3 :: c4 :: .val (.int x) :: l) st h Q ↔ XE d 179 26 (c0 :: c1 :: c2 :: c3 :: c4 :: .val (.int x) :: l) (.int x :: st) h Q := g_iload rfl rfl
theorem s179_26 : XE d 179 26 (.val (.ref a) :: l) st h Q ↔ XE d 179 27 (.val (.ref a) :: l) (.ref a :: st) h Q := g_aload rfl rfl
theorem s179_27 : XE d 179 27 ls (.ref a :: st) h Q ↔ XG [12] 0 (h.2.2.1 a) (fun v => XE d 179 30 ls (v :: st) h Q) := g_getf rfl
theorem s179_30 : XE d 179 30 ls st h Q ↔ XE d 179 31 ls (.int 1 :: st) h Q := g_const rfl
theorem s179_31 : XE d 179 31 ls (.int x :: .ref a :: st) h Q ↔ XA [0, 7] (h.2.2.1 a) x (fun k => XE d 179 32 ls (.int k :: st) h Q) := g_ald rfl
theorem s179_32 : XE d 179 32 ls (.int y :: .int x :: st) h Q ↔ (if x < y then XE d 179 35 ls st h Q else XE d 179 94 ls st h Q) := g_cge rfl
theorem s179_35 : XE d 179 35 (.val (.ref a) :: l) st h Q ↔ XE d 179 36 (.val (.ref a) :: l) (.ref a :: st) h Q := g_aload rfl rfl
theorem s179_36 : XE d 179 36 (c0 :: c1 :: c2 :: c3 :: .val (.int x) :: l) st h Q ↔ XE d 179 38 (c0 :: c1 :: c2 :: c3 :: .val (.int x) :: l) (.int x :: st) h Q := g_iload rfl rfl
theorem s179_38 : XE d 179 38 (c0 :: .val (.int x) :: l) st h Q ↔ XE d 179 39 (c0 :: .val (.int x) :: l) (.int x :: st) h Q := g_iload rfl rfl
theorem s179_39 : XE d 179 39 ls st h Q ↔ XE d 179 40 ls (.int 0 :: st) h Q := g_const rfl
theorem s179_40 : XE d 179 40 ls (.int z :: .int y :: .int x :: .ref a :: st) h Q ↔ (xvo 8 st = true ∧ XV [(12, 147)] (h.2.2.1 a) (fun m' => XC d m' [.ref a, .int x, .int y, .int z] h (fun v h' => XE d 179 43 ls (v.toList ++ st) h' Q))) := h_v3 rfl rfl
theorem s179_43 : XE d 179 43 (.val (.ref a) :: l) st h Q ↔ XE d 179 44 (.val (.ref a) :: l) (.ref a :: st) h Q := g_aload rfl rfl
theorem s179_44 : XE d 179 44 (c0 :: c1 :: c2 :: c3 :: c4 :: .val (.int x) :: l) st h Q ↔ XE d 179 46 (c0 :: c1 :: c2 :: c3 :: c4 :: .val (.int x) :: l) (.int x :: st) h Q := g_iload rfl rfl
theorem s179_46 : XE d 179 46 (c0 :: .val (.int x) :: l) st h Q ↔ XE d 179 47 (c0 :: .val (.int x) :: l) (.int x :: st) h Q := g_iload rfl rfl
theorem s179_47 : XE d 179 47 ls st h Q ↔ XE d 179 48 ls (.int 0 :: st) h Q := g_const rfl
theorem s179_48 : XE d 179 48 ls (.int z :: .int y :: .int x :: .ref a :: st) h Q ↔ (xvo 8 st = true ∧ XV [(12, 147)] (h.2.2.1 a) (fun m' => XC d m' [.ref a, .int x, .int y, .int z] h (fun v h' => XE d 179 51 ls (v.toList ++ st) h' Q))) := h_v3 rfl rfl
theorem s179_51 : XE d 179 51 ls (.int y :: .int x :: st) h Q ↔ XE d 179 52 ls (.int (x + y) :: st) h Q := g_add rfl
theorem s179_52 : XE d 179 52 (c0 :: c1 :: c2 :: c3 :: c4 :: c5 :: c6 :: l) (.int x :: st) h Q ↔ XE d 179 54 (c0 :: c1 :: c2 :: c3 :: c4 :: c5 :: .val (.int x) :: l) st h Q := g_istore (Nat.lt_of_lt_of_le (show 6 < 7 by decide) (Nat.le_add_left 7 _)) rfl rfl
theorem s179_54 : XE d 179 54 (c0 :: c1 :: .val (.int x) :: l) st h Q ↔ XE d 179 55 (c0 :: c1 :: .val (.int x) :: l) (.int x :: st) h Q := g_iload rfl rfl
theorem s179_55 : XE d 179 55 ls (.int x :: st) h Q ↔ (if x < 0 then XE d 179 64 ls st h Q else XE d 179 58 ls st h Q) := g_iflt rfl
theorem s179_58 : XE d 179 58 (c0 :: c1 :: c2 :: c3 :: c4 :: c5 :: .val (.int x) :: l) st h Q ↔ XE d 179 60 (c0 :: c1 :: c2 :: c3 :: c4 :: c5 :: .val (.int x) :: l) (.int x :: st) h Q := g_iload rfl rfl
theorem s179_60 : XE d 179 60 (c0 :: c1 :: c2 :: .val (.int x) :: l) st h Q ↔ XE d 179 61 (c0 :: c1 :: c2 :: .val (.int x) :: l) (.int x :: st) h Q := g_iload rfl rfl
theorem s179_61 : XE d 179 61 ls (.int y :: .int x :: st) h Q ↔ (if x < y then XE d 179 64 ls st h Q else XE d 179 88 ls st h Q) := g_cge rfl
theorem s179_64 : XE d 179 64 (.val (.ref a) :: l) st h Q ↔ XE d 179 65 (.val (.ref a) :: l) (.ref a :: st) h Q := g_aload rfl rfl
theorem s179_65 : XE d 179 65 (c0 :: .val (.int x) :: l) st h Q ↔ XE d 179 66 (c0 :: .val (.int x) :: l) (.int x :: st) h Q := g_iload rfl rfl
theorem s179_66 : XE d 179 66 (c0 :: c1 :: c2 :: c3 :: .val (.int x) :: l) st h Q ↔ XE d 179 68 (c0 :: c1 :: c2 :: c3 :: .val (.int x) :: l) (.int x :: st) h Q := g_iload rfl rfl
theorem s179_68 : XE d 179 68 (c0 :: c1 :: c2 :: c3 :: c4 :: .val (.int x) :: l) st h Q ↔ XE d 179 70 (c0 :: c1 :: c2 :: c3 :: c4 :: .val (.int x) :: l) (.int x :: st) h Q := g_iload rfl rfl
theorem s179_70 : XE d 179 70 ls (.int z :: .int y :: .int x :: .ref a :: st) h Q ↔ (xvo 8 st = true ∧ XV [(12, 156)] (h.2.2.1 a) (fun m' => XC d m' [.ref a, .int x, .int y, .int z] h (fun v h' => XE d 179 73 ls (v.toList ++ st) h' Q))) := h_v3 rfl rfl
theorem s179_73 : XE d 179 73 ls (.int x :: st) h Q ↔ (if x = 0 then XE d 179 88 ls st h Q else XE d 179 76 ls st h Q) := g_ifeq rfl
theorem s179_76 : XE d 179 76 ls st h Q ↔ XE d 179 78 ls (.int 100 :: st) h Q := g_const rfl
theorem s179_78 : XE d 179 78 (c0 :: c1 :: c2 :: c3 :: .val (.int x) :: l) st h Q ↔ XE d 179 80 (c0 :: c1 :: c2 :: c3 :: .val (.int x) :: l) (.int x :: st) h Q := g_iload rfl rfl
theorem s179_80 : XE d 179 80 ls (.int y :: .int x :: st) h Q ↔ XE d 179 81 ls (.int (x * y) :: st) h Q := g_mul rfl
theorem s179_81 : XE d 179 81 (c0 :: c1 :: c2 :: c3 :: c4 :: .val (.int x) :: l) st h Q ↔ XE d 179 83 (c0 :: c1 :: c2 :: c3 :: c4 :: .val (.int x) :: l) (.int x :: st) h Q := g_iload rfl rfl
theorem s179_83 : XE d 179 83 ls (.int y :: .int x :: st) h Q ↔ XE d 179 84 ls (.int (x + y) :: st) h Q := g_add rfl
theorem s179_84 : XE d 179 84 (c0 :: c1 :: c2 :: l) (.int x :: st) h Q ↔ XE d 179 85 (c0 :: c1 :: .val (.int x) :: l) st h Q := g_istore (Nat.lt_of_lt_of_le (show 2 < 3 by decide) (Nat.le_add_left 3 _)) rfl rfl
theorem s179_85 : XE d 179 85 (c0 :: c1 :: c2 :: c3 :: c4 :: c5 :: .val (.int x) :: l) st h Q ↔ XE d 179 87 (c0 :: c1 :: c2 :: c3 :: c4 :: c5 :: .val (.int x) :: l) (.int x :: st) h Q := g_iload rfl rfl
theorem s179_87 : XE d 179 87 (c0 :: c1 :: c2 :: c3 :: l) (.int x :: st) h Q ↔ XE d 179 88 (c0 :: c1 :: c2 :: .val (.int x) :: l) st h Q := g_istore (Nat.lt_of_lt_of_le (show 3 < 4 by decide) (Nat.le_add_left 4 _)) rfl rfl
theorem s179_88 : XE d 179 88 (c0 :: c1 :: c2 :: c3 :: c4 :: .val (.int x) :: l) st h Q ↔ XE d 179 91 (c0 :: c1 :: c2 :: c3 :: c4 :: .val (.int (x + 1)) :: l) st h Q := g_iinc rfl rfl rfl
theorem s179_91 : XE d 179 91 ls st h Q ↔ XE d 179 24 ls st h Q := g_goto rfl
theorem s179_94 : XE d 179 94 (c0 :: c1 :: c2 :: c3 :: .val (.int x) :: l) st h Q ↔ XE d 179 97 (c0 :: c1 :: c2 :: c3 :: .val (.int (x + 1)) :: l) st h Q := g_iinc rfl rfl rfl
theorem s179_97 : XE d 179 97 ls st h Q ↔ XE d 179 7 ls st h Q := g_goto rfl
theorem s179_100 : XE d 179 100 (c0 :: c1 :: .val (.int x) :: l) st h Q ↔ XE d 179 101 (c0 :: c1 :: .val (.int x) :: l) (.int x :: st) h Q := g_iload rfl rfl
theorem s179_101 : XE d 179 101 ls [.int x] h Q ↔ Q (some (.int x)) h := g_iret rfl
-- 180: TwoBellsModel.pair(I)I
theorem e180 : XC (d + 1) 180 [.ref a, .int x] h Q ↔ XE d 180 0 [.val (.ref a), .val (.int x)] [] h Q := XC_in rfl
theorem s180_0 : XE d 180 0 (.val (.ref a) :: l) st h Q ↔ XE d 180 1 (.val (.ref a) :: l) (.ref a :: st) h Q := g_aload rfl rfl
theorem s180_1 : XE d 180 1 (c0 :: .val (.int x) :: l) st h Q ↔ XE d 180 2 (c0 :: .val (.int x) :: l) (.int x :: st) h Q := g_iload rfl rfl
theorem s180_2 : XE d 180 2 ls (.int x :: .ref a :: st) h Q ↔ (xvo 8 st = true ∧ XV [(12, 137)] (h.2.2.1 a) (fun m' => XC d m' [.ref a, .int x] h (fun v h' => XE d 180 5 ls (v.toList ++ st) h' Q))) := h_v1 rfl rfl
theorem s180_5 : XE d 180 5 ls (.int x :: st) h Q ↔ (if x = 0 then XE d 180 19 ls st h Q else XE d 180 8 ls st h Q) := g_ifeq rfl
theorem s180_8 : XE d 180 8 (.val (.ref a) :: l) st h Q ↔ XE d 180 9 (.val (.ref a) :: l) (.ref a :: st) h Q := g_aload rfl rfl
theorem s180_9 : XE d 180 9 (c0 :: .val (.int x) :: l) st h Q ↔ XE d 180 10 (c0 :: .val (.int x) :: l) (.int x :: st) h Q := g_iload rfl rfl
theorem s180_10 : XE d 180 10 ls (.int x :: .ref a :: st) h Q ↔ (xvo 8 st = true ∧ XV [(12, 179)] (h.2.2.1 a) (fun m' => XC d m' [.ref a, .int x] h (fun v h' => XE d 180 13 ls (v.toList ++ st) h' Q))) := h_v1 rfl rfl
theorem s180_13 : XE d 180 13 ls (.int x :: st) h Q ↔ (xvo 8 st = true ∧ XC d 135 [.int x] h (fun v h' => XE d 180 16 ls (v.toList ++ st) h' Q)) := h_s1 rfl rfl
theorem s180_16 : XE d 180 16 ls st h Q ↔ XE d 180 21 ls st h Q := g_goto rfl
theorem s180_19 : XE d 180 19 ls st h Q ↔ XE d 180 21 ls (.int (-1000000001) :: st) h Q := g_const rfl
theorem s180_21 : XE d 180 21 ls [.int x] h Q ↔ Q (some (.int x)) h := g_iret rfl
-- 181: TwoBellsModel.unlawfulMany()I
theorem e181 : XC (d + 1) 181 [.ref a] h Q ↔ XE d 181 0 [.val (.ref a), .unset, .unset] [] h Q := XC_in rfl
theorem s181_0 : XE d 181 0 ls st h Q ↔ XE d 181 1 ls (.int 0 :: st) h Q := g_const rfl
theorem s181_1 : XE d 181 1 (c0 :: c1 :: l) (.int x :: st) h Q ↔ XE d 181 2 (c0 :: .val (.int x) :: l) st h Q := g_istore (Nat.lt_of_lt_of_le (show 1 < 2 by decide) (Nat.le_add_left 2 _)) rfl rfl
theorem s181_2 : XE d 181 2 ls st h Q ↔ XE d 181 3 ls (.int 0 :: st) h Q := g_const rfl
theorem s181_3 : XE d 181 3 (c0 :: c1 :: c2 :: l) (.int x :: st) h Q ↔ XE d 181 4 (c0 :: c1 :: .val (.int x) :: l) st h Q := g_istore (Nat.lt_of_lt_of_le (show 2 < 3 by decide) (Nat.le_add_left 3 _)) rfl rfl
theorem s181_4 : XE d 181 4 (c0 :: c1 :: .val (.int x) :: l) st h Q ↔ XE d 181 5 (c0 :: c1 :: .val (.int x) :: l) (.int x :: st) h Q := g_iload rfl rfl
theorem s181_5 : XE d 181 5 (.val (.ref a) :: l) st h Q ↔ XE d 181 6 (.val (.ref a) :: l) (.ref a :: st) h Q := g_aload rfl rfl
theorem s181_6 : XE d 181 6 ls (.ref a :: st) h Q ↔ XG [12] 0 (h.2.2.1 a) (fun v => XE d 181 9 ls (v :: st) h Q) := g_getf rfl
theorem s181_9 : XE d 181 9 ls st h Q ↔ XE d 181 10 ls (.int 2 :: st) h Q := g_const rfl
theorem s181_10 : XE d 181 10 ls (.int x :: .ref a :: st) h Q ↔ XA [0, 7] (h.2.2.1 a) x (fun k => XE d 181 11 ls (.int k :: st) h Q) := g_ald rfl
theorem s181_11 : XE d 181 11 ls (.int y :: .int x :: st) h Q ↔ (if x < y then XE d 181 14 ls st h Q else XE d 181 36 ls st h Q) := g_cge rfl
theorem s181_14 : XE d 181 14 (c0 :: .val (.int x) :: l) st h Q ↔ XE d 181 15 (c0 :: .val (.int x) :: l) (.int x :: st) h Q := g_iload rfl rfl
theorem s181_15 : XE d 181 15 (.val (.ref a) :: l) st h Q ↔ XE d 181 16 (.val (.ref a) :: l) (.ref a :: st) h Q := g_aload rfl rfl
theorem s181_16 : XE d 181 16 (c0 :: c1 :: .val (.int x) :: l) st h Q ↔ XE d 181 17 (c0 :: c1 :: .val (.int x) :: l) (.int x :: st) h Q := g_iload rfl rfl
theorem s181_17 : XE d 181 17 ls (.int x :: .ref a :: st) h Q ↔ (xvo 8 st = true ∧ XV [(12, 157)] (h.2.2.1 a) (fun m' => XC d m' [.ref a, .int x] h (fun v h' => XE d 181 20 ls (v.toList ++ st) h' Q))) := h_v1 rfl rfl
theorem s181_20 : XE d 181 20 ls (.int x :: st) h Q ↔ (if x = 0 then XE d 181 27 ls st h Q else XE d 181 23 ls st h Q) := g_ifeq rfl
theorem s181_23 : XE d 181 23 ls st h Q ↔ XE d 181 24 ls (.int 0 :: st) h Q := g_const rfl
theorem s181_24 : XE d 181 24 ls st h Q ↔ XE d 181 28 ls st h Q := g_goto rfl
theorem s181_27 : XE d 181 27 ls st h Q ↔ XE d 181 28 ls (.int 1 :: st) h Q := g_const rfl
theorem s181_28 : XE d 181 28 ls (.int y :: .int x :: st) h Q ↔ XE d 181 29 ls (.int (x + y) :: st) h Q := g_add rfl
theorem s181_29 : XE d 181 29 (c0 :: c1 :: l) (.int x :: st) h Q ↔ XE d 181 30 (c0 :: .val (.int x) :: l) st h Q := g_istore (Nat.lt_of_lt_of_le (show 1 < 2 by decide) (Nat.le_add_left 2 _)) rfl rfl
theorem s181_30 : XE d 181 30 (c0 :: c1 :: .val (.int x) :: l) st h Q ↔ XE d 181 33 (c0 :: c1 :: .val (.int (x + 1)) :: l) st h Q := g_iinc rfl rfl rfl
theorem s181_33 : XE d 181 33 ls st h Q ↔ XE d 181 4 ls st h Q := g_goto rfl
theorem s181_36 : XE d 181 36 (c0 :: .val (.int x) :: l) st h Q ↔ XE d 181 37 (c0 :: .val (.int x) :: l) (.int x :: st) h Q := g_iload rfl rfl
theorem s181_37 : XE d 181 37 ls [.int x] h Q ↔ Q (some (.int x)) h := g_iret rfl
-- 182: TwoBellsModel.wiring()I
theorem e182 : XC (d + 1) 182 [.ref a] h Q ↔ XE d 182 0 [.val (.ref a), .unset, .unset] [] h Q := XC_in rfl
theorem s182_0 : XE d 182 0 ls st h Q ↔ XE d 182 1 ls (.int 0 :: st) h Q := g_const rfl
theorem s182_1 : XE d 182 1 (c0 :: c1 :: l) (.int x :: st) h Q ↔ XE d 182 2 (c0 :: .val (.int x) :: l) st h Q := g_istore (Nat.lt_of_lt_of_le (show 1 < 2 by decide) (Nat.le_add_left 2 _)) rfl rfl
theorem s182_2 : XE d 182 2 (c0 :: .val (.int x) :: l) st h Q ↔ XE d 182 3 (c0 :: .val (.int x) :: l) (.int x :: st) h Q := g_iload rfl rfl
theorem s182_3 : XE d 182 3 (.val (.ref a) :: l) st h Q ↔ XE d 182 4 (.val (.ref a) :: l) (.ref a :: st) h Q := g_aload rfl rfl
theorem s182_4 : XE d 182 4 ls (.ref a :: st) h Q ↔ XG [12] 0 (h.2.2.1 a) (fun v => XE d 182 7 ls (v :: st) h Q) := g_getf rfl
theorem s182_7 : XE d 182 7 ls st h Q ↔ XE d 182 8 ls (.int 2 :: st) h Q := g_const rfl
theorem s182_8 : XE d 182 8 ls (.int x :: .ref a :: st) h Q ↔ XA [0, 7] (h.2.2.1 a) x (fun k => XE d 182 9 ls (.int k :: st) h Q) := g_ald rfl
theorem s182_9 : XE d 182 9 ls (.int y :: .int x :: st) h Q ↔ (if x < y then XE d 182 12 ls st h Q else XE d 182 76 ls st h Q) := g_cge rfl
theorem s182_12 : XE d 182 12 (.val (.ref a) :: l) st h Q ↔ XE d 182 13 (.val (.ref a) :: l) (.ref a :: st) h Q := g_aload rfl rfl
theorem s182_13 : XE d 182 13 (c0 :: .val (.int x) :: l) st h Q ↔ XE d 182 14 (c0 :: .val (.int x) :: l) (.int x :: st) h Q := g_iload rfl rfl
theorem s182_14 : XE d 182 14 ls (.int x :: .ref a :: st) h Q ↔ (xvo 8 st = true ∧ XV [(12, 179)] (h.2.2.1 a) (fun m' => XC d m' [.ref a, .int x] h (fun v h' => XE d 182 17 ls (v.toList ++ st) h' Q))) := h_v1 rfl rfl
theorem s182_17 : XE d 182 17 (c0 :: c1 :: c2 :: l) (.int x :: st) h Q ↔ XE d 182 18 (c0 :: c1 :: .val (.int x) :: l) st h Q := g_istore (Nat.lt_of_lt_of_le (show 2 < 3 by decide) (Nat.le_add_left 3 _)) rfl rfl
theorem s182_18 : XE d 182 18 (.val (.ref a) :: l) st h Q ↔ XE d 182 19 (.val (.ref a) :: l) (.ref a :: st) h Q := g_aload rfl rfl
theorem s182_19 : XE d 182 19 ls (.ref a :: st) h Q ↔ XG [12] 0 (h.2.2.1 a) (fun v => XE d 182 22 ls (v :: st) h Q) := g_getf rfl
theorem s182_22 : XE d 182 22 ls st h Q ↔ XE d 182 24 ls (.int 38 :: st) h Q := g_const rfl
theorem s182_24 : XE d 182 24 ls st h Q ↔ XE d 182 25 ls (.int 5 :: st) h Q := g_const rfl
theorem s182_25 : XE d 182 25 (c0 :: .val (.int x) :: l) st h Q ↔ XE d 182 26 (c0 :: .val (.int x) :: l) (.int x :: st) h Q := g_iload rfl rfl
theorem s182_26 : XE d 182 26 ls (.int y :: .int x :: st) h Q ↔ XE d 182 27 ls (.int (x * y) :: st) h Q := g_mul rfl
theorem s182_27 : XE d 182 27 ls (.int y :: .int x :: st) h Q ↔ XE d 182 28 ls (.int (x + y) :: st) h Q := g_add rfl
theorem s182_28 : XE d 182 28 ls st h Q ↔ XE d 182 29 ls (.int 3 :: st) h Q := g_const rfl
theorem s182_29 : XE d 182 29 ls (.int y :: .int x :: st) h Q ↔ XE d 182 30 ls (.int (x + y) :: st) h Q := g_add rfl
theorem s182_30 : XE d 182 30 (c0 :: c1 :: .val (.int x) :: l) st h Q ↔ XE d 182 31 (c0 :: c1 :: .val (.int x) :: l) (.int x :: st) h Q := g_iload rfl rfl
theorem s182_31 : XE d 182 31 ls (.int x :: st) h Q ↔ (if x < 0 then XE d 182 34 ls st h Q else XE d 182 38 ls st h Q) := g_ifge rfl
theorem s182_34 : XE d 182 34 ls st h Q ↔ XE d 182 35 ls (.int (-1) :: st) h Q := g_const rfl
theorem s182_35 : XE d 182 35 ls st h Q ↔ XE d 182 42 ls st h Q := g_goto rfl
theorem s182_38 : XE d 182 38 (c0 :: c1 :: .val (.int x) :: l) st h Q ↔ XE d 182 39 (c0 :: c1 :: .val (.int x) :: l) (.int x :: st) h Q := g_iload rfl rfl
theorem s182_39 : XE d 182 39 ls st h Q ↔ XE d 182 41 ls (.int 100 :: st) h Q := g_const rfl
theorem s182_41 : XE d 182 41 ls (.int y :: .int x :: st) h Q ↔ (y ≠ 0 ∧ XE d 182 42 ls (.int (x / y) :: st) h Q) := g_div rfl
theorem s182_42 : XE d 182 42 ls (.int y :: .int x :: .ref a :: st) h Q ↔ XS 0 (h.2.2.1 a) x y (fun e => XE d 182 43 ls st (xset h a e) Q) := g_iast rfl
theorem s182_43 : XE d 182 43 (.val (.ref a) :: l) st h Q ↔ XE d 182 44 (.val (.ref a) :: l) (.ref a :: st) h Q := g_aload rfl rfl
theorem s182_44 : XE d 182 44 ls (.ref a :: st) h Q ↔ XG [12] 0 (h.2.2.1 a) (fun v => XE d 182 47 ls (v :: st) h Q) := g_getf rfl
theorem s182_47 : XE d 182 47 ls st h Q ↔ XE d 182 49 ls (.int 38 :: st) h Q := g_const rfl
theorem s182_49 : XE d 182 49 ls st h Q ↔ XE d 182 50 ls (.int 5 :: st) h Q := g_const rfl
theorem s182_50 : XE d 182 50 (c0 :: .val (.int x) :: l) st h Q ↔ XE d 182 51 (c0 :: .val (.int x) :: l) (.int x :: st) h Q := g_iload rfl rfl
theorem s182_51 : XE d 182 51 ls (.int y :: .int x :: st) h Q ↔ XE d 182 52 ls (.int (x * y) :: st) h Q := g_mul rfl
theorem s182_52 : XE d 182 52 ls (.int y :: .int x :: st) h Q ↔ XE d 182 53 ls (.int (x + y) :: st) h Q := g_add rfl
theorem s182_53 : XE d 182 53 ls st h Q ↔ XE d 182 54 ls (.int 3 :: st) h Q := g_const rfl
theorem s182_54 : XE d 182 54 ls (.int y :: .int x :: st) h Q ↔ XE d 182 55 ls (.int (x + y) :: st) h Q := g_add rfl
theorem s182_55 : XE d 182 55 ls st h Q ↔ XE d 182 56 ls (.int 1 :: st) h Q := g_const rfl
theorem s182_56 : XE d 182 56 ls (.int y :: .int x :: st) h Q ↔ XE d 182 57 ls (.int (x + y) :: st) h Q := g_add rfl
theorem s182_57 : XE d 182 57 (c0 :: c1 :: .val (.int x) :: l) st h Q ↔ XE d 182 58 (c0 :: c1 :: .val (.int x) :: l) (.int x :: st) h Q := g_iload rfl rfl
theorem s182_58 : XE d 182 58 ls (.int x :: st) h Q ↔ (if x < 0 then XE d 182 61 ls st h Q else XE d 182 65 ls st h Q) := g_ifge rfl
theorem s182_61 : XE d 182 61 ls st h Q ↔ XE d 182 62 ls (.int (-1) :: st) h Q := g_const rfl
theorem s182_62 : XE d 182 62 ls st h Q ↔ XE d 182 69 ls st h Q := g_goto rfl
theorem s182_65 : XE d 182 65 (c0 :: c1 :: .val (.int x) :: l) st h Q ↔ XE d 182 66 (c0 :: c1 :: .val (.int x) :: l) (.int x :: st) h Q := g_iload rfl rfl
theorem s182_66 : XE d 182 66 ls st h Q ↔ XE d 182 68 ls (.int 100 :: st) h Q := g_const rfl
theorem s182_68 : XE d 182 68 ls (.int y :: .int x :: st) h Q ↔ (y ≠ 0 ∧ XE d 182 69 ls (.int (x % y) :: st) h Q) := g_rem rfl
theorem s182_69 : XE d 182 69 ls (.int y :: .int x :: .ref a :: st) h Q ↔ XS 0 (h.2.2.1 a) x y (fun e => XE d 182 70 ls st (xset h a e) Q) := g_iast rfl
theorem s182_70 : XE d 182 70 (c0 :: .val (.int x) :: l) st h Q ↔ XE d 182 73 (c0 :: .val (.int (x + 1)) :: l) st h Q := g_iinc rfl rfl rfl
theorem s182_73 : XE d 182 73 ls st h Q ↔ XE d 182 2 ls st h Q := g_goto rfl
theorem s182_76 : XE d 182 76 (.val (.ref a) :: l) st h Q ↔ XE d 182 77 (.val (.ref a) :: l) (.ref a :: st) h Q := g_aload rfl rfl
theorem s182_77 : XE d 182 77 ls (.ref a :: st) h Q ↔ XG [12] 0 (h.2.2.1 a) (fun v => XE d 182 80 ls (v :: st) h Q) := g_getf rfl
theorem s182_80 : XE d 182 80 ls st h Q ↔ XE d 182 81 ls (.int 2 :: st) h Q := g_const rfl
theorem s182_81 : XE d 182 81 ls (.int x :: .ref a :: st) h Q ↔ XA [0, 7] (h.2.2.1 a) x (fun k => XE d 182 82 ls (.int k :: st) h Q) := g_ald rfl
theorem s182_82 : XE d 182 82 (.val (.ref a) :: l) st h Q ↔ XE d 182 83 (.val (.ref a) :: l) (.ref a :: st) h Q := g_aload rfl rfl
theorem s182_83 : XE d 182 83 ls (.ref a :: st) h Q ↔ (xvo 8 st = true ∧ XV [(12, 181)] (h.2.2.1 a) (fun m' => XC d m' [.ref a] h (fun v h' => XE d 182 86 ls (v.toList ++ st) h' Q))) := h_v0 rfl
theorem s182_86 : XE d 182 86 ls (.int y :: .int x :: st) h Q ↔ XE d 182 87 ls (.int (x - y) :: st) h Q := g_sub rfl
theorem s182_87 : XE d 182 87 ls [.int x] h Q ↔ Q (some (.int x)) h := g_iret rfl
-- 183: TwoBellsModel.unlawful(I)I
theorem e183 : XC (d + 1) 183 [.ref a, .int x] h Q ↔ XE d 183 0 [.val (.ref a), .val (.int x), .unset] [] h Q := XC_in rfl
theorem s183_0 : XE d 183 0 (c0 :: .val (.int x) :: l) st h Q ↔ XE d 183 1 (c0 :: .val (.int x) :: l) (.int x :: st) h Q := g_iload rfl rfl
theorem s183_1 : XE d 183 1 ls st h Q ↔ XE d 183 2 ls (.int 0 :: st) h Q := g_const rfl
theorem s183_2 : XE d 183 2 ls st h Q ↔ XE d 183 3 ls (.int 1 :: st) h Q := g_const rfl
theorem s183_3 : XE d 183 3 ls (.int z :: .int y :: .int x :: st) h Q ↔ (xvo 8 st = true ∧ XC d 132 [.int x, .int y, .int z] h (fun v h' => XE d 183 6 ls (v.toList ++ st) h' Q)) := h_s3 rfl rfl
theorem s183_6 : XE d 183 6 ls (.int x :: st) h Q ↔ (if x = 0 then XE d 183 9 ls st h Q else XE d 183 12 ls st h Q) := g_ifne rfl
theorem s183_9 : XE d 183 9 ls st h Q ↔ XE d 183 11 ls (.int (-1000000001) :: st) h Q := g_const rfl
theorem s183_11 : XE d 183 11 ls [.int x] h Q ↔ Q (some (.int x)) h := g_iret rfl
theorem s183_12 : XE d 183 12 (c0 :: .val (.int x) :: l) st h Q ↔ XE d 183 13 (c0 :: .val (.int x) :: l) (.int x :: st) h Q := g_iload rfl rfl
theorem s183_13 : XE d 183 13 ls (.int x :: st) h Q ↔ (if x = 0 then XE d 183 16 ls st h Q else XE d 183 21 ls st h Q) := g_ifne rfl
theorem s183_16 : XE d 183 16 (.val (.ref a) :: l) st h Q ↔ XE d 183 17 (.val (.ref a) :: l) (.ref a :: st) h Q := g_aload rfl rfl
theorem s183_17 : XE d 183 17 ls (.ref a :: st) h Q ↔ (xvo 8 st = true ∧ XV [(12, 181)] (h.2.2.1 a) (fun m' => XC d m' [.ref a] h (fun v h' => XE d 183 20 ls (v.toList ++ st) h' Q))) := h_v0 rfl
theorem s183_20 : XE d 183 20 ls [.int x] h Q ↔ Q (some (.int x)) h := g_iret rfl
theorem s183_21 : XE d 183 21 ls st h Q ↔ XE d 183 22 ls (.int 0 :: st) h Q := g_const rfl
theorem s183_22 : XE d 183 22 (c0 :: c1 :: c2 :: l) (.int x :: st) h Q ↔ XE d 183 23 (c0 :: c1 :: .val (.int x) :: l) st h Q := g_istore (Nat.lt_of_lt_of_le (show 2 < 3 by decide) (Nat.le_add_left 3 _)) rfl rfl
theorem s183_23 : XE d 183 23 (c0 :: c1 :: .val (.int x) :: l) st h Q ↔ XE d 183 24 (c0 :: c1 :: .val (.int x) :: l) (.int x :: st) h Q := g_iload rfl rfl
theorem s183_24 : XE d 183 24 (.val (.ref a) :: l) st h Q ↔ XE d 183 25 (.val (.ref a) :: l) (.ref a :: st) h Q := g_aload rfl rfl
theorem s183_25 : XE d 183 25 ls (.ref a :: st) h Q ↔ XG [12] 0 (h.2.2.1 a) (fun v => XE d 183 28 ls (v :: st) h Q) := g_getf rfl
theorem s183_28 : XE d 183 28 ls st h Q ↔ XE d 183 29 ls (.int 2 :: st) h Q := g_const rfl
theorem s183_29 : XE d 183 29 ls (.int x :: .ref a :: st) h Q ↔ XA [0, 7] (h.2.2.1 a) x (fun k => XE d 183 30 ls (.int k :: st) h Q) := g_ald rfl
theorem s183_30 : XE d 183 30 ls (.int y :: .int x :: st) h Q ↔ (if x < y then XE d 183 33 ls st h Q else XE d 183 47 ls st h Q) := g_cge rfl
theorem s183_33 : XE d 183 33 (.val (.ref a) :: l) st h Q ↔ XE d 183 34 (.val (.ref a) :: l) (.ref a :: st) h Q := g_aload rfl rfl
theorem s183_34 : XE d 183 34 (c0 :: c1 :: .val (.int x) :: l) st h Q ↔ XE d 183 35 (c0 :: c1 :: .val (.int x) :: l) (.int x :: st) h Q := g_iload rfl rfl
theorem s183_35 : XE d 183 35 ls (.int x :: .ref a :: st) h Q ↔ (xvo 8 st = true ∧ XV [(12, 157)] (h.2.2.1 a) (fun m' => XC d m' [.ref a, .int x] h (fun v h' => XE d 183 38 ls (v.toList ++ st) h' Q))) := h_v1 rfl rfl
theorem s183_38 : XE d 183 38 ls (.int x :: st) h Q ↔ (if x = 0 then XE d 183 47 ls st h Q else XE d 183 41 ls st h Q) := g_ifeq rfl
theorem s183_41 : XE d 183 41 (c0 :: c1 :: .val (.int x) :: l) st h Q ↔ XE d 183 44 (c0 :: c1 :: .val (.int (x + 1)) :: l) st h Q := g_iinc rfl rfl rfl
theorem s183_44 : XE d 183 44 ls st h Q ↔ XE d 183 23 ls st h Q := g_goto rfl
theorem s183_47 : XE d 183 47 (c0 :: c1 :: .val (.int x) :: l) st h Q ↔ XE d 183 48 (c0 :: c1 :: .val (.int x) :: l) (.int x :: st) h Q := g_iload rfl rfl
theorem s183_48 : XE d 183 48 (.val (.ref a) :: l) st h Q ↔ XE d 183 49 (.val (.ref a) :: l) (.ref a :: st) h Q := g_aload rfl rfl
theorem s183_49 : XE d 183 49 ls (.ref a :: st) h Q ↔ XG [12] 0 (h.2.2.1 a) (fun v => XE d 183 52 ls (v :: st) h Q) := g_getf rfl
theorem s183_52 : XE d 183 52 ls st h Q ↔ XE d 183 53 ls (.int 2 :: st) h Q := g_const rfl
theorem s183_53 : XE d 183 53 ls (.int x :: .ref a :: st) h Q ↔ XA [0, 7] (h.2.2.1 a) x (fun k => XE d 183 54 ls (.int k :: st) h Q) := g_ald rfl
theorem s183_54 : XE d 183 54 ls (.int y :: .int x :: st) h Q ↔ (if x < y then XE d 183 57 ls st h Q else XE d 183 61 ls st h Q) := g_cge rfl
theorem s183_57 : XE d 183 57 (c0 :: c1 :: .val (.int x) :: l) st h Q ↔ XE d 183 58 (c0 :: c1 :: .val (.int x) :: l) (.int x :: st) h Q := g_iload rfl rfl
theorem s183_58 : XE d 183 58 ls st h Q ↔ XE d 183 63 ls st h Q := g_goto rfl
theorem s183_61 : XE d 183 61 ls st h Q ↔ XE d 183 63 ls (.int (-1000000005) :: st) h Q := g_const rfl
theorem s183_63 : XE d 183 63 ls [.int x] h Q ↔ Q (some (.int x)) h := g_iret rfl
-- 184: TwoBellsModel.worst(I)I
theorem e184 : XC (d + 1) 184 [.ref a, .int x] h Q ↔ XE d 184 0 [.val (.ref a), .val (.int x), .unset, .unset, .unset, .unset, .unset, .unset] [] h Q := XC_in rfl
theorem s184_0 : XE d 184 0 (c0 :: .val (.int x) :: l) st h Q ↔ XE d 184 1 (c0 :: .val (.int x) :: l) (.int x :: st) h Q := g_iload rfl rfl
theorem s184_1 : XE d 184 1 ls st h Q ↔ XE d 184 2 ls (.int 0 :: st) h Q := g_const rfl
theorem s184_2 : XE d 184 2 ls st h Q ↔ XE d 184 3 ls (.int 2 :: st) h Q := g_const rfl
theorem s184_3 : XE d 184 3 ls (.int z :: .int y :: .int x :: st) h Q ↔ (xvo 8 st = true ∧ XC d 132 [.int x, .int y, .int z] h (fun v h' => XE d 184 6 ls (v.toList ++ st) h' Q)) := h_s3 rfl rfl
theorem s184_6 : XE d 184 6 ls (.int x :: st) h Q ↔ (if x = 0 then XE d 184 9 ls st h Q else XE d 184 12 ls st h Q) := g_ifne rfl
theorem s184_9 : XE d 184 9 ls st h Q ↔ XE d 184 11 ls (.int (-1000000001) :: st) h Q := g_const rfl
theorem s184_11 : XE d 184 11 ls [.int x] h Q ↔ Q (some (.int x)) h := g_iret rfl
theorem s184_12 : XE d 184 12 ls st h Q ↔ XE d 184 13 ls (.int (-1) :: st) h Q := g_const rfl
theorem s184_13 : XE d 184 13 (c0 :: c1 :: c2 :: l) (.int x :: st) h Q ↔ XE d 184 14 (c0 :: c1 :: .val (.int x) :: l) st h Q := g_istore (Nat.lt_of_lt_of_le (show 2 < 3 by decide) (Nat.le_add_left 3 _)) rfl rfl
theorem s184_14 : XE d 184 14 ls st h Q ↔ XE d 184 15 ls (.int (-1) :: st) h Q := g_const rfl
theorem s184_15 : XE d 184 15 (c0 :: c1 :: c2 :: c3 :: l) (.int x :: st) h Q ↔ XE d 184 16 (c0 :: c1 :: c2 :: .val (.int x) :: l) st h Q := g_istore (Nat.lt_of_lt_of_le (show 3 < 4 by decide) (Nat.le_add_left 4 _)) rfl rfl
theorem s184_16 : XE d 184 16 ls st h Q ↔ XE d 184 17 ls (.int (-1) :: st) h Q := g_const rfl
theorem s184_17 : XE d 184 17 (c0 :: c1 :: c2 :: c3 :: c4 :: l) (.int x :: st) h Q ↔ XE d 184 19 (c0 :: c1 :: c2 :: c3 :: .val (.int x) :: l) st h Q := g_istore (Nat.lt_of_lt_of_le (show 4 < 5 by decide) (Nat.le_add_left 5 _)) rfl rfl
theorem s184_19 : XE d 184 19 ls st h Q ↔ XE d 184 20 ls (.int 0 :: st) h Q := g_const rfl
theorem s184_20 : XE d 184 20 (c0 :: c1 :: c2 :: c3 :: c4 :: c5 :: l) (.int x :: st) h Q ↔ XE d 184 22 (c0 :: c1 :: c2 :: c3 :: c4 :: .val (.int x) :: l) st h Q := g_istore (Nat.lt_of_lt_of_le (show 5 < 6 by decide) (Nat.le_add_left 6 _)) rfl rfl
theorem s184_22 : XE d 184 22 (c0 :: c1 :: c2 :: c3 :: c4 :: .val (.int x) :: l) st h Q ↔ XE d 184 24 (c0 :: c1 :: c2 :: c3 :: c4 :: .val (.int x) :: l) (.int x :: st) h Q := g_iload rfl rfl
theorem s184_24 : XE d 184 24 (.val (.ref a) :: l) st h Q ↔ XE d 184 25 (.val (.ref a) :: l) (.ref a :: st) h Q := g_aload rfl rfl
theorem s184_25 : XE d 184 25 ls (.ref a :: st) h Q ↔ XG [12] 0 (h.2.2.1 a) (fun v => XE d 184 28 ls (v :: st) h Q) := g_getf rfl
theorem s184_28 : XE d 184 28 ls st h Q ↔ XE d 184 29 ls (.int 3 :: st) h Q := g_const rfl
theorem s184_29 : XE d 184 29 ls (.int x :: .ref a :: st) h Q ↔ XA [0, 7] (h.2.2.1 a) x (fun k => XE d 184 30 ls (.int k :: st) h Q) := g_ald rfl
theorem s184_30 : XE d 184 30 ls (.int y :: .int x :: st) h Q ↔ (if x < y then XE d 184 33 ls st h Q else XE d 184 111 ls st h Q) := g_cge rfl
theorem s184_33 : XE d 184 33 (.val (.ref a) :: l) st h Q ↔ XE d 184 34 (.val (.ref a) :: l) (.ref a :: st) h Q := g_aload rfl rfl
theorem s184_34 : XE d 184 34 (c0 :: c1 :: c2 :: c3 :: c4 :: .val (.int x) :: l) st h Q ↔ XE d 184 36 (c0 :: c1 :: c2 :: c3 :: c4 :: .val (.int x) :: l) (.int x :: st) h Q := g_iload rfl rfl
theorem s184_36 : XE d 184 36 ls st h Q ↔ XE d 184 37 ls (.int 0 :: st) h Q := g_const rfl
theorem s184_37 : XE d 184 37 ls (.int y :: .int x :: .ref a :: st) h Q ↔ (xvo 8 st = true ∧ XV [(12, 173)] (h.2.2.1 a) (fun m' => XC d m' [.ref a, .int x, .int y] h (fun v h' => XE d 184 40 ls (v.toList ++ st) h' Q))) := h_v2 rfl rfl
theorem s184_40 : XE d 184 40 (c0 :: c1 :: c2 :: c3 :: c4 :: c5 :: c6 :: l) (.int x :: st) h Q ↔ XE d 184 42 (c0 :: c1 :: c2 :: c3 :: c4 :: c5 :: .val (.int x) :: l) st h Q := g_istore (Nat.lt_of_lt_of_le (show 6 < 7 by decide) (Nat.le_add_left 7 _)) rfl rfl
theorem s184_42 : XE d 184 42 (c0 :: c1 :: c2 :: c3 :: c4 :: c5 :: .val (.int x) :: l) st h Q ↔ XE d 184 44 (c0 :: c1 :: c2 :: c3 :: c4 :: c5 :: .val (.int x) :: l) (.int x :: st) h Q := g_iload rfl rfl
theorem s184_44 : XE d 184 44 ls (.int x :: st) h Q ↔ (if x < 0 then XE d 184 47 ls st h Q else XE d 184 51 ls st h Q) := g_ifge rfl
theorem s184_47 : XE d 184 47 ls st h Q ↔ XE d 184 48 ls (.int (-1) :: st) h Q := g_const rfl
theorem s184_48 : XE d 184 48 ls st h Q ↔ XE d 184 59 ls st h Q := g_goto rfl
theorem s184_51 : XE d 184 51 (.val (.ref a) :: l) st h Q ↔ XE d 184 52 (.val (.ref a) :: l) (.ref a :: st) h Q := g_aload rfl rfl
theorem s184_52 : XE d 184 52 (c0 :: c1 :: c2 :: c3 :: c4 :: .val (.int x) :: l) st h Q ↔ XE d 184 54 (c0 :: c1 :: c2 :: c3 :: c4 :: .val (.int x) :: l) (.int x :: st) h Q := g_iload rfl rfl
theorem s184_54 : XE d 184 54 (c0 :: c1 :: c2 :: c3 :: c4 :: c5 :: .val (.int x) :: l) st h Q ↔ XE d 184 56 (c0 :: c1 :: c2 :: c3 :: c4 :: c5 :: .val (.int x) :: l) (.int x :: st) h Q := g_iload rfl rfl
theorem s184_56 : XE d 184 56 ls (.int y :: .int x :: .ref a :: st) h Q ↔ (xvo 8 st = true ∧ XV [(12, 169)] (h.2.2.1 a) (fun m' => XC d m' [.ref a, .int x, .int y] h (fun v h' => XE d 184 59 ls (v.toList ++ st) h' Q))) := h_v2 rfl rfl
theorem s184_59 : XE d 184 59 (c0 :: c1 :: c2 :: c3 :: c4 :: c5 :: c6 :: c7 :: l) (.int x :: st) h Q ↔ XE d 184 61 (c0 :: c1 :: c2 :: c3 :: c4 :: c5 :: c6 :: .val (.int x) :: l) st h Q := g_istore (Nat.lt_of_lt_of_le (show 7 < 8 by decide) (Nat.le_add_left 8 _)) rfl rfl
theorem s184_61 : XE d 184 61 (c0 :: c1 :: c2 :: c3 :: c4 :: c5 :: c6 :: .val (.int x) :: l) st h Q ↔ XE d 184 63 (c0 :: c1 :: c2 :: c3 :: c4 :: c5 :: c6 :: .val (.int x) :: l) (.int x :: st) h Q := g_iload rfl rfl
theorem s184_63 : XE d 184 63 (c0 :: c1 :: c2 :: c3 :: .val (.int x) :: l) st h Q ↔ XE d 184 65 (c0 :: c1 :: c2 :: c3 :: .val (.int x) :: l) (.int x :: st) h Q := g_iload rfl rfl
theorem s184_65 : XE d 184 65 ls (.int y :: .int x :: st) h Q ↔ (if y < x then XE d 184 68 ls st h Q else XE d 184 73 ls st h Q) := g_cle rfl
theorem s184_68 : XE d 184 68 (c0 :: c1 :: c2 :: c3 :: c4 :: .val (.int x) :: l) st h Q ↔ XE d 184 70 (c0 :: c1 :: c2 :: c3 :: c4 :: .val (.int x) :: l) (.int x :: st) h Q := g_iload rfl rfl
theorem s184_70 : XE d 184 70 ls st h Q ↔ XE d 184 74 ls st h Q := g_goto rfl
theorem s184_73 : XE d 184 73 (c0 :: c1 :: .val (.int x) :: l) st h Q ↔ XE d 184 74 (c0 :: c1 :: .val (.int x) :: l) (.int x :: st) h Q := g_iload rfl rfl
theorem s184_74 : XE d 184 74 (c0 :: c1 :: c2 :: l) (.int x :: st) h Q ↔ XE d 184 75 (c0 :: c1 :: .val (.int x) :: l) st h Q := g_istore (Nat.lt_of_lt_of_le (show 2 < 3 by decide) (Nat.le_add_left 3 _)) rfl rfl
theorem s184_75 : XE d 184 75 (c0 :: c1 :: c2 :: c3 :: c4 :: c5 :: c6 :: .val (.int x) :: l) st h Q ↔ XE d 184 77 (c0 :: c1 :: c2 :: c3 :: c4 :: c5 :: c6 :: .val (.int x) :: l) (.int x :: st) h Q := g_iload rfl rfl
theorem s184_77 : XE d 184 77 (c0 :: c1 :: c2 :: c3 :: .val (.int x) :: l) st h Q ↔ XE d 184 79 (c0 :: c1 :: c2 :: c3 :: .val (.int x) :: l) (.int x :: st) h Q := g_iload rfl rfl
theorem s184_79 : XE d 184 79 ls (.int y :: .int x :: st) h Q ↔ (if y < x then XE d 184 82 ls st h Q else XE d 184 87 ls st h Q) := g_cle rfl
theorem s184_82 : XE d 184 82 (c0 :: c1 :: c2 :: c3 :: c4 :: c5 :: .val (.int x) :: l) st h Q ↔ XE d 184 84 (c0 :: c1 :: c2 :: c3 :: c4 :: c5 :: .val (.int x) :: l) (.int x :: st) h Q := g_iload rfl rfl
theorem s184_84 : XE d 184 84 ls st h Q ↔ XE d 184 88 ls st h Q := g_goto rfl
theorem s184_87 : XE d 184 87 (c0 :: c1 :: c2 :: .val (.int x) :: l) st h Q ↔ XE d 184 88 (c0 :: c1 :: c2 :: .val (.int x) :: l) (.int x :: st) h Q := g_iload rfl rfl
theorem s184_88 : XE d 184 88 (c0 :: c1 :: c2 :: c3 :: l) (.int x :: st) h Q ↔ XE d 184 89 (c0 :: c1 :: c2 :: .val (.int x) :: l) st h Q := g_istore (Nat.lt_of_lt_of_le (show 3 < 4 by decide) (Nat.le_add_left 4 _)) rfl rfl
theorem s184_89 : XE d 184 89 (c0 :: c1 :: c2 :: c3 :: c4 :: c5 :: c6 :: .val (.int x) :: l) st h Q ↔ XE d 184 91 (c0 :: c1 :: c2 :: c3 :: c4 :: c5 :: c6 :: .val (.int x) :: l) (.int x :: st) h Q := g_iload rfl rfl
theorem s184_91 : XE d 184 91 (c0 :: c1 :: c2 :: c3 :: .val (.int x) :: l) st h Q ↔ XE d 184 93 (c0 :: c1 :: c2 :: c3 :: .val (.int x) :: l) (.int x :: st) h Q := g_iload rfl rfl
theorem s184_93 : XE d 184 93 ls (.int y :: .int x :: st) h Q ↔ (if y < x then XE d 184 96 ls st h Q else XE d 184 101 ls st h Q) := g_cle rfl
theorem s184_96 : XE d 184 96 (c0 :: c1 :: c2 :: c3 :: c4 :: c5 :: c6 :: .val (.int x) :: l) st h Q ↔ XE d 184 98 (c0 :: c1 :: c2 :: c3 :: c4 :: c5 :: c6 :: .val (.int x) :: l) (.int x :: st) h Q := g_iload rfl rfl
theorem s184_98 : XE d 184 98 ls st h Q ↔ XE d 184 103 ls st h Q := g_goto rfl
theorem s184_101 : XE d 184 101 (c0 :: c1 :: c2 :: c3 :: .val (.int x) :: l) st h Q ↔ XE d 184 103 (c0 :: c1 :: c2 :: c3 :: .val (.int x) :: l) (.int x :: st) h Q := g_iload rfl rfl
theorem s184_103 : XE d 184 103 (c0 :: c1 :: c2 :: c3 :: c4 :: l) (.int x :: st) h Q ↔ XE d 184 105 (c0 :: c1 :: c2 :: c3 :: .val (.int x) :: l) st h Q := g_istore (Nat.lt_of_lt_of_le (show 4 < 5 by decide) (Nat.le_add_left 5 _)) rfl rfl
theorem s184_105 : XE d 184 105 (c0 :: c1 :: c2 :: c3 :: c4 :: .val (.int x) :: l) st h Q ↔ XE d 184 108 (c0 :: c1 :: c2 :: c3 :: c4 :: .val (.int (x + 1)) :: l) st h Q := g_iinc rfl rfl rfl
theorem s184_108 : XE d 184 108 ls st h Q ↔ XE d 184 22 ls st h Q := g_goto rfl
theorem s184_111 : XE d 184 111 (c0 :: .val (.int x) :: l) st h Q ↔ XE d 184 112 (c0 :: .val (.int x) :: l) (.int x :: st) h Q := g_iload rfl rfl
theorem s184_112 : XE d 184 112 ls (.int x :: st) h Q ↔ (if x = 0 then XE d 184 115 ls st h Q else XE d 184 119 ls st h Q) := g_ifne rfl
theorem s184_115 : XE d 184 115 (c0 :: c1 :: .val (.int x) :: l) st h Q ↔ XE d 184 116 (c0 :: c1 :: .val (.int x) :: l) (.int x :: st) h Q := g_iload rfl rfl
theorem s184_116 : XE d 184 116 ls st h Q ↔ XE d 184 130 ls st h Q := g_goto rfl
theorem s184_119 : XE d 184 119 (c0 :: .val (.int x) :: l) st h Q ↔ XE d 184 120 (c0 :: .val (.int x) :: l) (.int x :: st) h Q := g_iload rfl rfl
theorem s184_120 : XE d 184 120 ls st h Q ↔ XE d 184 121 ls (.int 1 :: st) h Q := g_const rfl
theorem s184_121 : XE d 184 121 ls (.int y :: .int x :: st) h Q ↔ (if x = y then XE d 184 124 ls st h Q else XE d 184 128 ls st h Q) := g_cne rfl
theorem s184_124 : XE d 184 124 (c0 :: c1 :: c2 :: .val (.int x) :: l) st h Q ↔ XE d 184 125 (c0 :: c1 :: c2 :: .val (.int x) :: l) (.int x :: st) h Q := g_iload rfl rfl
theorem s184_125 : XE d 184 125 ls st h Q ↔ XE d 184 130 ls st h Q := g_goto rfl
theorem s184_128 : XE d 184 128 (c0 :: c1 :: c2 :: c3 :: .val (.int x) :: l) st h Q ↔ XE d 184 130 (c0 :: c1 :: c2 :: c3 :: .val (.int x) :: l) (.int x :: st) h Q := g_iload rfl rfl
theorem s184_130 : XE d 184 130 ls (.int x :: st) h Q ↔ (xvo 8 st = true ∧ XC d 135 [.int x] h (fun v h' => XE d 184 133 ls (v.toList ++ st) h' Q)) := h_s1 rfl rfl
theorem s184_133 : XE d 184 133 ls [.int x] h Q ↔ Q (some (.int x)) h := g_iret rfl
-- 185: TwoBellsModel.setOf(I)I
theorem e185 : XC (d + 1) 185 [.ref a, .int x] h Q ↔ XE d 185 0 [.val (.ref a), .val (.int x), .unset, .unset] [] h Q := XC_in rfl
theorem s185_0 : XE d 185 0 ls st h Q ↔ XE d 185 1 ls (.int 0 :: st) h Q := g_const rfl
theorem s185_1 : XE d 185 1 (c0 :: c1 :: c2 :: l) (.int x :: st) h Q ↔ XE d 185 2 (c0 :: c1 :: .val (.int x) :: l) st h Q := g_istore (Nat.lt_of_lt_of_le (show 2 < 3 by decide) (Nat.le_add_left 3 _)) rfl rfl
theorem s185_2 : XE d 185 2 ls st h Q ↔ XE d 185 3 ls (.int 0 :: st) h Q := g_const rfl
theorem s185_3 : XE d 185 3 (c0 :: c1 :: c2 :: c3 :: l) (.int x :: st) h Q ↔ XE d 185 4 (c0 :: c1 :: c2 :: .val (.int x) :: l) st h Q := g_istore (Nat.lt_of_lt_of_le (show 3 < 4 by decide) (Nat.le_add_left 4 _)) rfl rfl
theorem s185_4 : XE d 185 4 (c0 :: c1 :: c2 :: .val (.int x) :: l) st h Q ↔ XE d 185 5 (c0 :: c1 :: c2 :: .val (.int x) :: l) (.int x :: st) h Q := g_iload rfl rfl
theorem s185_5 : XE d 185 5 ls st h Q ↔ XE d 185 6 ls (.int 2 :: st) h Q := g_const rfl
theorem s185_6 : XE d 185 6 ls (.int y :: .int x :: st) h Q ↔ (if x < y then XE d 185 9 ls st h Q else XE d 185 43 ls st h Q) := g_cge rfl
theorem s185_9 : XE d 185 9 (c0 :: c1 :: .val (.int x) :: l) st h Q ↔ XE d 185 10 (c0 :: c1 :: .val (.int x) :: l) (.int x :: st) h Q := g_iload rfl rfl
theorem s185_10 : XE d 185 10 (.val (.ref a) :: l) st h Q ↔ XE d 185 11 (.val (.ref a) :: l) (.ref a :: st) h Q := g_aload rfl rfl
theorem s185_11 : XE d 185 11 (c0 :: .val (.int x) :: l) st h Q ↔ XE d 185 12 (c0 :: .val (.int x) :: l) (.int x :: st) h Q := g_iload rfl rfl
theorem s185_12 : XE d 185 12 ls st h Q ↔ XE d 185 13 ls (.int 3 :: st) h Q := g_const rfl
theorem s185_13 : XE d 185 13 (c0 :: c1 :: c2 :: .val (.int x) :: l) st h Q ↔ XE d 185 14 (c0 :: c1 :: c2 :: .val (.int x) :: l) (.int x :: st) h Q := g_iload rfl rfl
theorem s185_14 : XE d 185 14 ls (.int y :: .int x :: st) h Q ↔ XE d 185 15 ls (.int (x + y) :: st) h Q := g_add rfl
theorem s185_15 : XE d 185 15 ls (.int y :: .int x :: .ref a :: st) h Q ↔ (xvo 8 st = true ∧ XV [(12, 140)] (h.2.2.1 a) (fun m' => XC d m' [.ref a, .int x, .int y] h (fun v h' => XE d 185 18 ls (v.toList ++ st) h' Q))) := h_v2 rfl rfl
theorem s185_18 : XE d 185 18 ls (.int x :: st) h Q ↔ (if x < 0 then XE d 185 21 ls st h Q else XE d 185 25 ls st h Q) := g_ifge rfl
theorem s185_21 : XE d 185 21 ls st h Q ↔ XE d 185 22 ls (.int 0 :: st) h Q := g_const rfl
theorem s185_22 : XE d 185 22 ls st h Q ↔ XE d 185 35 ls st h Q := g_goto rfl
theorem s185_25 : XE d 185 25 ls st h Q ↔ XE d 185 26 ls (.int 1 :: st) h Q := g_const rfl
theorem s185_26 : XE d 185 26 (.val (.ref a) :: l) st h Q ↔ XE d 185 27 (.val (.ref a) :: l) (.ref a :: st) h Q := g_aload rfl rfl
theorem s185_27 : XE d 185 27 (c0 :: .val (.int x) :: l) st h Q ↔ XE d 185 28 (c0 :: .val (.int x) :: l) (.int x :: st) h Q := g_iload rfl rfl
theorem s185_28 : XE d 185 28 ls st h Q ↔ XE d 185 29 ls (.int 3 :: st) h Q := g_const rfl
theorem s185_29 : XE d 185 29 (c0 :: c1 :: c2 :: .val (.int x) :: l) st h Q ↔ XE d 185 30 (c0 :: c1 :: c2 :: .val (.int x) :: l) (.int x :: st) h Q := g_iload rfl rfl
theorem s185_30 : XE d 185 30 ls (.int y :: .int x :: st) h Q ↔ XE d 185 31 ls (.int (x + y) :: st) h Q := g_add rfl
theorem s185_31 : XE d 185 31 ls (.int y :: .int x :: .ref a :: st) h Q ↔ (xvo 8 st = true ∧ XV [(12, 140)] (h.2.2.1 a) (fun m' => XC d m' [.ref a, .int x, .int y] h (fun v h' => XE d 185 34 ls (v.toList ++ st) h' Q))) := h_v2 rfl rfl
theorem s185_34 : XE d 185 34 ls (.int y :: .int x :: st) h Q ↔ XE d 185 35 ls (.int (xshl x y) :: st) h Q := g_shl rfl
theorem s185_35 : XE d 185 35 ls (.int y :: .int x :: st) h Q ↔ XE d 185 36 ls (.int (x ||| y) :: st) h Q := g_or rfl
theorem s185_36 : XE d 185 36 (c0 :: c1 :: c2 :: l) (.int x :: st) h Q ↔ XE d 185 37 (c0 :: c1 :: .val (.int x) :: l) st h Q := g_istore (Nat.lt_of_lt_of_le (show 2 < 3 by decide) (Nat.le_add_left 3 _)) rfl rfl
theorem s185_37 : XE d 185 37 (c0 :: c1 :: c2 :: .val (.int x) :: l) st h Q ↔ XE d 185 40 (c0 :: c1 :: c2 :: .val (.int (x + 1)) :: l) st h Q := g_iinc rfl rfl rfl
theorem s185_40 : XE d 185 40 ls st h Q ↔ XE d 185 4 ls st h Q := g_goto rfl
theorem s185_43 : XE d 185 43 (c0 :: c1 :: .val (.int x) :: l) st h Q ↔ XE d 185 44 (c0 :: c1 :: .val (.int x) :: l) (.int x :: st) h Q := g_iload rfl rfl
theorem s185_44 : XE d 185 44 ls [.int x] h Q ↔ Q (some (.int x)) h := g_iret rfl
-- 186: TwoBellsModel.heardBy(I)I
theorem e186 : XC (d + 1) 186 [.ref a, .int x] h Q ↔ XE d 186 0 [.val (.ref a), .val (.int x), .unset, .unset] [] h Q := XC_in rfl
theorem s186_0 : XE d 186 0 ls st h Q ↔ XE d 186 1 ls (.int 0 :: st) h Q := g_const rfl
theorem s186_1 : XE d 186 1 (c0 :: c1 :: c2 :: l) (.int x :: st) h Q ↔ XE d 186 2 (c0 :: c1 :: .val (.int x) :: l) st h Q := g_istore (Nat.lt_of_lt_of_le (show 2 < 3 by decide) (Nat.le_add_left 3 _)) rfl rfl
theorem s186_2 : XE d 186 2 ls st h Q ↔ XE d 186 3 ls (.int 0 :: st) h Q := g_const rfl
theorem s186_3 : XE d 186 3 (c0 :: c1 :: c2 :: c3 :: l) (.int x :: st) h Q ↔ XE d 186 4 (c0 :: c1 :: c2 :: .val (.int x) :: l) st h Q := g_istore (Nat.lt_of_lt_of_le (show 3 < 4 by decide) (Nat.le_add_left 4 _)) rfl rfl
theorem s186_4 : XE d 186 4 (c0 :: c1 :: c2 :: .val (.int x) :: l) st h Q ↔ XE d 186 5 (c0 :: c1 :: c2 :: .val (.int x) :: l) (.int x :: st) h Q := g_iload rfl rfl
theorem s186_5 : XE d 186 5 (.val (.ref a) :: l) st h Q ↔ XE d 186 6 (.val (.ref a) :: l) (.ref a :: st) h Q := g_aload rfl rfl
theorem s186_6 : XE d 186 6 ls (.ref a :: st) h Q ↔ XG [12] 0 (h.2.2.1 a) (fun v => XE d 186 9 ls (v :: st) h Q) := g_getf rfl
theorem s186_9 : XE d 186 9 ls st h Q ↔ XE d 186 10 ls (.int 2 :: st) h Q := g_const rfl
theorem s186_10 : XE d 186 10 ls (.int x :: .ref a :: st) h Q ↔ XA [0, 7] (h.2.2.1 a) x (fun k => XE d 186 11 ls (.int k :: st) h Q) := g_ald rfl
theorem s186_11 : XE d 186 11 ls (.int y :: .int x :: st) h Q ↔ (if x < y then XE d 186 14 ls st h Q else XE d 186 40 ls st h Q) := g_cge rfl
theorem s186_14 : XE d 186 14 (c0 :: c1 :: .val (.int x) :: l) st h Q ↔ XE d 186 15 (c0 :: c1 :: .val (.int x) :: l) (.int x :: st) h Q := g_iload rfl rfl
theorem s186_15 : XE d 186 15 (.val (.ref a) :: l) st h Q ↔ XE d 186 16 (.val (.ref a) :: l) (.ref a :: st) h Q := g_aload rfl rfl
theorem s186_16 : XE d 186 16 (c0 :: c1 :: c2 :: .val (.int x) :: l) st h Q ↔ XE d 186 17 (c0 :: c1 :: c2 :: .val (.int x) :: l) (.int x :: st) h Q := g_iload rfl rfl
theorem s186_17 : XE d 186 17 ls (.int x :: .ref a :: st) h Q ↔ (xvo 8 st = true ∧ XV [(12, 185)] (h.2.2.1 a) (fun m' => XC d m' [.ref a, .int x] h (fun v h' => XE d 186 20 ls (v.toList ++ st) h' Q))) := h_v1 rfl rfl
theorem s186_20 : XE d 186 20 (c0 :: .val (.int x) :: l) st h Q ↔ XE d 186 21 (c0 :: .val (.int x) :: l) (.int x :: st) h Q := g_iload rfl rfl
theorem s186_21 : XE d 186 21 ls (.int y :: .int x :: st) h Q ↔ XE d 186 22 ls (.int (x &&& y) :: st) h Q := g_and rfl
theorem s186_22 : XE d 186 22 ls (.int x :: st) h Q ↔ (if x = 0 then XE d 186 31 ls st h Q else XE d 186 25 ls st h Q) := g_ifeq rfl
theorem s186_25 : XE d 186 25 ls st h Q ↔ XE d 186 26 ls (.int 1 :: st) h Q := g_const rfl
theorem s186_26 : XE d 186 26 (c0 :: c1 :: c2 :: .val (.int x) :: l) st h Q ↔ XE d 186 27 (c0 :: c1 :: c2 :: .val (.int x) :: l) (.int x :: st) h Q := g_iload rfl rfl
theorem s186_27 : XE d 186 27 ls (.int y :: .int x :: st) h Q ↔ XE d 186 28 ls (.int (xshl x y) :: st) h Q := g_shl rfl
theorem s186_28 : XE d 186 28 ls st h Q ↔ XE d 186 32 ls st h Q := g_goto rfl
theorem s186_31 : XE d 186 31 ls st h Q ↔ XE d 186 32 ls (.int 0 :: st) h Q := g_const rfl
theorem s186_32 : XE d 186 32 ls (.int y :: .int x :: st) h Q ↔ XE d 186 33 ls (.int (x ||| y) :: st) h Q := g_or rfl
theorem s186_33 : XE d 186 33 (c0 :: c1 :: c2 :: l) (.int x :: st) h Q ↔ XE d 186 34 (c0 :: c1 :: .val (.int x) :: l) st h Q := g_istore (Nat.lt_of_lt_of_le (show 2 < 3 by decide) (Nat.le_add_left 3 _)) rfl rfl
theorem s186_34 : XE d 186 34 (c0 :: c1 :: c2 :: .val (.int x) :: l) st h Q ↔ XE d 186 37 (c0 :: c1 :: c2 :: .val (.int (x + 1)) :: l) st h Q := g_iinc rfl rfl rfl
theorem s186_37 : XE d 186 37 ls st h Q ↔ XE d 186 4 ls st h Q := g_goto rfl
theorem s186_40 : XE d 186 40 (c0 :: c1 :: .val (.int x) :: l) st h Q ↔ XE d 186 41 (c0 :: c1 :: .val (.int x) :: l) (.int x :: st) h Q := g_iload rfl rfl
theorem s186_41 : XE d 186 41 ls [.int x] h Q ↔ Q (some (.int x)) h := g_iret rfl
-- 187: TwoBellsModel.heard(I)I
theorem e187 : XC (d + 1) 187 [.ref a, .int x] h Q ↔ XE d 187 0 [.val (.ref a), .val (.int x)] [] h Q := XC_in rfl
theorem s187_0 : XE d 187 0 (c0 :: .val (.int x) :: l) st h Q ↔ XE d 187 1 (c0 :: .val (.int x) :: l) (.int x :: st) h Q := g_iload rfl rfl
theorem s187_1 : XE d 187 1 ls (.int x :: st) h Q ↔ (if x < 0 then XE d 187 15 ls st h Q else XE d 187 4 ls st h Q) := g_iflt rfl
theorem s187_4 : XE d 187 4 (c0 :: .val (.int x) :: l) st h Q ↔ XE d 187 5 (c0 :: .val (.int x) :: l) (.int x :: st) h Q := g_iload rfl rfl
theorem s187_5 : XE d 187 5 (.val (.ref a) :: l) st h Q ↔ XE d 187 6 (.val (.ref a) :: l) (.ref a :: st) h Q := g_aload rfl rfl
theorem s187_6 : XE d 187 6 ls (.ref a :: st) h Q ↔ XG [12] 0 (h.2.2.1 a) (fun v => XE d 187 9 ls (v :: st) h Q) := g_getf rfl
theorem s187_9 : XE d 187 9 ls st h Q ↔ XE d 187 10 ls (.int 1 :: st) h Q := g_const rfl
theorem s187_10 : XE d 187 10 ls (.int x :: .ref a :: st) h Q ↔ XA [0, 7] (h.2.2.1 a) x (fun k => XE d 187 11 ls (.int k :: st) h Q) := g_ald rfl
theorem s187_11 : XE d 187 11 ls (.int y :: .int x :: st) h Q ↔ XE d 187 12 ls (.int (xshr x y) :: st) h Q := g_shr rfl
theorem s187_12 : XE d 187 12 ls (.int x :: st) h Q ↔ (if x = 0 then XE d 187 20 ls st h Q else XE d 187 15 ls st h Q) := g_ifeq rfl
theorem s187_15 : XE d 187 15 ls st h Q ↔ XE d 187 17 ls (.int (-1000000001) :: st) h Q := g_const rfl
theorem s187_17 : XE d 187 17 ls st h Q ↔ XE d 187 25 ls st h Q := g_goto rfl
theorem s187_20 : XE d 187 20 (.val (.ref a) :: l) st h Q ↔ XE d 187 21 (.val (.ref a) :: l) (.ref a :: st) h Q := g_aload rfl rfl
theorem s187_21 : XE d 187 21 (c0 :: .val (.int x) :: l) st h Q ↔ XE d 187 22 (c0 :: .val (.int x) :: l) (.int x :: st) h Q := g_iload rfl rfl
theorem s187_22 : XE d 187 22 ls (.int x :: .ref a :: st) h Q ↔ (xvo 8 st = true ∧ XV [(12, 186)] (h.2.2.1 a) (fun m' => XC d m' [.ref a, .int x] h (fun v h' => XE d 187 25 ls (v.toList ++ st) h' Q))) := h_v1 rfl rfl
theorem s187_25 : XE d 187 25 ls [.int x] h Q ↔ Q (some (.int x)) h := g_iret rfl
-- 188: TwoBellsModel.bitsOf(I)I
theorem e188 : XC (d + 1) 188 [.int x] h Q ↔ XE d 188 0 [.val (.int x), .unset, .unset] [] h Q := XC_in rfl
theorem s188_0 : XE d 188 0 ls st h Q ↔ XE d 188 1 ls (.int 0 :: st) h Q := g_const rfl
theorem s188_1 : XE d 188 1 (c0 :: c1 :: l) (.int x :: st) h Q ↔ XE d 188 2 (c0 :: .val (.int x) :: l) st h Q := g_istore (Nat.lt_of_lt_of_le (show 1 < 2 by decide) (Nat.le_add_left 2 _)) rfl rfl
theorem s188_2 : XE d 188 2 (.val (.int x) :: l) st h Q ↔ XE d 188 3 (.val (.int x) :: l) (.int x :: st) h Q := g_iload rfl rfl
theorem s188_3 : XE d 188 3 (c0 :: c1 :: c2 :: l) (.int x :: st) h Q ↔ XE d 188 4 (c0 :: c1 :: .val (.int x) :: l) st h Q := g_istore (Nat.lt_of_lt_of_le (show 2 < 3 by decide) (Nat.le_add_left 3 _)) rfl rfl
theorem s188_4 : XE d 188 4 (c0 :: c1 :: .val (.int x) :: l) st h Q ↔ XE d 188 5 (c0 :: c1 :: .val (.int x) :: l) (.int x :: st) h Q := g_iload rfl rfl
theorem s188_5 : XE d 188 5 ls (.int x :: st) h Q ↔ (if x = 0 then XE d 188 20 ls st h Q else XE d 188 8 ls st h Q) := g_ifeq rfl
theorem s188_8 : XE d 188 8 (c0 :: .val (.int x) :: l) st h Q ↔ XE d 188 11 (c0 :: .val (.int (x + 1)) :: l) st h Q := g_iinc rfl rfl rfl
theorem s188_11 : XE d 188 11 (c0 :: c1 :: .val (.int x) :: l) st h Q ↔ XE d 188 12 (c0 :: c1 :: .val (.int x) :: l) (.int x :: st) h Q := g_iload rfl rfl
theorem s188_12 : XE d 188 12 (c0 :: c1 :: .val (.int x) :: l) st h Q ↔ XE d 188 13 (c0 :: c1 :: .val (.int x) :: l) (.int x :: st) h Q := g_iload rfl rfl
theorem s188_13 : XE d 188 13 ls st h Q ↔ XE d 188 14 ls (.int 1 :: st) h Q := g_const rfl
theorem s188_14 : XE d 188 14 ls (.int y :: .int x :: st) h Q ↔ XE d 188 15 ls (.int (x - y) :: st) h Q := g_sub rfl
theorem s188_15 : XE d 188 15 ls (.int y :: .int x :: st) h Q ↔ XE d 188 16 ls (.int (x &&& y) :: st) h Q := g_and rfl
theorem s188_16 : XE d 188 16 (c0 :: c1 :: c2 :: l) (.int x :: st) h Q ↔ XE d 188 17 (c0 :: c1 :: .val (.int x) :: l) st h Q := g_istore (Nat.lt_of_lt_of_le (show 2 < 3 by decide) (Nat.le_add_left 3 _)) rfl rfl
theorem s188_17 : XE d 188 17 ls st h Q ↔ XE d 188 4 ls st h Q := g_goto rfl
theorem s188_20 : XE d 188 20 (c0 :: .val (.int x) :: l) st h Q ↔ XE d 188 21 (c0 :: .val (.int x) :: l) (.int x :: st) h Q := g_iload rfl rfl
theorem s188_21 : XE d 188 21 ls [.int x] h Q ↔ Q (some (.int x)) h := g_iret rfl
-- 189: TwoBellsModel.fewest()I
theorem e189 : XC (d + 1) 189 [.ref a] h Q ↔ XE d 189 0 [.val (.ref a), .unset, .unset, .unset, .unset] [] h Q := XC_in rfl
theorem s189_0 : XE d 189 0 ls st h Q ↔ XE d 189 1 ls (.int 1 :: st) h Q := g_const rfl
theorem s189_1 : XE d 189 1 (.val (.ref a) :: l) st h Q ↔ XE d 189 2 (.val (.ref a) :: l) (.ref a :: st) h Q := g_aload rfl rfl
theorem s189_2 : XE d 189 2 ls (.ref a :: st) h Q ↔ XG [12] 0 (h.2.2.1 a) (fun v => XE d 189 5 ls (v :: st) h Q) := g_getf rfl
theorem s189_5 : XE d 189 5 ls st h Q ↔ XE d 189 6 ls (.int 1 :: st) h Q := g_const rfl
theorem s189_6 : XE d 189 6 ls (.int x :: .ref a :: st) h Q ↔ XA [0, 7] (h.2.2.1 a) x (fun k => XE d 189 7 ls (.int k :: st) h Q) := g_ald rfl
theorem s189_7 : XE d 189 7 ls (.int y :: .int x :: st) h Q ↔ XE d 189 8 ls (.int (xshl x y) :: st) h Q := g_shl rfl
theorem s189_8 : XE d 189 8 ls st h Q ↔ XE d 189 9 ls (.int 1 :: st) h Q := g_const rfl
theorem s189_9 : XE d 189 9 ls (.int y :: .int x :: st) h Q ↔ XE d 189 10 ls (.int (x - y) :: st) h Q := g_sub rfl
theorem s189_10 : XE d 189 10 (c0 :: c1 :: l) (.int x :: st) h Q ↔ XE d 189 11 (c0 :: .val (.int x) :: l) st h Q := g_istore (Nat.lt_of_lt_of_le (show 1 < 2 by decide) (Nat.le_add_left 2 _)) rfl rfl
theorem s189_11 : XE d 189 11 (.val (.ref a) :: l) st h Q ↔ XE d 189 12 (.val (.ref a) :: l) (.ref a :: st) h Q := g_aload rfl rfl
theorem s189_12 : XE d 189 12 (c0 :: .val (.int x) :: l) st h Q ↔ XE d 189 13 (c0 :: .val (.int x) :: l) (.int x :: st) h Q := g_iload rfl rfl
theorem s189_13 : XE d 189 13 ls (.int x :: .ref a :: st) h Q ↔ (xvo 8 st = true ∧ XV [(12, 186)] (h.2.2.1 a) (fun m' => XC d m' [.ref a, .int x] h (fun v h' => XE d 189 16 ls (v.toList ++ st) h' Q))) := h_v1 rfl rfl
theorem s189_16 : XE d 189 16 (c0 :: c1 :: c2 :: l) (.int x :: st) h Q ↔ XE d 189 17 (c0 :: c1 :: .val (.int x) :: l) st h Q := g_istore (Nat.lt_of_lt_of_le (show 2 < 3 by decide) (Nat.le_add_left 3 _)) rfl rfl
theorem s189_17 : XE d 189 17 (c0 :: .val (.int x) :: l) st h Q ↔ XE d 189 18 (c0 :: .val (.int x) :: l) (.int x :: st) h Q := g_iload rfl rfl
theorem s189_18 : XE d 189 18 (c0 :: c1 :: c2 :: c3 :: l) (.int x :: st) h Q ↔ XE d 189 19 (c0 :: c1 :: c2 :: .val (.int x) :: l) st h Q := g_istore (Nat.lt_of_lt_of_le (show 3 < 4 by decide) (Nat.le_add_left 4 _)) rfl rfl
theorem s189_19 : XE d 189 19 (c0 :: .val (.int x) :: l) st h Q ↔ XE d 189 20 (c0 :: .val (.int x) :: l) (.int x :: st) h Q := g_iload rfl rfl
theorem s189_20 : XE d 189 20 (c0 :: c1 :: c2 :: c3 :: c4 :: l) (.int x :: st) h Q ↔ XE d 189 22 (c0 :: c1 :: c2 :: c3 :: .val (.int x) :: l) st h Q := g_istore (Nat.lt_of_lt_of_le (show 4 < 5 by decide) (Nat.le_add_left 5 _)) rfl rfl
theorem s189_22 : XE d 189 22 (c0 :: c1 :: c2 :: c3 :: .val (.int x) :: l) st h Q ↔ XE d 189 24 (c0 :: c1 :: c2 :: c3 :: .val (.int x) :: l) (.int x :: st) h Q := g_iload rfl rfl
theorem s189_24 : XE d 189 24 ls (.int x :: st) h Q ↔ (if x < 0 then XE d 189 62 ls st h Q else XE d 189 27 ls st h Q) := g_iflt rfl
theorem s189_27 : XE d 189 27 (c0 :: c1 :: c2 :: c3 :: .val (.int x) :: l) st h Q ↔ XE d 189 29 (c0 :: c1 :: c2 :: c3 :: .val (.int x) :: l) (.int x :: st) h Q := g_iload rfl rfl
theorem s189_29 : XE d 189 29 ls (.int x :: st) h Q ↔ (xvo 8 st = true ∧ XC d 188 [.int x] h (fun v h' => XE d 189 32 ls (v.toList ++ st) h' Q)) := h_s1 rfl rfl
theorem s189_32 : XE d 189 32 (c0 :: c1 :: c2 :: .val (.int x) :: l) st h Q ↔ XE d 189 33 (c0 :: c1 :: c2 :: .val (.int x) :: l) (.int x :: st) h Q := g_iload rfl rfl
theorem s189_33 : XE d 189 33 ls (.int x :: st) h Q ↔ (xvo 8 st = true ∧ XC d 188 [.int x] h (fun v h' => XE d 189 36 ls (v.toList ++ st) h' Q)) := h_s1 rfl rfl
theorem s189_36 : XE d 189 36 ls (.int y :: .int x :: st) h Q ↔ (if y < x then XE d 189 54 ls st h Q else XE d 189 39 ls st h Q) := g_cgt rfl
theorem s189_39 : XE d 189 39 (.val (.ref a) :: l) st h Q ↔ XE d 189 40 (.val (.ref a) :: l) (.ref a :: st) h Q := g_aload rfl rfl
theorem s189_40 : XE d 189 40 (c0 :: c1 :: c2 :: c3 :: .val (.int x) :: l) st h Q ↔ XE d 189 42 (c0 :: c1 :: c2 :: c3 :: .val (.int x) :: l) (.int x :: st) h Q := g_iload rfl rfl
theorem s189_42 : XE d 189 42 ls (.int x :: .ref a :: st) h Q ↔ (xvo 8 st = true ∧ XV [(12, 186)] (h.2.2.1 a) (fun m' => XC d m' [.ref a, .int x] h (fun v h' => XE d 189 45 ls (v.toList ++ st) h' Q))) := h_v1 rfl rfl
theorem s189_45 : XE d 189 45 (c0 :: c1 :: .val (.int x) :: l) st h Q ↔ XE d 189 46 (c0 :: c1 :: .val (.int x) :: l) (.int x :: st) h Q := g_iload rfl rfl
theorem s189_46 : XE d 189 46 ls (.int y :: .int x :: st) h Q ↔ (if x = y then XE d 189 49 ls st h Q else XE d 189 54 ls st h Q) := g_cne rfl
theorem s189_49 : XE d 189 49 (c0 :: c1 :: c2 :: c3 :: .val (.int x) :: l) st h Q ↔ XE d 189 51 (c0 :: c1 :: c2 :: c3 :: .val (.int x) :: l) (.int x :: st) h Q := g_iload rfl rfl
theorem s189_51 : XE d 189 51 ls st h Q ↔ XE d 189 55 ls st h Q := g_goto rfl
theorem s189_54 : XE d 189 54 (c0 :: c1 :: c2 :: .val (.int x) :: l) st h Q ↔ XE d 189 55 (c0 :: c1 :: c2 :: .val (.int x) :: l) (.int x :: st) h Q := g_iload rfl rfl
theorem s189_55 : XE d 189 55 (c0 :: c1 :: c2 :: c3 :: l) (.int x :: st) h Q ↔ XE d 189 56 (c0 :: c1 :: c2 :: .val (.int x) :: l) st h Q := g_istore (Nat.lt_of_lt_of_le (show 3 < 4 by decide) (Nat.le_add_left 4 _)) rfl rfl
theorem s189_56 : XE d 189 56 (c0 :: c1 :: c2 :: c3 :: .val (.int x) :: l) st h Q ↔ XE d 189 59 (c0 :: c1 :: c2 :: c3 :: .val (.int (x + (-1))) :: l) st h Q := g_iinc rfl rfl rfl
theorem s189_59 : XE d 189 59 ls st h Q ↔ XE d 189 22 ls st h Q := g_goto rfl
theorem s189_62 : XE d 189 62 (c0 :: c1 :: c2 :: .val (.int x) :: l) st h Q ↔ XE d 189 63 (c0 :: c1 :: c2 :: .val (.int x) :: l) (.int x :: st) h Q := g_iload rfl rfl
theorem s189_63 : XE d 189 63 ls [.int x] h Q ↔ Q (some (.int x)) h := g_iret rfl
-- 190: TwoBellsModel.alike()I
theorem e190 : XC (d + 1) 190 [.ref a] h Q ↔ XE d 190 0 [.val (.ref a), .unset, .unset, .unset] [] h Q := XC_in rfl
theorem s190_0 : XE d 190 0 ls st h Q ↔ XE d 190 1 ls (.int 0 :: st) h Q := g_const rfl
theorem s190_1 : XE d 190 1 (c0 :: c1 :: l) (.int x :: st) h Q ↔ XE d 190 2 (c0 :: .val (.int x) :: l) st h Q := g_istore (Nat.lt_of_lt_of_le (show 1 < 2 by decide) (Nat.le_add_left 2 _)) rfl rfl
theorem s190_2 : XE d 190 2 ls st h Q ↔ XE d 190 3 ls (.int 0 :: st) h Q := g_const rfl
theorem s190_3 : XE d 190 3 (c0 :: c1 :: c2 :: l) (.int x :: st) h Q ↔ XE d 190 4 (c0 :: c1 :: .val (.int x) :: l) st h Q := g_istore (Nat.lt_of_lt_of_le (show 2 < 3 by decide) (Nat.le_add_left 3 _)) rfl rfl
theorem s190_4 : XE d 190 4 (c0 :: c1 :: .val (.int x) :: l) st h Q ↔ XE d 190 5 (c0 :: c1 :: .val (.int x) :: l) (.int x :: st) h Q := g_iload rfl rfl
theorem s190_5 : XE d 190 5 (.val (.ref a) :: l) st h Q ↔ XE d 190 6 (.val (.ref a) :: l) (.ref a :: st) h Q := g_aload rfl rfl
theorem s190_6 : XE d 190 6 ls (.ref a :: st) h Q ↔ XG [12] 0 (h.2.2.1 a) (fun v => XE d 190 9 ls (v :: st) h Q) := g_getf rfl
theorem s190_9 : XE d 190 9 ls st h Q ↔ XE d 190 10 ls (.int 2 :: st) h Q := g_const rfl
theorem s190_10 : XE d 190 10 ls (.int x :: .ref a :: st) h Q ↔ XA [0, 7] (h.2.2.1 a) x (fun k => XE d 190 11 ls (.int k :: st) h Q) := g_ald rfl
theorem s190_11 : XE d 190 11 ls (.int y :: .int x :: st) h Q ↔ (if x < y then XE d 190 14 ls st h Q else XE d 190 54 ls st h Q) := g_cge rfl
theorem s190_14 : XE d 190 14 ls st h Q ↔ XE d 190 15 ls (.int 0 :: st) h Q := g_const rfl
theorem s190_15 : XE d 190 15 (c0 :: c1 :: c2 :: c3 :: l) (.int x :: st) h Q ↔ XE d 190 16 (c0 :: c1 :: c2 :: .val (.int x) :: l) st h Q := g_istore (Nat.lt_of_lt_of_le (show 3 < 4 by decide) (Nat.le_add_left 4 _)) rfl rfl
theorem s190_16 : XE d 190 16 (c0 :: c1 :: c2 :: .val (.int x) :: l) st h Q ↔ XE d 190 17 (c0 :: c1 :: c2 :: .val (.int x) :: l) (.int x :: st) h Q := g_iload rfl rfl
theorem s190_17 : XE d 190 17 (c0 :: c1 :: .val (.int x) :: l) st h Q ↔ XE d 190 18 (c0 :: c1 :: .val (.int x) :: l) (.int x :: st) h Q := g_iload rfl rfl
theorem s190_18 : XE d 190 18 ls (.int y :: .int x :: st) h Q ↔ (if x < y then XE d 190 21 ls st h Q else XE d 190 48 ls st h Q) := g_cge rfl
theorem s190_21 : XE d 190 21 (c0 :: .val (.int x) :: l) st h Q ↔ XE d 190 22 (c0 :: .val (.int x) :: l) (.int x :: st) h Q := g_iload rfl rfl
theorem s190_22 : XE d 190 22 (.val (.ref a) :: l) st h Q ↔ XE d 190 23 (.val (.ref a) :: l) (.ref a :: st) h Q := g_aload rfl rfl
theorem s190_23 : XE d 190 23 (c0 :: c1 :: .val (.int x) :: l) st h Q ↔ XE d 190 24 (c0 :: c1 :: .val (.int x) :: l) (.int x :: st) h Q := g_iload rfl rfl
theorem s190_24 : XE d 190 24 ls (.int x :: .ref a :: st) h Q ↔ (xvo 8 st = true ∧ XV [(12, 185)] (h.2.2.1 a) (fun m' => XC d m' [.ref a, .int x] h (fun v h' => XE d 190 27 ls (v.toList ++ st) h' Q))) := h_v1 rfl rfl
theorem s190_27 : XE d 190 27 (.val (.ref a) :: l) st h Q ↔ XE d 190 28 (.val (.ref a) :: l) (.ref a :: st) h Q := g_aload rfl rfl
theorem s190_28 : XE d 190 28 (c0 :: c1 :: c2 :: .val (.int x) :: l) st h Q ↔ XE d 190 29 (c0 :: c1 :: c2 :: .val (.int x) :: l) (.int x :: st) h Q := g_iload rfl rfl
theorem s190_29 : XE d 190 29 ls (.int x :: .ref a :: st) h Q ↔ (xvo 8 st = true ∧ XV [(12, 185)] (h.2.2.1 a) (fun m' => XC d m' [.ref a, .int x] h (fun v h' => XE d 190 32 ls (v.toList ++ st) h' Q))) := h_v1 rfl rfl
theorem s190_32 : XE d 190 32 ls (.int y :: .int x :: st) h Q ↔ (if x = y then XE d 190 35 ls st h Q else XE d 190 39 ls st h Q) := g_cne rfl
theorem s190_35 : XE d 190 35 ls st h Q ↔ XE d 190 36 ls (.int 1 :: st) h Q := g_const rfl
theorem s190_36 : XE d 190 36 ls st h Q ↔ XE d 190 40 ls st h Q := g_goto rfl
theorem s190_39 : XE d 190 39 ls st h Q ↔ XE d 190 40 ls (.int 0 :: st) h Q := g_const rfl
theorem s190_40 : XE d 190 40 ls (.int y :: .int x :: st) h Q ↔ XE d 190 41 ls (.int (x + y) :: st) h Q := g_add rfl
theorem s190_41 : XE d 190 41 (c0 :: c1 :: l) (.int x :: st) h Q ↔ XE d 190 42 (c0 :: .val (.int x) :: l) st h Q := g_istore (Nat.lt_of_lt_of_le (show 1 < 2 by decide) (Nat.le_add_left 2 _)) rfl rfl
theorem s190_42 : XE d 190 42 (c0 :: c1 :: c2 :: .val (.int x) :: l) st h Q ↔ XE d 190 45 (c0 :: c1 :: c2 :: .val (.int (x + 1)) :: l) st h Q := g_iinc rfl rfl rfl
theorem s190_45 : XE d 190 45 ls st h Q ↔ XE d 190 16 ls st h Q := g_goto rfl
theorem s190_48 : XE d 190 48 (c0 :: c1 :: .val (.int x) :: l) st h Q ↔ XE d 190 51 (c0 :: c1 :: .val (.int (x + 1)) :: l) st h Q := g_iinc rfl rfl rfl
theorem s190_51 : XE d 190 51 ls st h Q ↔ XE d 190 4 ls st h Q := g_goto rfl
theorem s190_54 : XE d 190 54 (c0 :: .val (.int x) :: l) st h Q ↔ XE d 190 55 (c0 :: .val (.int x) :: l) (.int x :: st) h Q := g_iload rfl rfl
theorem s190_55 : XE d 190 55 ls [.int x] h Q ↔ Q (some (.int x)) h := g_iret rfl
-- 191: TwoBellsModel.feed(III)I
theorem e191 : XC (d + 1) 191 [.ref a, .int x, .int y, .int z] h Q ↔ XE d 191 0 [.val (.ref a), .val (.int x), .val (.int y), .val (.int z), .unset, .unset] [] h Q := XC_in rfl
theorem s191_0 : XE d 191 0 (.val (.ref a) :: l) st h Q ↔ XE d 191 1 (.val (.ref a) :: l) (.ref a :: st) h Q := g_aload rfl rfl
theorem s191_1 : XE d 191 1 ls (.ref a :: st) h Q ↔ XG [12] 5 (h.2.2.1 a) (fun v => XE d 191 4 ls (v :: st) h Q) := g_getf rfl
theorem s191_4 : XE d 191 4 ls st h Q ↔ XE d 191 6 ls (.int 12 :: st) h Q := g_const rfl
theorem s191_6 : XE d 191 6 ls (.int y :: .int x :: st) h Q ↔ XE d 191 7 ls (.int (x + y) :: st) h Q := g_add rfl
theorem s191_7 : XE d 191 7 ls st h Q ↔ XE d 191 9 ls (.int 96 :: st) h Q := g_const rfl
theorem s191_9 : XE d 191 9 ls (.int y :: .int x :: st) h Q ↔ (if y < x then XE d 191 12 ls st h Q else XE d 191 15 ls st h Q) := g_cle rfl
theorem s191_12 : XE d 191 12 ls st h Q ↔ XE d 191 14 ls (.int (-1000000003) :: st) h Q := g_const rfl
theorem s191_14 : XE d 191 14 ls [.int x] h Q ↔ Q (some (.int x)) h := g_iret rfl
theorem s191_15 : XE d 191 15 ls st h Q ↔ XE d 191 16 ls (.int 0 :: st) h Q := g_const rfl
theorem s191_16 : XE d 191 16 (c0 :: c1 :: c2 :: c3 :: c4 :: l) (.int x :: st) h Q ↔ XE d 191 18 (c0 :: c1 :: c2 :: c3 :: .val (.int x) :: l) st h Q := g_istore (Nat.lt_of_lt_of_le (show 4 < 5 by decide) (Nat.le_add_left 5 _)) rfl rfl
theorem s191_18 : XE d 191 18 (c0 :: c1 :: c2 :: c3 :: .val (.int x) :: l) st h Q ↔ XE d 191 20 (c0 :: c1 :: c2 :: c3 :: .val (.int x) :: l) (.int x :: st) h Q := g_iload rfl rfl
theorem s191_20 : XE d 191 20 ls st h Q ↔ XE d 191 22 ls (.int 12 :: st) h Q := g_const rfl
theorem s191_22 : XE d 191 22 ls (.int y :: .int x :: st) h Q ↔ (if x < y then XE d 191 25 ls st h Q else XE d 191 84 ls st h Q) := g_cge rfl
theorem s191_25 : XE d 191 25 (c0 :: c1 :: c2 :: c3 :: .val (.int x) :: l) st h Q ↔ XE d 191 27 (c0 :: c1 :: c2 :: c3 :: .val (.int x) :: l) (.int x :: st) h Q := g_iload rfl rfl
theorem s191_27 : XE d 191 27 ls st h Q ↔ XE d 191 28 ls (.int 4 :: st) h Q := g_const rfl
theorem s191_28 : XE d 191 28 ls (.int y :: .int x :: st) h Q ↔ (if x < y then XE d 191 31 ls st h Q else XE d 191 35 ls st h Q) := g_cge rfl
theorem s191_31 : XE d 191 31 (c0 :: .val (.int x) :: l) st h Q ↔ XE d 191 32 (c0 :: .val (.int x) :: l) (.int x :: st) h Q := g_iload rfl rfl
theorem s191_32 : XE d 191 32 ls st h Q ↔ XE d 191 47 ls st h Q := g_goto rfl
theorem s191_35 : XE d 191 35 (c0 :: c1 :: c2 :: c3 :: .val (.int x) :: l) st h Q ↔ XE d 191 37 (c0 :: c1 :: c2 :: c3 :: .val (.int x) :: l) (.int x :: st) h Q := g_iload rfl rfl
theorem s191_37 : XE d 191 37 ls st h Q ↔ XE d 191 39 ls (.int 8 :: st) h Q := g_const rfl
theorem s191_39 : XE d 191 39 ls (.int y :: .int x :: st) h Q ↔ (if x < y then XE d 191 42 ls st h Q else XE d 191 46 ls st h Q) := g_cge rfl
theorem s191_42 : XE d 191 42 (c0 :: c1 :: .val (.int x) :: l) st h Q ↔ XE d 191 43 (c0 :: c1 :: .val (.int x) :: l) (.int x :: st) h Q := g_iload rfl rfl
theorem s191_43 : XE d 191 43 ls st h Q ↔ XE d 191 47 ls st h Q := g_goto rfl
theorem s191_46 : XE d 191 46 (c0 :: c1 :: c2 :: .val (.int x) :: l) st h Q ↔ XE d 191 47 (c0 :: c1 :: c2 :: .val (.int x) :: l) (.int x :: st) h Q := g_iload rfl rfl
theorem s191_47 : XE d 191 47 (c0 :: c1 :: c2 :: c3 :: c4 :: c5 :: l) (.int x :: st) h Q ↔ XE d 191 49 (c0 :: c1 :: c2 :: c3 :: c4 :: .val (.int x) :: l) st h Q := g_istore (Nat.lt_of_lt_of_le (show 5 < 6 by decide) (Nat.le_add_left 6 _)) rfl rfl
theorem s191_49 : XE d 191 49 (.val (.ref a) :: l) st h Q ↔ XE d 191 50 (.val (.ref a) :: l) (.ref a :: st) h Q := g_aload rfl rfl
theorem s191_50 : XE d 191 50 ls (.ref a :: st) h Q ↔ XG [12] 4 (h.2.2.1 a) (fun v => XE d 191 53 ls (v :: st) h Q) := g_getf rfl
theorem s191_53 : XE d 191 53 (.val (.ref a) :: l) st h Q ↔ XE d 191 54 (.val (.ref a) :: l) (.ref a :: st) h Q := g_aload rfl rfl
theorem s191_54 : XE d 191 54 ls (.ref a :: st) h Q ↔ XG [12] 5 (h.2.2.1 a) (fun v => XE d 191 57 ls (v :: st) h Q) := g_getf rfl
theorem s191_57 : XE d 191 57 (c0 :: c1 :: c2 :: c3 :: .val (.int x) :: l) st h Q ↔ XE d 191 59 (c0 :: c1 :: c2 :: c3 :: .val (.int x) :: l) (.int x :: st) h Q := g_iload rfl rfl
theorem s191_59 : XE d 191 59 ls (.int y :: .int x :: st) h Q ↔ XE d 191 60 ls (.int (x + y) :: st) h Q := g_add rfl
theorem s191_60 : XE d 191 60 (c0 :: c1 :: c2 :: c3 :: c4 :: .val (.int x) :: l) st h Q ↔ XE d 191 62 (c0 :: c1 :: c2 :: c3 :: c4 :: .val (.int x) :: l) (.int x :: st) h Q := g_iload rfl rfl
theorem s191_62 : XE d 191 62 ls st h Q ↔ XE d 191 64 ls (.int 24 :: st) h Q := g_const rfl
theorem s191_64 : XE d 191 64 ls st h Q ↔ XE d 191 66 ls (.int 8 :: st) h Q := g_const rfl
theorem s191_66 : XE d 191 66 (c0 :: c1 :: c2 :: c3 :: .val (.int x) :: l) st h Q ↔ XE d 191 68 (c0 :: c1 :: c2 :: c3 :: .val (.int x) :: l) (.int x :: st) h Q := g_iload rfl rfl
theorem s191_68 : XE d 191 68 ls st h Q ↔ XE d 191 69 ls (.int 4 :: st) h Q := g_const rfl
theorem s191_69 : XE d 191 69 ls (.int y :: .int x :: st) h Q ↔ (y ≠ 0 ∧ XE d 191 70 ls (.int (x % y) :: st) h Q) := g_rem rfl
theorem s191_70 : XE d 191 70 ls (.int y :: .int x :: st) h Q ↔ XE d 191 71 ls (.int (x * y) :: st) h Q := g_mul rfl
theorem s191_71 : XE d 191 71 ls (.int y :: .int x :: st) h Q ↔ XE d 191 72 ls (.int (x - y) :: st) h Q := g_sub rfl
theorem s191_72 : XE d 191 72 ls (.int y :: .int x :: st) h Q ↔ XE d 191 73 ls (.int (xshr x y) :: st) h Q := g_shr rfl
theorem s191_73 : XE d 191 73 ls st h Q ↔ XE d 191 76 ls (.int 255 :: st) h Q := g_const rfl
theorem s191_76 : XE d 191 76 ls (.int y :: .int x :: st) h Q ↔ XE d 191 77 ls (.int (x &&& y) :: st) h Q := g_and rfl
theorem s191_77 : XE d 191 77 ls (.int y :: .int x :: .ref a :: st) h Q ↔ XS 0 (h.2.2.1 a) x y (fun e => XE d 191 78 ls st (xset h a e) Q) := g_iast rfl
theorem s191_78 : XE d 191 78 (c0 :: c1 :: c2 :: c3 :: .val (.int x) :: l) st h Q ↔ XE d 191 81 (c0 :: c1 :: c2 :: c3 :: .val (.int (x + 1)) :: l) st h Q := g_iinc rfl rfl rfl
theorem s191_81 : XE d 191 81 ls st h Q ↔ XE d 191 18 ls st h Q := g_goto rfl
theorem s191_84 : XE d 191 84 (.val (.ref a) :: l) st h Q ↔ XE d 191 85 (.val (.ref a) :: l) (.ref a :: st) h Q := g_aload rfl rfl
theorem s191_85 : XE d 191 85 ls (.int x :: st) h Q ↔ XE d 191 86 ls (.int x :: .int x :: st) h Q := g_dupI rfl
theorem s191_85r : XE d 191 85 ls (.ref a :: st) h Q ↔ XE d 191 86 ls (.ref a :: .ref a :: st) h Q := g_dupR rfl
theorem s191_86 : XE d 191 86 ls (.ref a :: st) h Q ↔ XG [12] 5 (h.2.2.1 a) (fun v => XE d 191 89 ls (v :: st) h Q) := g_getf rfl
theorem s191_89 : XE d 191 89 ls st h Q ↔ XE d 191 91 ls (.int 12 :: st) h Q := g_const rfl
theorem s191_91 : XE d 191 91 ls (.int y :: .int x :: st) h Q ↔ XE d 191 92 ls (.int (x + y) :: st) h Q := g_add rfl
theorem s191_92 : XE d 191 92 ls (.int x :: .ref a :: st) h Q ↔ XP [12] 5 (.int x) (h.2.2.1 a) (fun e => XE d 191 95 ls st (xset h a e) Q) := g_puti rfl
theorem s191_95 : XE d 191 95 (.val (.ref a) :: l) st h Q ↔ XE d 191 96 (.val (.ref a) :: l) (.ref a :: st) h Q := g_aload rfl rfl
theorem s191_96 : XE d 191 96 ls (.ref a :: st) h Q ↔ XG [12] 5 (h.2.2.1 a) (fun v => XE d 191 99 ls (v :: st) h Q) := g_getf rfl
theorem s191_99 : XE d 191 99 ls [.int x] h Q ↔ Q (some (.int x)) h := g_iret rfl
-- 192: TwoBellsModel.trim(I)I
theorem e192 : XC (d + 1) 192 [.ref a, .int x] h Q ↔ XE d 192 0 [.val (.ref a), .val (.int x)] [] h Q := XC_in rfl
theorem s192_0 : XE d 192 0 (c0 :: .val (.int x) :: l) st h Q ↔ XE d 192 1 (c0 :: .val (.int x) :: l) (.int x :: st) h Q := g_iload rfl rfl
theorem s192_1 : XE d 192 1 ls st h Q ↔ XE d 192 2 ls (.int 0 :: st) h Q := g_const rfl
theorem s192_2 : XE d 192 2 (.val (.ref a) :: l) st h Q ↔ XE d 192 3 (.val (.ref a) :: l) (.ref a :: st) h Q := g_aload rfl rfl
theorem s192_3 : XE d 192 3 ls (.ref a :: st) h Q ↔ XG [12] 5 (h.2.2.1 a) (fun v => XE d 192 6 ls (v :: st) h Q) := g_getf rfl
theorem s192_6 : XE d 192 6 ls (.int z :: .int y :: .int x :: st) h Q ↔ (xvo 8 st = true ∧ XC d 132 [.int x, .int y, .int z] h (fun v h' => XE d 192 9 ls (v.toList ++ st) h' Q)) := h_s3 rfl rfl
theorem s192_9 : XE d 192 9 ls (.int x :: st) h Q ↔ (if x = 0 then XE d 192 12 ls st h Q else XE d 192 15 ls st h Q) := g_ifne rfl
theorem s192_12 : XE d 192 12 ls st h Q ↔ XE d 192 14 ls (.int (-1000000001) :: st) h Q := g_const rfl
theorem s192_14 : XE d 192 14 ls [.int x] h Q ↔ Q (some (.int x)) h := g_iret rfl
theorem s192_15 : XE d 192 15 (.val (.ref a) :: l) st h Q ↔ XE d 192 16 (.val (.ref a) :: l) (.ref a :: st) h Q := g_aload rfl rfl
theorem s192_16 : XE d 192 16 (c0 :: .val (.int x) :: l) st h Q ↔ XE d 192 17 (c0 :: .val (.int x) :: l) (.int x :: st) h Q := g_iload rfl rfl
theorem s192_17 : XE d 192 17 ls (.int x :: .ref a :: st) h Q ↔ XP [12] 5 (.int x) (h.2.2.1 a) (fun e => XE d 192 20 ls st (xset h a e) Q) := g_puti rfl
theorem s192_20 : XE d 192 20 (c0 :: .val (.int x) :: l) st h Q ↔ XE d 192 21 (c0 :: .val (.int x) :: l) (.int x :: st) h Q := g_iload rfl rfl
theorem s192_21 : XE d 192 21 ls [.int x] h Q ↔ Q (some (.int x)) h := g_iret rfl
-- 193: TwoBellsModel.isLetter(I)Z
theorem e193 : XC (d + 1) 193 [.ref a, .int x] h Q ↔ XE d 193 0 [.val (.ref a), .val (.int x)] [] h Q := XC_in rfl
theorem s193_0 : XE d 193 0 (c0 :: .val (.int x) :: l) st h Q ↔ XE d 193 1 (c0 :: .val (.int x) :: l) (.int x :: st) h Q := g_iload rfl rfl
theorem s193_1 : XE d 193 1 (.val (.ref a) :: l) st h Q ↔ XE d 193 2 (.val (.ref a) :: l) (.ref a :: st) h Q := g_aload rfl rfl
theorem s193_2 : XE d 193 2 ls (.ref a :: st) h Q ↔ XG [12] 5 (h.2.2.1 a) (fun v => XE d 193 5 ls (v :: st) h Q) := g_getf rfl
theorem s193_5 : XE d 193 5 ls (.int y :: .int x :: st) h Q ↔ (if x < y then XE d 193 8 ls st h Q else XE d 193 34 ls st h Q) := g_cge rfl
theorem s193_8 : XE d 193 8 (.val (.ref a) :: l) st h Q ↔ XE d 193 9 (.val (.ref a) :: l) (.ref a :: st) h Q := g_aload rfl rfl
theorem s193_9 : XE d 193 9 ls (.ref a :: st) h Q ↔ XG [12] 4 (h.2.2.1 a) (fun v => XE d 193 12 ls (v :: st) h Q) := g_getf rfl
theorem s193_12 : XE d 193 12 (c0 :: .val (.int x) :: l) st h Q ↔ XE d 193 13 (c0 :: .val (.int x) :: l) (.int x :: st) h Q := g_iload rfl rfl
theorem s193_13 : XE d 193 13 ls (.int x :: .ref a :: st) h Q ↔ XA [0, 7] (h.2.2.1 a) x (fun k => XE d 193 14 ls (.int k :: st) h Q) := g_ald rfl
theorem s193_14 : XE d 193 14 ls st h Q ↔ XE d 193 16 ls (.int 97 :: st) h Q := g_const rfl
theorem s193_16 : XE d 193 16 ls (.int y :: .int x :: st) h Q ↔ (if x < y then XE d 193 34 ls st h Q else XE d 193 19 ls st h Q) := g_clt rfl
theorem s193_19 : XE d 193 19 (.val (.ref a) :: l) st h Q ↔ XE d 193 20 (.val (.ref a) :: l) (.ref a :: st) h Q := g_aload rfl rfl
theorem s193_20 : XE d 193 20 ls (.ref a :: st) h Q ↔ XG [12] 4 (h.2.2.1 a) (fun v => XE d 193 23 ls (v :: st) h Q) := g_getf rfl
theorem s193_23 : XE d 193 23 (c0 :: .val (.int x) :: l) st h Q ↔ XE d 193 24 (c0 :: .val (.int x) :: l) (.int x :: st) h Q := g_iload rfl rfl
theorem s193_24 : XE d 193 24 ls (.int x :: .ref a :: st) h Q ↔ XA [0, 7] (h.2.2.1 a) x (fun k => XE d 193 25 ls (.int k :: st) h Q) := g_ald rfl
theorem s193_25 : XE d 193 25 ls st h Q ↔ XE d 193 27 ls (.int 122 :: st) h Q := g_const rfl
theorem s193_27 : XE d 193 27 ls (.int y :: .int x :: st) h Q ↔ (if y < x then XE d 193 34 ls st h Q else XE d 193 30 ls st h Q) := g_cgt rfl
theorem s193_30 : XE d 193 30 ls st h Q ↔ XE d 193 31 ls (.int 1 :: st) h Q := g_const rfl
theorem s193_31 : XE d 193 31 ls st h Q ↔ XE d 193 35 ls st h Q := g_goto rfl
theorem s193_34 : XE d 193 34 ls st h Q ↔ XE d 193 35 ls (.int 0 :: st) h Q := g_const rfl
theorem s193_35 : XE d 193 35 ls [.int 0] h Q ↔ Q (some (.int 0)) h := g_zret rfl rfl
theorem s193_35t : XE d 193 35 ls [.int 1] h Q ↔ Q (some (.int 1)) h := g_zret rfl rfl
theorem s193_35b : XE d 193 35 ls [.int (bI q)] h Q ↔ Q (some (.int (bI q))) h := g_zret (bI_nar q) rfl
-- 194: TwoBellsModel.isFigure(I)Z
theorem e194 : XC (d + 1) 194 [.ref a, .int x] h Q ↔ XE d 194 0 [.val (.ref a), .val (.int x)] [] h Q := XC_in rfl
theorem s194_0 : XE d 194 0 (c0 :: .val (.int x) :: l) st h Q ↔ XE d 194 1 (c0 :: .val (.int x) :: l) (.int x :: st) h Q := g_iload rfl rfl
theorem s194_1 : XE d 194 1 (.val (.ref a) :: l) st h Q ↔ XE d 194 2 (.val (.ref a) :: l) (.ref a :: st) h Q := g_aload rfl rfl
theorem s194_2 : XE d 194 2 ls (.ref a :: st) h Q ↔ XG [12] 5 (h.2.2.1 a) (fun v => XE d 194 5 ls (v :: st) h Q) := g_getf rfl
theorem s194_5 : XE d 194 5 ls (.int y :: .int x :: st) h Q ↔ (if x < y then XE d 194 8 ls st h Q else XE d 194 34 ls st h Q) := g_cge rfl
theorem s194_8 : XE d 194 8 (.val (.ref a) :: l) st h Q ↔ XE d 194 9 (.val (.ref a) :: l) (.ref a :: st) h Q := g_aload rfl rfl
theorem s194_9 : XE d 194 9 ls (.ref a :: st) h Q ↔ XG [12] 4 (h.2.2.1 a) (fun v => XE d 194 12 ls (v :: st) h Q) := g_getf rfl
theorem s194_12 : XE d 194 12 (c0 :: .val (.int x) :: l) st h Q ↔ XE d 194 13 (c0 :: .val (.int x) :: l) (.int x :: st) h Q := g_iload rfl rfl
theorem s194_13 : XE d 194 13 ls (.int x :: .ref a :: st) h Q ↔ XA [0, 7] (h.2.2.1 a) x (fun k => XE d 194 14 ls (.int k :: st) h Q) := g_ald rfl
theorem s194_14 : XE d 194 14 ls st h Q ↔ XE d 194 16 ls (.int 48 :: st) h Q := g_const rfl
theorem s194_16 : XE d 194 16 ls (.int y :: .int x :: st) h Q ↔ (if x < y then XE d 194 34 ls st h Q else XE d 194 19 ls st h Q) := g_clt rfl
theorem s194_19 : XE d 194 19 (.val (.ref a) :: l) st h Q ↔ XE d 194 20 (.val (.ref a) :: l) (.ref a :: st) h Q := g_aload rfl rfl
theorem s194_20 : XE d 194 20 ls (.ref a :: st) h Q ↔ XG [12] 4 (h.2.2.1 a) (fun v => XE d 194 23 ls (v :: st) h Q) := g_getf rfl
theorem s194_23 : XE d 194 23 (c0 :: .val (.int x) :: l) st h Q ↔ XE d 194 24 (c0 :: .val (.int x) :: l) (.int x :: st) h Q := g_iload rfl rfl
theorem s194_24 : XE d 194 24 ls (.int x :: .ref a :: st) h Q ↔ XA [0, 7] (h.2.2.1 a) x (fun k => XE d 194 25 ls (.int k :: st) h Q) := g_ald rfl
theorem s194_25 : XE d 194 25 ls st h Q ↔ XE d 194 27 ls (.int 57 :: st) h Q := g_const rfl
theorem s194_27 : XE d 194 27 ls (.int y :: .int x :: st) h Q ↔ (if y < x then XE d 194 34 ls st h Q else XE d 194 30 ls st h Q) := g_cgt rfl
theorem s194_30 : XE d 194 30 ls st h Q ↔ XE d 194 31 ls (.int 1 :: st) h Q := g_const rfl
theorem s194_31 : XE d 194 31 ls st h Q ↔ XE d 194 35 ls st h Q := g_goto rfl
theorem s194_34 : XE d 194 34 ls st h Q ↔ XE d 194 35 ls (.int 0 :: st) h Q := g_const rfl
theorem s194_35 : XE d 194 35 ls [.int 0] h Q ↔ Q (some (.int 0)) h := g_zret rfl rfl
theorem s194_35t : XE d 194 35 ls [.int 1] h Q ↔ Q (some (.int 1)) h := g_zret rfl rfl
theorem s194_35b : XE d 194 35 ls [.int (bI q)] h Q ↔ Q (some (.int (bI q))) h := g_zret (bI_nar q) rfl
-- 195: TwoBellsModel.go()V
theorem e195 : XC (d + 1) 195 [.ref a] h Q ↔ XE d 195 0 [.val (.ref a), .unset] [] h Q := XC_in rfl
theorem s195_0 : XE d 195 0 (.val (.ref a) :: l) st h Q ↔ XE d 195 1 (.val (.ref a) :: l) (.ref a :: st) h Q := g_aload rfl rfl
theorem s195_1 : XE d 195 1 ls (.ref a :: st) h Q ↔ XG [12] 6 (h.2.2.1 a) (fun v => XE d 195 4 ls (v :: st) h Q) := g_getf rfl
theorem s195_4 : XE d 195 4 (.val (.ref a) :: l) st h Q ↔ XE d 195 5 (.val (.ref a) :: l) (.ref a :: st) h Q := g_aload rfl rfl
theorem s195_5 : XE d 195 5 ls (.ref a :: st) h Q ↔ XG [12] 5 (h.2.2.1 a) (fun v => XE d 195 8 ls (v :: st) h Q) := g_getf rfl
theorem s195_8 : XE d 195 8 ls (.int y :: .int x :: st) h Q ↔ (if x < y then XE d 195 11 ls st h Q else XE d 195 38 ls st h Q) := g_cge rfl
theorem s195_11 : XE d 195 11 (.val (.ref a) :: l) st h Q ↔ XE d 195 12 (.val (.ref a) :: l) (.ref a :: st) h Q := g_aload rfl rfl
theorem s195_12 : XE d 195 12 ls (.ref a :: st) h Q ↔ XG [12] 4 (h.2.2.1 a) (fun v => XE d 195 15 ls (v :: st) h Q) := g_getf rfl
theorem s195_15 : XE d 195 15 (.val (.ref a) :: l) st h Q ↔ XE d 195 16 (.val (.ref a) :: l) (.ref a :: st) h Q := g_aload rfl rfl
theorem s195_16 : XE d 195 16 ls (.ref a :: st) h Q ↔ XG [12] 6 (h.2.2.1 a) (fun v => XE d 195 19 ls (v :: st) h Q) := g_getf rfl
theorem s195_19 : XE d 195 19 ls (.int x :: .ref a :: st) h Q ↔ XA [0, 7] (h.2.2.1 a) x (fun k => XE d 195 20 ls (.int k :: st) h Q) := g_ald rfl
theorem s195_20 : XE d 195 20 ls st h Q ↔ XE d 195 22 ls (.int 32 :: st) h Q := g_const rfl
theorem s195_22 : XE d 195 22 ls (.int y :: .int x :: st) h Q ↔ (if x = y then XE d 195 25 ls st h Q else XE d 195 38 ls st h Q) := g_cne rfl
theorem s195_25 : XE d 195 25 (.val (.ref a) :: l) st h Q ↔ XE d 195 26 (.val (.ref a) :: l) (.ref a :: st) h Q := g_aload rfl rfl
theorem s195_26 : XE d 195 26 ls (.int x :: st) h Q ↔ XE d 195 27 ls (.int x :: .int x :: st) h Q := g_dupI rfl
theorem s195_26r : XE d 195 26 ls (.ref a :: st) h Q ↔ XE d 195 27 ls (.ref a :: .ref a :: st) h Q := g_dupR rfl
theorem s195_27 : XE d 195 27 ls (.ref a :: st) h Q ↔ XG [12] 6 (h.2.2.1 a) (fun v => XE d 195 30 ls (v :: st) h Q) := g_getf rfl
theorem s195_30 : XE d 195 30 ls st h Q ↔ XE d 195 31 ls (.int 1 :: st) h Q := g_const rfl
theorem s195_31 : XE d 195 31 ls (.int y :: .int x :: st) h Q ↔ XE d 195 32 ls (.int (x + y) :: st) h Q := g_add rfl
theorem s195_32 : XE d 195 32 ls (.int x :: .ref a :: st) h Q ↔ XP [12] 6 (.int x) (h.2.2.1 a) (fun e => XE d 195 35 ls st (xset h a e) Q) := g_puti rfl
theorem s195_35 : XE d 195 35 ls st h Q ↔ XE d 195 0 ls st h Q := g_goto rfl
theorem s195_38 : XE d 195 38 (.val (.ref a) :: l) st h Q ↔ XE d 195 39 (.val (.ref a) :: l) (.ref a :: st) h Q := g_aload rfl rfl
theorem s195_39 : XE d 195 39 (.val (.ref a) :: l) st h Q ↔ XE d 195 40 (.val (.ref a) :: l) (.ref a :: st) h Q := g_aload rfl rfl
theorem s195_40 : XE d 195 40 ls (.ref a :: st) h Q ↔ XG [12] 6 (h.2.2.1 a) (fun v => XE d 195 43 ls (v :: st) h Q) := g_getf rfl
theorem s195_43 : XE d 195 43 ls (.int x :: .ref a :: st) h Q ↔ XP [12] 7 (.int x) (h.2.2.1 a) (fun e => XE d 195 46 ls st (xset h a e) Q) := g_puti rfl
theorem s195_46 : XE d 195 46 (.val (.ref a) :: l) st h Q ↔ XE d 195 47 (.val (.ref a) :: l) (.ref a :: st) h Q := g_aload rfl rfl
theorem s195_47 : XE d 195 47 ls (.ref a :: st) h Q ↔ XG [12] 7 (h.2.2.1 a) (fun v => XE d 195 50 ls (v :: st) h Q) := g_getf rfl
theorem s195_50 : XE d 195 50 (.val (.ref a) :: l) st h Q ↔ XE d 195 51 (.val (.ref a) :: l) (.ref a :: st) h Q := g_aload rfl rfl
theorem s195_51 : XE d 195 51 ls (.ref a :: st) h Q ↔ XG [12] 10 (h.2.2.1 a) (fun v => XE d 195 54 ls (v :: st) h Q) := g_getf rfl
theorem s195_54 : XE d 195 54 ls (.int y :: .int x :: st) h Q ↔ (if x = y then XE d 195 57 ls st h Q else XE d 195 61 ls st h Q) := g_cne rfl
theorem s195_57 : XE d 195 57 ls st h Q ↔ XE d 195 58 ls (.int 1 :: st) h Q := g_const rfl
theorem s195_58 : XE d 195 58 ls st h Q ↔ XE d 195 62 ls st h Q := g_goto rfl
theorem s195_61 : XE d 195 61 ls st h Q ↔ XE d 195 62 ls (.int 0 :: st) h Q := g_const rfl
theorem s195_62 : XE d 195 62 (c0 :: c1 :: l) (.int x :: st) h Q ↔ XE d 195 63 (c0 :: .val (.int x) :: l) st h Q := g_istore (Nat.lt_of_lt_of_le (show 1 < 2 by decide) (Nat.le_add_left 2 _)) rfl rfl
theorem s195_63 : XE d 195 63 (.val (.ref a) :: l) st h Q ↔ XE d 195 64 (.val (.ref a) :: l) (.ref a :: st) h Q := g_aload rfl rfl
theorem s195_64 : XE d 195 64 ls (.ref a :: st) h Q ↔ XG [12] 7 (h.2.2.1 a) (fun v => XE d 195 67 ls (v :: st) h Q) := g_getf rfl
theorem s195_67 : XE d 195 67 (.val (.ref a) :: l) st h Q ↔ XE d 195 68 (.val (.ref a) :: l) (.ref a :: st) h Q := g_aload rfl rfl
theorem s195_68 : XE d 195 68 ls (.ref a :: st) h Q ↔ XG [12] 5 (h.2.2.1 a) (fun v => XE d 195 71 ls (v :: st) h Q) := g_getf rfl
theorem s195_71 : XE d 195 71 ls (.int y :: .int x :: st) h Q ↔ (if x = y then XE d 195 74 ls st h Q else XE d 195 82 ls st h Q) := g_cne rfl
theorem s195_74 : XE d 195 74 (.val (.ref a) :: l) st h Q ↔ XE d 195 75 (.val (.ref a) :: l) (.ref a :: st) h Q := g_aload rfl rfl
theorem s195_75 : XE d 195 75 ls st h Q ↔ XE d 195 76 ls (.int 0 :: st) h Q := g_const rfl
theorem s195_76 : XE d 195 76 ls (.int x :: .ref a :: st) h Q ↔ XP [12] 8 (.int x) (h.2.2.1 a) (fun e => XE d 195 79 ls st (xset h a e) Q) := g_puti rfl
theorem s195_79 : XE d 195 79 ls st h Q ↔ XE d 195 303 ls st h Q := g_goto rfl
theorem s195_82 : XE d 195 82 (.val (.ref a) :: l) st h Q ↔ XE d 195 83 (.val (.ref a) :: l) (.ref a :: st) h Q := g_aload rfl rfl
theorem s195_83 : XE d 195 83 (.val (.ref a) :: l) st h Q ↔ XE d 195 84 (.val (.ref a) :: l) (.ref a :: st) h Q := g_aload rfl rfl
theorem s195_84 : XE d 195 84 ls (.ref a :: st) h Q ↔ XG [12] 7 (h.2.2.1 a) (fun v => XE d 195 87 ls (v :: st) h Q) := g_getf rfl
theorem s195_87 : XE d 195 87 ls (.int x :: .ref a :: st) h Q ↔ (xvo 8 st = true ∧ XV [(12, 193)] (h.2.2.1 a) (fun m' => XC d m' [.ref a, .int x] h (fun v h' => XE d 195 90 ls (v.toList ++ st) h' Q))) := h_v1 rfl rfl
theorem s195_90 : XE d 195 90 ls (.int x :: st) h Q ↔ (if x = 0 then XE d 195 154 ls st h Q else XE d 195 93 ls st h Q) := g_ifeq rfl
theorem s195_93 : XE d 195 93 (.val (.ref a) :: l) st h Q ↔ XE d 195 94 (.val (.ref a) :: l) (.ref a :: st) h Q := g_aload rfl rfl
theorem s195_94 : XE d 195 94 (.val (.ref a) :: l) st h Q ↔ XE d 195 95 (.val (.ref a) :: l) (.ref a :: st) h Q := g_aload rfl rfl
theorem s195_95 : XE d 195 95 ls (.ref a :: st) h Q ↔ XG [12] 6 (h.2.2.1 a) (fun v => XE d 195 98 ls (v :: st) h Q) := g_getf rfl
theorem s195_98 : XE d 195 98 ls (.int x :: .ref a :: st) h Q ↔ (xvo 8 st = true ∧ XV [(12, 193)] (h.2.2.1 a) (fun m' => XC d m' [.ref a, .int x] h (fun v h' => XE d 195 101 ls (v.toList ++ st) h' Q))) := h_v1 rfl rfl
theorem s195_101 : XE d 195 101 ls (.int x :: st) h Q ↔ (if x = 0 then XE d 195 117 ls st h Q else XE d 195 104 ls st h Q) := g_ifeq rfl
theorem s195_104 : XE d 195 104 (.val (.ref a) :: l) st h Q ↔ XE d 195 105 (.val (.ref a) :: l) (.ref a :: st) h Q := g_aload rfl rfl
theorem s195_105 : XE d 195 105 ls (.int x :: st) h Q ↔ XE d 195 106 ls (.int x :: .int x :: st) h Q := g_dupI rfl
theorem s195_105r : XE d 195 105 ls (.ref a :: st) h Q ↔ XE d 195 106 ls (.ref a :: .ref a :: st) h Q := g_dupR rfl
theorem s195_106 : XE d 195 106 ls (.ref a :: st) h Q ↔ XG [12] 6 (h.2.2.1 a) (fun v => XE d 195 109 ls (v :: st) h Q) := g_getf rfl
theorem s195_109 : XE d 195 109 ls st h Q ↔ XE d 195 110 ls (.int 1 :: st) h Q := g_const rfl
theorem s195_110 : XE d 195 110 ls (.int y :: .int x :: st) h Q ↔ XE d 195 111 ls (.int (x + y) :: st) h Q := g_add rfl
theorem s195_111 : XE d 195 111 ls (.int x :: .ref a :: st) h Q ↔ XP [12] 6 (.int x) (h.2.2.1 a) (fun e => XE d 195 114 ls st (xset h a e) Q) := g_puti rfl
theorem s195_114 : XE d 195 114 ls st h Q ↔ XE d 195 93 ls st h Q := g_goto rfl
theorem s195_117 : XE d 195 117 (.val (.ref a) :: l) st h Q ↔ XE d 195 118 (.val (.ref a) :: l) (.ref a :: st) h Q := g_aload rfl rfl
theorem s195_118 : XE d 195 118 (c0 :: .val (.int x) :: l) st h Q ↔ XE d 195 119 (c0 :: .val (.int x) :: l) (.int x :: st) h Q := g_iload rfl rfl
theorem s195_119 : XE d 195 119 ls (.int x :: st) h Q ↔ (if x = 0 then XE d 195 126 ls st h Q else XE d 195 122 ls st h Q) := g_ifeq rfl
theorem s195_122 : XE d 195 122 ls st h Q ↔ XE d 195 123 ls (.int 4 :: st) h Q := g_const rfl
theorem s195_123 : XE d 195 123 ls st h Q ↔ XE d 195 127 ls st h Q := g_goto rfl
theorem s195_126 : XE d 195 126 ls st h Q ↔ XE d 195 127 ls (.int 1 :: st) h Q := g_const rfl
theorem s195_127 : XE d 195 127 ls (.int x :: .ref a :: st) h Q ↔ XP [12] 8 (.int x) (h.2.2.1 a) (fun e => XE d 195 130 ls st (xset h a e) Q) := g_puti rfl
theorem s195_130 : XE d 195 130 (.val (.ref a) :: l) st h Q ↔ XE d 195 131 (.val (.ref a) :: l) (.ref a :: st) h Q := g_aload rfl rfl
theorem s195_131 : XE d 195 131 (.val (.ref a) :: l) st h Q ↔ XE d 195 132 (.val (.ref a) :: l) (.ref a :: st) h Q := g_aload rfl rfl
theorem s195_132 : XE d 195 132 ls (.ref a :: st) h Q ↔ XG [12] 4 (h.2.2.1 a) (fun v => XE d 195 135 ls (v :: st) h Q) := g_getf rfl
theorem s195_135 : XE d 195 135 (.val (.ref a) :: l) st h Q ↔ XE d 195 136 (.val (.ref a) :: l) (.ref a :: st) h Q := g_aload rfl rfl
theorem s195_136 : XE d 195 136 ls (.ref a :: st) h Q ↔ XG [12] 7 (h.2.2.1 a) (fun v => XE d 195 139 ls (v :: st) h Q) := g_getf rfl
theorem s195_139 : XE d 195 139 ls (.int x :: .ref a :: st) h Q ↔ XA [0, 7] (h.2.2.1 a) x (fun k => XE d 195 140 ls (.int k :: st) h Q) := g_ald rfl
theorem s195_140 : XE d 195 140 ls (.int x :: .ref a :: st) h Q ↔ XP [12] 9 (.int x) (h.2.2.1 a) (fun e => XE d 195 143 ls st (xset h a e) Q) := g_puti rfl
theorem s195_143 : XE d 195 143 (.val (.ref a) :: l) st h Q ↔ XE d 195 144 (.val (.ref a) :: l) (.ref a :: st) h Q := g_aload rfl rfl
theorem s195_144 : XE d 195 144 (.val (.ref a) :: l) st h Q ↔ XE d 195 145 (.val (.ref a) :: l) (.ref a :: st) h Q := g_aload rfl rfl
theorem s195_145 : XE d 195 145 ls (.ref a :: st) h Q ↔ XG [12] 6 (h.2.2.1 a) (fun v => XE d 195 148 ls (v :: st) h Q) := g_getf rfl
theorem s195_148 : XE d 195 148 ls (.int x :: .ref a :: st) h Q ↔ XP [12] 10 (.int x) (h.2.2.1 a) (fun e => XE d 195 151 ls st (xset h a e) Q) := g_puti rfl
theorem s195_151 : XE d 195 151 ls st h Q ↔ XE d 195 303 ls st h Q := g_goto rfl
theorem s195_154 : XE d 195 154 (.val (.ref a) :: l) st h Q ↔ XE d 195 155 (.val (.ref a) :: l) (.ref a :: st) h Q := g_aload rfl rfl
theorem s195_155 : XE d 195 155 (.val (.ref a) :: l) st h Q ↔ XE d 195 156 (.val (.ref a) :: l) (.ref a :: st) h Q := g_aload rfl rfl
theorem s195_156 : XE d 195 156 ls (.ref a :: st) h Q ↔ XG [12] 7 (h.2.2.1 a) (fun v => XE d 195 159 ls (v :: st) h Q) := g_getf rfl
theorem s195_159 : XE d 195 159 ls (.int x :: .ref a :: st) h Q ↔ (xvo 8 st = true ∧ XV [(12, 194)] (h.2.2.1 a) (fun m' => XC d m' [.ref a, .int x] h (fun v h' => XE d 195 162 ls (v.toList ++ st) h' Q))) := h_v1 rfl rfl
theorem s195_162 : XE d 195 162 ls (.int x :: st) h Q ↔ (if x = 0 then XE d 195 275 ls st h Q else XE d 195 165 ls st h Q) := g_ifeq rfl
theorem s195_165 : XE d 195 165 (.val (.ref a) :: l) st h Q ↔ XE d 195 166 (.val (.ref a) :: l) (.ref a :: st) h Q := g_aload rfl rfl
theorem s195_166 : XE d 195 166 ls st h Q ↔ XE d 195 167 ls (.int 0 :: st) h Q := g_const rfl
theorem s195_167 : XE d 195 167 ls (.int x :: .ref a :: st) h Q ↔ XP [12] 9 (.int x) (h.2.2.1 a) (fun e => XE d 195 170 ls st (xset h a e) Q) := g_puti rfl
theorem s195_170 : XE d 195 170 (.val (.ref a) :: l) st h Q ↔ XE d 195 171 (.val (.ref a) :: l) (.ref a :: st) h Q := g_aload rfl rfl
theorem s195_171 : XE d 195 171 (.val (.ref a) :: l) st h Q ↔ XE d 195 172 (.val (.ref a) :: l) (.ref a :: st) h Q := g_aload rfl rfl
theorem s195_172 : XE d 195 172 ls (.ref a :: st) h Q ↔ XG [12] 6 (h.2.2.1 a) (fun v => XE d 195 175 ls (v :: st) h Q) := g_getf rfl
theorem s195_175 : XE d 195 175 ls (.int x :: .ref a :: st) h Q ↔ (xvo 8 st = true ∧ XV [(12, 194)] (h.2.2.1 a) (fun m' => XC d m' [.ref a, .int x] h (fun v h' => XE d 195 178 ls (v.toList ++ st) h' Q))) := h_v1 rfl rfl
theorem s195_178 : XE d 195 178 ls (.int x :: st) h Q ↔ (if x = 0 then XE d 195 238 ls st h Q else XE d 195 181 ls st h Q) := g_ifeq rfl
theorem s195_181 : XE d 195 181 (.val (.ref a) :: l) st h Q ↔ XE d 195 182 (.val (.ref a) :: l) (.ref a :: st) h Q := g_aload rfl rfl
theorem s195_182 : XE d 195 182 (.val (.ref a) :: l) st h Q ↔ XE d 195 183 (.val (.ref a) :: l) (.ref a :: st) h Q := g_aload rfl rfl
theorem s195_183 : XE d 195 183 ls (.ref a :: st) h Q ↔ XG [12] 6 (h.2.2.1 a) (fun v => XE d 195 186 ls (v :: st) h Q) := g_getf rfl
theorem s195_186 : XE d 195 186 (.val (.ref a) :: l) st h Q ↔ XE d 195 187 (.val (.ref a) :: l) (.ref a :: st) h Q := g_aload rfl rfl
theorem s195_187 : XE d 195 187 ls (.ref a :: st) h Q ↔ XG [12] 7 (h.2.2.1 a) (fun v => XE d 195 190 ls (v :: st) h Q) := g_getf rfl
theorem s195_190 : XE d 195 190 ls (.int y :: .int x :: st) h Q ↔ XE d 195 191 ls (.int (x - y) :: st) h Q := g_sub rfl
theorem s195_191 : XE d 195 191 ls st h Q ↔ XE d 195 192 ls (.int 4 :: st) h Q := g_const rfl
theorem s195_192 : XE d 195 192 ls (.int y :: .int x :: st) h Q ↔ (if x < y then XE d 195 195 ls st h Q else XE d 195 218 ls st h Q) := g_cge rfl
theorem s195_195 : XE d 195 195 ls st h Q ↔ XE d 195 197 ls (.int 10 :: st) h Q := g_const rfl
theorem s195_197 : XE d 195 197 (.val (.ref a) :: l) st h Q ↔ XE d 195 198 (.val (.ref a) :: l) (.ref a :: st) h Q := g_aload rfl rfl
theorem s195_198 : XE d 195 198 ls (.ref a :: st) h Q ↔ XG [12] 9 (h.2.2.1 a) (fun v => XE d 195 201 ls (v :: st) h Q) := g_getf rfl
theorem s195_201 : XE d 195 201 ls (.int y :: .int x :: st) h Q ↔ XE d 195 202 ls (.int (x * y) :: st) h Q := g_mul rfl
theorem s195_202 : XE d 195 202 (.val (.ref a) :: l) st h Q ↔ XE d 195 203 (.val (.ref a) :: l) (.ref a :: st) h Q := g_aload rfl rfl
theorem s195_203 : XE d 195 203 ls (.ref a :: st) h Q ↔ XG [12] 4 (h.2.2.1 a) (fun v => XE d 195 206 ls (v :: st) h Q) := g_getf rfl
theorem s195_206 : XE d 195 206 (.val (.ref a) :: l) st h Q ↔ XE d 195 207 (.val (.ref a) :: l) (.ref a :: st) h Q := g_aload rfl rfl
theorem s195_207 : XE d 195 207 ls (.ref a :: st) h Q ↔ XG [12] 6 (h.2.2.1 a) (fun v => XE d 195 210 ls (v :: st) h Q) := g_getf rfl
theorem s195_210 : XE d 195 210 ls (.int x :: .ref a :: st) h Q ↔ XA [0, 7] (h.2.2.1 a) x (fun k => XE d 195 211 ls (.int k :: st) h Q) := g_ald rfl
theorem s195_211 : XE d 195 211 ls (.int y :: .int x :: st) h Q ↔ XE d 195 212 ls (.int (x + y) :: st) h Q := g_add rfl
theorem s195_212 : XE d 195 212 ls st h Q ↔ XE d 195 214 ls (.int 48 :: st) h Q := g_const rfl
theorem s195_214 : XE d 195 214 ls (.int y :: .int x :: st) h Q ↔ XE d 195 215 ls (.int (x - y) :: st) h Q := g_sub rfl
theorem s195_215 : XE d 195 215 ls st h Q ↔ XE d 195 222 ls st h Q := g_goto rfl
theorem s195_218 : XE d 195 218 (.val (.ref a) :: l) st h Q ↔ XE d 195 219 (.val (.ref a) :: l) (.ref a :: st) h Q := g_aload rfl rfl
theorem s195_219 : XE d 195 219 ls (.ref a :: st) h Q ↔ XG [12] 9 (h.2.2.1 a) (fun v => XE d 195 222 ls (v :: st) h Q) := g_getf rfl
theorem s195_222 : XE d 195 222 ls (.int x :: .ref a :: st) h Q ↔ XP [12] 9 (.int x) (h.2.2.1 a) (fun e => XE d 195 225 ls st (xset h a e) Q) := g_puti rfl
theorem s195_225 : XE d 195 225 (.val (.ref a) :: l) st h Q ↔ XE d 195 226 (.val (.ref a) :: l) (.ref a :: st) h Q := g_aload rfl rfl
theorem s195_226 : XE d 195 226 ls (.int x :: st) h Q ↔ XE d 195 227 ls (.int x :: .int x :: st) h Q := g_dupI rfl
theorem s195_226r : XE d 195 226 ls (.ref a :: st) h Q ↔ XE d 195 227 ls (.ref a :: .ref a :: st) h Q := g_dupR rfl
theorem s195_227 : XE d 195 227 ls (.ref a :: st) h Q ↔ XG [12] 6 (h.2.2.1 a) (fun v => XE d 195 230 ls (v :: st) h Q) := g_getf rfl
theorem s195_230 : XE d 195 230 ls st h Q ↔ XE d 195 231 ls (.int 1 :: st) h Q := g_const rfl
theorem s195_231 : XE d 195 231 ls (.int y :: .int x :: st) h Q ↔ XE d 195 232 ls (.int (x + y) :: st) h Q := g_add rfl
theorem s195_232 : XE d 195 232 ls (.int x :: .ref a :: st) h Q ↔ XP [12] 6 (.int x) (h.2.2.1 a) (fun e => XE d 195 235 ls st (xset h a e) Q) := g_puti rfl
theorem s195_235 : XE d 195 235 ls st h Q ↔ XE d 195 170 ls st h Q := g_goto rfl
theorem s195_238 : XE d 195 238 (.val (.ref a) :: l) st h Q ↔ XE d 195 239 (.val (.ref a) :: l) (.ref a :: st) h Q := g_aload rfl rfl
theorem s195_239 : XE d 195 239 (c0 :: .val (.int x) :: l) st h Q ↔ XE d 195 240 (c0 :: .val (.int x) :: l) (.int x :: st) h Q := g_iload rfl rfl
theorem s195_240 : XE d 195 240 ls (.int x :: st) h Q ↔ (if x = 0 then XE d 195 243 ls st h Q else XE d 195 256 ls st h Q) := g_ifne rfl
theorem s195_243 : XE d 195 243 (.val (.ref a) :: l) st h Q ↔ XE d 195 244 (.val (.ref a) :: l) (.ref a :: st) h Q := g_aload rfl rfl
theorem s195_244 : XE d 195 244 ls (.ref a :: st) h Q ↔ XG [12] 6 (h.2.2.1 a) (fun v => XE d 195 247 ls (v :: st) h Q) := g_getf rfl
theorem s195_247 : XE d 195 247 (.val (.ref a) :: l) st h Q ↔ XE d 195 248 (.val (.ref a) :: l) (.ref a :: st) h Q := g_aload rfl rfl
theorem s195_248 : XE d 195 248 ls (.ref a :: st) h Q ↔ XG [12] 7 (h.2.2.1 a) (fun v => XE d 195 251 ls (v :: st) h Q) := g_getf rfl
theorem s195_251 : XE d 195 251 ls (.int y :: .int x :: st) h Q ↔ XE d 195 252 ls (.int (x - y) :: st) h Q := g_sub rfl
theorem s195_252 : XE d 195 252 ls st h Q ↔ XE d 195 253 ls (.int 4 :: st) h Q := g_const rfl
theorem s195_253 : XE d 195 253 ls (.int y :: .int x :: st) h Q ↔ (if y < x then XE d 195 256 ls st h Q else XE d 195 260 ls st h Q) := g_cle rfl
theorem s195_256 : XE d 195 256 ls st h Q ↔ XE d 195 257 ls (.int 4 :: st) h Q := g_const rfl
theorem s195_257 : XE d 195 257 ls st h Q ↔ XE d 195 261 ls st h Q := g_goto rfl
theorem s195_260 : XE d 195 260 ls st h Q ↔ XE d 195 261 ls (.int 2 :: st) h Q := g_const rfl
theorem s195_261 : XE d 195 261 ls (.int x :: .ref a :: st) h Q ↔ XP [12] 8 (.int x) (h.2.2.1 a) (fun e => XE d 195 264 ls st (xset h a e) Q) := g_puti rfl
theorem s195_264 : XE d 195 264 (.val (.ref a) :: l) st h Q ↔ XE d 195 265 (.val (.ref a) :: l) (.ref a :: st) h Q := g_aload rfl rfl
theorem s195_265 : XE d 195 265 (.val (.ref a) :: l) st h Q ↔ XE d 195 266 (.val (.ref a) :: l) (.ref a :: st) h Q := g_aload rfl rfl
theorem s195_266 : XE d 195 266 ls (.ref a :: st) h Q ↔ XG [12] 6 (h.2.2.1 a) (fun v => XE d 195 269 ls (v :: st) h Q) := g_getf rfl
theorem s195_269 : XE d 195 269 ls (.int x :: .ref a :: st) h Q ↔ XP [12] 10 (.int x) (h.2.2.1 a) (fun e => XE d 195 272 ls st (xset h a e) Q) := g_puti rfl
theorem s195_272 : XE d 195 272 ls st h Q ↔ XE d 195 303 ls st h Q := g_goto rfl
theorem s195_275 : XE d 195 275 (.val (.ref a) :: l) st h Q ↔ XE d 195 276 (.val (.ref a) :: l) (.ref a :: st) h Q := g_aload rfl rfl
theorem s195_276 : XE d 195 276 ls st h Q ↔ XE d 195 277 ls (.int 3 :: st) h Q := g_const rfl
theorem s195_277 : XE d 195 277 ls (.int x :: .ref a :: st) h Q ↔ XP [12] 8 (.int x) (h.2.2.1 a) (fun e => XE d 195 280 ls st (xset h a e) Q) := g_puti rfl
theorem s195_280 : XE d 195 280 (.val (.ref a) :: l) st h Q ↔ XE d 195 281 (.val (.ref a) :: l) (.ref a :: st) h Q := g_aload rfl rfl
theorem s195_281 : XE d 195 281 (.val (.ref a) :: l) st h Q ↔ XE d 195 282 (.val (.ref a) :: l) (.ref a :: st) h Q := g_aload rfl rfl
theorem s195_282 : XE d 195 282 ls (.ref a :: st) h Q ↔ XG [12] 4 (h.2.2.1 a) (fun v => XE d 195 285 ls (v :: st) h Q) := g_getf rfl
theorem s195_285 : XE d 195 285 (.val (.ref a) :: l) st h Q ↔ XE d 195 286 (.val (.ref a) :: l) (.ref a :: st) h Q := g_aload rfl rfl
theorem s195_286 : XE d 195 286 ls (.ref a :: st) h Q ↔ XG [12] 7 (h.2.2.1 a) (fun v => XE d 195 289 ls (v :: st) h Q) := g_getf rfl
theorem s195_289 : XE d 195 289 ls (.int x :: .ref a :: st) h Q ↔ XA [0, 7] (h.2.2.1 a) x (fun k => XE d 195 290 ls (.int k :: st) h Q) := g_ald rfl
theorem s195_290 : XE d 195 290 ls (.int x :: .ref a :: st) h Q ↔ XP [12] 9 (.int x) (h.2.2.1 a) (fun e => XE d 195 293 ls st (xset h a e) Q) := g_puti rfl
theorem s195_293 : XE d 195 293 (.val (.ref a) :: l) st h Q ↔ XE d 195 294 (.val (.ref a) :: l) (.ref a :: st) h Q := g_aload rfl rfl
theorem s195_294 : XE d 195 294 ls (.int x :: st) h Q ↔ XE d 195 295 ls (.int x :: .int x :: st) h Q := g_dupI rfl
theorem s195_294r : XE d 195 294 ls (.ref a :: st) h Q ↔ XE d 195 295 ls (.ref a :: .ref a :: st) h Q := g_dupR rfl
theorem s195_295 : XE d 195 295 ls (.ref a :: st) h Q ↔ XG [12] 6 (h.2.2.1 a) (fun v => XE d 195 298 ls (v :: st) h Q) := g_getf rfl
theorem s195_298 : XE d 195 298 ls st h Q ↔ XE d 195 299 ls (.int 1 :: st) h Q := g_const rfl
theorem s195_299 : XE d 195 299 ls (.int y :: .int x :: st) h Q ↔ XE d 195 300 ls (.int (x + y) :: st) h Q := g_add rfl
theorem s195_300 : XE d 195 300 ls (.int x :: .ref a :: st) h Q ↔ XP [12] 6 (.int x) (h.2.2.1 a) (fun e => XE d 195 303 ls st (xset h a e) Q) := g_puti rfl
theorem s195_303 : XE d 195 303 ls [] h Q ↔ Q none h := g_ret rfl
-- 196: TwoBellsModel.takesKey()Z
theorem e196 : XC (d + 1) 196 [.ref a] h Q ↔ XE d 196 0 [.val (.ref a), .unset, .unset, .unset, .unset] [] h Q := XC_in rfl
theorem s196_0 : XE d 196 0 (.val (.ref a) :: l) st h Q ↔ XE d 196 1 (.val (.ref a) :: l) (.ref a :: st) h Q := g_aload rfl rfl
theorem s196_1 : XE d 196 1 ls (.ref a :: st) h Q ↔ XG [12] 8 (h.2.2.1 a) (fun v => XE d 196 4 ls (v :: st) h Q) := g_getf rfl
theorem s196_4 : XE d 196 4 ls st h Q ↔ XE d 196 5 ls (.int 1 :: st) h Q := g_const rfl
theorem s196_5 : XE d 196 5 ls (.int y :: .int x :: st) h Q ↔ (if x = y then XE d 196 10 ls st h Q else XE d 196 8 ls st h Q) := g_ceq rfl
theorem s196_8 : XE d 196 8 ls st h Q ↔ XE d 196 9 ls (.int 0 :: st) h Q := g_const rfl
theorem s196_9 : XE d 196 9 ls [.int 0] h Q ↔ Q (some (.int 0)) h := g_zret rfl rfl
theorem s196_9t : XE d 196 9 ls [.int 1] h Q ↔ Q (some (.int 1)) h := g_zret rfl rfl
theorem s196_9b : XE d 196 9 ls [.int (bI q)] h Q ↔ Q (some (.int (bI q))) h := g_zret (bI_nar q) rfl
theorem s196_10 : XE d 196 10 ls st h Q ↔ XE d 196 11 ls (.int 0 :: st) h Q := g_const rfl
theorem s196_11 : XE d 196 11 (c0 :: c1 :: l) (.int x :: st) h Q ↔ XE d 196 12 (c0 :: .val (.int x) :: l) st h Q := g_istore (Nat.lt_of_lt_of_le (show 1 < 2 by decide) (Nat.le_add_left 2 _)) rfl rfl
theorem s196_12 : XE d 196 12 (c0 :: .val (.int x) :: l) st h Q ↔ XE d 196 13 (c0 :: .val (.int x) :: l) (.int x :: st) h Q := g_iload rfl rfl
theorem s196_13 : XE d 196 13 ls st h Q ↔ XE d 196 14 ls (.int 3 :: st) h Q := g_const rfl
theorem s196_14 : XE d 196 14 ls (.int y :: .int x :: st) h Q ↔ (if x < y then XE d 196 17 ls st h Q else XE d 196 127 ls st h Q) := g_cge rfl
theorem s196_17 : XE d 196 17 (.val (.ref a) :: l) st h Q ↔ XE d 196 18 (.val (.ref a) :: l) (.ref a :: st) h Q := g_aload rfl rfl
theorem s196_18 : XE d 196 18 ls (.ref a :: st) h Q ↔ XG [12] 13 (h.2.2.1 a) (fun v => XE d 196 21 ls (v :: st) h Q) := g_getf rfl
theorem s196_21 : XE d 196 21 (c0 :: .val (.int x) :: l) st h Q ↔ XE d 196 22 (c0 :: .val (.int x) :: l) (.int x :: st) h Q := g_iload rfl rfl
theorem s196_22 : XE d 196 22 ls st h Q ↔ XE d 196 23 ls (.int 1 :: st) h Q := g_const rfl
theorem s196_23 : XE d 196 23 ls (.int y :: .int x :: st) h Q ↔ XE d 196 24 ls (.int (x + y) :: st) h Q := g_add rfl
theorem s196_24 : XE d 196 24 ls (.int x :: .ref a :: st) h Q ↔ XA [0, 7] (h.2.2.1 a) x (fun k => XE d 196 25 ls (.int k :: st) h Q) := g_ald rfl
theorem s196_25 : XE d 196 25 (.val (.ref a) :: l) st h Q ↔ XE d 196 26 (.val (.ref a) :: l) (.ref a :: st) h Q := g_aload rfl rfl
theorem s196_26 : XE d 196 26 ls (.ref a :: st) h Q ↔ XG [12] 13 (h.2.2.1 a) (fun v => XE d 196 29 ls (v :: st) h Q) := g_getf rfl
theorem s196_29 : XE d 196 29 (c0 :: .val (.int x) :: l) st h Q ↔ XE d 196 30 (c0 :: .val (.int x) :: l) (.int x :: st) h Q := g_iload rfl rfl
theorem s196_30 : XE d 196 30 ls (.int x :: .ref a :: st) h Q ↔ XA [0, 7] (h.2.2.1 a) x (fun k => XE d 196 31 ls (.int k :: st) h Q) := g_ald rfl
theorem s196_31 : XE d 196 31 ls (.int y :: .int x :: st) h Q ↔ XE d 196 32 ls (.int (x - y) :: st) h Q := g_sub rfl
theorem s196_32 : XE d 196 32 (c0 :: c1 :: c2 :: l) (.int x :: st) h Q ↔ XE d 196 33 (c0 :: c1 :: .val (.int x) :: l) st h Q := g_istore (Nat.lt_of_lt_of_le (show 2 < 3 by decide) (Nat.le_add_left 3 _)) rfl rfl
theorem s196_33 : XE d 196 33 (c0 :: c1 :: .val (.int x) :: l) st h Q ↔ XE d 196 34 (c0 :: c1 :: .val (.int x) :: l) (.int x :: st) h Q := g_iload rfl rfl
theorem s196_34 : XE d 196 34 (.val (.ref a) :: l) st h Q ↔ XE d 196 35 (.val (.ref a) :: l) (.ref a :: st) h Q := g_aload rfl rfl
theorem s196_35 : XE d 196 35 ls (.ref a :: st) h Q ↔ XG [12] 6 (h.2.2.1 a) (fun v => XE d 196 38 ls (v :: st) h Q) := g_getf rfl
theorem s196_38 : XE d 196 38 (.val (.ref a) :: l) st h Q ↔ XE d 196 39 (.val (.ref a) :: l) (.ref a :: st) h Q := g_aload rfl rfl
theorem s196_39 : XE d 196 39 ls (.ref a :: st) h Q ↔ XG [12] 7 (h.2.2.1 a) (fun v => XE d 196 42 ls (v :: st) h Q) := g_getf rfl
theorem s196_42 : XE d 196 42 ls (.int y :: .int x :: st) h Q ↔ XE d 196 43 ls (.int (x - y) :: st) h Q := g_sub rfl
theorem s196_43 : XE d 196 43 ls (.int y :: .int x :: st) h Q ↔ (if x = y then XE d 196 46 ls st h Q else XE d 196 50 ls st h Q) := g_cne rfl
theorem s196_46 : XE d 196 46 ls st h Q ↔ XE d 196 47 ls (.int 1 :: st) h Q := g_const rfl
theorem s196_47 : XE d 196 47 ls st h Q ↔ XE d 196 51 ls st h Q := g_goto rfl
theorem s196_50 : XE d 196 50 ls st h Q ↔ XE d 196 51 ls (.int 0 :: st) h Q := g_const rfl
theorem s196_51 : XE d 196 51 (c0 :: c1 :: c2 :: c3 :: l) (.int x :: st) h Q ↔ XE d 196 52 (c0 :: c1 :: c2 :: .val (.int x) :: l) st h Q := g_istore (Nat.lt_of_lt_of_le (show 3 < 4 by decide) (Nat.le_add_left 4 _)) rfl rfl
theorem s196_52 : XE d 196 52 ls st h Q ↔ XE d 196 53 ls (.int 0 :: st) h Q := g_const rfl
theorem s196_53 : XE d 196 53 (c0 :: c1 :: c2 :: c3 :: c4 :: l) (.int x :: st) h Q ↔ XE d 196 55 (c0 :: c1 :: c2 :: c3 :: .val (.int x) :: l) st h Q := g_istore (Nat.lt_of_lt_of_le (show 4 < 5 by decide) (Nat.le_add_left 5 _)) rfl rfl
theorem s196_55 : XE d 196 55 (c0 :: c1 :: c2 :: c3 :: .val (.int x) :: l) st h Q ↔ XE d 196 57 (c0 :: c1 :: c2 :: c3 :: .val (.int x) :: l) (.int x :: st) h Q := g_iload rfl rfl
theorem s196_57 : XE d 196 57 (c0 :: c1 :: .val (.int x) :: l) st h Q ↔ XE d 196 58 (c0 :: c1 :: .val (.int x) :: l) (.int x :: st) h Q := g_iload rfl rfl
theorem s196_58 : XE d 196 58 ls (.int y :: .int x :: st) h Q ↔ (if x < y then XE d 196 61 ls st h Q else XE d 196 106 ls st h Q) := g_cge rfl
theorem s196_61 : XE d 196 61 (c0 :: c1 :: c2 :: .val (.int x) :: l) st h Q ↔ XE d 196 62 (c0 :: c1 :: c2 :: .val (.int x) :: l) (.int x :: st) h Q := g_iload rfl rfl
theorem s196_62 : XE d 196 62 ls (.int x :: st) h Q ↔ (if x = 0 then XE d 196 106 ls st h Q else XE d 196 65 ls st h Q) := g_ifeq rfl
theorem s196_65 : XE d 196 65 (.val (.ref a) :: l) st h Q ↔ XE d 196 66 (.val (.ref a) :: l) (.ref a :: st) h Q := g_aload rfl rfl
theorem s196_66 : XE d 196 66 ls (.ref a :: st) h Q ↔ XG [12] 4 (h.2.2.1 a) (fun v => XE d 196 69 ls (v :: st) h Q) := g_getf rfl
theorem s196_69 : XE d 196 69 (.val (.ref a) :: l) st h Q ↔ XE d 196 70 (.val (.ref a) :: l) (.ref a :: st) h Q := g_aload rfl rfl
theorem s196_70 : XE d 196 70 ls (.ref a :: st) h Q ↔ XG [12] 7 (h.2.2.1 a) (fun v => XE d 196 73 ls (v :: st) h Q) := g_getf rfl
theorem s196_73 : XE d 196 73 (c0 :: c1 :: c2 :: c3 :: .val (.int x) :: l) st h Q ↔ XE d 196 75 (c0 :: c1 :: c2 :: c3 :: .val (.int x) :: l) (.int x :: st) h Q := g_iload rfl rfl
theorem s196_75 : XE d 196 75 ls (.int y :: .int x :: st) h Q ↔ XE d 196 76 ls (.int (x + y) :: st) h Q := g_add rfl
theorem s196_76 : XE d 196 76 ls (.int x :: .ref a :: st) h Q ↔ XA [0, 7] (h.2.2.1 a) x (fun k => XE d 196 77 ls (.int k :: st) h Q) := g_ald rfl
theorem s196_77 : XE d 196 77 (.val (.ref a) :: l) st h Q ↔ XE d 196 78 (.val (.ref a) :: l) (.ref a :: st) h Q := g_aload rfl rfl
theorem s196_78 : XE d 196 78 ls (.ref a :: st) h Q ↔ XG [12] 12 (h.2.2.1 a) (fun v => XE d 196 81 ls (v :: st) h Q) := g_getf rfl
theorem s196_81 : XE d 196 81 (.val (.ref a) :: l) st h Q ↔ XE d 196 82 (.val (.ref a) :: l) (.ref a :: st) h Q := g_aload rfl rfl
theorem s196_82 : XE d 196 82 ls (.ref a :: st) h Q ↔ XG [12] 13 (h.2.2.1 a) (fun v => XE d 196 85 ls (v :: st) h Q) := g_getf rfl
theorem s196_85 : XE d 196 85 (c0 :: .val (.int x) :: l) st h Q ↔ XE d 196 86 (c0 :: .val (.int x) :: l) (.int x :: st) h Q := g_iload rfl rfl
theorem s196_86 : XE d 196 86 ls (.int x :: .ref a :: st) h Q ↔ XA [0, 7] (h.2.2.1 a) x (fun k => XE d 196 87 ls (.int k :: st) h Q) := g_ald rfl
theorem s196_87 : XE d 196 87 (c0 :: c1 :: c2 :: c3 :: .val (.int x) :: l) st h Q ↔ XE d 196 89 (c0 :: c1 :: c2 :: c3 :: .val (.int x) :: l) (.int x :: st) h Q := g_iload rfl rfl
theorem s196_89 : XE d 196 89 ls (.int y :: .int x :: st) h Q ↔ XE d 196 90 ls (.int (x + y) :: st) h Q := g_add rfl
theorem s196_90 : XE d 196 90 ls (.int x :: .ref a :: st) h Q ↔ XA [2] (h.2.2.1 a) x (fun k => XE d 196 91 ls (.int k :: st) h Q) := g_ald rfl
theorem s196_91 : XE d 196 91 ls (.int y :: .int x :: st) h Q ↔ (if x = y then XE d 196 94 ls st h Q else XE d 196 98 ls st h Q) := g_cne rfl
theorem s196_94 : XE d 196 94 ls st h Q ↔ XE d 196 95 ls (.int 1 :: st) h Q := g_const rfl
theorem s196_95 : XE d 196 95 ls st h Q ↔ XE d 196 99 ls st h Q := g_goto rfl
theorem s196_98 : XE d 196 98 ls st h Q ↔ XE d 196 99 ls (.int 0 :: st) h Q := g_const rfl
theorem s196_99 : XE d 196 99 (c0 :: c1 :: c2 :: c3 :: l) (.int x :: st) h Q ↔ XE d 196 100 (c0 :: c1 :: c2 :: .val (.int x) :: l) st h Q := g_istore (Nat.lt_of_lt_of_le (show 3 < 4 by decide) (Nat.le_add_left 4 _)) rfl rfl
theorem s196_100 : XE d 196 100 (c0 :: c1 :: c2 :: c3 :: .val (.int x) :: l) st h Q ↔ XE d 196 103 (c0 :: c1 :: c2 :: c3 :: .val (.int (x + 1)) :: l) st h Q := g_iinc rfl rfl rfl
theorem s196_103 : XE d 196 103 ls st h Q ↔ XE d 196 55 ls st h Q := g_goto rfl
theorem s196_106 : XE d 196 106 (c0 :: c1 :: c2 :: .val (.int x) :: l) st h Q ↔ XE d 196 107 (c0 :: c1 :: c2 :: .val (.int x) :: l) (.int x :: st) h Q := g_iload rfl rfl
theorem s196_107 : XE d 196 107 ls (.int x :: st) h Q ↔ (if x = 0 then XE d 196 121 ls st h Q else XE d 196 110 ls st h Q) := g_ifeq rfl
theorem s196_110 : XE d 196 110 (.val (.ref a) :: l) st h Q ↔ XE d 196 111 (.val (.ref a) :: l) (.ref a :: st) h Q := g_aload rfl rfl
theorem s196_111 : XE d 196 111 (c0 :: .val (.int x) :: l) st h Q ↔ XE d 196 112 (c0 :: .val (.int x) :: l) (.int x :: st) h Q := g_iload rfl rfl
theorem s196_112 : XE d 196 112 ls (.int x :: .ref a :: st) h Q ↔ XP [12] 11 (.int x) (h.2.2.1 a) (fun e => XE d 196 115 ls st (xset h a e) Q) := g_puti rfl
theorem s196_115 : XE d 196 115 (.val (.ref a) :: l) st h Q ↔ XE d 196 116 (.val (.ref a) :: l) (.ref a :: st) h Q := g_aload rfl rfl
theorem s196_116 : XE d 196 116 ls (.ref a :: st) h Q ↔ (xvo 8 st = true ∧ XV [(12, 195)] (h.2.2.1 a) (fun m' => XC d m' [.ref a] h (fun v h' => XE d 196 119 ls (v.toList ++ st) h' Q))) := h_v0 rfl
theorem s196_119 : XE d 196 119 ls st h Q ↔ XE d 196 120 ls (.int 1 :: st) h Q := g_const rfl
theorem s196_120 : XE d 196 120 ls [.int 0] h Q ↔ Q (some (.int 0)) h := g_zret rfl rfl
theorem s196_120t : XE d 196 120 ls [.int 1] h Q ↔ Q (some (.int 1)) h := g_zret rfl rfl
theorem s196_120b : XE d 196 120 ls [.int (bI q)] h Q ↔ Q (some (.int (bI q))) h := g_zret (bI_nar q) rfl
theorem s196_121 : XE d 196 121 (c0 :: .val (.int x) :: l) st h Q ↔ XE d 196 124 (c0 :: .val (.int (x + 1)) :: l) st h Q := g_iinc rfl rfl rfl
theorem s196_124 : XE d 196 124 ls st h Q ↔ XE d 196 12 ls st h Q := g_goto rfl
theorem s196_127 : XE d 196 127 ls st h Q ↔ XE d 196 128 ls (.int 0 :: st) h Q := g_const rfl
theorem s196_128 : XE d 196 128 ls [.int 0] h Q ↔ Q (some (.int 0)) h := g_zret rfl rfl
theorem s196_128t : XE d 196 128 ls [.int 1] h Q ↔ Q (some (.int 1)) h := g_zret rfl rfl
theorem s196_128b : XE d 196 128 ls [.int (bI q)] h Q ↔ Q (some (.int (bI q))) h := g_zret (bI_nar q) rfl
-- 197: TwoBellsModel.nameOf(I)I
theorem e197 : XC (d + 1) 197 [.ref a, .int x] h Q ↔ XE d 197 0 [.val (.ref a), .val (.int x)] [] h Q := XC_in rfl
theorem s197_0 : XE d 197 0 (.val (.ref a) :: l) st h Q ↔ XE d 197 1 (.val (.ref a) :: l) (.ref a :: st) h Q := g_aload rfl rfl
theorem s197_1 : XE d 197 1 ls (.ref a :: st) h Q ↔ XG [12] 11 (h.2.2.1 a) (fun v => XE d 197 4 ls (v :: st) h Q) := g_getf rfl
theorem s197_4 : XE d 197 4 ls (.int x :: st) h Q ↔ xswi d 197 x 96 ls st h Q [(0, 32), (1, 74)] := g_switch rfl
theorem s197_32 : XE d 197 32 (c0 :: .val (.int x) :: l) st h Q ↔ XE d 197 33 (c0 :: .val (.int x) :: l) (.int x :: st) h Q := g_iload rfl rfl
theorem s197_33 : XE d 197 33 ls st h Q ↔ XE d 197 35 ls (.int 97 :: st) h Q := g_const rfl
theorem s197_35 : XE d 197 35 ls (.int y :: .int x :: st) h Q ↔ (if x = y then XE d 197 38 ls st h Q else XE d 197 42 ls st h Q) := g_cne rfl
theorem s197_38 : XE d 197 38 ls st h Q ↔ XE d 197 39 ls (.int 0 :: st) h Q := g_const rfl
theorem s197_39 : XE d 197 39 ls st h Q ↔ XE d 197 73 ls st h Q := g_goto rfl
theorem s197_42 : XE d 197 42 (c0 :: .val (.int x) :: l) st h Q ↔ XE d 197 43 (c0 :: .val (.int x) :: l) (.int x :: st) h Q := g_iload rfl rfl
theorem s197_43 : XE d 197 43 ls st h Q ↔ XE d 197 45 ls (.int 99 :: st) h Q := g_const rfl
theorem s197_45 : XE d 197 45 ls (.int y :: .int x :: st) h Q ↔ (if x = y then XE d 197 48 ls st h Q else XE d 197 52 ls st h Q) := g_cne rfl
theorem s197_48 : XE d 197 48 ls st h Q ↔ XE d 197 49 ls (.int 1 :: st) h Q := g_const rfl
theorem s197_49 : XE d 197 49 ls st h Q ↔ XE d 197 73 ls st h Q := g_goto rfl
theorem s197_52 : XE d 197 52 (c0 :: .val (.int x) :: l) st h Q ↔ XE d 197 53 (c0 :: .val (.int x) :: l) (.int x :: st) h Q := g_iload rfl rfl
theorem s197_53 : XE d 197 53 ls st h Q ↔ XE d 197 55 ls (.int 108 :: st) h Q := g_const rfl
theorem s197_55 : XE d 197 55 ls (.int y :: .int x :: st) h Q ↔ (if x = y then XE d 197 58 ls st h Q else XE d 197 62 ls st h Q) := g_cne rfl
theorem s197_58 : XE d 197 58 ls st h Q ↔ XE d 197 59 ls (.int 2 :: st) h Q := g_const rfl
theorem s197_59 : XE d 197 59 ls st h Q ↔ XE d 197 73 ls st h Q := g_goto rfl
theorem s197_62 : XE d 197 62 (c0 :: .val (.int x) :: l) st h Q ↔ XE d 197 63 (c0 :: .val (.int x) :: l) (.int x :: st) h Q := g_iload rfl rfl
theorem s197_63 : XE d 197 63 ls st h Q ↔ XE d 197 65 ls (.int 112 :: st) h Q := g_const rfl
theorem s197_65 : XE d 197 65 ls (.int y :: .int x :: st) h Q ↔ (if x = y then XE d 197 68 ls st h Q else XE d 197 72 ls st h Q) := g_cne rfl
theorem s197_68 : XE d 197 68 ls st h Q ↔ XE d 197 69 ls (.int 3 :: st) h Q := g_const rfl
theorem s197_69 : XE d 197 69 ls st h Q ↔ XE d 197 73 ls st h Q := g_goto rfl
theorem s197_72 : XE d 197 72 ls st h Q ↔ XE d 197 73 ls (.int (-1) :: st) h Q := g_const rfl
theorem s197_73 : XE d 197 73 ls [.int x] h Q ↔ Q (some (.int x)) h := g_iret rfl
theorem s197_74 : XE d 197 74 (c0 :: .val (.int x) :: l) st h Q ↔ XE d 197 75 (c0 :: .val (.int x) :: l) (.int x :: st) h Q := g_iload rfl rfl
theorem s197_75 : XE d 197 75 ls st h Q ↔ XE d 197 77 ls (.int 119 :: st) h Q := g_const rfl
theorem s197_77 : XE d 197 77 ls (.int y :: .int x :: st) h Q ↔ (if x = y then XE d 197 80 ls st h Q else XE d 197 84 ls st h Q) := g_cne rfl
theorem s197_80 : XE d 197 80 ls st h Q ↔ XE d 197 81 ls (.int 0 :: st) h Q := g_const rfl
theorem s197_81 : XE d 197 81 ls st h Q ↔ XE d 197 95 ls st h Q := g_goto rfl
theorem s197_84 : XE d 197 84 (c0 :: .val (.int x) :: l) st h Q ↔ XE d 197 85 (c0 :: .val (.int x) :: l) (.int x :: st) h Q := g_iload rfl rfl
theorem s197_85 : XE d 197 85 ls st h Q ↔ XE d 197 87 ls (.int 109 :: st) h Q := g_const rfl
theorem s197_87 : XE d 197 87 ls (.int y :: .int x :: st) h Q ↔ (if x = y then XE d 197 90 ls st h Q else XE d 197 94 ls st h Q) := g_cne rfl
theorem s197_90 : XE d 197 90 ls st h Q ↔ XE d 197 91 ls (.int 1 :: st) h Q := g_const rfl
theorem s197_91 : XE d 197 91 ls st h Q ↔ XE d 197 95 ls st h Q := g_goto rfl
theorem s197_94 : XE d 197 94 ls st h Q ↔ XE d 197 95 ls (.int (-1) :: st) h Q := g_const rfl
theorem s197_95 : XE d 197 95 ls [.int x] h Q ↔ Q (some (.int x)) h := g_iret rfl
theorem s197_96 : XE d 197 96 (c0 :: .val (.int x) :: l) st h Q ↔ XE d 197 97 (c0 :: .val (.int x) :: l) (.int x :: st) h Q := g_iload rfl rfl
theorem s197_97 : XE d 197 97 ls st h Q ↔ XE d 197 99 ls (.int 112 :: st) h Q := g_const rfl
theorem s197_99 : XE d 197 99 ls (.int y :: .int x :: st) h Q ↔ (if x = y then XE d 197 102 ls st h Q else XE d 197 106 ls st h Q) := g_cne rfl
theorem s197_102 : XE d 197 102 ls st h Q ↔ XE d 197 103 ls (.int 0 :: st) h Q := g_const rfl
theorem s197_103 : XE d 197 103 ls st h Q ↔ XE d 197 127 ls st h Q := g_goto rfl
theorem s197_106 : XE d 197 106 (c0 :: .val (.int x) :: l) st h Q ↔ XE d 197 107 (c0 :: .val (.int x) :: l) (.int x :: st) h Q := g_iload rfl rfl
theorem s197_107 : XE d 197 107 ls st h Q ↔ XE d 197 109 ls (.int 113 :: st) h Q := g_const rfl
theorem s197_109 : XE d 197 109 ls (.int y :: .int x :: st) h Q ↔ (if x = y then XE d 197 112 ls st h Q else XE d 197 116 ls st h Q) := g_cne rfl
theorem s197_112 : XE d 197 112 ls st h Q ↔ XE d 197 113 ls (.int 1 :: st) h Q := g_const rfl
theorem s197_113 : XE d 197 113 ls st h Q ↔ XE d 197 127 ls st h Q := g_goto rfl
theorem s197_116 : XE d 197 116 (c0 :: .val (.int x) :: l) st h Q ↔ XE d 197 117 (c0 :: .val (.int x) :: l) (.int x :: st) h Q := g_iload rfl rfl
theorem s197_117 : XE d 197 117 ls st h Q ↔ XE d 197 119 ls (.int 111 :: st) h Q := g_const rfl
theorem s197_119 : XE d 197 119 ls (.int y :: .int x :: st) h Q ↔ (if x = y then XE d 197 122 ls st h Q else XE d 197 126 ls st h Q) := g_cne rfl
theorem s197_122 : XE d 197 122 ls st h Q ↔ XE d 197 123 ls (.int 2 :: st) h Q := g_const rfl
theorem s197_123 : XE d 197 123 ls st h Q ↔ XE d 197 127 ls st h Q := g_goto rfl
theorem s197_126 : XE d 197 126 ls st h Q ↔ XE d 197 127 ls (.int (-1) :: st) h Q := g_const rfl
theorem s197_127 : XE d 197 127 ls [.int x] h Q ↔ Q (some (.int x)) h := g_iret rfl
-- 198: TwoBellsModel.rank(I)I
theorem e198 : XC (d + 1) 198 [.int x] h Q ↔ XE d 198 0 [.val (.int x)] [] h Q := XC_in rfl
theorem s198_0 : XE d 198 0 (.val (.int x) :: l) st h Q ↔ XE d 198 1 (.val (.int x) :: l) (.int x :: st) h Q := g_iload rfl rfl
theorem s198_1 : XE d 198 1 ls st h Q ↔ XE d 198 2 ls (.int (-1) :: st) h Q := g_const rfl
theorem s198_2 : XE d 198 2 ls (.int y :: .int x :: st) h Q ↔ (if x = y then XE d 198 5 ls st h Q else XE d 198 9 ls st h Q) := g_cne rfl
theorem s198_5 : XE d 198 5 ls st h Q ↔ XE d 198 6 ls (.int 1 :: st) h Q := g_const rfl
theorem s198_6 : XE d 198 6 ls st h Q ↔ XE d 198 51 ls st h Q := g_goto rfl
theorem s198_9 : XE d 198 9 (.val (.int x) :: l) st h Q ↔ XE d 198 10 (.val (.int x) :: l) (.int x :: st) h Q := g_iload rfl rfl
theorem s198_10 : XE d 198 10 ls st h Q ↔ XE d 198 12 ls (.int (-2) :: st) h Q := g_const rfl
theorem s198_12 : XE d 198 12 ls (.int y :: .int x :: st) h Q ↔ (if x = y then XE d 198 15 ls st h Q else XE d 198 19 ls st h Q) := g_cne rfl
theorem s198_15 : XE d 198 15 ls st h Q ↔ XE d 198 16 ls (.int 2 :: st) h Q := g_const rfl
theorem s198_16 : XE d 198 16 ls st h Q ↔ XE d 198 51 ls st h Q := g_goto rfl
theorem s198_19 : XE d 198 19 (.val (.int x) :: l) st h Q ↔ XE d 198 20 (.val (.int x) :: l) (.int x :: st) h Q := g_iload rfl rfl
theorem s198_20 : XE d 198 20 ls st h Q ↔ XE d 198 22 ls (.int (-5) :: st) h Q := g_const rfl
theorem s198_22 : XE d 198 22 ls (.int y :: .int x :: st) h Q ↔ (if x < y then XE d 198 29 ls st h Q else XE d 198 25 ls st h Q) := g_clt rfl
theorem s198_25 : XE d 198 25 ls st h Q ↔ XE d 198 26 ls (.int 3 :: st) h Q := g_const rfl
theorem s198_26 : XE d 198 26 ls st h Q ↔ XE d 198 51 ls st h Q := g_goto rfl
theorem s198_29 : XE d 198 29 (.val (.int x) :: l) st h Q ↔ XE d 198 30 (.val (.int x) :: l) (.int x :: st) h Q := g_iload rfl rfl
theorem s198_30 : XE d 198 30 ls st h Q ↔ XE d 198 32 ls (.int (-7) :: st) h Q := g_const rfl
theorem s198_32 : XE d 198 32 ls (.int y :: .int x :: st) h Q ↔ (if x < y then XE d 198 39 ls st h Q else XE d 198 35 ls st h Q) := g_clt rfl
theorem s198_35 : XE d 198 35 ls st h Q ↔ XE d 198 36 ls (.int 4 :: st) h Q := g_const rfl
theorem s198_36 : XE d 198 36 ls st h Q ↔ XE d 198 51 ls st h Q := g_goto rfl
theorem s198_39 : XE d 198 39 (.val (.int x) :: l) st h Q ↔ XE d 198 40 (.val (.int x) :: l) (.int x :: st) h Q := g_iload rfl rfl
theorem s198_40 : XE d 198 40 ls st h Q ↔ XE d 198 42 ls (.int (-9) :: st) h Q := g_const rfl
theorem s198_42 : XE d 198 42 ls (.int y :: .int x :: st) h Q ↔ (if x < y then XE d 198 49 ls st h Q else XE d 198 45 ls st h Q) := g_clt rfl
theorem s198_45 : XE d 198 45 ls st h Q ↔ XE d 198 46 ls (.int 5 :: st) h Q := g_const rfl
theorem s198_46 : XE d 198 46 ls st h Q ↔ XE d 198 51 ls st h Q := g_goto rfl
theorem s198_49 : XE d 198 49 ls st h Q ↔ XE d 198 51 ls (.int 6 :: st) h Q := g_const rfl
theorem s198_51 : XE d 198 51 ls [.int x] h Q ↔ Q (some (.int x)) h := g_iret rfl
-- 199: TwoBellsModel.settle(I)V
theorem e199 : XC (d + 1) 199 [.ref a, .int x] h Q ↔ XE d 199 0 [.val (.ref a), .val (.int x)] [] h Q := XC_in rfl
theorem s199_0 : XE d 199 0 (.val (.ref a) :: l) st h Q ↔ XE d 199 1 (.val (.ref a) :: l) (.ref a :: st) h Q := g_aload rfl rfl
theorem s199_1 : XE d 199 1 ls (.ref a :: st) h Q ↔ XG [12] 18 (h.2.2.1 a) (fun v => XE d 199 4 ls (v :: st) h Q) := g_getf rfl
theorem s199_4 : XE d 199 4 ls (.int x :: st) h Q ↔ (if 0 < x then XE d 199 7 ls st h Q else XE d 199 82 ls st h Q) := g_ifle rfl
theorem s199_7 : XE d 199 7 (.val (.ref a) :: l) st h Q ↔ XE d 199 8 (.val (.ref a) :: l) (.ref a :: st) h Q := g_aload rfl rfl
theorem s199_8 : XE d 199 8 ls (.ref a :: st) h Q ↔ XG [12] 17 (h.2.2.1 a) (fun v => XE d 199 11 ls (v :: st) h Q) := g_getf rfl
theorem s199_11 : XE d 199 11 (.val (.ref a) :: l) st h Q ↔ XE d 199 12 (.val (.ref a) :: l) (.ref a :: st) h Q := g_aload rfl rfl
theorem s199_12 : XE d 199 12 ls (.ref a :: st) h Q ↔ XG [12] 18 (h.2.2.1 a) (fun v => XE d 199 15 ls (v :: st) h Q) := g_getf rfl
theorem s199_15 : XE d 199 15 ls st h Q ↔ XE d 199 16 ls (.int 1 :: st) h Q := g_const rfl
theorem s199_16 : XE d 199 16 ls (.int y :: .int x :: st) h Q ↔ XE d 199 17 ls (.int (x - y) :: st) h Q := g_sub rfl
theorem s199_17 : XE d 199 17 ls (.int x :: .ref a :: st) h Q ↔ XA [0, 7] (h.2.2.1 a) x (fun k => XE d 199 18 ls (.int k :: st) h Q) := g_ald rfl
theorem s199_18 : XE d 199 18 ls st h Q ↔ XE d 199 20 ls (.int (-11) :: st) h Q := g_const rfl
theorem s199_20 : XE d 199 20 ls (.int y :: .int x :: st) h Q ↔ (if x = y then XE d 199 82 ls st h Q else XE d 199 23 ls st h Q) := g_ceq rfl
theorem s199_23 : XE d 199 23 (.val (.ref a) :: l) st h Q ↔ XE d 199 24 (.val (.ref a) :: l) (.ref a :: st) h Q := g_aload rfl rfl
theorem s199_24 : XE d 199 24 ls (.ref a :: st) h Q ↔ XG [12] 17 (h.2.2.1 a) (fun v => XE d 199 27 ls (v :: st) h Q) := g_getf rfl
theorem s199_27 : XE d 199 27 (.val (.ref a) :: l) st h Q ↔ XE d 199 28 (.val (.ref a) :: l) (.ref a :: st) h Q := g_aload rfl rfl
theorem s199_28 : XE d 199 28 ls (.ref a :: st) h Q ↔ XG [12] 18 (h.2.2.1 a) (fun v => XE d 199 31 ls (v :: st) h Q) := g_getf rfl
theorem s199_31 : XE d 199 31 ls st h Q ↔ XE d 199 32 ls (.int 1 :: st) h Q := g_const rfl
theorem s199_32 : XE d 199 32 ls (.int y :: .int x :: st) h Q ↔ XE d 199 33 ls (.int (x - y) :: st) h Q := g_sub rfl
theorem s199_33 : XE d 199 33 ls (.int x :: .ref a :: st) h Q ↔ XA [0, 7] (h.2.2.1 a) x (fun k => XE d 199 34 ls (.int k :: st) h Q) := g_ald rfl
theorem s199_34 : XE d 199 34 ls (.int x :: st) h Q ↔ (xvo 8 st = true ∧ XC d 198 [.int x] h (fun v h' => XE d 199 37 ls (v.toList ++ st) h' Q)) := h_s1 rfl rfl
theorem s199_37 : XE d 199 37 (c0 :: .val (.int x) :: l) st h Q ↔ XE d 199 38 (c0 :: .val (.int x) :: l) (.int x :: st) h Q := g_iload rfl rfl
theorem s199_38 : XE d 199 38 ls (.int y :: .int x :: st) h Q ↔ (if x < y then XE d 199 82 ls st h Q else XE d 199 41 ls st h Q) := g_clt rfl
theorem s199_41 : XE d 199 41 (.val (.ref a) :: l) st h Q ↔ XE d 199 42 (.val (.ref a) :: l) (.ref a :: st) h Q := g_aload rfl rfl
theorem s199_42 : XE d 199 42 ls (.int x :: st) h Q ↔ XE d 199 43 ls (.int x :: .int x :: st) h Q := g_dupI rfl
theorem s199_42r : XE d 199 42 ls (.ref a :: st) h Q ↔ XE d 199 43 ls (.ref a :: .ref a :: st) h Q := g_dupR rfl
theorem s199_43 : XE d 199 43 ls (.ref a :: st) h Q ↔ XG [12] 18 (h.2.2.1 a) (fun v => XE d 199 46 ls (v :: st) h Q) := g_getf rfl
theorem s199_46 : XE d 199 46 ls st h Q ↔ XE d 199 47 ls (.int 1 :: st) h Q := g_const rfl
theorem s199_47 : XE d 199 47 ls (.int y :: .int x :: st) h Q ↔ XE d 199 48 ls (.int (x - y) :: st) h Q := g_sub rfl
theorem s199_48 : XE d 199 48 ls (.int x :: .ref a :: st) h Q ↔ XP [12] 18 (.int x) (h.2.2.1 a) (fun e => XE d 199 51 ls st (xset h a e) Q) := g_puti rfl
theorem s199_51 : XE d 199 51 (.val (.ref a) :: l) st h Q ↔ XE d 199 52 (.val (.ref a) :: l) (.ref a :: st) h Q := g_aload rfl rfl
theorem s199_52 : XE d 199 52 ls (.ref a :: st) h Q ↔ XG [12] 14 (h.2.2.1 a) (fun v => XE d 199 55 ls (v :: st) h Q) := g_getf rfl
theorem s199_55 : XE d 199 55 (.val (.ref a) :: l) st h Q ↔ XE d 199 56 (.val (.ref a) :: l) (.ref a :: st) h Q := g_aload rfl rfl
theorem s199_56 : XE d 199 56 ls (.ref a :: st) h Q ↔ XG [12] 15 (h.2.2.1 a) (fun v => XE d 199 59 ls (v :: st) h Q) := g_getf rfl
theorem s199_59 : XE d 199 59 (.val (.ref a) :: l) st h Q ↔ XE d 199 60 (.val (.ref a) :: l) (.ref a :: st) h Q := g_aload rfl rfl
theorem s199_60 : XE d 199 60 ls (.ref a :: st) h Q ↔ XG [12] 17 (h.2.2.1 a) (fun v => XE d 199 63 ls (v :: st) h Q) := g_getf rfl
theorem s199_63 : XE d 199 63 (.val (.ref a) :: l) st h Q ↔ XE d 199 64 (.val (.ref a) :: l) (.ref a :: st) h Q := g_aload rfl rfl
theorem s199_64 : XE d 199 64 ls (.ref a :: st) h Q ↔ XG [12] 18 (h.2.2.1 a) (fun v => XE d 199 67 ls (v :: st) h Q) := g_getf rfl
theorem s199_67 : XE d 199 67 ls (.int x :: .ref a :: st) h Q ↔ XA [0, 7] (h.2.2.1 a) x (fun k => XE d 199 68 ls (.int k :: st) h Q) := g_ald rfl
theorem s199_68 : XE d 199 68 ls (.int y :: .int x :: .ref a :: st) h Q ↔ XS 0 (h.2.2.1 a) x y (fun e => XE d 199 69 ls st (xset h a e) Q) := g_iast rfl
theorem s199_69 : XE d 199 69 (.val (.ref a) :: l) st h Q ↔ XE d 199 70 (.val (.ref a) :: l) (.ref a :: st) h Q := g_aload rfl rfl
theorem s199_70 : XE d 199 70 ls (.int x :: st) h Q ↔ XE d 199 71 ls (.int x :: .int x :: st) h Q := g_dupI rfl
theorem s199_70r : XE d 199 70 ls (.ref a :: st) h Q ↔ XE d 199 71 ls (.ref a :: .ref a :: st) h Q := g_dupR rfl
theorem s199_71 : XE d 199 71 ls (.ref a :: st) h Q ↔ XG [12] 15 (h.2.2.1 a) (fun v => XE d 199 74 ls (v :: st) h Q) := g_getf rfl
theorem s199_74 : XE d 199 74 ls st h Q ↔ XE d 199 75 ls (.int 1 :: st) h Q := g_const rfl
theorem s199_75 : XE d 199 75 ls (.int y :: .int x :: st) h Q ↔ XE d 199 76 ls (.int (x + y) :: st) h Q := g_add rfl
theorem s199_76 : XE d 199 76 ls (.int x :: .ref a :: st) h Q ↔ XP [12] 15 (.int x) (h.2.2.1 a) (fun e => XE d 199 79 ls st (xset h a e) Q) := g_puti rfl
theorem s199_79 : XE d 199 79 ls st h Q ↔ XE d 199 0 ls st h Q := g_goto rfl
theorem s199_82 : XE d 199 82 ls [] h Q ↔ Q none h := g_ret rfl
-- 200: TwoBellsModel.signHere()I
theorem e200 : XC (d + 1) 200 [.ref a] h Q ↔ XE d 200 0 [.val (.ref a)] [] h Q := XC_in rfl
theorem s200_0 : XE d 200 0 (.val (.ref a) :: l) st h Q ↔ XE d 200 1 (.val (.ref a) :: l) (.ref a :: st) h Q := g_aload rfl rfl
theorem s200_1 : XE d 200 1 ls (.ref a :: st) h Q ↔ XG [12] 8 (h.2.2.1 a) (fun v => XE d 200 4 ls (v :: st) h Q) := g_getf rfl
theorem s200_4 : XE d 200 4 ls st h Q ↔ XE d 200 5 ls (.int 3 :: st) h Q := g_const rfl
theorem s200_5 : XE d 200 5 ls (.int y :: .int x :: st) h Q ↔ (if x = y then XE d 200 10 ls st h Q else XE d 200 8 ls st h Q) := g_ceq rfl
theorem s200_8 : XE d 200 8 ls st h Q ↔ XE d 200 9 ls (.int 0 :: st) h Q := g_const rfl
theorem s200_9 : XE d 200 9 ls [.int x] h Q ↔ Q (some (.int x)) h := g_iret rfl
theorem s200_10 : XE d 200 10 (.val (.ref a) :: l) st h Q ↔ XE d 200 11 (.val (.ref a) :: l) (.ref a :: st) h Q := g_aload rfl rfl
theorem s200_11 : XE d 200 11 ls (.ref a :: st) h Q ↔ XG [12] 9 (h.2.2.1 a) (fun v => XE d 200 14 ls (v :: st) h Q) := g_getf rfl
theorem s200_14 : XE d 200 14 ls (.int x :: st) h Q ↔ xswi d 200 x 122 ls st h Q [(38, 98), (42, 116), (43, 110), (45, 113), (47, 119), (60, 101), (61, 104), (62, 107), (124, 96)] := g_switch rfl
theorem s200_96 : XE d 200 96 ls st h Q ↔ XE d 200 97 ls (.int (-1) :: st) h Q := g_const rfl
theorem s200_97 : XE d 200 97 ls [.int x] h Q ↔ Q (some (.int x)) h := g_iret rfl
theorem s200_98 : XE d 200 98 ls st h Q ↔ XE d 200 100 ls (.int (-2) :: st) h Q := g_const rfl
theorem s200_100 : XE d 200 100 ls [.int x] h Q ↔ Q (some (.int x)) h := g_iret rfl
theorem s200_101 : XE d 200 101 ls st h Q ↔ XE d 200 103 ls (.int (-3) :: st) h Q := g_const rfl
theorem s200_103 : XE d 200 103 ls [.int x] h Q ↔ Q (some (.int x)) h := g_iret rfl
theorem s200_104 : XE d 200 104 ls st h Q ↔ XE d 200 106 ls (.int (-4) :: st) h Q := g_const rfl
theorem s200_106 : XE d 200 106 ls [.int x] h Q ↔ Q (some (.int x)) h := g_iret rfl
theorem s200_107 : XE d 200 107 ls st h Q ↔ XE d 200 109 ls (.int (-5) :: st) h Q := g_const rfl
theorem s200_109 : XE d 200 109 ls [.int x] h Q ↔ Q (some (.int x)) h := g_iret rfl
theorem s200_110 : XE d 200 110 ls st h Q ↔ XE d 200 112 ls (.int (-6) :: st) h Q := g_const rfl
theorem s200_112 : XE d 200 112 ls [.int x] h Q ↔ Q (some (.int x)) h := g_iret rfl
theorem s200_113 : XE d 200 113 ls st h Q ↔ XE d 200 115 ls (.int (-7) :: st) h Q := g_const rfl
theorem s200_115 : XE d 200 115 ls [.int x] h Q ↔ Q (some (.int x)) h := g_iret rfl
theorem s200_116 : XE d 200 116 ls st h Q ↔ XE d 200 118 ls (.int (-8) :: st) h Q := g_const rfl
theorem s200_118 : XE d 200 118 ls [.int x] h Q ↔ Q (some (.int x)) h := g_iret rfl
theorem s200_119 : XE d 200 119 ls st h Q ↔ XE d 200 121 ls (.int (-9) :: st) h Q := g_const rfl
theorem s200_121 : XE d 200 121 ls [.int x] h Q ↔ Q (some (.int x)) h := g_iret rfl
theorem s200_122 : XE d 200 122 ls st h Q ↔ XE d 200 123 ls (.int 0 :: st) h Q := g_const rfl
theorem s200_123 : XE d 200 123 ls [.int x] h Q ↔ Q (some (.int x)) h := g_iret rfl
-- 201: TwoBellsModel.takesPart()Z
theorem e201 : XC (d + 1) 201 [.ref a] h Q ↔ XE d 201 0 [.val (.ref a), .unset] [] h Q := XC_in rfl
theorem s201_0 : XE d 201 0 (.val (.ref a) :: l) st h Q ↔ XE d 201 1 (.val (.ref a) :: l) (.ref a :: st) h Q := g_aload rfl rfl
theorem s201_1 : XE d 201 1 ls (.ref a :: st) h Q ↔ XG [12] 8 (h.2.2.1 a) (fun v => XE d 201 4 ls (v :: st) h Q) := g_getf rfl
theorem s201_4 : XE d 201 4 ls st h Q ↔ XE d 201 5 ls (.int 1 :: st) h Q := g_const rfl
theorem s201_5 : XE d 201 5 ls (.int y :: .int x :: st) h Q ↔ (if x = y then XE d 201 8 ls st h Q else XE d 201 36 ls st h Q) := g_cne rfl
theorem s201_8 : XE d 201 8 (.val (.ref a) :: l) st h Q ↔ XE d 201 9 (.val (.ref a) :: l) (.ref a :: st) h Q := g_aload rfl rfl
theorem s201_9 : XE d 201 9 ls (.ref a :: st) h Q ↔ XG [12] 6 (h.2.2.1 a) (fun v => XE d 201 12 ls (v :: st) h Q) := g_getf rfl
theorem s201_12 : XE d 201 12 (.val (.ref a) :: l) st h Q ↔ XE d 201 13 (.val (.ref a) :: l) (.ref a :: st) h Q := g_aload rfl rfl
theorem s201_13 : XE d 201 13 ls (.ref a :: st) h Q ↔ XG [12] 7 (h.2.2.1 a) (fun v => XE d 201 16 ls (v :: st) h Q) := g_getf rfl
theorem s201_16 : XE d 201 16 ls (.int y :: .int x :: st) h Q ↔ XE d 201 17 ls (.int (x - y) :: st) h Q := g_sub rfl
theorem s201_17 : XE d 201 17 ls st h Q ↔ XE d 201 18 ls (.int 1 :: st) h Q := g_const rfl
theorem s201_18 : XE d 201 18 ls (.int y :: .int x :: st) h Q ↔ (if x = y then XE d 201 21 ls st h Q else XE d 201 36 ls st h Q) := g_cne rfl
theorem s201_21 : XE d 201 21 (.val (.ref a) :: l) st h Q ↔ XE d 201 22 (.val (.ref a) :: l) (.ref a :: st) h Q := g_aload rfl rfl
theorem s201_22 : XE d 201 22 (.val (.ref a) :: l) st h Q ↔ XE d 201 23 (.val (.ref a) :: l) (.ref a :: st) h Q := g_aload rfl rfl
theorem s201_23 : XE d 201 23 ls (.ref a :: st) h Q ↔ XG [12] 9 (h.2.2.1 a) (fun v => XE d 201 26 ls (v :: st) h Q) := g_getf rfl
theorem s201_26 : XE d 201 26 ls (.int x :: .ref a :: st) h Q ↔ (xvo 8 st = true ∧ XV [(12, 197)] (h.2.2.1 a) (fun m' => XC d m' [.ref a, .int x] h (fun v h' => XE d 201 29 ls (v.toList ++ st) h' Q))) := h_v1 rfl rfl
theorem s201_29 : XE d 201 29 ls (.int x :: st) h Q ↔ (if x < 0 then XE d 201 36 ls st h Q else XE d 201 32 ls st h Q) := g_iflt rfl
theorem s201_32 : XE d 201 32 ls st h Q ↔ XE d 201 33 ls (.int 1 :: st) h Q := g_const rfl
theorem s201_33 : XE d 201 33 ls st h Q ↔ XE d 201 37 ls st h Q := g_goto rfl
theorem s201_36 : XE d 201 36 ls st h Q ↔ XE d 201 37 ls (.int 0 :: st) h Q := g_const rfl
theorem s201_37 : XE d 201 37 (c0 :: c1 :: l) (.int x :: st) h Q ↔ XE d 201 38 (c0 :: .val (.int x) :: l) st h Q := g_istore (Nat.lt_of_lt_of_le (show 1 < 2 by decide) (Nat.le_add_left 2 _)) rfl rfl
theorem s201_38 : XE d 201 38 (.val (.ref a) :: l) st h Q ↔ XE d 201 39 (.val (.ref a) :: l) (.ref a :: st) h Q := g_aload rfl rfl
theorem s201_39 : XE d 201 39 ls (.ref a :: st) h Q ↔ XG [12] 8 (h.2.2.1 a) (fun v => XE d 201 42 ls (v :: st) h Q) := g_getf rfl
theorem s201_42 : XE d 201 42 ls st h Q ↔ XE d 201 43 ls (.int 2 :: st) h Q := g_const rfl
theorem s201_43 : XE d 201 43 ls (.int y :: .int x :: st) h Q ↔ (if x = y then XE d 201 52 ls st h Q else XE d 201 46 ls st h Q) := g_ceq rfl
theorem s201_46 : XE d 201 46 (c0 :: .val (.int x) :: l) st h Q ↔ XE d 201 47 (c0 :: .val (.int x) :: l) (.int x :: st) h Q := g_iload rfl rfl
theorem s201_47 : XE d 201 47 ls (.int x :: st) h Q ↔ (if x = 0 then XE d 201 50 ls st h Q else XE d 201 52 ls st h Q) := g_ifne rfl
theorem s201_50 : XE d 201 50 ls st h Q ↔ XE d 201 51 ls (.int 0 :: st) h Q := g_const rfl
theorem s201_51 : XE d 201 51 ls [.int 0] h Q ↔ Q (some (.int 0)) h := g_zret rfl rfl
theorem s201_51t : XE d 201 51 ls [.int 1] h Q ↔ Q (some (.int 1)) h := g_zret rfl rfl
theorem s201_51b : XE d 201 51 ls [.int (bI q)] h Q ↔ Q (some (.int (bI q))) h := g_zret (bI_nar q) rfl
theorem s201_52 : XE d 201 52 (.val (.ref a) :: l) st h Q ↔ XE d 201 53 (.val (.ref a) :: l) (.ref a :: st) h Q := g_aload rfl rfl
theorem s201_53 : XE d 201 53 ls (.ref a :: st) h Q ↔ XG [12] 14 (h.2.2.1 a) (fun v => XE d 201 56 ls (v :: st) h Q) := g_getf rfl
theorem s201_56 : XE d 201 56 (.val (.ref a) :: l) st h Q ↔ XE d 201 57 (.val (.ref a) :: l) (.ref a :: st) h Q := g_aload rfl rfl
theorem s201_57 : XE d 201 57 ls (.ref a :: st) h Q ↔ XG [12] 15 (h.2.2.1 a) (fun v => XE d 201 60 ls (v :: st) h Q) := g_getf rfl
theorem s201_60 : XE d 201 60 (.val (.ref a) :: l) st h Q ↔ XE d 201 61 (.val (.ref a) :: l) (.ref a :: st) h Q := g_aload rfl rfl
theorem s201_61 : XE d 201 61 ls (.ref a :: st) h Q ↔ XG [12] 8 (h.2.2.1 a) (fun v => XE d 201 64 ls (v :: st) h Q) := g_getf rfl
theorem s201_64 : XE d 201 64 ls st h Q ↔ XE d 201 65 ls (.int 2 :: st) h Q := g_const rfl
theorem s201_65 : XE d 201 65 ls (.int y :: .int x :: st) h Q ↔ (if x = y then XE d 201 68 ls st h Q else XE d 201 75 ls st h Q) := g_cne rfl
theorem s201_68 : XE d 201 68 (.val (.ref a) :: l) st h Q ↔ XE d 201 69 (.val (.ref a) :: l) (.ref a :: st) h Q := g_aload rfl rfl
theorem s201_69 : XE d 201 69 ls (.ref a :: st) h Q ↔ XG [12] 9 (h.2.2.1 a) (fun v => XE d 201 72 ls (v :: st) h Q) := g_getf rfl
theorem s201_72 : XE d 201 72 ls st h Q ↔ XE d 201 87 ls st h Q := g_goto rfl
theorem s201_75 : XE d 201 75 ls st h Q ↔ XE d 201 78 ls (.int 10000 :: st) h Q := g_const rfl
theorem s201_78 : XE d 201 78 (.val (.ref a) :: l) st h Q ↔ XE d 201 79 (.val (.ref a) :: l) (.ref a :: st) h Q := g_aload rfl rfl
theorem s201_79 : XE d 201 79 (.val (.ref a) :: l) st h Q ↔ XE d 201 80 (.val (.ref a) :: l) (.ref a :: st) h Q := g_aload rfl rfl
theorem s201_80 : XE d 201 80 ls (.ref a :: st) h Q ↔ XG [12] 9 (h.2.2.1 a) (fun v => XE d 201 83 ls (v :: st) h Q) := g_getf rfl
theorem s201_83 : XE d 201 83 ls (.int x :: .ref a :: st) h Q ↔ (xvo 8 st = true ∧ XV [(12, 197)] (h.2.2.1 a) (fun m' => XC d m' [.ref a, .int x] h (fun v h' => XE d 201 86 ls (v.toList ++ st) h' Q))) := h_v1 rfl rfl
theorem s201_86 : XE d 201 86 ls (.int y :: .int x :: st) h Q ↔ XE d 201 87 ls (.int (x + y) :: st) h Q := g_add rfl
theorem s201_87 : XE d 201 87 ls (.int y :: .int x :: .ref a :: st) h Q ↔ XS 0 (h.2.2.1 a) x y (fun e => XE d 201 88 ls st (xset h a e) Q) := g_iast rfl
theorem s201_88 : XE d 201 88 (.val (.ref a) :: l) st h Q ↔ XE d 201 89 (.val (.ref a) :: l) (.ref a :: st) h Q := g_aload rfl rfl
theorem s201_89 : XE d 201 89 ls (.int x :: st) h Q ↔ XE d 201 90 ls (.int x :: .int x :: st) h Q := g_dupI rfl
theorem s201_89r : XE d 201 89 ls (.ref a :: st) h Q ↔ XE d 201 90 ls (.ref a :: .ref a :: st) h Q := g_dupR rfl
theorem s201_90 : XE d 201 90 ls (.ref a :: st) h Q ↔ XG [12] 15 (h.2.2.1 a) (fun v => XE d 201 93 ls (v :: st) h Q) := g_getf rfl
theorem s201_93 : XE d 201 93 ls st h Q ↔ XE d 201 94 ls (.int 1 :: st) h Q := g_const rfl
theorem s201_94 : XE d 201 94 ls (.int y :: .int x :: st) h Q ↔ XE d 201 95 ls (.int (x + y) :: st) h Q := g_add rfl
theorem s201_95 : XE d 201 95 ls (.int x :: .ref a :: st) h Q ↔ XP [12] 15 (.int x) (h.2.2.1 a) (fun e => XE d 201 98 ls st (xset h a e) Q) := g_puti rfl
theorem s201_98 : XE d 201 98 (.val (.ref a) :: l) st h Q ↔ XE d 201 99 (.val (.ref a) :: l) (.ref a :: st) h Q := g_aload rfl rfl
theorem s201_99 : XE d 201 99 ls (.int x :: st) h Q ↔ XE d 201 100 ls (.int x :: .int x :: st) h Q := g_dupI rfl
theorem s201_99r : XE d 201 99 ls (.ref a :: st) h Q ↔ XE d 201 100 ls (.ref a :: .ref a :: st) h Q := g_dupR rfl
theorem s201_100 : XE d 201 100 ls (.ref a :: st) h Q ↔ XG [12] 16 (h.2.2.1 a) (fun v => XE d 201 103 ls (v :: st) h Q) := g_getf rfl
theorem s201_103 : XE d 201 103 ls st h Q ↔ XE d 201 104 ls (.int 1 :: st) h Q := g_const rfl
theorem s201_104 : XE d 201 104 ls (.int y :: .int x :: st) h Q ↔ XE d 201 105 ls (.int (x + y) :: st) h Q := g_add rfl
theorem s201_105 : XE d 201 105 ls (.int x :: .ref a :: st) h Q ↔ XP [12] 16 (.int x) (h.2.2.1 a) (fun e => XE d 201 108 ls st (xset h a e) Q) := g_puti rfl
theorem s201_108 : XE d 201 108 (.val (.ref a) :: l) st h Q ↔ XE d 201 109 (.val (.ref a) :: l) (.ref a :: st) h Q := g_aload rfl rfl
theorem s201_109 : XE d 201 109 ls st h Q ↔ XE d 201 111 ls (.int 6 :: st) h Q := g_const rfl
theorem s201_111 : XE d 201 111 ls (.int x :: .ref a :: st) h Q ↔ (xvo 8 st = true ∧ XV [(12, 199)] (h.2.2.1 a) (fun m' => XC d m' [.ref a, .int x] h (fun v h' => XE d 201 114 ls (v.toList ++ st) h' Q))) := h_v1 rfl rfl
theorem s201_114 : XE d 201 114 (.val (.ref a) :: l) st h Q ↔ XE d 201 115 (.val (.ref a) :: l) (.ref a :: st) h Q := g_aload rfl rfl
theorem s201_115 : XE d 201 115 ls (.ref a :: st) h Q ↔ (xvo 8 st = true ∧ XV [(12, 195)] (h.2.2.1 a) (fun m' => XC d m' [.ref a] h (fun v h' => XE d 201 118 ls (v.toList ++ st) h' Q))) := h_v0 rfl
theorem s201_118 : XE d 201 118 ls st h Q ↔ XE d 201 119 ls (.int 1 :: st) h Q := g_const rfl
theorem s201_119 : XE d 201 119 ls [.int 0] h Q ↔ Q (some (.int 0)) h := g_zret rfl rfl
theorem s201_119t : XE d 201 119 ls [.int 1] h Q ↔ Q (some (.int 1)) h := g_zret rfl rfl
theorem s201_119b : XE d 201 119 ls [.int (bI q)] h Q ↔ Q (some (.int (bI q))) h := g_zret (bI_nar q) rfl
-- 202: TwoBellsModel.takesE()Z
theorem e202 : XC (d + 1) 202 [.ref a] h Q ↔ XE d 202 0 [.val (.ref a), .unset, .unset, .unset, .unset] [] h Q := XC_in rfl
theorem s202_0 : XE d 202 0 ls st h Q ↔ XE d 202 1 ls (.int 0 :: st) h Q := g_const rfl
theorem s202_1 : XE d 202 1 (c0 :: c1 :: l) (.int x :: st) h Q ↔ XE d 202 2 (c0 :: .val (.int x) :: l) st h Q := g_istore (Nat.lt_of_lt_of_le (show 1 < 2 by decide) (Nat.le_add_left 2 _)) rfl rfl
theorem s202_2 : XE d 202 2 ls st h Q ↔ XE d 202 3 ls (.int 0 :: st) h Q := g_const rfl
theorem s202_3 : XE d 202 3 (c0 :: c1 :: c2 :: l) (.int x :: st) h Q ↔ XE d 202 4 (c0 :: c1 :: .val (.int x) :: l) st h Q := g_istore (Nat.lt_of_lt_of_le (show 2 < 3 by decide) (Nat.le_add_left 3 _)) rfl rfl
theorem s202_4 : XE d 202 4 ls st h Q ↔ XE d 202 5 ls (.int 1 :: st) h Q := g_const rfl
theorem s202_5 : XE d 202 5 (c0 :: c1 :: c2 :: c3 :: l) (.int x :: st) h Q ↔ XE d 202 6 (c0 :: c1 :: c2 :: .val (.int x) :: l) st h Q := g_istore (Nat.lt_of_lt_of_le (show 3 < 4 by decide) (Nat.le_add_left 4 _)) rfl rfl
theorem s202_6 : XE d 202 6 (.val (.ref a) :: l) st h Q ↔ XE d 202 7 (.val (.ref a) :: l) (.ref a :: st) h Q := g_aload rfl rfl
theorem s202_7 : XE d 202 7 ls st h Q ↔ XE d 202 8 ls (.int 0 :: st) h Q := g_const rfl
theorem s202_8 : XE d 202 8 ls (.int x :: .ref a :: st) h Q ↔ XP [12] 15 (.int x) (h.2.2.1 a) (fun e => XE d 202 11 ls st (xset h a e) Q) := g_puti rfl
theorem s202_11 : XE d 202 11 (.val (.ref a) :: l) st h Q ↔ XE d 202 12 (.val (.ref a) :: l) (.ref a :: st) h Q := g_aload rfl rfl
theorem s202_12 : XE d 202 12 ls st h Q ↔ XE d 202 13 ls (.int 0 :: st) h Q := g_const rfl
theorem s202_13 : XE d 202 13 ls (.int x :: .ref a :: st) h Q ↔ XP [12] 16 (.int x) (h.2.2.1 a) (fun e => XE d 202 16 ls st (xset h a e) Q) := g_puti rfl
theorem s202_16 : XE d 202 16 (.val (.ref a) :: l) st h Q ↔ XE d 202 17 (.val (.ref a) :: l) (.ref a :: st) h Q := g_aload rfl rfl
theorem s202_17 : XE d 202 17 ls st h Q ↔ XE d 202 18 ls (.int 0 :: st) h Q := g_const rfl
theorem s202_18 : XE d 202 18 ls (.int x :: .ref a :: st) h Q ↔ XP [12] 18 (.int x) (h.2.2.1 a) (fun e => XE d 202 21 ls st (xset h a e) Q) := g_puti rfl
theorem s202_21 : XE d 202 21 (.val (.ref a) :: l) st h Q ↔ XE d 202 22 (.val (.ref a) :: l) (.ref a :: st) h Q := g_aload rfl rfl
theorem s202_22 : XE d 202 22 ls (.ref a :: st) h Q ↔ XG [12] 19 (h.2.2.1 a) (fun v => XE d 202 25 ls (v :: st) h Q) := g_getf rfl
theorem s202_25 : XE d 202 25 ls st h Q ↔ XE d 202 26 ls (.int 0 :: st) h Q := g_const rfl
theorem s202_26 : XE d 202 26 ls st h Q ↔ XE d 202 27 ls (.int 0 :: st) h Q := g_const rfl
theorem s202_27 : XE d 202 27 ls (.int y :: .int x :: .ref a :: st) h Q ↔ XS 1 (h.2.2.1 a) x y (fun e => XE d 202 28 ls st (xset h a e) Q) := g_zast rfl
theorem s202_28 : XE d 202 28 (c0 :: c1 :: c2 :: .val (.int x) :: l) st h Q ↔ XE d 202 29 (c0 :: c1 :: c2 :: .val (.int x) :: l) (.int x :: st) h Q := g_iload rfl rfl
theorem s202_29 : XE d 202 29 ls (.int x :: st) h Q ↔ (if x = 0 then XE d 202 32 ls st h Q else XE d 202 39 ls st h Q) := g_ifne rfl
theorem s202_32 : XE d 202 32 (.val (.ref a) :: l) st h Q ↔ XE d 202 33 (.val (.ref a) :: l) (.ref a :: st) h Q := g_aload rfl rfl
theorem s202_33 : XE d 202 33 ls (.ref a :: st) h Q ↔ XG [12] 8 (h.2.2.1 a) (fun v => XE d 202 36 ls (v :: st) h Q) := g_getf rfl
theorem s202_36 : XE d 202 36 ls (.int x :: st) h Q ↔ (if x = 0 then XE d 202 345 ls st h Q else XE d 202 39 ls st h Q) := g_ifeq rfl
theorem s202_39 : XE d 202 39 (c0 :: c1 :: c2 :: .val (.int x) :: l) st h Q ↔ XE d 202 40 (c0 :: c1 :: c2 :: .val (.int x) :: l) (.int x :: st) h Q := g_iload rfl rfl
theorem s202_40 : XE d 202 40 ls (.int x :: st) h Q ↔ (if x = 0 then XE d 202 180 ls st h Q else XE d 202 43 ls st h Q) := g_ifeq rfl
theorem s202_43 : XE d 202 43 (.val (.ref a) :: l) st h Q ↔ XE d 202 44 (.val (.ref a) :: l) (.ref a :: st) h Q := g_aload rfl rfl
theorem s202_44 : XE d 202 44 ls (.ref a :: st) h Q ↔ XG [12] 8 (h.2.2.1 a) (fun v => XE d 202 47 ls (v :: st) h Q) := g_getf rfl
theorem s202_47 : XE d 202 47 ls st h Q ↔ XE d 202 48 ls (.int 3 :: st) h Q := g_const rfl
theorem s202_48 : XE d 202 48 ls (.int y :: .int x :: st) h Q ↔ (if x = y then XE d 202 51 ls st h Q else XE d 202 97 ls st h Q) := g_cne rfl
theorem s202_51 : XE d 202 51 (.val (.ref a) :: l) st h Q ↔ XE d 202 52 (.val (.ref a) :: l) (.ref a :: st) h Q := g_aload rfl rfl
theorem s202_52 : XE d 202 52 ls (.ref a :: st) h Q ↔ XG [12] 9 (h.2.2.1 a) (fun v => XE d 202 55 ls (v :: st) h Q) := g_getf rfl
theorem s202_55 : XE d 202 55 ls st h Q ↔ XE d 202 57 ls (.int 33 :: st) h Q := g_const rfl
theorem s202_57 : XE d 202 57 ls (.int y :: .int x :: st) h Q ↔ (if x = y then XE d 202 60 ls st h Q else XE d 202 97 ls st h Q) := g_cne rfl
theorem s202_60 : XE d 202 60 (c0 :: c1 :: .val (.int x) :: l) st h Q ↔ XE d 202 61 (c0 :: c1 :: .val (.int x) :: l) (.int x :: st) h Q := g_iload rfl rfl
theorem s202_61 : XE d 202 61 ls st h Q ↔ XE d 202 63 ls (.int 8 :: st) h Q := g_const rfl
theorem s202_63 : XE d 202 63 ls (.int y :: .int x :: st) h Q ↔ (if x < y then XE d 202 66 ls st h Q else XE d 202 97 ls st h Q) := g_cge rfl
theorem s202_66 : XE d 202 66 (.val (.ref a) :: l) st h Q ↔ XE d 202 67 (.val (.ref a) :: l) (.ref a :: st) h Q := g_aload rfl rfl
theorem s202_67 : XE d 202 67 ls (.ref a :: st) h Q ↔ XG [12] 17 (h.2.2.1 a) (fun v => XE d 202 70 ls (v :: st) h Q) := g_getf rfl
theorem s202_70 : XE d 202 70 (.val (.ref a) :: l) st h Q ↔ XE d 202 71 (.val (.ref a) :: l) (.ref a :: st) h Q := g_aload rfl rfl
theorem s202_71 : XE d 202 71 ls (.ref a :: st) h Q ↔ XG [12] 18 (h.2.2.1 a) (fun v => XE d 202 74 ls (v :: st) h Q) := g_getf rfl
theorem s202_74 : XE d 202 74 ls st h Q ↔ XE d 202 76 ls (.int (-10) :: st) h Q := g_const rfl
theorem s202_76 : XE d 202 76 ls (.int y :: .int x :: .ref a :: st) h Q ↔ XS 0 (h.2.2.1 a) x y (fun e => XE d 202 77 ls st (xset h a e) Q) := g_iast rfl
theorem s202_77 : XE d 202 77 (.val (.ref a) :: l) st h Q ↔ XE d 202 78 (.val (.ref a) :: l) (.ref a :: st) h Q := g_aload rfl rfl
theorem s202_78 : XE d 202 78 ls (.int x :: st) h Q ↔ XE d 202 79 ls (.int x :: .int x :: st) h Q := g_dupI rfl
theorem s202_78r : XE d 202 78 ls (.ref a :: st) h Q ↔ XE d 202 79 ls (.ref a :: .ref a :: st) h Q := g_dupR rfl
theorem s202_79 : XE d 202 79 ls (.ref a :: st) h Q ↔ XG [12] 18 (h.2.2.1 a) (fun v => XE d 202 82 ls (v :: st) h Q) := g_getf rfl
theorem s202_82 : XE d 202 82 ls st h Q ↔ XE d 202 83 ls (.int 1 :: st) h Q := g_const rfl
theorem s202_83 : XE d 202 83 ls (.int y :: .int x :: st) h Q ↔ XE d 202 84 ls (.int (x + y) :: st) h Q := g_add rfl
theorem s202_84 : XE d 202 84 ls (.int x :: .ref a :: st) h Q ↔ XP [12] 18 (.int x) (h.2.2.1 a) (fun e => XE d 202 87 ls st (xset h a e) Q) := g_puti rfl
theorem s202_87 : XE d 202 87 (c0 :: c1 :: .val (.int x) :: l) st h Q ↔ XE d 202 90 (c0 :: c1 :: .val (.int (x + 1)) :: l) st h Q := g_iinc rfl rfl rfl
theorem s202_90 : XE d 202 90 (.val (.ref a) :: l) st h Q ↔ XE d 202 91 (.val (.ref a) :: l) (.ref a :: st) h Q := g_aload rfl rfl
theorem s202_91 : XE d 202 91 ls (.ref a :: st) h Q ↔ (xvo 8 st = true ∧ XV [(12, 195)] (h.2.2.1 a) (fun m' => XC d m' [.ref a] h (fun v h' => XE d 202 94 ls (v.toList ++ st) h' Q))) := h_v0 rfl
theorem s202_94 : XE d 202 94 ls st h Q ↔ XE d 202 172 ls st h Q := g_goto rfl
theorem s202_97 : XE d 202 97 (.val (.ref a) :: l) st h Q ↔ XE d 202 98 (.val (.ref a) :: l) (.ref a :: st) h Q := g_aload rfl rfl
theorem s202_98 : XE d 202 98 ls (.ref a :: st) h Q ↔ XG [12] 8 (h.2.2.1 a) (fun v => XE d 202 101 ls (v :: st) h Q) := g_getf rfl
theorem s202_101 : XE d 202 101 ls st h Q ↔ XE d 202 102 ls (.int 3 :: st) h Q := g_const rfl
theorem s202_102 : XE d 202 102 ls (.int y :: .int x :: st) h Q ↔ (if x = y then XE d 202 105 ls st h Q else XE d 202 158 ls st h Q) := g_cne rfl
theorem s202_105 : XE d 202 105 (.val (.ref a) :: l) st h Q ↔ XE d 202 106 (.val (.ref a) :: l) (.ref a :: st) h Q := g_aload rfl rfl
theorem s202_106 : XE d 202 106 ls (.ref a :: st) h Q ↔ XG [12] 9 (h.2.2.1 a) (fun v => XE d 202 109 ls (v :: st) h Q) := g_getf rfl
theorem s202_109 : XE d 202 109 ls st h Q ↔ XE d 202 111 ls (.int 40 :: st) h Q := g_const rfl
theorem s202_111 : XE d 202 111 ls (.int y :: .int x :: st) h Q ↔ (if x = y then XE d 202 114 ls st h Q else XE d 202 158 ls st h Q) := g_cne rfl
theorem s202_114 : XE d 202 114 (c0 :: .val (.int x) :: l) st h Q ↔ XE d 202 115 (c0 :: .val (.int x) :: l) (.int x :: st) h Q := g_iload rfl rfl
theorem s202_115 : XE d 202 115 ls st h Q ↔ XE d 202 117 ls (.int 8 :: st) h Q := g_const rfl
theorem s202_117 : XE d 202 117 ls (.int y :: .int x :: st) h Q ↔ (if x < y then XE d 202 120 ls st h Q else XE d 202 158 ls st h Q) := g_cge rfl
theorem s202_120 : XE d 202 120 (.val (.ref a) :: l) st h Q ↔ XE d 202 121 (.val (.ref a) :: l) (.ref a :: st) h Q := g_aload rfl rfl
theorem s202_121 : XE d 202 121 ls (.ref a :: st) h Q ↔ XG [12] 17 (h.2.2.1 a) (fun v => XE d 202 124 ls (v :: st) h Q) := g_getf rfl
theorem s202_124 : XE d 202 124 (.val (.ref a) :: l) st h Q ↔ XE d 202 125 (.val (.ref a) :: l) (.ref a :: st) h Q := g_aload rfl rfl
theorem s202_125 : XE d 202 125 ls (.ref a :: st) h Q ↔ XG [12] 18 (h.2.2.1 a) (fun v => XE d 202 128 ls (v :: st) h Q) := g_getf rfl
theorem s202_128 : XE d 202 128 ls st h Q ↔ XE d 202 130 ls (.int (-11) :: st) h Q := g_const rfl
theorem s202_130 : XE d 202 130 ls (.int y :: .int x :: .ref a :: st) h Q ↔ XS 0 (h.2.2.1 a) x y (fun e => XE d 202 131 ls st (xset h a e) Q) := g_iast rfl
theorem s202_131 : XE d 202 131 (.val (.ref a) :: l) st h Q ↔ XE d 202 132 (.val (.ref a) :: l) (.ref a :: st) h Q := g_aload rfl rfl
theorem s202_132 : XE d 202 132 ls (.int x :: st) h Q ↔ XE d 202 133 ls (.int x :: .int x :: st) h Q := g_dupI rfl
theorem s202_132r : XE d 202 132 ls (.ref a :: st) h Q ↔ XE d 202 133 ls (.ref a :: .ref a :: st) h Q := g_dupR rfl
theorem s202_133 : XE d 202 133 ls (.ref a :: st) h Q ↔ XG [12] 18 (h.2.2.1 a) (fun v => XE d 202 136 ls (v :: st) h Q) := g_getf rfl
theorem s202_136 : XE d 202 136 ls st h Q ↔ XE d 202 137 ls (.int 1 :: st) h Q := g_const rfl
theorem s202_137 : XE d 202 137 ls (.int y :: .int x :: st) h Q ↔ XE d 202 138 ls (.int (x + y) :: st) h Q := g_add rfl
theorem s202_138 : XE d 202 138 ls (.int x :: .ref a :: st) h Q ↔ XP [12] 18 (.int x) (h.2.2.1 a) (fun e => XE d 202 141 ls st (xset h a e) Q) := g_puti rfl
theorem s202_141 : XE d 202 141 (c0 :: .val (.int x) :: l) st h Q ↔ XE d 202 144 (c0 :: .val (.int (x + 1)) :: l) st h Q := g_iinc rfl rfl rfl
theorem s202_144 : XE d 202 144 (.val (.ref a) :: l) st h Q ↔ XE d 202 145 (.val (.ref a) :: l) (.ref a :: st) h Q := g_aload rfl rfl
theorem s202_145 : XE d 202 145 ls (.ref a :: st) h Q ↔ XG [12] 19 (h.2.2.1 a) (fun v => XE d 202 148 ls (v :: st) h Q) := g_getf rfl
theorem s202_148 : XE d 202 148 (c0 :: .val (.int x) :: l) st h Q ↔ XE d 202 149 (c0 :: .val (.int x) :: l) (.int x :: st) h Q := g_iload rfl rfl
theorem s202_149 : XE d 202 149 ls st h Q ↔ XE d 202 150 ls (.int 0 :: st) h Q := g_const rfl
theorem s202_150 : XE d 202 150 ls (.int y :: .int x :: .ref a :: st) h Q ↔ XS 1 (h.2.2.1 a) x y (fun e => XE d 202 151 ls st (xset h a e) Q) := g_zast rfl
theorem s202_151 : XE d 202 151 (.val (.ref a) :: l) st h Q ↔ XE d 202 152 (.val (.ref a) :: l) (.ref a :: st) h Q := g_aload rfl rfl
theorem s202_152 : XE d 202 152 ls (.ref a :: st) h Q ↔ (xvo 8 st = true ∧ XV [(12, 195)] (h.2.2.1 a) (fun m' => XC d m' [.ref a] h (fun v h' => XE d 202 155 ls (v.toList ++ st) h' Q))) := h_v0 rfl
theorem s202_155 : XE d 202 155 ls st h Q ↔ XE d 202 172 ls st h Q := g_goto rfl
theorem s202_158 : XE d 202 158 (.val (.ref a) :: l) st h Q ↔ XE d 202 159 (.val (.ref a) :: l) (.ref a :: st) h Q := g_aload rfl rfl
theorem s202_159 : XE d 202 159 ls (.ref a :: st) h Q ↔ (xvo 8 st = true ∧ XV [(12, 201)] (h.2.2.1 a) (fun m' => XC d m' [.ref a] h (fun v h' => XE d 202 162 ls (v.toList ++ st) h' Q))) := h_v0 rfl
theorem s202_162 : XE d 202 162 ls (.int x :: st) h Q ↔ (if x = 0 then XE d 202 170 ls st h Q else XE d 202 165 ls st h Q) := g_ifeq rfl
theorem s202_165 : XE d 202 165 ls st h Q ↔ XE d 202 166 ls (.int 0 :: st) h Q := g_const rfl
theorem s202_166 : XE d 202 166 (c0 :: c1 :: c2 :: c3 :: l) (.int x :: st) h Q ↔ XE d 202 167 (c0 :: c1 :: c2 :: .val (.int x) :: l) st h Q := g_istore (Nat.lt_of_lt_of_le (show 3 < 4 by decide) (Nat.le_add_left 4 _)) rfl rfl
theorem s202_167 : XE d 202 167 ls st h Q ↔ XE d 202 172 ls st h Q := g_goto rfl
theorem s202_170 : XE d 202 170 ls st h Q ↔ XE d 202 171 ls (.int 0 :: st) h Q := g_const rfl
theorem s202_171 : XE d 202 171 ls [.int 0] h Q ↔ Q (some (.int 0)) h := g_zret rfl rfl
theorem s202_171t : XE d 202 171 ls [.int 1] h Q ↔ Q (some (.int 1)) h := g_zret rfl rfl
theorem s202_171b : XE d 202 171 ls [.int (bI q)] h Q ↔ Q (some (.int (bI q))) h := g_zret (bI_nar q) rfl
theorem s202_172 : XE d 202 172 (.val (.ref a) :: l) st h Q ↔ XE d 202 173 (.val (.ref a) :: l) (.ref a :: st) h Q := g_aload rfl rfl
theorem s202_173 : XE d 202 173 ls (.ref a :: st) h Q ↔ (xvo 8 st = true ∧ XV [(12, 203)] (h.2.2.1 a) (fun m' => XC d m' [.ref a] h (fun v h' => XE d 202 176 ls (v.toList ++ st) h' Q))) := h_v0 rfl
theorem s202_176 : XE d 202 176 (c0 :: c1 :: c2 :: l) (.int x :: st) h Q ↔ XE d 202 177 (c0 :: c1 :: .val (.int x) :: l) st h Q := g_istore (Nat.lt_of_lt_of_le (show 2 < 3 by decide) (Nat.le_add_left 3 _)) rfl rfl
theorem s202_177 : XE d 202 177 ls st h Q ↔ XE d 202 28 ls st h Q := g_goto rfl
theorem s202_180 : XE d 202 180 (.val (.ref a) :: l) st h Q ↔ XE d 202 181 (.val (.ref a) :: l) (.ref a :: st) h Q := g_aload rfl rfl
theorem s202_181 : XE d 202 181 ls (.ref a :: st) h Q ↔ XG [12] 8 (h.2.2.1 a) (fun v => XE d 202 184 ls (v :: st) h Q) := g_getf rfl
theorem s202_184 : XE d 202 184 ls st h Q ↔ XE d 202 185 ls (.int 3 :: st) h Q := g_const rfl
theorem s202_185 : XE d 202 185 ls (.int y :: .int x :: st) h Q ↔ (if x = y then XE d 202 188 ls st h Q else XE d 202 237 ls st h Q) := g_cne rfl
theorem s202_188 : XE d 202 188 (.val (.ref a) :: l) st h Q ↔ XE d 202 189 (.val (.ref a) :: l) (.ref a :: st) h Q := g_aload rfl rfl
theorem s202_189 : XE d 202 189 ls (.ref a :: st) h Q ↔ XG [12] 9 (h.2.2.1 a) (fun v => XE d 202 192 ls (v :: st) h Q) := g_getf rfl
theorem s202_192 : XE d 202 192 ls st h Q ↔ XE d 202 194 ls (.int 41 :: st) h Q := g_const rfl
theorem s202_194 : XE d 202 194 ls (.int y :: .int x :: st) h Q ↔ (if x = y then XE d 202 197 ls st h Q else XE d 202 237 ls st h Q) := g_cne rfl
theorem s202_197 : XE d 202 197 (c0 :: .val (.int x) :: l) st h Q ↔ XE d 202 198 (c0 :: .val (.int x) :: l) (.int x :: st) h Q := g_iload rfl rfl
theorem s202_198 : XE d 202 198 ls (.int x :: st) h Q ↔ (if 0 < x then XE d 202 201 ls st h Q else XE d 202 237 ls st h Q) := g_ifle rfl
theorem s202_201 : XE d 202 201 (.val (.ref a) :: l) st h Q ↔ XE d 202 202 (.val (.ref a) :: l) (.ref a :: st) h Q := g_aload rfl rfl
theorem s202_202 : XE d 202 202 ls st h Q ↔ XE d 202 203 ls (.int 0 :: st) h Q := g_const rfl
theorem s202_203 : XE d 202 203 ls (.int x :: .ref a :: st) h Q ↔ (xvo 8 st = true ∧ XV [(12, 199)] (h.2.2.1 a) (fun m' => XC d m' [.ref a, .int x] h (fun v h' => XE d 202 206 ls (v.toList ++ st) h' Q))) := h_v1 rfl rfl
theorem s202_206 : XE d 202 206 (.val (.ref a) :: l) st h Q ↔ XE d 202 207 (.val (.ref a) :: l) (.ref a :: st) h Q := g_aload rfl rfl
theorem s202_207 : XE d 202 207 ls (.int x :: st) h Q ↔ XE d 202 208 ls (.int x :: .int x :: st) h Q := g_dupI rfl
theorem s202_207r : XE d 202 207 ls (.ref a :: st) h Q ↔ XE d 202 208 ls (.ref a :: .ref a :: st) h Q := g_dupR rfl
theorem s202_208 : XE d 202 208 ls (.ref a :: st) h Q ↔ XG [12] 18 (h.2.2.1 a) (fun v => XE d 202 211 ls (v :: st) h Q) := g_getf rfl
theorem s202_211 : XE d 202 211 ls st h Q ↔ XE d 202 212 ls (.int 1 :: st) h Q := g_const rfl
theorem s202_212 : XE d 202 212 ls (.int y :: .int x :: st) h Q ↔ XE d 202 213 ls (.int (x - y) :: st) h Q := g_sub rfl
theorem s202_213 : XE d 202 213 ls (.int x :: .ref a :: st) h Q ↔ XP [12] 18 (.int x) (h.2.2.1 a) (fun e => XE d 202 216 ls st (xset h a e) Q) := g_puti rfl
theorem s202_216 : XE d 202 216 (c0 :: .val (.int x) :: l) st h Q ↔ XE d 202 219 (c0 :: .val (.int (x + (-1))) :: l) st h Q := g_iinc rfl rfl rfl
theorem s202_219 : XE d 202 219 (.val (.ref a) :: l) st h Q ↔ XE d 202 220 (.val (.ref a) :: l) (.ref a :: st) h Q := g_aload rfl rfl
theorem s202_220 : XE d 202 220 ls st h Q ↔ XE d 202 222 ls (.int 6 :: st) h Q := g_const rfl
theorem s202_222 : XE d 202 222 ls (.int x :: .ref a :: st) h Q ↔ (xvo 8 st = true ∧ XV [(12, 199)] (h.2.2.1 a) (fun m' => XC d m' [.ref a, .int x] h (fun v h' => XE d 202 225 ls (v.toList ++ st) h' Q))) := h_v1 rfl rfl
theorem s202_225 : XE d 202 225 (.val (.ref a) :: l) st h Q ↔ XE d 202 226 (.val (.ref a) :: l) (.ref a :: st) h Q := g_aload rfl rfl
theorem s202_226 : XE d 202 226 ls (.ref a :: st) h Q ↔ (xvo 8 st = true ∧ XV [(12, 203)] (h.2.2.1 a) (fun m' => XC d m' [.ref a] h (fun v h' => XE d 202 229 ls (v.toList ++ st) h' Q))) := h_v0 rfl
theorem s202_229 : XE d 202 229 (c0 :: c1 :: c2 :: l) (.int x :: st) h Q ↔ XE d 202 230 (c0 :: c1 :: .val (.int x) :: l) st h Q := g_istore (Nat.lt_of_lt_of_le (show 2 < 3 by decide) (Nat.le_add_left 3 _)) rfl rfl
theorem s202_230 : XE d 202 230 (.val (.ref a) :: l) st h Q ↔ XE d 202 231 (.val (.ref a) :: l) (.ref a :: st) h Q := g_aload rfl rfl
theorem s202_231 : XE d 202 231 ls (.ref a :: st) h Q ↔ (xvo 8 st = true ∧ XV [(12, 195)] (h.2.2.1 a) (fun m' => XC d m' [.ref a] h (fun v h' => XE d 202 234 ls (v.toList ++ st) h' Q))) := h_v0 rfl
theorem s202_234 : XE d 202 234 ls st h Q ↔ XE d 202 28 ls st h Q := g_goto rfl
theorem s202_237 : XE d 202 237 (.val (.ref a) :: l) st h Q ↔ XE d 202 238 (.val (.ref a) :: l) (.ref a :: st) h Q := g_aload rfl rfl
theorem s202_238 : XE d 202 238 ls (.ref a :: st) h Q ↔ (xvo 8 st = true ∧ XV [(12, 200)] (h.2.2.1 a) (fun m' => XC d m' [.ref a] h (fun v h' => XE d 202 241 ls (v.toList ++ st) h' Q))) := h_v0 rfl
theorem s202_241 : XE d 202 241 (c0 :: c1 :: c2 :: c3 :: c4 :: l) (.int x :: st) h Q ↔ XE d 202 243 (c0 :: c1 :: c2 :: c3 :: .val (.int x) :: l) st h Q := g_istore (Nat.lt_of_lt_of_le (show 4 < 5 by decide) (Nat.le_add_left 5 _)) rfl rfl
theorem s202_243 : XE d 202 243 (c0 :: c1 :: c2 :: c3 :: .val (.int x) :: l) st h Q ↔ XE d 202 245 (c0 :: c1 :: c2 :: c3 :: .val (.int x) :: l) (.int x :: st) h Q := g_iload rfl rfl
theorem s202_245 : XE d 202 245 ls (.int x :: st) h Q ↔ (if x = 0 then XE d 202 266 ls st h Q else XE d 202 248 ls st h Q) := g_ifeq rfl
theorem s202_248 : XE d 202 248 (c0 :: c1 :: c2 :: c3 :: .val (.int x) :: l) st h Q ↔ XE d 202 250 (c0 :: c1 :: c2 :: c3 :: .val (.int x) :: l) (.int x :: st) h Q := g_iload rfl rfl
theorem s202_250 : XE d 202 250 ls (.int x :: st) h Q ↔ (xvo 8 st = true ∧ XC d 198 [.int x] h (fun v h' => XE d 202 253 ls (v.toList ++ st) h' Q)) := h_s1 rfl rfl
theorem s202_253 : XE d 202 253 ls st h Q ↔ XE d 202 254 ls (.int 3 :: st) h Q := g_const rfl
theorem s202_254 : XE d 202 254 ls (.int y :: .int x :: st) h Q ↔ (if x = y then XE d 202 257 ls st h Q else XE d 202 268 ls st h Q) := g_cne rfl
theorem s202_257 : XE d 202 257 (.val (.ref a) :: l) st h Q ↔ XE d 202 258 (.val (.ref a) :: l) (.ref a :: st) h Q := g_aload rfl rfl
theorem s202_258 : XE d 202 258 ls (.ref a :: st) h Q ↔ XG [12] 19 (h.2.2.1 a) (fun v => XE d 202 261 ls (v :: st) h Q) := g_getf rfl
theorem s202_261 : XE d 202 261 (c0 :: .val (.int x) :: l) st h Q ↔ XE d 202 262 (c0 :: .val (.int x) :: l) (.int x :: st) h Q := g_iload rfl rfl
theorem s202_262 : XE d 202 262 ls (.int x :: .ref a :: st) h Q ↔ XA [1, 8] (h.2.2.1 a) x (fun k => XE d 202 263 ls (.int k :: st) h Q) := g_ald rfl
theorem s202_263 : XE d 202 263 ls (.int x :: st) h Q ↔ (if x = 0 then XE d 202 268 ls st h Q else XE d 202 266 ls st h Q) := g_ifeq rfl
theorem s202_266 : XE d 202 266 ls st h Q ↔ XE d 202 267 ls (.int 0 :: st) h Q := g_const rfl
theorem s202_267 : XE d 202 267 ls [.int 0] h Q ↔ Q (some (.int 0)) h := g_zret rfl rfl
theorem s202_267t : XE d 202 267 ls [.int 1] h Q ↔ Q (some (.int 1)) h := g_zret rfl rfl
theorem s202_267b : XE d 202 267 ls [.int (bI q)] h Q ↔ Q (some (.int (bI q))) h := g_zret (bI_nar q) rfl
theorem s202_268 : XE d 202 268 (.val (.ref a) :: l) st h Q ↔ XE d 202 269 (.val (.ref a) :: l) (.ref a :: st) h Q := g_aload rfl rfl
theorem s202_269 : XE d 202 269 ls (.ref a :: st) h Q ↔ XG [12] 19 (h.2.2.1 a) (fun v => XE d 202 272 ls (v :: st) h Q) := g_getf rfl
theorem s202_272 : XE d 202 272 (c0 :: .val (.int x) :: l) st h Q ↔ XE d 202 273 (c0 :: .val (.int x) :: l) (.int x :: st) h Q := g_iload rfl rfl
theorem s202_273 : XE d 202 273 (c0 :: c1 :: c2 :: c3 :: .val (.int x) :: l) st h Q ↔ XE d 202 275 (c0 :: c1 :: c2 :: c3 :: .val (.int x) :: l) (.int x :: st) h Q := g_iload rfl rfl
theorem s202_275 : XE d 202 275 ls (.int x :: st) h Q ↔ (xvo 8 st = true ∧ XC d 198 [.int x] h (fun v h' => XE d 202 278 ls (v.toList ++ st) h' Q)) := h_s1 rfl rfl
theorem s202_278 : XE d 202 278 ls st h Q ↔ XE d 202 279 ls (.int 3 :: st) h Q := g_const rfl
theorem s202_279 : XE d 202 279 ls (.int y :: .int x :: st) h Q ↔ (if x = y then XE d 202 300 ls st h Q else XE d 202 282 ls st h Q) := g_ceq rfl
theorem s202_282 : XE d 202 282 (c0 :: c1 :: c2 :: c3 :: .val (.int x) :: l) st h Q ↔ XE d 202 284 (c0 :: c1 :: c2 :: c3 :: .val (.int x) :: l) (.int x :: st) h Q := g_iload rfl rfl
theorem s202_284 : XE d 202 284 ls (.int x :: st) h Q ↔ (xvo 8 st = true ∧ XC d 198 [.int x] h (fun v h' => XE d 202 287 ls (v.toList ++ st) h' Q)) := h_s1 rfl rfl
theorem s202_287 : XE d 202 287 ls st h Q ↔ XE d 202 288 ls (.int 3 :: st) h Q := g_const rfl
theorem s202_288 : XE d 202 288 ls (.int y :: .int x :: st) h Q ↔ (if y < x then XE d 202 291 ls st h Q else XE d 202 304 ls st h Q) := g_cle rfl
theorem s202_291 : XE d 202 291 (.val (.ref a) :: l) st h Q ↔ XE d 202 292 (.val (.ref a) :: l) (.ref a :: st) h Q := g_aload rfl rfl
theorem s202_292 : XE d 202 292 ls (.ref a :: st) h Q ↔ XG [12] 19 (h.2.2.1 a) (fun v => XE d 202 295 ls (v :: st) h Q) := g_getf rfl
theorem s202_295 : XE d 202 295 (c0 :: .val (.int x) :: l) st h Q ↔ XE d 202 296 (c0 :: .val (.int x) :: l) (.int x :: st) h Q := g_iload rfl rfl
theorem s202_296 : XE d 202 296 ls (.int x :: .ref a :: st) h Q ↔ XA [1, 8] (h.2.2.1 a) x (fun k => XE d 202 297 ls (.int k :: st) h Q) := g_ald rfl
theorem s202_297 : XE d 202 297 ls (.int x :: st) h Q ↔ (if x = 0 then XE d 202 304 ls st h Q else XE d 202 300 ls st h Q) := g_ifeq rfl
theorem s202_300 : XE d 202 300 ls st h Q ↔ XE d 202 301 ls (.int 1 :: st) h Q := g_const rfl
theorem s202_301 : XE d 202 301 ls st h Q ↔ XE d 202 305 ls st h Q := g_goto rfl
theorem s202_304 : XE d 202 304 ls st h Q ↔ XE d 202 305 ls (.int 0 :: st) h Q := g_const rfl
theorem s202_305 : XE d 202 305 ls (.int y :: .int x :: .ref a :: st) h Q ↔ XS 1 (h.2.2.1 a) x y (fun e => XE d 202 306 ls st (xset h a e) Q) := g_zast rfl
theorem s202_306 : XE d 202 306 (.val (.ref a) :: l) st h Q ↔ XE d 202 307 (.val (.ref a) :: l) (.ref a :: st) h Q := g_aload rfl rfl
theorem s202_307 : XE d 202 307 (c0 :: c1 :: c2 :: c3 :: .val (.int x) :: l) st h Q ↔ XE d 202 309 (c0 :: c1 :: c2 :: c3 :: .val (.int x) :: l) (.int x :: st) h Q := g_iload rfl rfl
theorem s202_309 : XE d 202 309 ls (.int x :: st) h Q ↔ (xvo 8 st = true ∧ XC d 198 [.int x] h (fun v h' => XE d 202 312 ls (v.toList ++ st) h' Q)) := h_s1 rfl rfl
theorem s202_312 : XE d 202 312 ls (.int x :: .ref a :: st) h Q ↔ (xvo 8 st = true ∧ XV [(12, 199)] (h.2.2.1 a) (fun m' => XC d m' [.ref a, .int x] h (fun v h' => XE d 202 315 ls (v.toList ++ st) h' Q))) := h_v1 rfl rfl
theorem s202_315 : XE d 202 315 (.val (.ref a) :: l) st h Q ↔ XE d 202 316 (.val (.ref a) :: l) (.ref a :: st) h Q := g_aload rfl rfl
theorem s202_316 : XE d 202 316 ls (.ref a :: st) h Q ↔ XG [12] 17 (h.2.2.1 a) (fun v => XE d 202 319 ls (v :: st) h Q) := g_getf rfl
theorem s202_319 : XE d 202 319 (.val (.ref a) :: l) st h Q ↔ XE d 202 320 (.val (.ref a) :: l) (.ref a :: st) h Q := g_aload rfl rfl
theorem s202_320 : XE d 202 320 ls (.ref a :: st) h Q ↔ XG [12] 18 (h.2.2.1 a) (fun v => XE d 202 323 ls (v :: st) h Q) := g_getf rfl
theorem s202_323 : XE d 202 323 (c0 :: c1 :: c2 :: c3 :: .val (.int x) :: l) st h Q ↔ XE d 202 325 (c0 :: c1 :: c2 :: c3 :: .val (.int x) :: l) (.int x :: st) h Q := g_iload rfl rfl
theorem s202_325 : XE d 202 325 ls (.int y :: .int x :: .ref a :: st) h Q ↔ XS 0 (h.2.2.1 a) x y (fun e => XE d 202 326 ls st (xset h a e) Q) := g_iast rfl
theorem s202_326 : XE d 202 326 (.val (.ref a) :: l) st h Q ↔ XE d 202 327 (.val (.ref a) :: l) (.ref a :: st) h Q := g_aload rfl rfl
theorem s202_327 : XE d 202 327 ls (.int x :: st) h Q ↔ XE d 202 328 ls (.int x :: .int x :: st) h Q := g_dupI rfl
theorem s202_327r : XE d 202 327 ls (.ref a :: st) h Q ↔ XE d 202 328 ls (.ref a :: .ref a :: st) h Q := g_dupR rfl
theorem s202_328 : XE d 202 328 ls (.ref a :: st) h Q ↔ XG [12] 18 (h.2.2.1 a) (fun v => XE d 202 331 ls (v :: st) h Q) := g_getf rfl
theorem s202_331 : XE d 202 331 ls st h Q ↔ XE d 202 332 ls (.int 1 :: st) h Q := g_const rfl
theorem s202_332 : XE d 202 332 ls (.int y :: .int x :: st) h Q ↔ XE d 202 333 ls (.int (x + y) :: st) h Q := g_add rfl
theorem s202_333 : XE d 202 333 ls (.int x :: .ref a :: st) h Q ↔ XP [12] 18 (.int x) (h.2.2.1 a) (fun e => XE d 202 336 ls st (xset h a e) Q) := g_puti rfl
theorem s202_336 : XE d 202 336 ls st h Q ↔ XE d 202 337 ls (.int 1 :: st) h Q := g_const rfl
theorem s202_337 : XE d 202 337 (c0 :: c1 :: c2 :: c3 :: l) (.int x :: st) h Q ↔ XE d 202 338 (c0 :: c1 :: c2 :: .val (.int x) :: l) st h Q := g_istore (Nat.lt_of_lt_of_le (show 3 < 4 by decide) (Nat.le_add_left 4 _)) rfl rfl
theorem s202_338 : XE d 202 338 (.val (.ref a) :: l) st h Q ↔ XE d 202 339 (.val (.ref a) :: l) (.ref a :: st) h Q := g_aload rfl rfl
theorem s202_339 : XE d 202 339 ls (.ref a :: st) h Q ↔ (xvo 8 st = true ∧ XV [(12, 195)] (h.2.2.1 a) (fun m' => XC d m' [.ref a] h (fun v h' => XE d 202 342 ls (v.toList ++ st) h' Q))) := h_v0 rfl
theorem s202_342 : XE d 202 342 ls st h Q ↔ XE d 202 28 ls st h Q := g_goto rfl
theorem s202_345 : XE d 202 345 (.val (.ref a) :: l) st h Q ↔ XE d 202 346 (.val (.ref a) :: l) (.ref a :: st) h Q := g_aload rfl rfl
theorem s202_346 : XE d 202 346 ls st h Q ↔ XE d 202 347 ls (.int 0 :: st) h Q := g_const rfl
theorem s202_347 : XE d 202 347 ls (.int x :: .ref a :: st) h Q ↔ (xvo 8 st = true ∧ XV [(12, 199)] (h.2.2.1 a) (fun m' => XC d m' [.ref a, .int x] h (fun v h' => XE d 202 350 ls (v.toList ++ st) h' Q))) := h_v1 rfl rfl
theorem s202_350 : XE d 202 350 (c0 :: .val (.int x) :: l) st h Q ↔ XE d 202 351 (c0 :: .val (.int x) :: l) (.int x :: st) h Q := g_iload rfl rfl
theorem s202_351 : XE d 202 351 ls (.int x :: st) h Q ↔ (if x = 0 then XE d 202 354 ls st h Q else XE d 202 358 ls st h Q) := g_ifne rfl
theorem s202_354 : XE d 202 354 ls st h Q ↔ XE d 202 355 ls (.int 1 :: st) h Q := g_const rfl
theorem s202_355 : XE d 202 355 ls st h Q ↔ XE d 202 359 ls st h Q := g_goto rfl
theorem s202_358 : XE d 202 358 ls st h Q ↔ XE d 202 359 ls (.int 0 :: st) h Q := g_const rfl
theorem s202_359 : XE d 202 359 ls [.int 0] h Q ↔ Q (some (.int 0)) h := g_zret rfl rfl
theorem s202_359t : XE d 202 359 ls [.int 1] h Q ↔ Q (some (.int 1)) h := g_zret rfl rfl
theorem s202_359b : XE d 202 359 ls [.int (bI q)] h Q ↔ Q (some (.int (bI q))) h := g_zret (bI_nar q) rfl
end PR
