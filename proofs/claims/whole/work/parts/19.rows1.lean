section PR
variable {d : Nat} {ls l : List Slot} {c0 c1 c2 c3 c4 c5 c6 c7 c8 c9 c10 c11 : Slot} {st : List Value} {h : xH} {Q : Option Value → xH → Prop} {x y z w u : Int32} {a b : Nat} {v : Value} {q : Bool}
-- 77: TwoBells.<init>()V
theorem e77 : XC (d + 1) 77 [.ref a] h Q ↔ XE d 77 0 [.val (.ref a), .unset] [] h Q := XC_in rfl
theorem s77_0 : XE d 77 0 (.val (.ref a) :: l) st h Q ↔ XE d 77 1 (.val (.ref a) :: l) (.ref a :: st) h Q := g_aload rfl rfl
theorem s77_1 : XE d 77 1 ls (.ref a :: st) h Q ↔ (xvo 8 st = true ∧ XE d 77 4 ls st h Q) := h_objinit rfl
theorem s77_4 : XE d 77 4 (.val (.ref a) :: l) st h Q ↔ XE d 77 5 (.val (.ref a) :: l) (.ref a :: st) h Q := g_aload rfl rfl
theorem s77_5 : XE d 77 5 ls st h Q ↔ XE d 77 8 ls (.ref h.1 :: st) (xnew h 20 (.inr (10, [.int 0, .int 0, .int 0, .int 0, .int 0, .int 0, .int 0, .int 0, .null, .null, .null, .null, .null, .null, .null, .null, .null, .null, .null, .null]))) Q := g_new rfl
theorem s77_8 : XE d 77 8 ls (.int x :: st) h Q ↔ XE d 77 9 ls (.int x :: .int x :: st) h Q := g_dupI rfl
theorem s77_8r : XE d 77 8 ls (.ref a :: st) h Q ↔ XE d 77 9 ls (.ref a :: .ref a :: st) h Q := g_dupR rfl
theorem s77_9 : XE d 77 9 ls (.ref a :: st) h Q ↔ (xvo 8 st = true ∧ XV [(10, 50)] (h.2.2.1 a) (fun m' => XC d m' [.ref a] h (fun v h' => XE d 77 12 ls (v.toList ++ st) h' Q))) := h_v0 rfl
theorem s77_12 : XE d 77 12 ls (.ref b :: .ref a :: st) h Q ↔ XP [11] 0 (.ref b) (h.2.2.1 a) (fun e => XE d 77 15 ls st (xset h a e) Q) := g_putaR rfl
theorem s77_12n : XE d 77 12 ls (.null :: .ref a :: st) h Q ↔ XP [11] 0 .null (h.2.2.1 a) (fun e => XE d 77 15 ls st (xset h a e) Q) := g_putaN rfl
theorem s77_15 : XE d 77 15 (.val (.ref a) :: l) st h Q ↔ XE d 77 16 (.val (.ref a) :: l) (.ref a :: st) h Q := g_aload rfl rfl
theorem s77_16 : XE d 77 16 ls st h Q ↔ XE d 77 19 ls (.ref h.1 :: st) (xnew h 20 (.inr (10, [.int 0, .int 0, .int 0, .int 0, .int 0, .int 0, .int 0, .int 0, .null, .null, .null, .null, .null, .null, .null, .null, .null, .null, .null, .null]))) Q := g_new rfl
theorem s77_19 : XE d 77 19 ls (.int x :: st) h Q ↔ XE d 77 20 ls (.int x :: .int x :: st) h Q := g_dupI rfl
theorem s77_19r : XE d 77 19 ls (.ref a :: st) h Q ↔ XE d 77 20 ls (.ref a :: .ref a :: st) h Q := g_dupR rfl
theorem s77_20 : XE d 77 20 ls (.ref a :: st) h Q ↔ (xvo 8 st = true ∧ XV [(10, 50)] (h.2.2.1 a) (fun m' => XC d m' [.ref a] h (fun v h' => XE d 77 23 ls (v.toList ++ st) h' Q))) := h_v0 rfl
theorem s77_23 : XE d 77 23 ls (.ref b :: .ref a :: st) h Q ↔ XP [11] 1 (.ref b) (h.2.2.1 a) (fun e => XE d 77 26 ls st (xset h a e) Q) := g_putaR rfl
theorem s77_23n : XE d 77 23 ls (.null :: .ref a :: st) h Q ↔ XP [11] 1 .null (h.2.2.1 a) (fun e => XE d 77 26 ls st (xset h a e) Q) := g_putaN rfl
theorem s77_26 : XE d 77 26 (.val (.ref a) :: l) st h Q ↔ XE d 77 27 (.val (.ref a) :: l) (.ref a :: st) h Q := g_aload rfl rfl
theorem s77_27 : XE d 77 27 ls st h Q ↔ XE d 77 28 ls (.int 0 :: st) h Q := g_const rfl
theorem s77_28 : XE d 77 28 ls (.int x :: .ref a :: st) h Q ↔ ((x = 0 ∨ x = 1) ∧ XP [11] 2 (.int x) (h.2.2.1 a) (fun e => XE d 77 31 ls st (xset h a e) Q)) := g_putz rfl
theorem s77_31 : XE d 77 31 (.val (.ref a) :: l) st h Q ↔ XE d 77 32 (.val (.ref a) :: l) (.ref a :: st) h Q := g_aload rfl rfl
theorem s77_32 : XE d 77 32 ls st h Q ↔ XE d 77 35 ls (.ref h.1 :: st) (xnew h 14 (.inr (7, [.int 0, .null, .int 0, .int 0, .int 0, .int 0, .int 0, .null, .int 0, .null, .int 0, .int 0, .int 0, .int 0]))) Q := g_new rfl
theorem s77_35 : XE d 77 35 ls (.int x :: st) h Q ↔ XE d 77 36 ls (.int x :: .int x :: st) h Q := g_dupI rfl
theorem s77_35r : XE d 77 35 ls (.ref a :: st) h Q ↔ XE d 77 36 ls (.ref a :: .ref a :: st) h Q := g_dupR rfl
theorem s77_36 : XE d 77 36 ls (.ref a :: st) h Q ↔ (xvo 8 st = true ∧ XV [(7, 20)] (h.2.2.1 a) (fun m' => XC d m' [.ref a] h (fun v h' => XE d 77 39 ls (v.toList ++ st) h' Q))) := h_v0 rfl
theorem s77_39 : XE d 77 39 ls (.ref b :: .ref a :: st) h Q ↔ XP [11] 3 (.ref b) (h.2.2.1 a) (fun e => XE d 77 42 ls st (xset h a e) Q) := g_putaR rfl
theorem s77_39n : XE d 77 39 ls (.null :: .ref a :: st) h Q ↔ XP [11] 3 .null (h.2.2.1 a) (fun e => XE d 77 42 ls st (xset h a e) Q) := g_putaN rfl
theorem s77_42 : XE d 77 42 (.val (.ref a) :: l) st h Q ↔ XE d 77 43 (.val (.ref a) :: l) (.ref a :: st) h Q := g_aload rfl rfl
theorem s77_43 : XE d 77 43 ls st h Q ↔ XE d 77 45 ls (.int 60 :: st) h Q := g_const rfl
theorem s77_45 : XE d 77 45 ls (.int x :: st) h Q ↔ ((0 ≤ x ∧ x.toNatClampNeg ≤ 100000) ∧ XE d 77 47 ls (.ref h.1 :: st) (xnew h x.toNatClampNeg (.inl (0, xis x.toNatClampNeg (fun _ => 0)))) Q) := g_newa rfl
theorem s77_47 : XE d 77 47 ls (.ref b :: .ref a :: st) h Q ↔ XP [11] 4 (.ref b) (h.2.2.1 a) (fun e => XE d 77 50 ls st (xset h a e) Q) := g_putaR rfl
theorem s77_47n : XE d 77 47 ls (.null :: .ref a :: st) h Q ↔ XP [11] 4 .null (h.2.2.1 a) (fun e => XE d 77 50 ls st (xset h a e) Q) := g_putaN rfl
theorem s77_50 : XE d 77 50 (.val (.ref a) :: l) st h Q ↔ XE d 77 51 (.val (.ref a) :: l) (.ref a :: st) h Q := g_aload rfl rfl
theorem s77_51 : XE d 77 51 ls st h Q ↔ XE d 77 52 ls (.int 0 :: st) h Q := g_const rfl
theorem s77_52 : XE d 77 52 ls (.int x :: .ref a :: st) h Q ↔ XP [11] 5 (.int x) (h.2.2.1 a) (fun e => XE d 77 55 ls st (xset h a e) Q) := g_puti rfl
theorem s77_55 : XE d 77 55 (.val (.ref a) :: l) st h Q ↔ XE d 77 56 (.val (.ref a) :: l) (.ref a :: st) h Q := g_aload rfl rfl
theorem s77_56 : XE d 77 56 ls st h Q ↔ XE d 77 57 ls (.int 4 :: st) h Q := g_const rfl
theorem s77_57 : XE d 77 57 ls (.int x :: st) h Q ↔ ((0 ≤ x ∧ x.toNatClampNeg ≤ 100000) ∧ XE d 77 60 ls (.ref h.1 :: st) (xnew h x.toNatClampNeg (.inl (3, xrs x.toNatClampNeg (fun _ => none)))) Q) := g_anew rfl
theorem s77_60 : XE d 77 60 ls (.ref b :: .ref a :: st) h Q ↔ XP [11] 6 (.ref b) (h.2.2.1 a) (fun e => XE d 77 63 ls st (xset h a e) Q) := g_putaR rfl
theorem s77_60n : XE d 77 60 ls (.null :: .ref a :: st) h Q ↔ XP [11] 6 .null (h.2.2.1 a) (fun e => XE d 77 63 ls st (xset h a e) Q) := g_putaN rfl
theorem s77_63 : XE d 77 63 (.val (.ref a) :: l) st h Q ↔ XE d 77 64 (.val (.ref a) :: l) (.ref a :: st) h Q := g_aload rfl rfl
theorem s77_64 : XE d 77 64 ls st h Q ↔ XE d 77 65 ls (.int 5 :: st) h Q := g_const rfl
theorem s77_65 : XE d 77 65 ls (.int x :: st) h Q ↔ ((0 ≤ x ∧ x.toNatClampNeg ≤ 100000) ∧ XE d 77 68 ls (.ref h.1 :: st) (xnew h x.toNatClampNeg (.inl (4, xrs x.toNatClampNeg (fun _ => none)))) Q) := g_anew rfl
theorem s77_68 : XE d 77 68 ls (.ref b :: .ref a :: st) h Q ↔ XP [11] 7 (.ref b) (h.2.2.1 a) (fun e => XE d 77 71 ls st (xset h a e) Q) := g_putaR rfl
theorem s77_68n : XE d 77 68 ls (.null :: .ref a :: st) h Q ↔ XP [11] 7 .null (h.2.2.1 a) (fun e => XE d 77 71 ls st (xset h a e) Q) := g_putaN rfl
theorem s77_71 : XE d 77 71 (.val (.ref a) :: l) st h Q ↔ XE d 77 72 (.val (.ref a) :: l) (.ref a :: st) h Q := g_aload rfl rfl
theorem s77_72 : XE d 77 72 ls st h Q ↔ XE d 77 74 ls (.int 12 :: st) h Q := g_const rfl
theorem s77_74 : XE d 77 74 ls (.int x :: st) h Q ↔ ((0 ≤ x ∧ x.toNatClampNeg ≤ 100000) ∧ XE d 77 76 ls (.ref h.1 :: st) (xnew h x.toNatClampNeg (.inl (0, xis x.toNatClampNeg (fun _ => 0)))) Q) := g_newa rfl
theorem s77_76 : XE d 77 76 ls (.ref b :: .ref a :: st) h Q ↔ XP [11] 8 (.ref b) (h.2.2.1 a) (fun e => XE d 77 79 ls st (xset h a e) Q) := g_putaR rfl
theorem s77_76n : XE d 77 76 ls (.null :: .ref a :: st) h Q ↔ XP [11] 8 .null (h.2.2.1 a) (fun e => XE d 77 79 ls st (xset h a e) Q) := g_putaN rfl
theorem s77_79 : XE d 77 79 ls st h Q ↔ XE d 77 80 ls (.int 0 :: st) h Q := g_const rfl
theorem s77_80 : XE d 77 80 (c0 :: c1 :: l) (.int x :: st) h Q ↔ XE d 77 81 (c0 :: .val (.int x) :: l) st h Q := g_istore (Nat.lt_of_lt_of_le (show 1 < 2 by decide) (Nat.le_add_left 2 _)) rfl rfl
theorem s77_81 : XE d 77 81 (c0 :: .val (.int x) :: l) st h Q ↔ XE d 77 82 (c0 :: .val (.int x) :: l) (.int x :: st) h Q := g_iload rfl rfl
theorem s77_82 : XE d 77 82 ls st h Q ↔ XE d 77 83 ls (.int 4 :: st) h Q := g_const rfl
theorem s77_83 : XE d 77 83 ls (.int y :: .int x :: st) h Q ↔ (if x < y then XE d 77 86 ls st h Q else XE d 77 105 ls st h Q) := g_cge rfl
theorem s77_86 : XE d 77 86 (.val (.ref a) :: l) st h Q ↔ XE d 77 87 (.val (.ref a) :: l) (.ref a :: st) h Q := g_aload rfl rfl
theorem s77_87 : XE d 77 87 ls (.ref a :: st) h Q ↔ XG [11] 6 (h.2.2.1 a) (fun v => XE d 77 90 ls (v :: st) h Q) := g_getf rfl
theorem s77_90 : XE d 77 90 (c0 :: .val (.int x) :: l) st h Q ↔ XE d 77 91 (c0 :: .val (.int x) :: l) (.int x :: st) h Q := g_iload rfl rfl
theorem s77_91 : XE d 77 91 ls st h Q ↔ XE d 77 94 ls (.ref h.1 :: st) (xnew h 3 (.inr (5, [.int 0, .int 0, .null]))) Q := g_new rfl
theorem s77_94 : XE d 77 94 ls (.int x :: st) h Q ↔ XE d 77 95 ls (.int x :: .int x :: st) h Q := g_dupI rfl
theorem s77_94r : XE d 77 94 ls (.ref a :: st) h Q ↔ XE d 77 95 ls (.ref a :: .ref a :: st) h Q := g_dupR rfl
theorem s77_95 : XE d 77 95 ls (.ref a :: st) h Q ↔ (xvo 8 st = true ∧ XV [(5, 15)] (h.2.2.1 a) (fun m' => XC d m' [.ref a] h (fun v h' => XE d 77 98 ls (v.toList ++ st) h' Q))) := h_v0 rfl
theorem s77_98 : XE d 77 98 ls (.ref b :: .int x :: .ref a :: st) h Q ↔ XSr 3 [5] (h.2.2.1 a) x b (h.2.2.1 b) (fun e => XE d 77 99 ls st (xset h a e) Q) := g_aastR rfl
theorem s77_98n : XE d 77 98 ls (.null :: .int x :: .ref a :: st) h Q ↔ XSn 3 (h.2.2.1 a) x (fun e => XE d 77 99 ls st (xset h a e) Q) := g_aastN rfl
theorem s77_99 : XE d 77 99 (c0 :: .val (.int x) :: l) st h Q ↔ XE d 77 102 (c0 :: .val (.int (x + 1)) :: l) st h Q := g_iinc rfl rfl rfl
theorem s77_102 : XE d 77 102 ls st h Q ↔ XE d 77 81 ls st h Q := g_goto rfl
theorem s77_105 : XE d 77 105 ls st h Q ↔ XE d 77 106 ls (.int 0 :: st) h Q := g_const rfl
theorem s77_106 : XE d 77 106 (c0 :: c1 :: l) (.int x :: st) h Q ↔ XE d 77 107 (c0 :: .val (.int x) :: l) st h Q := g_istore (Nat.lt_of_lt_of_le (show 1 < 2 by decide) (Nat.le_add_left 2 _)) rfl rfl
theorem s77_107 : XE d 77 107 (c0 :: .val (.int x) :: l) st h Q ↔ XE d 77 108 (c0 :: .val (.int x) :: l) (.int x :: st) h Q := g_iload rfl rfl
theorem s77_108 : XE d 77 108 ls st h Q ↔ XE d 77 109 ls (.int 5 :: st) h Q := g_const rfl
theorem s77_109 : XE d 77 109 ls (.int y :: .int x :: st) h Q ↔ (if x < y then XE d 77 112 ls st h Q else XE d 77 131 ls st h Q) := g_cge rfl
theorem s77_112 : XE d 77 112 (.val (.ref a) :: l) st h Q ↔ XE d 77 113 (.val (.ref a) :: l) (.ref a :: st) h Q := g_aload rfl rfl
theorem s77_113 : XE d 77 113 ls (.ref a :: st) h Q ↔ XG [11] 7 (h.2.2.1 a) (fun v => XE d 77 116 ls (v :: st) h Q) := g_getf rfl
theorem s77_116 : XE d 77 116 (c0 :: .val (.int x) :: l) st h Q ↔ XE d 77 117 (c0 :: .val (.int x) :: l) (.int x :: st) h Q := g_iload rfl rfl
theorem s77_117 : XE d 77 117 ls st h Q ↔ XE d 77 120 ls (.ref h.1 :: st) (xnew h 4 (.inr (6, [.int 0, .null, .null, .int 0]))) Q := g_new rfl
theorem s77_120 : XE d 77 120 ls (.int x :: st) h Q ↔ XE d 77 121 ls (.int x :: .int x :: st) h Q := g_dupI rfl
theorem s77_120r : XE d 77 120 ls (.ref a :: st) h Q ↔ XE d 77 121 ls (.ref a :: .ref a :: st) h Q := g_dupR rfl
theorem s77_121 : XE d 77 121 ls (.ref a :: st) h Q ↔ (xvo 8 st = true ∧ XV [(6, 19)] (h.2.2.1 a) (fun m' => XC d m' [.ref a] h (fun v h' => XE d 77 124 ls (v.toList ++ st) h' Q))) := h_v0 rfl
theorem s77_124 : XE d 77 124 ls (.ref b :: .int x :: .ref a :: st) h Q ↔ XSr 4 [6] (h.2.2.1 a) x b (h.2.2.1 b) (fun e => XE d 77 125 ls st (xset h a e) Q) := g_aastR rfl
theorem s77_124n : XE d 77 124 ls (.null :: .int x :: .ref a :: st) h Q ↔ XSn 4 (h.2.2.1 a) x (fun e => XE d 77 125 ls st (xset h a e) Q) := g_aastN rfl
theorem s77_125 : XE d 77 125 (c0 :: .val (.int x) :: l) st h Q ↔ XE d 77 128 (c0 :: .val (.int (x + 1)) :: l) st h Q := g_iinc rfl rfl rfl
theorem s77_128 : XE d 77 128 ls st h Q ↔ XE d 77 107 ls st h Q := g_goto rfl
theorem s77_131 : XE d 77 131 ls [] h Q ↔ Q none h := g_ret rfl
-- 78: TwoBells.house(II)I
theorem e78 : XC (d + 1) 78 [.ref a, .int x, .int y] h Q ↔ XE d 78 0 [.val (.ref a), .val (.int x), .val (.int y)] [] h Q := XC_in rfl
theorem s78_0 : XE d 78 0 (c0 :: .val (.int x) :: l) st h Q ↔ XE d 78 1 (c0 :: .val (.int x) :: l) (.int x :: st) h Q := g_iload rfl rfl
theorem s78_1 : XE d 78 1 ls st h Q ↔ XE d 78 2 ls (.int 0 :: st) h Q := g_const rfl
theorem s78_2 : XE d 78 2 ls st h Q ↔ XE d 78 4 ls (.int 100 :: st) h Q := g_const rfl
theorem s78_4 : XE d 78 4 ls (.int z :: .int y :: .int x :: st) h Q ↔ (xvo 8 st = true ∧ XC d 123 [.int x, .int y, .int z] h (fun v h' => XE d 78 7 ls (v.toList ++ st) h' Q)) := h_s3 rfl rfl
theorem s78_7 : XE d 78 7 ls (.int x :: st) h Q ↔ (if x = 0 then XE d 78 20 ls st h Q else XE d 78 10 ls st h Q) := g_ifeq rfl
theorem s78_10 : XE d 78 10 (c0 :: c1 :: .val (.int x) :: l) st h Q ↔ XE d 78 11 (c0 :: c1 :: .val (.int x) :: l) (.int x :: st) h Q := g_iload rfl rfl
theorem s78_11 : XE d 78 11 ls st h Q ↔ XE d 78 12 ls (.int 0 :: st) h Q := g_const rfl
theorem s78_12 : XE d 78 12 ls st h Q ↔ XE d 78 14 ls (.int 100 :: st) h Q := g_const rfl
theorem s78_14 : XE d 78 14 ls (.int z :: .int y :: .int x :: st) h Q ↔ (xvo 8 st = true ∧ XC d 123 [.int x, .int y, .int z] h (fun v h' => XE d 78 17 ls (v.toList ++ st) h' Q)) := h_s3 rfl rfl
theorem s78_17 : XE d 78 17 ls (.int x :: st) h Q ↔ (if x = 0 then XE d 78 20 ls st h Q else XE d 78 23 ls st h Q) := g_ifne rfl
theorem s78_20 : XE d 78 20 ls st h Q ↔ XE d 78 22 ls (.int (-1000000001) :: st) h Q := g_const rfl
theorem s78_22 : XE d 78 22 ls [.int x] h Q ↔ Q (some (.int x)) h := g_iret rfl
theorem s78_23 : XE d 78 23 (.val (.ref a) :: l) st h Q ↔ XE d 78 24 (.val (.ref a) :: l) (.ref a :: st) h Q := g_aload rfl rfl
theorem s78_24 : XE d 78 24 ls (.ref a :: st) h Q ↔ XG [11] 0 (h.2.2.1 a) (fun v => XE d 78 27 ls (v :: st) h Q) := g_getf rfl
theorem s78_27 : XE d 78 27 (c0 :: .val (.int x) :: l) st h Q ↔ XE d 78 28 (c0 :: .val (.int x) :: l) (.int x :: st) h Q := g_iload rfl rfl
theorem s78_28 : XE d 78 28 (c0 :: c1 :: .val (.int x) :: l) st h Q ↔ XE d 78 29 (c0 :: c1 :: .val (.int x) :: l) (.int x :: st) h Q := g_iload rfl rfl
theorem s78_29 : XE d 78 29 ls (.int y :: .int x :: .ref a :: st) h Q ↔ (xvo 8 st = true ∧ XV [(10, 56)] (h.2.2.1 a) (fun m' => XC d m' [.ref a, .int x, .int y] h (fun v h' => XE d 78 32 ls (v.toList ++ st) h' Q))) := h_v2 rfl rfl
theorem s78_32 : XE d 78 32 ls [.int x] h Q ↔ Q (some (.int x)) h := g_iret rfl
-- 79: TwoBells.houseTold(II)I
theorem e79 : XC (d + 1) 79 [.ref a, .int x, .int y] h Q ↔ XE d 79 0 [.val (.ref a), .val (.int x), .val (.int y)] [] h Q := XC_in rfl
theorem s79_0 : XE d 79 0 (.val (.ref a) :: l) st h Q ↔ XE d 79 1 (.val (.ref a) :: l) (.ref a :: st) h Q := g_aload rfl rfl
theorem s79_1 : XE d 79 1 ls (.ref a :: st) h Q ↔ XG [11] 0 (h.2.2.1 a) (fun v => XE d 79 4 ls (v :: st) h Q) := g_getf rfl
theorem s79_4 : XE d 79 4 (c0 :: .val (.int x) :: l) st h Q ↔ XE d 79 5 (c0 :: .val (.int x) :: l) (.int x :: st) h Q := g_iload rfl rfl
theorem s79_5 : XE d 79 5 ls (.int x :: .ref a :: st) h Q ↔ (xvo 8 st = true ∧ XV [(10, 52)] (h.2.2.1 a) (fun m' => XC d m' [.ref a, .int x] h (fun v h' => XE d 79 8 ls (v.toList ++ st) h' Q))) := h_v1 rfl rfl
theorem s79_8 : XE d 79 8 ls (.int x :: st) h Q ↔ (if x = 0 then XE d 79 11 ls st h Q else XE d 79 14 ls st h Q) := g_ifne rfl
theorem s79_11 : XE d 79 11 ls st h Q ↔ XE d 79 13 ls (.int (-1000000001) :: st) h Q := g_const rfl
theorem s79_13 : XE d 79 13 ls [.int x] h Q ↔ Q (some (.int x)) h := g_iret rfl
theorem s79_14 : XE d 79 14 (c0 :: c1 :: .val (.int x) :: l) st h Q ↔ XE d 79 15 (c0 :: c1 :: .val (.int x) :: l) (.int x :: st) h Q := g_iload rfl rfl
theorem s79_15 : XE d 79 15 ls (.int x :: st) h Q ↔ xswi d 79 x 111 ls st h Q [(0, 52), (1, 62), (2, 72), (3, 83), (4, 92), (5, 101)] := g_switch rfl
theorem s79_52 : XE d 79 52 (.val (.ref a) :: l) st h Q ↔ XE d 79 53 (.val (.ref a) :: l) (.ref a :: st) h Q := g_aload rfl rfl
theorem s79_53 : XE d 79 53 ls (.ref a :: st) h Q ↔ XG [11] 0 (h.2.2.1 a) (fun v => XE d 79 56 ls (v :: st) h Q) := g_getf rfl
theorem s79_56 : XE d 79 56 ls (.ref a :: st) h Q ↔ XG [10] 8 (h.2.2.1 a) (fun v => XE d 79 59 ls (v :: st) h Q) := g_getf rfl
theorem s79_59 : XE d 79 59 (c0 :: .val (.int x) :: l) st h Q ↔ XE d 79 60 (c0 :: .val (.int x) :: l) (.int x :: st) h Q := g_iload rfl rfl
theorem s79_60 : XE d 79 60 ls (.int x :: .ref a :: st) h Q ↔ XA [0, 7] (h.2.2.1 a) x (fun k => XE d 79 61 ls (.int k :: st) h Q) := g_ald rfl
theorem s79_61 : XE d 79 61 ls [.int x] h Q ↔ Q (some (.int x)) h := g_iret rfl
theorem s79_62 : XE d 79 62 (.val (.ref a) :: l) st h Q ↔ XE d 79 63 (.val (.ref a) :: l) (.ref a :: st) h Q := g_aload rfl rfl
theorem s79_63 : XE d 79 63 ls (.ref a :: st) h Q ↔ XG [11] 0 (h.2.2.1 a) (fun v => XE d 79 66 ls (v :: st) h Q) := g_getf rfl
theorem s79_66 : XE d 79 66 ls (.ref a :: st) h Q ↔ XG [10] 9 (h.2.2.1 a) (fun v => XE d 79 69 ls (v :: st) h Q) := g_getf rfl
theorem s79_69 : XE d 79 69 (c0 :: .val (.int x) :: l) st h Q ↔ XE d 79 70 (c0 :: .val (.int x) :: l) (.int x :: st) h Q := g_iload rfl rfl
theorem s79_70 : XE d 79 70 ls (.int x :: .ref a :: st) h Q ↔ XA [0, 7] (h.2.2.1 a) x (fun k => XE d 79 71 ls (.int k :: st) h Q) := g_ald rfl
theorem s79_71 : XE d 79 71 ls [.int x] h Q ↔ Q (some (.int x)) h := g_iret rfl
theorem s79_72 : XE d 79 72 (.val (.ref a) :: l) st h Q ↔ XE d 79 73 (.val (.ref a) :: l) (.ref a :: st) h Q := g_aload rfl rfl
theorem s79_73 : XE d 79 73 ls (.ref a :: st) h Q ↔ XG [11] 0 (h.2.2.1 a) (fun v => XE d 79 76 ls (v :: st) h Q) := g_getf rfl
theorem s79_76 : XE d 79 76 (c0 :: .val (.int x) :: l) st h Q ↔ XE d 79 77 (c0 :: .val (.int x) :: l) (.int x :: st) h Q := g_iload rfl rfl
theorem s79_77 : XE d 79 77 ls st h Q ↔ XE d 79 79 ls (.int (-1000000005) :: st) h Q := g_const rfl
theorem s79_79 : XE d 79 79 ls (.int y :: .int x :: .ref a :: st) h Q ↔ (xvo 8 st = true ∧ XV [(10, 60)] (h.2.2.1 a) (fun m' => XC d m' [.ref a, .int x, .int y] h (fun v h' => XE d 79 82 ls (v.toList ++ st) h' Q))) := h_v2 rfl rfl
theorem s79_82 : XE d 79 82 ls [.int x] h Q ↔ Q (some (.int x)) h := g_iret rfl
theorem s79_83 : XE d 79 83 (.val (.ref a) :: l) st h Q ↔ XE d 79 84 (.val (.ref a) :: l) (.ref a :: st) h Q := g_aload rfl rfl
theorem s79_84 : XE d 79 84 ls (.ref a :: st) h Q ↔ XG [11] 0 (h.2.2.1 a) (fun v => XE d 79 87 ls (v :: st) h Q) := g_getf rfl
theorem s79_87 : XE d 79 87 (c0 :: .val (.int x) :: l) st h Q ↔ XE d 79 88 (c0 :: .val (.int x) :: l) (.int x :: st) h Q := g_iload rfl rfl
theorem s79_88 : XE d 79 88 ls (.int x :: .ref a :: st) h Q ↔ (xvo 8 st = true ∧ XV [(10, 61)] (h.2.2.1 a) (fun m' => XC d m' [.ref a, .int x] h (fun v h' => XE d 79 91 ls (v.toList ++ st) h' Q))) := h_v1 rfl rfl
theorem s79_91 : XE d 79 91 ls [.int x] h Q ↔ Q (some (.int x)) h := g_iret rfl
theorem s79_92 : XE d 79 92 (.val (.ref a) :: l) st h Q ↔ XE d 79 93 (.val (.ref a) :: l) (.ref a :: st) h Q := g_aload rfl rfl
theorem s79_93 : XE d 79 93 ls (.ref a :: st) h Q ↔ XG [11] 0 (h.2.2.1 a) (fun v => XE d 79 96 ls (v :: st) h Q) := g_getf rfl
theorem s79_96 : XE d 79 96 (c0 :: .val (.int x) :: l) st h Q ↔ XE d 79 97 (c0 :: .val (.int x) :: l) (.int x :: st) h Q := g_iload rfl rfl
theorem s79_97 : XE d 79 97 ls (.int x :: .ref a :: st) h Q ↔ (xvo 8 st = true ∧ XV [(10, 64)] (h.2.2.1 a) (fun m' => XC d m' [.ref a, .int x] h (fun v h' => XE d 79 100 ls (v.toList ++ st) h' Q))) := h_v1 rfl rfl
theorem s79_100 : XE d 79 100 ls [.int x] h Q ↔ Q (some (.int x)) h := g_iret rfl
theorem s79_101 : XE d 79 101 (.val (.ref a) :: l) st h Q ↔ XE d 79 102 (.val (.ref a) :: l) (.ref a :: st) h Q := g_aload rfl rfl
theorem s79_102 : XE d 79 102 ls (.ref a :: st) h Q ↔ XG [11] 0 (h.2.2.1 a) (fun v => XE d 79 105 ls (v :: st) h Q) := g_getf rfl
theorem s79_105 : XE d 79 105 ls (.ref a :: st) h Q ↔ XG [10] 10 (h.2.2.1 a) (fun v => XE d 79 108 ls (v :: st) h Q) := g_getf rfl
theorem s79_108 : XE d 79 108 (c0 :: .val (.int x) :: l) st h Q ↔ XE d 79 109 (c0 :: .val (.int x) :: l) (.int x :: st) h Q := g_iload rfl rfl
theorem s79_109 : XE d 79 109 ls (.int x :: .ref a :: st) h Q ↔ XA [0, 7] (h.2.2.1 a) x (fun k => XE d 79 110 ls (.int k :: st) h Q) := g_ald rfl
theorem s79_110 : XE d 79 110 ls [.int x] h Q ↔ Q (some (.int x)) h := g_iret rfl
theorem s79_111 : XE d 79 111 ls st h Q ↔ XE d 79 113 ls (.int (-1000000001) :: st) h Q := g_const rfl
theorem s79_113 : XE d 79 113 ls [.int x] h Q ↔ Q (some (.int x)) h := g_iret rfl
-- 80: TwoBells.change(III)I
theorem e80 : XC (d + 1) 80 [.ref a, .int x, .int y, .int z] h Q ↔ XE d 80 0 [.val (.ref a), .val (.int x), .val (.int y), .val (.int z), .unset, .unset] [] h Q := XC_in rfl
theorem s80_0 : XE d 80 0 (.val (.ref a) :: l) st h Q ↔ XE d 80 1 (.val (.ref a) :: l) (.ref a :: st) h Q := g_aload rfl rfl
theorem s80_1 : XE d 80 1 ls (.ref a :: st) h Q ↔ XG [11] 0 (h.2.2.1 a) (fun v => XE d 80 4 ls (v :: st) h Q) := g_getf rfl
theorem s80_4 : XE d 80 4 (c0 :: .val (.int x) :: l) st h Q ↔ XE d 80 5 (c0 :: .val (.int x) :: l) (.int x :: st) h Q := g_iload rfl rfl
theorem s80_5 : XE d 80 5 ls (.int x :: .ref a :: st) h Q ↔ (xvo 8 st = true ∧ XV [(10, 52)] (h.2.2.1 a) (fun m' => XC d m' [.ref a, .int x] h (fun v h' => XE d 80 8 ls (v.toList ++ st) h' Q))) := h_v1 rfl rfl
theorem s80_8 : XE d 80 8 ls (.int x :: st) h Q ↔ (if x = 0 then XE d 80 30 ls st h Q else XE d 80 11 ls st h Q) := g_ifeq rfl
theorem s80_11 : XE d 80 11 (c0 :: c1 :: .val (.int x) :: l) st h Q ↔ XE d 80 12 (c0 :: c1 :: .val (.int x) :: l) (.int x :: st) h Q := g_iload rfl rfl
theorem s80_12 : XE d 80 12 ls st h Q ↔ XE d 80 13 ls (.int 0 :: st) h Q := g_const rfl
theorem s80_13 : XE d 80 13 ls st h Q ↔ XE d 80 14 ls (.int 1 :: st) h Q := g_const rfl
theorem s80_14 : XE d 80 14 ls (.int z :: .int y :: .int x :: st) h Q ↔ (xvo 8 st = true ∧ XC d 123 [.int x, .int y, .int z] h (fun v h' => XE d 80 17 ls (v.toList ++ st) h' Q)) := h_s3 rfl rfl
theorem s80_17 : XE d 80 17 ls (.int x :: st) h Q ↔ (if x = 0 then XE d 80 30 ls st h Q else XE d 80 20 ls st h Q) := g_ifeq rfl
theorem s80_20 : XE d 80 20 (c0 :: c1 :: c2 :: .val (.int x) :: l) st h Q ↔ XE d 80 21 (c0 :: c1 :: c2 :: .val (.int x) :: l) (.int x :: st) h Q := g_iload rfl rfl
theorem s80_21 : XE d 80 21 ls st h Q ↔ XE d 80 22 ls (.int 0 :: st) h Q := g_const rfl
theorem s80_22 : XE d 80 22 ls st h Q ↔ XE d 80 24 ls (.int 100 :: st) h Q := g_const rfl
theorem s80_24 : XE d 80 24 ls (.int z :: .int y :: .int x :: st) h Q ↔ (xvo 8 st = true ∧ XC d 123 [.int x, .int y, .int z] h (fun v h' => XE d 80 27 ls (v.toList ++ st) h' Q)) := h_s3 rfl rfl
theorem s80_27 : XE d 80 27 ls (.int x :: st) h Q ↔ (if x = 0 then XE d 80 30 ls st h Q else XE d 80 33 ls st h Q) := g_ifne rfl
theorem s80_30 : XE d 80 30 ls st h Q ↔ XE d 80 32 ls (.int (-1000000001) :: st) h Q := g_const rfl
theorem s80_32 : XE d 80 32 ls [.int x] h Q ↔ Q (some (.int x)) h := g_iret rfl
theorem s80_33 : XE d 80 33 (c0 :: c1 :: .val (.int x) :: l) st h Q ↔ XE d 80 34 (c0 :: c1 :: .val (.int x) :: l) (.int x :: st) h Q := g_iload rfl rfl
theorem s80_34 : XE d 80 34 ls (.int x :: st) h Q ↔ (if x = 0 then XE d 80 37 ls st h Q else XE d 80 47 ls st h Q) := g_ifne rfl
theorem s80_37 : XE d 80 37 (.val (.ref a) :: l) st h Q ↔ XE d 80 38 (.val (.ref a) :: l) (.ref a :: st) h Q := g_aload rfl rfl
theorem s80_38 : XE d 80 38 ls (.ref a :: st) h Q ↔ XG [11] 0 (h.2.2.1 a) (fun v => XE d 80 41 ls (v :: st) h Q) := g_getf rfl
theorem s80_41 : XE d 80 41 ls (.ref a :: st) h Q ↔ XG [10] 8 (h.2.2.1 a) (fun v => XE d 80 44 ls (v :: st) h Q) := g_getf rfl
theorem s80_44 : XE d 80 44 ls st h Q ↔ XE d 80 54 ls st h Q := g_goto rfl
theorem s80_47 : XE d 80 47 (.val (.ref a) :: l) st h Q ↔ XE d 80 48 (.val (.ref a) :: l) (.ref a :: st) h Q := g_aload rfl rfl
theorem s80_48 : XE d 80 48 ls (.ref a :: st) h Q ↔ XG [11] 0 (h.2.2.1 a) (fun v => XE d 80 51 ls (v :: st) h Q) := g_getf rfl
theorem s80_51 : XE d 80 51 ls (.ref a :: st) h Q ↔ XG [10] 9 (h.2.2.1 a) (fun v => XE d 80 54 ls (v :: st) h Q) := g_getf rfl
theorem s80_54 : XE d 80 54 (c0 :: c1 :: c2 :: c3 :: c4 :: l) (.ref a :: st) h Q ↔ XE d 80 56 (c0 :: c1 :: c2 :: c3 :: .val (.ref a) :: l) st h Q := g_astore (Nat.lt_of_lt_of_le (show 4 < 5 by decide) (Nat.le_add_left 5 _)) rfl rfl
theorem s80_54n : XE d 80 54 (c0 :: c1 :: c2 :: c3 :: c4 :: l) (.null :: st) h Q ↔ XE d 80 56 (c0 :: c1 :: c2 :: c3 :: .val .null :: l) st h Q := g_astoreN (Nat.lt_of_lt_of_le (show 4 < 5 by decide) (Nat.le_add_left 5 _)) rfl rfl
theorem s80_56 : XE d 80 56 (c0 :: c1 :: c2 :: c3 :: .val (.ref a) :: l) st h Q ↔ XE d 80 58 (c0 :: c1 :: c2 :: c3 :: .val (.ref a) :: l) (.ref a :: st) h Q := g_aload rfl rfl
theorem s80_56n : XE d 80 56 (c0 :: c1 :: c2 :: c3 :: .val .null :: l) st h Q ↔ XE d 80 58 (c0 :: c1 :: c2 :: c3 :: .val .null :: l) (.null :: st) h Q := g_aloadN rfl rfl
theorem s80_58 : XE d 80 58 (c0 :: .val (.int x) :: l) st h Q ↔ XE d 80 59 (c0 :: .val (.int x) :: l) (.int x :: st) h Q := g_iload rfl rfl
theorem s80_59 : XE d 80 59 ls (.int x :: .ref a :: st) h Q ↔ XA [0, 7] (h.2.2.1 a) x (fun k => XE d 80 60 ls (.int k :: st) h Q) := g_ald rfl
theorem s80_60 : XE d 80 60 (c0 :: c1 :: c2 :: c3 :: c4 :: c5 :: l) (.int x :: st) h Q ↔ XE d 80 62 (c0 :: c1 :: c2 :: c3 :: c4 :: .val (.int x) :: l) st h Q := g_istore (Nat.lt_of_lt_of_le (show 5 < 6 by decide) (Nat.le_add_left 6 _)) rfl rfl
theorem s80_62 : XE d 80 62 (c0 :: c1 :: c2 :: c3 :: .val (.ref a) :: l) st h Q ↔ XE d 80 64 (c0 :: c1 :: c2 :: c3 :: .val (.ref a) :: l) (.ref a :: st) h Q := g_aload rfl rfl
theorem s80_62n : XE d 80 62 (c0 :: c1 :: c2 :: c3 :: .val .null :: l) st h Q ↔ XE d 80 64 (c0 :: c1 :: c2 :: c3 :: .val .null :: l) (.null :: st) h Q := g_aloadN rfl rfl
theorem s80_64 : XE d 80 64 (c0 :: .val (.int x) :: l) st h Q ↔ XE d 80 65 (c0 :: .val (.int x) :: l) (.int x :: st) h Q := g_iload rfl rfl
theorem s80_65 : XE d 80 65 (c0 :: c1 :: c2 :: .val (.int x) :: l) st h Q ↔ XE d 80 66 (c0 :: c1 :: c2 :: .val (.int x) :: l) (.int x :: st) h Q := g_iload rfl rfl
theorem s80_66 : XE d 80 66 ls (.int y :: .int x :: .ref a :: st) h Q ↔ XS 0 (h.2.2.1 a) x y (fun e => XE d 80 67 ls st (xset h a e) Q) := g_iast rfl
theorem s80_67 : XE d 80 67 (c0 :: c1 :: c2 :: c3 :: c4 :: .val (.int x) :: l) st h Q ↔ XE d 80 69 (c0 :: c1 :: c2 :: c3 :: c4 :: .val (.int x) :: l) (.int x :: st) h Q := g_iload rfl rfl
theorem s80_69 : XE d 80 69 ls [.int x] h Q ↔ Q (some (.int x)) h := g_iret rfl
-- 81: TwoBells.agree(III)I
theorem e81 : XC (d + 1) 81 [.ref a, .int x, .int y, .int z] h Q ↔ XE d 81 0 [.val (.ref a), .val (.int x), .val (.int y), .val (.int z), .unset] [] h Q := XC_in rfl
theorem s81_0 : XE d 81 0 (.val (.ref a) :: l) st h Q ↔ XE d 81 1 (.val (.ref a) :: l) (.ref a :: st) h Q := g_aload rfl rfl
theorem s81_1 : XE d 81 1 ls (.ref a :: st) h Q ↔ XG [11] 0 (h.2.2.1 a) (fun v => XE d 81 4 ls (v :: st) h Q) := g_getf rfl
theorem s81_4 : XE d 81 4 (c0 :: .val (.int x) :: l) st h Q ↔ XE d 81 5 (c0 :: .val (.int x) :: l) (.int x :: st) h Q := g_iload rfl rfl
theorem s81_5 : XE d 81 5 ls (.int x :: .ref a :: st) h Q ↔ (xvo 8 st = true ∧ XV [(10, 52)] (h.2.2.1 a) (fun m' => XC d m' [.ref a, .int x] h (fun v h' => XE d 81 8 ls (v.toList ++ st) h' Q))) := h_v1 rfl rfl
theorem s81_8 : XE d 81 8 ls (.int x :: st) h Q ↔ (if x = 0 then XE d 81 36 ls st h Q else XE d 81 11 ls st h Q) := g_ifeq rfl
theorem s81_11 : XE d 81 11 (.val (.ref a) :: l) st h Q ↔ XE d 81 12 (.val (.ref a) :: l) (.ref a :: st) h Q := g_aload rfl rfl
theorem s81_12 : XE d 81 12 ls (.ref a :: st) h Q ↔ XG [11] 0 (h.2.2.1 a) (fun v => XE d 81 15 ls (v :: st) h Q) := g_getf rfl
theorem s81_15 : XE d 81 15 (c0 :: c1 :: .val (.int x) :: l) st h Q ↔ XE d 81 16 (c0 :: c1 :: .val (.int x) :: l) (.int x :: st) h Q := g_iload rfl rfl
theorem s81_16 : XE d 81 16 ls (.int x :: .ref a :: st) h Q ↔ (xvo 8 st = true ∧ XV [(10, 52)] (h.2.2.1 a) (fun m' => XC d m' [.ref a, .int x] h (fun v h' => XE d 81 19 ls (v.toList ++ st) h' Q))) := h_v1 rfl rfl
theorem s81_19 : XE d 81 19 ls (.int x :: st) h Q ↔ (if x = 0 then XE d 81 36 ls st h Q else XE d 81 22 ls st h Q) := g_ifeq rfl
theorem s81_22 : XE d 81 22 (c0 :: .val (.int x) :: l) st h Q ↔ XE d 81 23 (c0 :: .val (.int x) :: l) (.int x :: st) h Q := g_iload rfl rfl
theorem s81_23 : XE d 81 23 (c0 :: c1 :: .val (.int x) :: l) st h Q ↔ XE d 81 24 (c0 :: c1 :: .val (.int x) :: l) (.int x :: st) h Q := g_iload rfl rfl
theorem s81_24 : XE d 81 24 ls (.int y :: .int x :: st) h Q ↔ (if x = y then XE d 81 36 ls st h Q else XE d 81 27 ls st h Q) := g_ceq rfl
theorem s81_27 : XE d 81 27 (c0 :: c1 :: c2 :: .val (.int x) :: l) st h Q ↔ XE d 81 28 (c0 :: c1 :: c2 :: .val (.int x) :: l) (.int x :: st) h Q := g_iload rfl rfl
theorem s81_28 : XE d 81 28 ls st h Q ↔ XE d 81 29 ls (.int 0 :: st) h Q := g_const rfl
theorem s81_29 : XE d 81 29 ls st h Q ↔ XE d 81 30 ls (.int 1 :: st) h Q := g_const rfl
theorem s81_30 : XE d 81 30 ls (.int z :: .int y :: .int x :: st) h Q ↔ (xvo 8 st = true ∧ XC d 123 [.int x, .int y, .int z] h (fun v h' => XE d 81 33 ls (v.toList ++ st) h' Q)) := h_s3 rfl rfl
theorem s81_33 : XE d 81 33 ls (.int x :: st) h Q ↔ (if x = 0 then XE d 81 36 ls st h Q else XE d 81 39 ls st h Q) := g_ifne rfl
theorem s81_36 : XE d 81 36 ls st h Q ↔ XE d 81 38 ls (.int (-1000000001) :: st) h Q := g_const rfl
theorem s81_38 : XE d 81 38 ls [.int x] h Q ↔ Q (some (.int x)) h := g_iret rfl
theorem s81_39 : XE d 81 39 (.val (.ref a) :: l) st h Q ↔ XE d 81 40 (.val (.ref a) :: l) (.ref a :: st) h Q := g_aload rfl rfl
theorem s81_40 : XE d 81 40 ls (.ref a :: st) h Q ↔ XG [11] 0 (h.2.2.1 a) (fun v => XE d 81 43 ls (v :: st) h Q) := g_getf rfl
theorem s81_43 : XE d 81 43 (c0 :: .val (.int x) :: l) st h Q ↔ XE d 81 44 (c0 :: .val (.int x) :: l) (.int x :: st) h Q := g_iload rfl rfl
theorem s81_44 : XE d 81 44 (c0 :: c1 :: .val (.int x) :: l) st h Q ↔ XE d 81 45 (c0 :: c1 :: .val (.int x) :: l) (.int x :: st) h Q := g_iload rfl rfl
theorem s81_45 : XE d 81 45 ls (.int y :: .int x :: .ref a :: st) h Q ↔ (xvo 8 st = true ∧ XV [(10, 59)] (h.2.2.1 a) (fun m' => XC d m' [.ref a, .int x, .int y] h (fun v h' => XE d 81 48 ls (v.toList ++ st) h' Q))) := h_v2 rfl rfl
theorem s81_48 : XE d 81 48 ls (.int x :: st) h Q ↔ (if x = 0 then XE d 81 55 ls st h Q else XE d 81 51 ls st h Q) := g_ifeq rfl
theorem s81_51 : XE d 81 51 ls st h Q ↔ XE d 81 52 ls (.int 1 :: st) h Q := g_const rfl
theorem s81_52 : XE d 81 52 ls st h Q ↔ XE d 81 56 ls st h Q := g_goto rfl
theorem s81_55 : XE d 81 55 ls st h Q ↔ XE d 81 56 ls (.int 0 :: st) h Q := g_const rfl
theorem s81_56 : XE d 81 56 (c0 :: c1 :: c2 :: c3 :: c4 :: l) (.int x :: st) h Q ↔ XE d 81 58 (c0 :: c1 :: c2 :: c3 :: .val (.int x) :: l) st h Q := g_istore (Nat.lt_of_lt_of_le (show 4 < 5 by decide) (Nat.le_add_left 5 _)) rfl rfl
theorem s81_58 : XE d 81 58 (c0 :: c1 :: c2 :: c3 :: .val (.int x) :: l) st h Q ↔ XE d 81 60 (c0 :: c1 :: c2 :: c3 :: .val (.int x) :: l) (.int x :: st) h Q := g_iload rfl rfl
theorem s81_60 : XE d 81 60 (c0 :: c1 :: c2 :: .val (.int x) :: l) st h Q ↔ XE d 81 61 (c0 :: c1 :: c2 :: .val (.int x) :: l) (.int x :: st) h Q := g_iload rfl rfl
theorem s81_61 : XE d 81 61 ls (.int y :: .int x :: st) h Q ↔ (if x = y then XE d 81 94 ls st h Q else XE d 81 64 ls st h Q) := g_ceq rfl
theorem s81_64 : XE d 81 64 (.val (.ref a) :: l) st h Q ↔ XE d 81 65 (.val (.ref a) :: l) (.ref a :: st) h Q := g_aload rfl rfl
theorem s81_65 : XE d 81 65 ls (.ref a :: st) h Q ↔ XG [11] 0 (h.2.2.1 a) (fun v => XE d 81 68 ls (v :: st) h Q) := g_getf rfl
theorem s81_68 : XE d 81 68 ls (.ref a :: st) h Q ↔ XG [10] 10 (h.2.2.1 a) (fun v => XE d 81 71 ls (v :: st) h Q) := g_getf rfl
theorem s81_71 : XE d 81 71 (c0 :: .val (.int x) :: l) st h Q ↔ XE d 81 72 (c0 :: .val (.int x) :: l) (.int x :: st) h Q := g_iload rfl rfl
theorem s81_72 : XE d 81 72 ls (.int x :: .ref a :: st) h Q ↔ XE d 81 73 ls (.int x :: .ref a :: .int x :: .ref a :: st) h Q := g_dup2 rfl
theorem s81_73 : XE d 81 73 ls (.int x :: .ref a :: st) h Q ↔ XA [0, 7] (h.2.2.1 a) x (fun k => XE d 81 74 ls (.int k :: st) h Q) := g_ald rfl
theorem s81_74 : XE d 81 74 ls st h Q ↔ XE d 81 75 ls (.int 1 :: st) h Q := g_const rfl
theorem s81_75 : XE d 81 75 (c0 :: c1 :: .val (.int x) :: l) st h Q ↔ XE d 81 76 (c0 :: c1 :: .val (.int x) :: l) (.int x :: st) h Q := g_iload rfl rfl
theorem s81_76 : XE d 81 76 ls (.int y :: .int x :: st) h Q ↔ XE d 81 77 ls (.int (xshl x y) :: st) h Q := g_shl rfl
theorem s81_77 : XE d 81 77 ls (.int y :: .int x :: st) h Q ↔ XE d 81 78 ls (.int (x ^^^ y) :: st) h Q := g_xor rfl
theorem s81_78 : XE d 81 78 ls (.int y :: .int x :: .ref a :: st) h Q ↔ XS 0 (h.2.2.1 a) x y (fun e => XE d 81 79 ls st (xset h a e) Q) := g_iast rfl
theorem s81_79 : XE d 81 79 (.val (.ref a) :: l) st h Q ↔ XE d 81 80 (.val (.ref a) :: l) (.ref a :: st) h Q := g_aload rfl rfl
theorem s81_80 : XE d 81 80 ls (.ref a :: st) h Q ↔ XG [11] 0 (h.2.2.1 a) (fun v => XE d 81 83 ls (v :: st) h Q) := g_getf rfl
theorem s81_83 : XE d 81 83 ls (.ref a :: st) h Q ↔ XG [10] 10 (h.2.2.1 a) (fun v => XE d 81 86 ls (v :: st) h Q) := g_getf rfl
theorem s81_86 : XE d 81 86 (c0 :: c1 :: .val (.int x) :: l) st h Q ↔ XE d 81 87 (c0 :: c1 :: .val (.int x) :: l) (.int x :: st) h Q := g_iload rfl rfl
theorem s81_87 : XE d 81 87 ls (.int x :: .ref a :: st) h Q ↔ XE d 81 88 ls (.int x :: .ref a :: .int x :: .ref a :: st) h Q := g_dup2 rfl
theorem s81_88 : XE d 81 88 ls (.int x :: .ref a :: st) h Q ↔ XA [0, 7] (h.2.2.1 a) x (fun k => XE d 81 89 ls (.int k :: st) h Q) := g_ald rfl
theorem s81_89 : XE d 81 89 ls st h Q ↔ XE d 81 90 ls (.int 1 :: st) h Q := g_const rfl
theorem s81_90 : XE d 81 90 (c0 :: .val (.int x) :: l) st h Q ↔ XE d 81 91 (c0 :: .val (.int x) :: l) (.int x :: st) h Q := g_iload rfl rfl
theorem s81_91 : XE d 81 91 ls (.int y :: .int x :: st) h Q ↔ XE d 81 92 ls (.int (xshl x y) :: st) h Q := g_shl rfl
theorem s81_92 : XE d 81 92 ls (.int y :: .int x :: st) h Q ↔ XE d 81 93 ls (.int (x ^^^ y) :: st) h Q := g_xor rfl
theorem s81_93 : XE d 81 93 ls (.int y :: .int x :: .ref a :: st) h Q ↔ XS 0 (h.2.2.1 a) x y (fun e => XE d 81 94 ls st (xset h a e) Q) := g_iast rfl
theorem s81_94 : XE d 81 94 (c0 :: c1 :: c2 :: c3 :: .val (.int x) :: l) st h Q ↔ XE d 81 96 (c0 :: c1 :: c2 :: c3 :: .val (.int x) :: l) (.int x :: st) h Q := g_iload rfl rfl
theorem s81_96 : XE d 81 96 ls [.int x] h Q ↔ Q (some (.int x)) h := g_iret rfl
-- 82: TwoBells.patience(I)I
theorem e82 : XC (d + 1) 82 [.ref a, .int x] h Q ↔ XE d 82 0 [.val (.ref a), .val (.int x), .unset] [] h Q := XC_in rfl
theorem s82_0 : XE d 82 0 (c0 :: .val (.int x) :: l) st h Q ↔ XE d 82 1 (c0 :: .val (.int x) :: l) (.int x :: st) h Q := g_iload rfl rfl
theorem s82_1 : XE d 82 1 ls st h Q ↔ XE d 82 2 ls (.int 0 :: st) h Q := g_const rfl
theorem s82_2 : XE d 82 2 ls st h Q ↔ XE d 82 4 ls (.int 24 :: st) h Q := g_const rfl
theorem s82_4 : XE d 82 4 ls (.int z :: .int y :: .int x :: st) h Q ↔ (xvo 8 st = true ∧ XC d 123 [.int x, .int y, .int z] h (fun v h' => XE d 82 7 ls (v.toList ++ st) h' Q)) := h_s3 rfl rfl
theorem s82_7 : XE d 82 7 ls (.int x :: st) h Q ↔ (if x = 0 then XE d 82 10 ls st h Q else XE d 82 13 ls st h Q) := g_ifne rfl
theorem s82_10 : XE d 82 10 ls st h Q ↔ XE d 82 12 ls (.int (-1000000001) :: st) h Q := g_const rfl
theorem s82_12 : XE d 82 12 ls [.int x] h Q ↔ Q (some (.int x)) h := g_iret rfl
theorem s82_13 : XE d 82 13 (.val (.ref a) :: l) st h Q ↔ XE d 82 14 (.val (.ref a) :: l) (.ref a :: st) h Q := g_aload rfl rfl
theorem s82_14 : XE d 82 14 ls (.ref a :: st) h Q ↔ XG [11] 0 (h.2.2.1 a) (fun v => XE d 82 17 ls (v :: st) h Q) := g_getf rfl
theorem s82_17 : XE d 82 17 ls (.ref a :: st) h Q ↔ XG [10] 4 (h.2.2.1 a) (fun v => XE d 82 20 ls (v :: st) h Q) := g_getf rfl
theorem s82_20 : XE d 82 20 (c0 :: c1 :: c2 :: l) (.int x :: st) h Q ↔ XE d 82 21 (c0 :: c1 :: .val (.int x) :: l) st h Q := g_istore (Nat.lt_of_lt_of_le (show 2 < 3 by decide) (Nat.le_add_left 3 _)) rfl rfl
theorem s82_21 : XE d 82 21 (.val (.ref a) :: l) st h Q ↔ XE d 82 22 (.val (.ref a) :: l) (.ref a :: st) h Q := g_aload rfl rfl
theorem s82_22 : XE d 82 22 ls (.ref a :: st) h Q ↔ XG [11] 0 (h.2.2.1 a) (fun v => XE d 82 25 ls (v :: st) h Q) := g_getf rfl
theorem s82_25 : XE d 82 25 (c0 :: .val (.int x) :: l) st h Q ↔ XE d 82 26 (c0 :: .val (.int x) :: l) (.int x :: st) h Q := g_iload rfl rfl
theorem s82_26 : XE d 82 26 ls (.int x :: .ref a :: st) h Q ↔ XP [10] 4 (.int x) (h.2.2.1 a) (fun e => XE d 82 29 ls st (xset h a e) Q) := g_puti rfl
theorem s82_29 : XE d 82 29 (c0 :: c1 :: .val (.int x) :: l) st h Q ↔ XE d 82 30 (c0 :: c1 :: .val (.int x) :: l) (.int x :: st) h Q := g_iload rfl rfl
theorem s82_30 : XE d 82 30 ls [.int x] h Q ↔ Q (some (.int x)) h := g_iret rfl
-- 83: TwoBells.deal(I)I
theorem e83 : XC (d + 1) 83 [.ref a, .int x] h Q ↔ XE d 83 0 [.val (.ref a), .val (.int x), .unset, .unset, .unset] [] h Q := XC_in rfl
theorem s83_0 : XE d 83 0 (c0 :: .val (.int x) :: l) st h Q ↔ XE d 83 1 (c0 :: .val (.int x) :: l) (.int x :: st) h Q := g_iload rfl rfl
theorem s83_1 : XE d 83 1 ls st h Q ↔ XE d 83 2 ls (.int 1 :: st) h Q := g_const rfl
theorem s83_2 : XE d 83 2 ls st h Q ↔ XE d 83 4 ls (.int 10 :: st) h Q := g_const rfl
theorem s83_4 : XE d 83 4 ls (.int z :: .int y :: .int x :: st) h Q ↔ (xvo 8 st = true ∧ XC d 123 [.int x, .int y, .int z] h (fun v h' => XE d 83 7 ls (v.toList ++ st) h' Q)) := h_s3 rfl rfl
theorem s83_7 : XE d 83 7 ls (.int x :: st) h Q ↔ (if x = 0 then XE d 83 10 ls st h Q else XE d 83 13 ls st h Q) := g_ifne rfl
theorem s83_10 : XE d 83 10 ls st h Q ↔ XE d 83 12 ls (.int (-1000000001) :: st) h Q := g_const rfl
theorem s83_12 : XE d 83 12 ls [.int x] h Q ↔ Q (some (.int x)) h := g_iret rfl
theorem s83_13 : XE d 83 13 ls st h Q ↔ XE d 83 14 ls (.int 0 :: st) h Q := g_const rfl
theorem s83_14 : XE d 83 14 (c0 :: c1 :: c2 :: l) (.int x :: st) h Q ↔ XE d 83 15 (c0 :: c1 :: .val (.int x) :: l) st h Q := g_istore (Nat.lt_of_lt_of_le (show 2 < 3 by decide) (Nat.le_add_left 3 _)) rfl rfl
theorem s83_15 : XE d 83 15 (c0 :: c1 :: .val (.int x) :: l) st h Q ↔ XE d 83 16 (c0 :: c1 :: .val (.int x) :: l) (.int x :: st) h Q := g_iload rfl rfl
theorem s83_16 : XE d 83 16 (c0 :: .val (.int x) :: l) st h Q ↔ XE d 83 17 (c0 :: .val (.int x) :: l) (.int x :: st) h Q := g_iload rfl rfl
theorem s83_17 : XE d 83 17 ls (.int y :: .int x :: st) h Q ↔ (if x < y then XE d 83 20 ls st h Q else XE d 83 72 ls st h Q) := g_cge rfl
theorem s83_20 : XE d 83 20 (.val (.ref a) :: l) st h Q ↔ XE d 83 21 (.val (.ref a) :: l) (.ref a :: st) h Q := g_aload rfl rfl
theorem s83_21 : XE d 83 21 ls (.ref a :: st) h Q ↔ XG [11] 0 (h.2.2.1 a) (fun v => XE d 83 24 ls (v :: st) h Q) := g_getf rfl
theorem s83_24 : XE d 83 24 ls (.ref a :: st) h Q ↔ XG [10] 0 (h.2.2.1 a) (fun v => XE d 83 27 ls (v :: st) h Q) := g_getf rfl
theorem s83_27 : XE d 83 27 ls st h Q ↔ XE d 83 29 ls (.int 10 :: st) h Q := g_const rfl
theorem s83_29 : XE d 83 29 ls (.int y :: .int x :: st) h Q ↔ (if x < y then XE d 83 32 ls st h Q else XE d 83 72 ls st h Q) := g_cge rfl
theorem s83_32 : XE d 83 32 (.val (.ref a) :: l) st h Q ↔ XE d 83 33 (.val (.ref a) :: l) (.ref a :: st) h Q := g_aload rfl rfl
theorem s83_33 : XE d 83 33 ls (.ref a :: st) h Q ↔ XG [11] 0 (h.2.2.1 a) (fun v => XE d 83 36 ls (v :: st) h Q) := g_getf rfl
theorem s83_36 : XE d 83 36 ls (.ref a :: st) h Q ↔ (xvo 8 st = true ∧ XV [(10, 58)] (h.2.2.1 a) (fun m' => XC d m' [.ref a] h (fun v h' => XE d 83 39 ls (v.toList ++ st) h' Q))) := h_v0 rfl
theorem s83_39 : XE d 83 39 ls st h Q ↔ XE d 83 41 ls (.int 101 :: st) h Q := g_const rfl
theorem s83_41 : XE d 83 41 ls (.int y :: .int x :: st) h Q ↔ (y ≠ 0 ∧ XE d 83 42 ls (.int (x % y) :: st) h Q) := g_rem rfl
theorem s83_42 : XE d 83 42 (c0 :: c1 :: c2 :: c3 :: l) (.int x :: st) h Q ↔ XE d 83 43 (c0 :: c1 :: c2 :: .val (.int x) :: l) st h Q := g_istore (Nat.lt_of_lt_of_le (show 3 < 4 by decide) (Nat.le_add_left 4 _)) rfl rfl
theorem s83_43 : XE d 83 43 (.val (.ref a) :: l) st h Q ↔ XE d 83 44 (.val (.ref a) :: l) (.ref a :: st) h Q := g_aload rfl rfl
theorem s83_44 : XE d 83 44 ls (.ref a :: st) h Q ↔ XG [11] 0 (h.2.2.1 a) (fun v => XE d 83 47 ls (v :: st) h Q) := g_getf rfl
theorem s83_47 : XE d 83 47 ls (.ref a :: st) h Q ↔ (xvo 8 st = true ∧ XV [(10, 58)] (h.2.2.1 a) (fun m' => XC d m' [.ref a] h (fun v h' => XE d 83 50 ls (v.toList ++ st) h' Q))) := h_v0 rfl
theorem s83_50 : XE d 83 50 ls st h Q ↔ XE d 83 52 ls (.int 101 :: st) h Q := g_const rfl
theorem s83_52 : XE d 83 52 ls (.int y :: .int x :: st) h Q ↔ (y ≠ 0 ∧ XE d 83 53 ls (.int (x % y) :: st) h Q) := g_rem rfl
theorem s83_53 : XE d 83 53 (c0 :: c1 :: c2 :: c3 :: c4 :: l) (.int x :: st) h Q ↔ XE d 83 55 (c0 :: c1 :: c2 :: c3 :: .val (.int x) :: l) st h Q := g_istore (Nat.lt_of_lt_of_le (show 4 < 5 by decide) (Nat.le_add_left 5 _)) rfl rfl
theorem s83_55 : XE d 83 55 (.val (.ref a) :: l) st h Q ↔ XE d 83 56 (.val (.ref a) :: l) (.ref a :: st) h Q := g_aload rfl rfl
theorem s83_56 : XE d 83 56 ls (.ref a :: st) h Q ↔ XG [11] 0 (h.2.2.1 a) (fun v => XE d 83 59 ls (v :: st) h Q) := g_getf rfl
theorem s83_59 : XE d 83 59 (c0 :: c1 :: c2 :: .val (.int x) :: l) st h Q ↔ XE d 83 60 (c0 :: c1 :: c2 :: .val (.int x) :: l) (.int x :: st) h Q := g_iload rfl rfl
theorem s83_60 : XE d 83 60 (c0 :: c1 :: c2 :: c3 :: .val (.int x) :: l) st h Q ↔ XE d 83 62 (c0 :: c1 :: c2 :: c3 :: .val (.int x) :: l) (.int x :: st) h Q := g_iload rfl rfl
theorem s83_62 : XE d 83 62 ls (.int y :: .int x :: .ref a :: st) h Q ↔ (xvo 8 st = true ∧ XV [(10, 56)] (h.2.2.1 a) (fun m' => XC d m' [.ref a, .int x, .int y] h (fun v h' => XE d 83 65 ls (v.toList ++ st) h' Q))) := h_v2 rfl rfl
theorem s83_65 : XE d 83 65 ls (.int x :: st) h Q ↔ XE d 83 66 ls st h Q := g_popI rfl
theorem s83_66 : XE d 83 66 (c0 :: c1 :: .val (.int x) :: l) st h Q ↔ XE d 83 69 (c0 :: c1 :: .val (.int (x + 1)) :: l) st h Q := g_iinc rfl rfl rfl
theorem s83_69 : XE d 83 69 ls st h Q ↔ XE d 83 15 ls st h Q := g_goto rfl
theorem s83_72 : XE d 83 72 (c0 :: c1 :: .val (.int x) :: l) st h Q ↔ XE d 83 73 (c0 :: c1 :: .val (.int x) :: l) (.int x :: st) h Q := g_iload rfl rfl
theorem s83_73 : XE d 83 73 ls [.int x] h Q ↔ Q (some (.int x)) h := g_iret rfl
-- 84: TwoBells.door(II)I
theorem e84 : XC (d + 1) 84 [.ref a, .int x, .int y] h Q ↔ XE d 84 0 [.val (.ref a), .val (.int x), .val (.int y)] [] h Q := XC_in rfl
theorem s84_0 : XE d 84 0 (.val (.ref a) :: l) st h Q ↔ XE d 84 1 (.val (.ref a) :: l) (.ref a :: st) h Q := g_aload rfl rfl
theorem s84_1 : XE d 84 1 ls (.ref a :: st) h Q ↔ XG [11] 0 (h.2.2.1 a) (fun v => XE d 84 4 ls (v :: st) h Q) := g_getf rfl
theorem s84_4 : XE d 84 4 (c0 :: .val (.int x) :: l) st h Q ↔ XE d 84 5 (c0 :: .val (.int x) :: l) (.int x :: st) h Q := g_iload rfl rfl
theorem s84_5 : XE d 84 5 ls (.int x :: .ref a :: st) h Q ↔ (xvo 8 st = true ∧ XV [(10, 52)] (h.2.2.1 a) (fun m' => XC d m' [.ref a, .int x] h (fun v h' => XE d 84 8 ls (v.toList ++ st) h' Q))) := h_v1 rfl rfl
theorem s84_8 : XE d 84 8 ls (.int x :: st) h Q ↔ (if x = 0 then XE d 84 22 ls st h Q else XE d 84 11 ls st h Q) := g_ifeq rfl
theorem s84_11 : XE d 84 11 (c0 :: c1 :: .val (.int x) :: l) st h Q ↔ XE d 84 12 (c0 :: c1 :: .val (.int x) :: l) (.int x :: st) h Q := g_iload rfl rfl
theorem s84_12 : XE d 84 12 ls st h Q ↔ XE d 84 13 ls (.int 0 :: st) h Q := g_const rfl
theorem s84_13 : XE d 84 13 ls st h Q ↔ XE d 84 16 ls (.int 999 :: st) h Q := g_const rfl
theorem s84_16 : XE d 84 16 ls (.int z :: .int y :: .int x :: st) h Q ↔ (xvo 8 st = true ∧ XC d 123 [.int x, .int y, .int z] h (fun v h' => XE d 84 19 ls (v.toList ++ st) h' Q)) := h_s3 rfl rfl
theorem s84_19 : XE d 84 19 ls (.int x :: st) h Q ↔ (if x = 0 then XE d 84 22 ls st h Q else XE d 84 25 ls st h Q) := g_ifne rfl
theorem s84_22 : XE d 84 22 ls st h Q ↔ XE d 84 24 ls (.int (-1000000001) :: st) h Q := g_const rfl
theorem s84_24 : XE d 84 24 ls [.int x] h Q ↔ Q (some (.int x)) h := g_iret rfl
theorem s84_25 : XE d 84 25 (.val (.ref a) :: l) st h Q ↔ XE d 84 26 (.val (.ref a) :: l) (.ref a :: st) h Q := g_aload rfl rfl
theorem s84_26 : XE d 84 26 ls (.ref a :: st) h Q ↔ XG [11] 0 (h.2.2.1 a) (fun v => XE d 84 29 ls (v :: st) h Q) := g_getf rfl
theorem s84_29 : XE d 84 29 (c0 :: .val (.int x) :: l) st h Q ↔ XE d 84 30 (c0 :: .val (.int x) :: l) (.int x :: st) h Q := g_iload rfl rfl
theorem s84_30 : XE d 84 30 (c0 :: c1 :: .val (.int x) :: l) st h Q ↔ XE d 84 31 (c0 :: c1 :: .val (.int x) :: l) (.int x :: st) h Q := g_iload rfl rfl
theorem s84_31 : XE d 84 31 ls (.int y :: .int x :: .ref a :: st) h Q ↔ (xvo 8 st = true ∧ XV [(10, 57)] (h.2.2.1 a) (fun m' => XC d m' [.ref a, .int x, .int y] h (fun v h' => XE d 84 34 ls (v.toList ++ st) h' Q))) := h_v2 rfl rfl
theorem s84_34 : XE d 84 34 ls [.int x] h Q ↔ Q (some (.int x)) h := g_iret rfl
-- 85: TwoBells.doorTold(II)I
theorem e85 : XC (d + 1) 85 [.ref a, .int x, .int y] h Q ↔ XE d 85 0 [.val (.ref a), .val (.int x), .val (.int y)] [] h Q := XC_in rfl
theorem s85_0 : XE d 85 0 (.val (.ref a) :: l) st h Q ↔ XE d 85 1 (.val (.ref a) :: l) (.ref a :: st) h Q := g_aload rfl rfl
theorem s85_1 : XE d 85 1 ls (.ref a :: st) h Q ↔ XG [11] 0 (h.2.2.1 a) (fun v => XE d 85 4 ls (v :: st) h Q) := g_getf rfl
theorem s85_4 : XE d 85 4 (c0 :: .val (.int x) :: l) st h Q ↔ XE d 85 5 (c0 :: .val (.int x) :: l) (.int x :: st) h Q := g_iload rfl rfl
theorem s85_5 : XE d 85 5 ls (.int x :: .ref a :: st) h Q ↔ (xvo 8 st = true ∧ XV [(10, 53)] (h.2.2.1 a) (fun m' => XC d m' [.ref a, .int x] h (fun v h' => XE d 85 8 ls (v.toList ++ st) h' Q))) := h_v1 rfl rfl
theorem s85_8 : XE d 85 8 ls (.int x :: st) h Q ↔ (if x = 0 then XE d 85 11 ls st h Q else XE d 85 14 ls st h Q) := g_ifne rfl
theorem s85_11 : XE d 85 11 ls st h Q ↔ XE d 85 13 ls (.int (-1000000001) :: st) h Q := g_const rfl
theorem s85_13 : XE d 85 13 ls [.int x] h Q ↔ Q (some (.int x)) h := g_iret rfl
theorem s85_14 : XE d 85 14 (c0 :: c1 :: .val (.int x) :: l) st h Q ↔ XE d 85 15 (c0 :: c1 :: .val (.int x) :: l) (.int x :: st) h Q := g_iload rfl rfl
theorem s85_15 : XE d 85 15 ls (.int x :: st) h Q ↔ xswi d 85 x 125 ls st h Q [(0, 52), (1, 62), (2, 72), (3, 82), (4, 94), (5, 108)] := g_switch rfl
theorem s85_52 : XE d 85 52 (.val (.ref a) :: l) st h Q ↔ XE d 85 53 (.val (.ref a) :: l) (.ref a :: st) h Q := g_aload rfl rfl
theorem s85_53 : XE d 85 53 ls (.ref a :: st) h Q ↔ XG [11] 0 (h.2.2.1 a) (fun v => XE d 85 56 ls (v :: st) h Q) := g_getf rfl
theorem s85_56 : XE d 85 56 ls (.ref a :: st) h Q ↔ XG [10] 11 (h.2.2.1 a) (fun v => XE d 85 59 ls (v :: st) h Q) := g_getf rfl
theorem s85_59 : XE d 85 59 (c0 :: .val (.int x) :: l) st h Q ↔ XE d 85 60 (c0 :: .val (.int x) :: l) (.int x :: st) h Q := g_iload rfl rfl
theorem s85_60 : XE d 85 60 ls (.int x :: .ref a :: st) h Q ↔ XA [0, 7] (h.2.2.1 a) x (fun k => XE d 85 61 ls (.int k :: st) h Q) := g_ald rfl
theorem s85_61 : XE d 85 61 ls [.int x] h Q ↔ Q (some (.int x)) h := g_iret rfl
theorem s85_62 : XE d 85 62 (.val (.ref a) :: l) st h Q ↔ XE d 85 63 (.val (.ref a) :: l) (.ref a :: st) h Q := g_aload rfl rfl
theorem s85_63 : XE d 85 63 ls (.ref a :: st) h Q ↔ XG [11] 0 (h.2.2.1 a) (fun v => XE d 85 66 ls (v :: st) h Q) := g_getf rfl
theorem s85_66 : XE d 85 66 ls (.ref a :: st) h Q ↔ XG [10] 12 (h.2.2.1 a) (fun v => XE d 85 69 ls (v :: st) h Q) := g_getf rfl
theorem s85_69 : XE d 85 69 (c0 :: .val (.int x) :: l) st h Q ↔ XE d 85 70 (c0 :: .val (.int x) :: l) (.int x :: st) h Q := g_iload rfl rfl
theorem s85_70 : XE d 85 70 ls (.int x :: .ref a :: st) h Q ↔ XA [0, 7] (h.2.2.1 a) x (fun k => XE d 85 71 ls (.int k :: st) h Q) := g_ald rfl
theorem s85_71 : XE d 85 71 ls [.int x] h Q ↔ Q (some (.int x)) h := g_iret rfl
theorem s85_72 : XE d 85 72 (.val (.ref a) :: l) st h Q ↔ XE d 85 73 (.val (.ref a) :: l) (.ref a :: st) h Q := g_aload rfl rfl
theorem s85_73 : XE d 85 73 ls (.ref a :: st) h Q ↔ XG [11] 0 (h.2.2.1 a) (fun v => XE d 85 76 ls (v :: st) h Q) := g_getf rfl
theorem s85_76 : XE d 85 76 ls (.ref a :: st) h Q ↔ XG [10] 13 (h.2.2.1 a) (fun v => XE d 85 79 ls (v :: st) h Q) := g_getf rfl
theorem s85_79 : XE d 85 79 (c0 :: .val (.int x) :: l) st h Q ↔ XE d 85 80 (c0 :: .val (.int x) :: l) (.int x :: st) h Q := g_iload rfl rfl
theorem s85_80 : XE d 85 80 ls (.int x :: .ref a :: st) h Q ↔ XA [0, 7] (h.2.2.1 a) x (fun k => XE d 85 81 ls (.int k :: st) h Q) := g_ald rfl
theorem s85_81 : XE d 85 81 ls [.int x] h Q ↔ Q (some (.int x)) h := g_iret rfl
theorem s85_82 : XE d 85 82 (.val (.ref a) :: l) st h Q ↔ XE d 85 83 (.val (.ref a) :: l) (.ref a :: st) h Q := g_aload rfl rfl
theorem s85_83 : XE d 85 83 ls (.ref a :: st) h Q ↔ XG [11] 0 (h.2.2.1 a) (fun v => XE d 85 86 ls (v :: st) h Q) := g_getf rfl
theorem s85_86 : XE d 85 86 ls (.ref a :: st) h Q ↔ XG [10] 14 (h.2.2.1 a) (fun v => XE d 85 89 ls (v :: st) h Q) := g_getf rfl
theorem s85_89 : XE d 85 89 ls st h Q ↔ XE d 85 90 ls (.int 2 :: st) h Q := g_const rfl
theorem s85_90 : XE d 85 90 (c0 :: .val (.int x) :: l) st h Q ↔ XE d 85 91 (c0 :: .val (.int x) :: l) (.int x :: st) h Q := g_iload rfl rfl
theorem s85_91 : XE d 85 91 ls (.int y :: .int x :: st) h Q ↔ XE d 85 92 ls (.int (x * y) :: st) h Q := g_mul rfl
theorem s85_92 : XE d 85 92 ls (.int x :: .ref a :: st) h Q ↔ XA [0, 7] (h.2.2.1 a) x (fun k => XE d 85 93 ls (.int k :: st) h Q) := g_ald rfl
theorem s85_93 : XE d 85 93 ls [.int x] h Q ↔ Q (some (.int x)) h := g_iret rfl
theorem s85_94 : XE d 85 94 (.val (.ref a) :: l) st h Q ↔ XE d 85 95 (.val (.ref a) :: l) (.ref a :: st) h Q := g_aload rfl rfl
theorem s85_95 : XE d 85 95 ls (.ref a :: st) h Q ↔ XG [11] 0 (h.2.2.1 a) (fun v => XE d 85 98 ls (v :: st) h Q) := g_getf rfl
theorem s85_98 : XE d 85 98 ls (.ref a :: st) h Q ↔ XG [10] 14 (h.2.2.1 a) (fun v => XE d 85 101 ls (v :: st) h Q) := g_getf rfl
theorem s85_101 : XE d 85 101 ls st h Q ↔ XE d 85 102 ls (.int 2 :: st) h Q := g_const rfl
theorem s85_102 : XE d 85 102 (c0 :: .val (.int x) :: l) st h Q ↔ XE d 85 103 (c0 :: .val (.int x) :: l) (.int x :: st) h Q := g_iload rfl rfl
theorem s85_103 : XE d 85 103 ls (.int y :: .int x :: st) h Q ↔ XE d 85 104 ls (.int (x * y) :: st) h Q := g_mul rfl
theorem s85_104 : XE d 85 104 ls st h Q ↔ XE d 85 105 ls (.int 1 :: st) h Q := g_const rfl
theorem s85_105 : XE d 85 105 ls (.int y :: .int x :: st) h Q ↔ XE d 85 106 ls (.int (x + y) :: st) h Q := g_add rfl
theorem s85_106 : XE d 85 106 ls (.int x :: .ref a :: st) h Q ↔ XA [0, 7] (h.2.2.1 a) x (fun k => XE d 85 107 ls (.int k :: st) h Q) := g_ald rfl
theorem s85_107 : XE d 85 107 ls [.int x] h Q ↔ Q (some (.int x)) h := g_iret rfl
theorem s85_108 : XE d 85 108 (.val (.ref a) :: l) st h Q ↔ XE d 85 109 (.val (.ref a) :: l) (.ref a :: st) h Q := g_aload rfl rfl
theorem s85_109 : XE d 85 109 ls (.ref a :: st) h Q ↔ XG [11] 0 (h.2.2.1 a) (fun v => XE d 85 112 ls (v :: st) h Q) := g_getf rfl
theorem s85_112 : XE d 85 112 (c0 :: .val (.int x) :: l) st h Q ↔ XE d 85 113 (c0 :: .val (.int x) :: l) (.int x :: st) h Q := g_iload rfl rfl
theorem s85_113 : XE d 85 113 ls (.int x :: .ref a :: st) h Q ↔ (xvo 8 st = true ∧ XV [(10, 73)] (h.2.2.1 a) (fun m' => XC d m' [.ref a, .int x] h (fun v h' => XE d 85 116 ls (v.toList ++ st) h' Q))) := h_v1 rfl rfl
theorem s85_116 : XE d 85 116 ls (.int x :: st) h Q ↔ (if x = 0 then XE d 85 123 ls st h Q else XE d 85 119 ls st h Q) := g_ifeq rfl
theorem s85_119 : XE d 85 119 ls st h Q ↔ XE d 85 120 ls (.int 1 :: st) h Q := g_const rfl
theorem s85_120 : XE d 85 120 ls st h Q ↔ XE d 85 124 ls st h Q := g_goto rfl
theorem s85_123 : XE d 85 123 ls st h Q ↔ XE d 85 124 ls (.int 0 :: st) h Q := g_const rfl
theorem s85_124 : XE d 85 124 ls [.int x] h Q ↔ Q (some (.int x)) h := g_iret rfl
theorem s85_125 : XE d 85 125 ls st h Q ↔ XE d 85 127 ls (.int (-1000000001) :: st) h Q := g_const rfl
theorem s85_127 : XE d 85 127 ls [.int x] h Q ↔ Q (some (.int x)) h := g_iret rfl
-- 86: TwoBells.set(III)I
theorem e86 : XC (d + 1) 86 [.ref a, .int x, .int y, .int z] h Q ↔ XE d 86 0 [.val (.ref a), .val (.int x), .val (.int y), .val (.int z), .unset, .unset] [] h Q := XC_in rfl
theorem s86_0 : XE d 86 0 (.val (.ref a) :: l) st h Q ↔ XE d 86 1 (.val (.ref a) :: l) (.ref a :: st) h Q := g_aload rfl rfl
theorem s86_1 : XE d 86 1 ls (.ref a :: st) h Q ↔ XG [11] 0 (h.2.2.1 a) (fun v => XE d 86 4 ls (v :: st) h Q) := g_getf rfl
theorem s86_4 : XE d 86 4 (c0 :: .val (.int x) :: l) st h Q ↔ XE d 86 5 (c0 :: .val (.int x) :: l) (.int x :: st) h Q := g_iload rfl rfl
theorem s86_5 : XE d 86 5 ls (.int x :: .ref a :: st) h Q ↔ (xvo 8 st = true ∧ XV [(10, 53)] (h.2.2.1 a) (fun m' => XC d m' [.ref a, .int x] h (fun v h' => XE d 86 8 ls (v.toList ++ st) h' Q))) := h_v1 rfl rfl
theorem s86_8 : XE d 86 8 ls (.int x :: st) h Q ↔ (if x = 0 then XE d 86 41 ls st h Q else XE d 86 11 ls st h Q) := g_ifeq rfl
theorem s86_11 : XE d 86 11 (c0 :: c1 :: .val (.int x) :: l) st h Q ↔ XE d 86 12 (c0 :: c1 :: .val (.int x) :: l) (.int x :: st) h Q := g_iload rfl rfl
theorem s86_12 : XE d 86 12 ls st h Q ↔ XE d 86 13 ls (.int 1 :: st) h Q := g_const rfl
theorem s86_13 : XE d 86 13 ls st h Q ↔ XE d 86 14 ls (.int 2 :: st) h Q := g_const rfl
theorem s86_14 : XE d 86 14 ls (.int z :: .int y :: .int x :: st) h Q ↔ (xvo 8 st = true ∧ XC d 123 [.int x, .int y, .int z] h (fun v h' => XE d 86 17 ls (v.toList ++ st) h' Q)) := h_s3 rfl rfl
theorem s86_17 : XE d 86 17 ls (.int x :: st) h Q ↔ (if x = 0 then XE d 86 41 ls st h Q else XE d 86 20 ls st h Q) := g_ifeq rfl
theorem s86_20 : XE d 86 20 (c0 :: c1 :: c2 :: .val (.int x) :: l) st h Q ↔ XE d 86 21 (c0 :: c1 :: c2 :: .val (.int x) :: l) (.int x :: st) h Q := g_iload rfl rfl
theorem s86_21 : XE d 86 21 ls st h Q ↔ XE d 86 22 ls (.int 0 :: st) h Q := g_const rfl
theorem s86_22 : XE d 86 22 (c0 :: c1 :: .val (.int x) :: l) st h Q ↔ XE d 86 23 (c0 :: c1 :: .val (.int x) :: l) (.int x :: st) h Q := g_iload rfl rfl
theorem s86_23 : XE d 86 23 ls st h Q ↔ XE d 86 24 ls (.int 1 :: st) h Q := g_const rfl
theorem s86_24 : XE d 86 24 ls (.int y :: .int x :: st) h Q ↔ (if x = y then XE d 86 27 ls st h Q else XE d 86 33 ls st h Q) := g_cne rfl
theorem s86_27 : XE d 86 27 ls st h Q ↔ XE d 86 30 ls (.int 999 :: st) h Q := g_const rfl
theorem s86_30 : XE d 86 30 ls st h Q ↔ XE d 86 35 ls st h Q := g_goto rfl
theorem s86_33 : XE d 86 33 ls st h Q ↔ XE d 86 35 ls (.int 9 :: st) h Q := g_const rfl
theorem s86_35 : XE d 86 35 ls (.int z :: .int y :: .int x :: st) h Q ↔ (xvo 8 st = true ∧ XC d 123 [.int x, .int y, .int z] h (fun v h' => XE d 86 38 ls (v.toList ++ st) h' Q)) := h_s3 rfl rfl
theorem s86_38 : XE d 86 38 ls (.int x :: st) h Q ↔ (if x = 0 then XE d 86 41 ls st h Q else XE d 86 44 ls st h Q) := g_ifne rfl
theorem s86_41 : XE d 86 41 ls st h Q ↔ XE d 86 43 ls (.int (-1000000001) :: st) h Q := g_const rfl
theorem s86_43 : XE d 86 43 ls [.int x] h Q ↔ Q (some (.int x)) h := g_iret rfl
theorem s86_44 : XE d 86 44 (c0 :: c1 :: .val (.int x) :: l) st h Q ↔ XE d 86 45 (c0 :: c1 :: .val (.int x) :: l) (.int x :: st) h Q := g_iload rfl rfl
theorem s86_45 : XE d 86 45 ls st h Q ↔ XE d 86 46 ls (.int 1 :: st) h Q := g_const rfl
theorem s86_46 : XE d 86 46 ls (.int y :: .int x :: st) h Q ↔ (if x = y then XE d 86 49 ls st h Q else XE d 86 59 ls st h Q) := g_cne rfl
theorem s86_49 : XE d 86 49 (.val (.ref a) :: l) st h Q ↔ XE d 86 50 (.val (.ref a) :: l) (.ref a :: st) h Q := g_aload rfl rfl
theorem s86_50 : XE d 86 50 ls (.ref a :: st) h Q ↔ XG [11] 0 (h.2.2.1 a) (fun v => XE d 86 53 ls (v :: st) h Q) := g_getf rfl
theorem s86_53 : XE d 86 53 ls (.ref a :: st) h Q ↔ XG [10] 12 (h.2.2.1 a) (fun v => XE d 86 56 ls (v :: st) h Q) := g_getf rfl
theorem s86_56 : XE d 86 56 ls st h Q ↔ XE d 86 66 ls st h Q := g_goto rfl
theorem s86_59 : XE d 86 59 (.val (.ref a) :: l) st h Q ↔ XE d 86 60 (.val (.ref a) :: l) (.ref a :: st) h Q := g_aload rfl rfl
theorem s86_60 : XE d 86 60 ls (.ref a :: st) h Q ↔ XG [11] 0 (h.2.2.1 a) (fun v => XE d 86 63 ls (v :: st) h Q) := g_getf rfl
theorem s86_63 : XE d 86 63 ls (.ref a :: st) h Q ↔ XG [10] 13 (h.2.2.1 a) (fun v => XE d 86 66 ls (v :: st) h Q) := g_getf rfl
theorem s86_66 : XE d 86 66 (c0 :: c1 :: c2 :: c3 :: c4 :: l) (.ref a :: st) h Q ↔ XE d 86 68 (c0 :: c1 :: c2 :: c3 :: .val (.ref a) :: l) st h Q := g_astore (Nat.lt_of_lt_of_le (show 4 < 5 by decide) (Nat.le_add_left 5 _)) rfl rfl
theorem s86_66n : XE d 86 66 (c0 :: c1 :: c2 :: c3 :: c4 :: l) (.null :: st) h Q ↔ XE d 86 68 (c0 :: c1 :: c2 :: c3 :: .val .null :: l) st h Q := g_astoreN (Nat.lt_of_lt_of_le (show 4 < 5 by decide) (Nat.le_add_left 5 _)) rfl rfl
theorem s86_68 : XE d 86 68 (c0 :: c1 :: c2 :: c3 :: .val (.ref a) :: l) st h Q ↔ XE d 86 70 (c0 :: c1 :: c2 :: c3 :: .val (.ref a) :: l) (.ref a :: st) h Q := g_aload rfl rfl
theorem s86_68n : XE d 86 68 (c0 :: c1 :: c2 :: c3 :: .val .null :: l) st h Q ↔ XE d 86 70 (c0 :: c1 :: c2 :: c3 :: .val .null :: l) (.null :: st) h Q := g_aloadN rfl rfl
theorem s86_70 : XE d 86 70 (c0 :: .val (.int x) :: l) st h Q ↔ XE d 86 71 (c0 :: .val (.int x) :: l) (.int x :: st) h Q := g_iload rfl rfl
theorem s86_71 : XE d 86 71 ls (.int x :: .ref a :: st) h Q ↔ XA [0, 7] (h.2.2.1 a) x (fun k => XE d 86 72 ls (.int k :: st) h Q) := g_ald rfl
theorem s86_72 : XE d 86 72 (c0 :: c1 :: c2 :: c3 :: c4 :: c5 :: l) (.int x :: st) h Q ↔ XE d 86 74 (c0 :: c1 :: c2 :: c3 :: c4 :: .val (.int x) :: l) st h Q := g_istore (Nat.lt_of_lt_of_le (show 5 < 6 by decide) (Nat.le_add_left 6 _)) rfl rfl
theorem s86_74 : XE d 86 74 (c0 :: c1 :: c2 :: c3 :: .val (.ref a) :: l) st h Q ↔ XE d 86 76 (c0 :: c1 :: c2 :: c3 :: .val (.ref a) :: l) (.ref a :: st) h Q := g_aload rfl rfl
theorem s86_74n : XE d 86 74 (c0 :: c1 :: c2 :: c3 :: .val .null :: l) st h Q ↔ XE d 86 76 (c0 :: c1 :: c2 :: c3 :: .val .null :: l) (.null :: st) h Q := g_aloadN rfl rfl
theorem s86_76 : XE d 86 76 (c0 :: .val (.int x) :: l) st h Q ↔ XE d 86 77 (c0 :: .val (.int x) :: l) (.int x :: st) h Q := g_iload rfl rfl
theorem s86_77 : XE d 86 77 (c0 :: c1 :: c2 :: .val (.int x) :: l) st h Q ↔ XE d 86 78 (c0 :: c1 :: c2 :: .val (.int x) :: l) (.int x :: st) h Q := g_iload rfl rfl
theorem s86_78 : XE d 86 78 ls (.int y :: .int x :: .ref a :: st) h Q ↔ XS 0 (h.2.2.1 a) x y (fun e => XE d 86 79 ls st (xset h a e) Q) := g_iast rfl
theorem s86_79 : XE d 86 79 (c0 :: c1 :: c2 :: c3 :: c4 :: .val (.int x) :: l) st h Q ↔ XE d 86 81 (c0 :: c1 :: c2 :: c3 :: c4 :: .val (.int x) :: l) (.int x :: st) h Q := g_iload rfl rfl
theorem s86_81 : XE d 86 81 ls [.int x] h Q ↔ Q (some (.int x)) h := g_iret rfl
-- 87: TwoBells.wire(III)I
theorem e87 : XC (d + 1) 87 [.ref a, .int x, .int y, .int z] h Q ↔ XE d 87 0 [.val (.ref a), .val (.int x), .val (.int y), .val (.int z), .unset] [] h Q := XC_in rfl
theorem s87_0 : XE d 87 0 (.val (.ref a) :: l) st h Q ↔ XE d 87 1 (.val (.ref a) :: l) (.ref a :: st) h Q := g_aload rfl rfl
theorem s87_1 : XE d 87 1 ls (.ref a :: st) h Q ↔ XG [11] 0 (h.2.2.1 a) (fun v => XE d 87 4 ls (v :: st) h Q) := g_getf rfl
theorem s87_4 : XE d 87 4 (c0 :: .val (.int x) :: l) st h Q ↔ XE d 87 5 (c0 :: .val (.int x) :: l) (.int x :: st) h Q := g_iload rfl rfl
theorem s87_5 : XE d 87 5 ls (.int x :: .ref a :: st) h Q ↔ (xvo 8 st = true ∧ XV [(10, 53)] (h.2.2.1 a) (fun m' => XC d m' [.ref a, .int x] h (fun v h' => XE d 87 8 ls (v.toList ++ st) h' Q))) := h_v1 rfl rfl
theorem s87_8 : XE d 87 8 ls (.int x :: st) h Q ↔ (if x = 0 then XE d 87 37 ls st h Q else XE d 87 11 ls st h Q) := g_ifeq rfl
theorem s87_11 : XE d 87 11 (c0 :: c1 :: .val (.int x) :: l) st h Q ↔ XE d 87 12 (c0 :: c1 :: .val (.int x) :: l) (.int x :: st) h Q := g_iload rfl rfl
theorem s87_12 : XE d 87 12 ls st h Q ↔ XE d 87 13 ls (.int 0 :: st) h Q := g_const rfl
theorem s87_13 : XE d 87 13 ls st h Q ↔ XE d 87 14 ls (.int 1 :: st) h Q := g_const rfl
theorem s87_14 : XE d 87 14 ls (.int z :: .int y :: .int x :: st) h Q ↔ (xvo 8 st = true ∧ XC d 123 [.int x, .int y, .int z] h (fun v h' => XE d 87 17 ls (v.toList ++ st) h' Q)) := h_s3 rfl rfl
theorem s87_17 : XE d 87 17 ls (.int x :: st) h Q ↔ (if x = 0 then XE d 87 37 ls st h Q else XE d 87 20 ls st h Q) := g_ifeq rfl
theorem s87_20 : XE d 87 20 (c0 :: c1 :: c2 :: .val (.int x) :: l) st h Q ↔ XE d 87 21 (c0 :: c1 :: c2 :: .val (.int x) :: l) (.int x :: st) h Q := g_iload rfl rfl
theorem s87_21 : XE d 87 21 ls st h Q ↔ XE d 87 23 ls (.int (-1000000005) :: st) h Q := g_const rfl
theorem s87_23 : XE d 87 23 ls (.int y :: .int x :: st) h Q ↔ (if x = y then XE d 87 40 ls st h Q else XE d 87 26 ls st h Q) := g_ceq rfl
theorem s87_26 : XE d 87 26 (.val (.ref a) :: l) st h Q ↔ XE d 87 27 (.val (.ref a) :: l) (.ref a :: st) h Q := g_aload rfl rfl
theorem s87_27 : XE d 87 27 ls (.ref a :: st) h Q ↔ XG [11] 0 (h.2.2.1 a) (fun v => XE d 87 30 ls (v :: st) h Q) := g_getf rfl
theorem s87_30 : XE d 87 30 (c0 :: c1 :: c2 :: .val (.int x) :: l) st h Q ↔ XE d 87 31 (c0 :: c1 :: c2 :: .val (.int x) :: l) (.int x :: st) h Q := g_iload rfl rfl
theorem s87_31 : XE d 87 31 ls (.int x :: .ref a :: st) h Q ↔ (xvo 8 st = true ∧ XV [(10, 52)] (h.2.2.1 a) (fun m' => XC d m' [.ref a, .int x] h (fun v h' => XE d 87 34 ls (v.toList ++ st) h' Q))) := h_v1 rfl rfl
theorem s87_34 : XE d 87 34 ls (.int x :: st) h Q ↔ (if x = 0 then XE d 87 37 ls st h Q else XE d 87 40 ls st h Q) := g_ifne rfl
theorem s87_37 : XE d 87 37 ls st h Q ↔ XE d 87 39 ls (.int (-1000000001) :: st) h Q := g_const rfl
theorem s87_39 : XE d 87 39 ls [.int x] h Q ↔ Q (some (.int x)) h := g_iret rfl
theorem s87_40 : XE d 87 40 (.val (.ref a) :: l) st h Q ↔ XE d 87 41 (.val (.ref a) :: l) (.ref a :: st) h Q := g_aload rfl rfl
theorem s87_41 : XE d 87 41 ls (.ref a :: st) h Q ↔ XG [11] 0 (h.2.2.1 a) (fun v => XE d 87 44 ls (v :: st) h Q) := g_getf rfl
theorem s87_44 : XE d 87 44 ls (.ref a :: st) h Q ↔ XG [10] 14 (h.2.2.1 a) (fun v => XE d 87 47 ls (v :: st) h Q) := g_getf rfl
theorem s87_47 : XE d 87 47 ls st h Q ↔ XE d 87 48 ls (.int 2 :: st) h Q := g_const rfl
theorem s87_48 : XE d 87 48 (c0 :: .val (.int x) :: l) st h Q ↔ XE d 87 49 (c0 :: .val (.int x) :: l) (.int x :: st) h Q := g_iload rfl rfl
theorem s87_49 : XE d 87 49 ls (.int y :: .int x :: st) h Q ↔ XE d 87 50 ls (.int (x * y) :: st) h Q := g_mul rfl
theorem s87_50 : XE d 87 50 (c0 :: c1 :: .val (.int x) :: l) st h Q ↔ XE d 87 51 (c0 :: c1 :: .val (.int x) :: l) (.int x :: st) h Q := g_iload rfl rfl
theorem s87_51 : XE d 87 51 ls (.int y :: .int x :: st) h Q ↔ XE d 87 52 ls (.int (x + y) :: st) h Q := g_add rfl
theorem s87_52 : XE d 87 52 ls (.int x :: .ref a :: st) h Q ↔ XA [0, 7] (h.2.2.1 a) x (fun k => XE d 87 53 ls (.int k :: st) h Q) := g_ald rfl
theorem s87_53 : XE d 87 53 (c0 :: c1 :: c2 :: c3 :: c4 :: l) (.int x :: st) h Q ↔ XE d 87 55 (c0 :: c1 :: c2 :: c3 :: .val (.int x) :: l) st h Q := g_istore (Nat.lt_of_lt_of_le (show 4 < 5 by decide) (Nat.le_add_left 5 _)) rfl rfl
theorem s87_55 : XE d 87 55 (.val (.ref a) :: l) st h Q ↔ XE d 87 56 (.val (.ref a) :: l) (.ref a :: st) h Q := g_aload rfl rfl
theorem s87_56 : XE d 87 56 ls (.ref a :: st) h Q ↔ XG [11] 0 (h.2.2.1 a) (fun v => XE d 87 59 ls (v :: st) h Q) := g_getf rfl
theorem s87_59 : XE d 87 59 ls (.ref a :: st) h Q ↔ XG [10] 14 (h.2.2.1 a) (fun v => XE d 87 62 ls (v :: st) h Q) := g_getf rfl
theorem s87_62 : XE d 87 62 ls st h Q ↔ XE d 87 63 ls (.int 2 :: st) h Q := g_const rfl
theorem s87_63 : XE d 87 63 (c0 :: .val (.int x) :: l) st h Q ↔ XE d 87 64 (c0 :: .val (.int x) :: l) (.int x :: st) h Q := g_iload rfl rfl
theorem s87_64 : XE d 87 64 ls (.int y :: .int x :: st) h Q ↔ XE d 87 65 ls (.int (x * y) :: st) h Q := g_mul rfl
theorem s87_65 : XE d 87 65 (c0 :: c1 :: .val (.int x) :: l) st h Q ↔ XE d 87 66 (c0 :: c1 :: .val (.int x) :: l) (.int x :: st) h Q := g_iload rfl rfl
theorem s87_66 : XE d 87 66 ls (.int y :: .int x :: st) h Q ↔ XE d 87 67 ls (.int (x + y) :: st) h Q := g_add rfl
theorem s87_67 : XE d 87 67 (c0 :: c1 :: c2 :: .val (.int x) :: l) st h Q ↔ XE d 87 68 (c0 :: c1 :: c2 :: .val (.int x) :: l) (.int x :: st) h Q := g_iload rfl rfl
theorem s87_68 : XE d 87 68 ls (.int y :: .int x :: .ref a :: st) h Q ↔ XS 0 (h.2.2.1 a) x y (fun e => XE d 87 69 ls st (xset h a e) Q) := g_iast rfl
theorem s87_69 : XE d 87 69 (c0 :: c1 :: c2 :: c3 :: .val (.int x) :: l) st h Q ↔ XE d 87 71 (c0 :: c1 :: c2 :: c3 :: .val (.int x) :: l) (.int x :: st) h Q := g_iload rfl rfl
theorem s87_71 : XE d 87 71 ls [.int x] h Q ↔ Q (some (.int x)) h := g_iret rfl
-- 88: TwoBells.thief(II)I
theorem e88 : XC (d + 1) 88 [.ref a, .int x, .int y] h Q ↔ XE d 88 0 [.val (.ref a), .val (.int x), .val (.int y)] [] h Q := XC_in rfl
theorem s88_0 : XE d 88 0 (c0 :: .val (.int x) :: l) st h Q ↔ XE d 88 1 (c0 :: .val (.int x) :: l) (.int x :: st) h Q := g_iload rfl rfl
theorem s88_1 : XE d 88 1 ls (.int x :: st) h Q ↔ (xvo 8 st = true ∧ XC d 125 [.int x] h (fun v h' => XE d 88 4 ls (v.toList ++ st) h' Q)) := h_s1 rfl rfl
theorem s88_4 : XE d 88 4 ls (.int x :: st) h Q ↔ (if x = 0 then XE d 88 18 ls st h Q else XE d 88 7 ls st h Q) := g_ifeq rfl
theorem s88_7 : XE d 88 7 (.val (.ref a) :: l) st h Q ↔ XE d 88 8 (.val (.ref a) :: l) (.ref a :: st) h Q := g_aload rfl rfl
theorem s88_8 : XE d 88 8 ls (.ref a :: st) h Q ↔ XG [11] 0 (h.2.2.1 a) (fun v => XE d 88 11 ls (v :: st) h Q) := g_getf rfl
theorem s88_11 : XE d 88 11 (c0 :: c1 :: .val (.int x) :: l) st h Q ↔ XE d 88 12 (c0 :: c1 :: .val (.int x) :: l) (.int x :: st) h Q := g_iload rfl rfl
theorem s88_12 : XE d 88 12 ls (.int x :: .ref a :: st) h Q ↔ (xvo 8 st = true ∧ XV [(10, 52)] (h.2.2.1 a) (fun m' => XC d m' [.ref a, .int x] h (fun v h' => XE d 88 15 ls (v.toList ++ st) h' Q))) := h_v1 rfl rfl
theorem s88_15 : XE d 88 15 ls (.int x :: st) h Q ↔ (if x = 0 then XE d 88 18 ls st h Q else XE d 88 21 ls st h Q) := g_ifne rfl
theorem s88_18 : XE d 88 18 ls st h Q ↔ XE d 88 20 ls (.int (-1000000001) :: st) h Q := g_const rfl
theorem s88_20 : XE d 88 20 ls [.int x] h Q ↔ Q (some (.int x)) h := g_iret rfl
theorem s88_21 : XE d 88 21 (.val (.ref a) :: l) st h Q ↔ XE d 88 22 (.val (.ref a) :: l) (.ref a :: st) h Q := g_aload rfl rfl
theorem s88_22 : XE d 88 22 ls (.ref a :: st) h Q ↔ XG [11] 0 (h.2.2.1 a) (fun v => XE d 88 25 ls (v :: st) h Q) := g_getf rfl
theorem s88_25 : XE d 88 25 ls (.ref a :: st) h Q ↔ XG [10] 2 (h.2.2.1 a) (fun v => XE d 88 28 ls (v :: st) h Q) := g_getf rfl
theorem s88_28 : XE d 88 28 ls st h Q ↔ XE d 88 30 ls (.int 6 :: st) h Q := g_const rfl
theorem s88_30 : XE d 88 30 ls (.int y :: .int x :: st) h Q ↔ (if x < y then XE d 88 36 ls st h Q else XE d 88 33 ls st h Q) := g_clt rfl
theorem s88_33 : XE d 88 33 ls st h Q ↔ XE d 88 35 ls (.int (-1000000003) :: st) h Q := g_const rfl
theorem s88_35 : XE d 88 35 ls [.int x] h Q ↔ Q (some (.int x)) h := g_iret rfl
theorem s88_36 : XE d 88 36 (.val (.ref a) :: l) st h Q ↔ XE d 88 37 (.val (.ref a) :: l) (.ref a :: st) h Q := g_aload rfl rfl
theorem s88_37 : XE d 88 37 ls (.ref a :: st) h Q ↔ XG [11] 0 (h.2.2.1 a) (fun v => XE d 88 40 ls (v :: st) h Q) := g_getf rfl
theorem s88_40 : XE d 88 40 ls (.ref a :: st) h Q ↔ XG [10] 15 (h.2.2.1 a) (fun v => XE d 88 43 ls (v :: st) h Q) := g_getf rfl
theorem s88_43 : XE d 88 43 (.val (.ref a) :: l) st h Q ↔ XE d 88 44 (.val (.ref a) :: l) (.ref a :: st) h Q := g_aload rfl rfl
theorem s88_44 : XE d 88 44 ls (.ref a :: st) h Q ↔ XG [11] 0 (h.2.2.1 a) (fun v => XE d 88 47 ls (v :: st) h Q) := g_getf rfl
theorem s88_47 : XE d 88 47 ls (.ref a :: st) h Q ↔ XG [10] 2 (h.2.2.1 a) (fun v => XE d 88 50 ls (v :: st) h Q) := g_getf rfl
theorem s88_50 : XE d 88 50 (c0 :: .val (.int x) :: l) st h Q ↔ XE d 88 51 (c0 :: .val (.int x) :: l) (.int x :: st) h Q := g_iload rfl rfl
theorem s88_51 : XE d 88 51 (c0 :: c1 :: .val (.int x) :: l) st h Q ↔ XE d 88 52 (c0 :: c1 :: .val (.int x) :: l) (.int x :: st) h Q := g_iload rfl rfl
theorem s88_52 : XE d 88 52 ls (.int y :: .int x :: st) h Q ↔ (xvo 8 st = true ∧ XC d 45 [.int x, .int y] h (fun v h' => XE d 88 55 ls (v.toList ++ st) h' Q)) := h_s2 rfl rfl
theorem s88_55 : XE d 88 55 ls (.ref b :: .int x :: .ref a :: st) h Q ↔ XSr 6 [0, 1, 2, 3, 4, 9] (h.2.2.1 a) x b (h.2.2.1 b) (fun e => XE d 88 56 ls st (xset h a e) Q) := g_aastR rfl
theorem s88_55n : XE d 88 55 ls (.null :: .int x :: .ref a :: st) h Q ↔ XSn 6 (h.2.2.1 a) x (fun e => XE d 88 56 ls st (xset h a e) Q) := g_aastN rfl
theorem s88_56 : XE d 88 56 (.val (.ref a) :: l) st h Q ↔ XE d 88 57 (.val (.ref a) :: l) (.ref a :: st) h Q := g_aload rfl rfl
theorem s88_57 : XE d 88 57 ls (.ref a :: st) h Q ↔ XG [11] 0 (h.2.2.1 a) (fun v => XE d 88 60 ls (v :: st) h Q) := g_getf rfl
theorem s88_60 : XE d 88 60 ls (.int x :: st) h Q ↔ XE d 88 61 ls (.int x :: .int x :: st) h Q := g_dupI rfl
theorem s88_60r : XE d 88 60 ls (.ref a :: st) h Q ↔ XE d 88 61 ls (.ref a :: .ref a :: st) h Q := g_dupR rfl
theorem s88_61 : XE d 88 61 ls (.ref a :: st) h Q ↔ XG [10] 2 (h.2.2.1 a) (fun v => XE d 88 64 ls (v :: st) h Q) := g_getf rfl
theorem s88_64 : XE d 88 64 ls st h Q ↔ XE d 88 65 ls (.int 1 :: st) h Q := g_const rfl
theorem s88_65 : XE d 88 65 ls (.int y :: .int x :: st) h Q ↔ XE d 88 66 ls (.int (x + y) :: st) h Q := g_add rfl
theorem s88_66 : XE d 88 66 ls (.int x :: .ref a :: st) h Q ↔ XP [10] 2 (.int x) (h.2.2.1 a) (fun e => XE d 88 69 ls st (xset h a e) Q) := g_puti rfl
theorem s88_69 : XE d 88 69 (.val (.ref a) :: l) st h Q ↔ XE d 88 70 (.val (.ref a) :: l) (.ref a :: st) h Q := g_aload rfl rfl
theorem s88_70 : XE d 88 70 ls (.ref a :: st) h Q ↔ XG [11] 0 (h.2.2.1 a) (fun v => XE d 88 73 ls (v :: st) h Q) := g_getf rfl
theorem s88_73 : XE d 88 73 ls (.ref a :: st) h Q ↔ XG [10] 2 (h.2.2.1 a) (fun v => XE d 88 76 ls (v :: st) h Q) := g_getf rfl
theorem s88_76 : XE d 88 76 ls st h Q ↔ XE d 88 77 ls (.int 1 :: st) h Q := g_const rfl
theorem s88_77 : XE d 88 77 ls (.int y :: .int x :: st) h Q ↔ XE d 88 78 ls (.int (x - y) :: st) h Q := g_sub rfl
theorem s88_78 : XE d 88 78 ls [.int x] h Q ↔ Q (some (.int x)) h := g_iret rfl
-- 89: TwoBells.told(II)I
theorem e89 : XC (d + 1) 89 [.ref a, .int x, .int y] h Q ↔ XE d 89 0 [.val (.ref a), .val (.int x), .val (.int y), .unset] [] h Q := XC_in rfl
theorem s89_0 : XE d 89 0 (.val (.ref a) :: l) st h Q ↔ XE d 89 1 (.val (.ref a) :: l) (.ref a :: st) h Q := g_aload rfl rfl
theorem s89_1 : XE d 89 1 ls (.ref a :: st) h Q ↔ XG [11] 0 (h.2.2.1 a) (fun v => XE d 89 4 ls (v :: st) h Q) := g_getf rfl
theorem s89_4 : XE d 89 4 (c0 :: .val (.int x) :: l) st h Q ↔ XE d 89 5 (c0 :: .val (.int x) :: l) (.int x :: st) h Q := g_iload rfl rfl
theorem s89_5 : XE d 89 5 ls (.int x :: .ref a :: st) h Q ↔ (xvo 8 st = true ∧ XV [(10, 54)] (h.2.2.1 a) (fun m' => XC d m' [.ref a, .int x] h (fun v h' => XE d 89 8 ls (v.toList ++ st) h' Q))) := h_v1 rfl rfl
theorem s89_8 : XE d 89 8 (c0 :: c1 :: c2 :: c3 :: l) (.ref a :: st) h Q ↔ XE d 89 9 (c0 :: c1 :: c2 :: .val (.ref a) :: l) st h Q := g_astore (Nat.lt_of_lt_of_le (show 3 < 4 by decide) (Nat.le_add_left 4 _)) rfl rfl
theorem s89_8n : XE d 89 8 (c0 :: c1 :: c2 :: c3 :: l) (.null :: st) h Q ↔ XE d 89 9 (c0 :: c1 :: c2 :: .val .null :: l) st h Q := g_astoreN (Nat.lt_of_lt_of_le (show 3 < 4 by decide) (Nat.le_add_left 4 _)) rfl rfl
theorem s89_9 : XE d 89 9 (c0 :: c1 :: c2 :: .val (.ref a) :: l) st h Q ↔ XE d 89 10 (c0 :: c1 :: c2 :: .val (.ref a) :: l) (.ref a :: st) h Q := g_aload rfl rfl
theorem s89_9n : XE d 89 9 (c0 :: c1 :: c2 :: .val .null :: l) st h Q ↔ XE d 89 10 (c0 :: c1 :: c2 :: .val .null :: l) (.null :: st) h Q := g_aloadN rfl rfl
theorem s89_10 : XE d 89 10 ls (.ref a :: st) h Q ↔ XE d 89 16 ls st h Q := g_ifnonR rfl
theorem s89_10n : XE d 89 10 ls (.null :: st) h Q ↔ XE d 89 13 ls st h Q := g_ifnonN rfl
theorem s89_13 : XE d 89 13 ls st h Q ↔ XE d 89 15 ls (.int (-1000000001) :: st) h Q := g_const rfl
theorem s89_15 : XE d 89 15 ls [.int x] h Q ↔ Q (some (.int x)) h := g_iret rfl
theorem s89_16 : XE d 89 16 (c0 :: c1 :: .val (.int x) :: l) st h Q ↔ XE d 89 17 (c0 :: c1 :: .val (.int x) :: l) (.int x :: st) h Q := g_iload rfl rfl
theorem s89_17 : XE d 89 17 ls (.int x :: st) h Q ↔ xswi d 89 x 59 ls st h Q [(0, 44), (1, 49), (2, 54)] := g_switch rfl
theorem s89_44 : XE d 89 44 (c0 :: c1 :: c2 :: .val (.ref a) :: l) st h Q ↔ XE d 89 45 (c0 :: c1 :: c2 :: .val (.ref a) :: l) (.ref a :: st) h Q := g_aload rfl rfl
theorem s89_44n : XE d 89 44 (c0 :: c1 :: c2 :: .val .null :: l) st h Q ↔ XE d 89 45 (c0 :: c1 :: c2 :: .val .null :: l) (.null :: st) h Q := g_aloadN rfl rfl
theorem s89_45 : XE d 89 45 ls (.ref a :: st) h Q ↔ XG [0, 1, 2, 3, 4, 9] 0 (h.2.2.1 a) (fun v => XE d 89 48 ls (v :: st) h Q) := g_getf rfl
theorem s89_48 : XE d 89 48 ls [.int x] h Q ↔ Q (some (.int x)) h := g_iret rfl
theorem s89_49 : XE d 89 49 (c0 :: c1 :: c2 :: .val (.ref a) :: l) st h Q ↔ XE d 89 50 (c0 :: c1 :: c2 :: .val (.ref a) :: l) (.ref a :: st) h Q := g_aload rfl rfl
theorem s89_49n : XE d 89 49 (c0 :: c1 :: c2 :: .val .null :: l) st h Q ↔ XE d 89 50 (c0 :: c1 :: c2 :: .val .null :: l) (.null :: st) h Q := g_aloadN rfl rfl
theorem s89_50 : XE d 89 50 ls (.ref a :: st) h Q ↔ XG [0, 1, 2, 3, 4, 9] 1 (h.2.2.1 a) (fun v => XE d 89 53 ls (v :: st) h Q) := g_getf rfl
theorem s89_53 : XE d 89 53 ls [.int x] h Q ↔ Q (some (.int x)) h := g_iret rfl
theorem s89_54 : XE d 89 54 (c0 :: c1 :: c2 :: .val (.ref a) :: l) st h Q ↔ XE d 89 55 (c0 :: c1 :: c2 :: .val (.ref a) :: l) (.ref a :: st) h Q := g_aload rfl rfl
theorem s89_54n : XE d 89 54 (c0 :: c1 :: c2 :: .val .null :: l) st h Q ↔ XE d 89 55 (c0 :: c1 :: c2 :: .val .null :: l) (.null :: st) h Q := g_aloadN rfl rfl
theorem s89_55 : XE d 89 55 ls (.ref a :: st) h Q ↔ (xvo 8 st = true ∧ XV [(0, 2), (1, 5), (2, 8), (3, 11), (4, 14), (9, 49)] (h.2.2.1 a) (fun m' => XC d m' [.ref a] h (fun v h' => XE d 89 58 ls (v.toList ++ st) h' Q))) := h_v0 rfl
theorem s89_58 : XE d 89 58 ls [.int x] h Q ↔ Q (some (.int x)) h := g_iret rfl
theorem s89_59 : XE d 89 59 ls st h Q ↔ XE d 89 61 ls (.int (-1000000001) :: st) h Q := g_const rfl
theorem s89_61 : XE d 89 61 ls [.int x] h Q ↔ Q (some (.int x)) h := g_iret rfl
-- 90: TwoBells.as(II)I
theorem e90 : XC (d + 1) 90 [.ref a, .int x, .int y] h Q ↔ XE d 90 0 [.val (.ref a), .val (.int x), .val (.int y), .unset] [] h Q := XC_in rfl
theorem s90_0 : XE d 90 0 (.val (.ref a) :: l) st h Q ↔ XE d 90 1 (.val (.ref a) :: l) (.ref a :: st) h Q := g_aload rfl rfl
theorem s90_1 : XE d 90 1 ls (.ref a :: st) h Q ↔ XG [11] 0 (h.2.2.1 a) (fun v => XE d 90 4 ls (v :: st) h Q) := g_getf rfl
theorem s90_4 : XE d 90 4 (c0 :: .val (.int x) :: l) st h Q ↔ XE d 90 5 (c0 :: .val (.int x) :: l) (.int x :: st) h Q := g_iload rfl rfl
theorem s90_5 : XE d 90 5 ls (.int x :: .ref a :: st) h Q ↔ (xvo 8 st = true ∧ XV [(10, 54)] (h.2.2.1 a) (fun m' => XC d m' [.ref a, .int x] h (fun v h' => XE d 90 8 ls (v.toList ++ st) h' Q))) := h_v1 rfl rfl
theorem s90_8 : XE d 90 8 (c0 :: c1 :: c2 :: c3 :: l) (.ref a :: st) h Q ↔ XE d 90 9 (c0 :: c1 :: c2 :: .val (.ref a) :: l) st h Q := g_astore (Nat.lt_of_lt_of_le (show 3 < 4 by decide) (Nat.le_add_left 4 _)) rfl rfl
theorem s90_8n : XE d 90 8 (c0 :: c1 :: c2 :: c3 :: l) (.null :: st) h Q ↔ XE d 90 9 (c0 :: c1 :: c2 :: .val .null :: l) st h Q := g_astoreN (Nat.lt_of_lt_of_le (show 3 < 4 by decide) (Nat.le_add_left 4 _)) rfl rfl
theorem s90_9 : XE d 90 9 (c0 :: c1 :: c2 :: .val (.ref a) :: l) st h Q ↔ XE d 90 10 (c0 :: c1 :: c2 :: .val (.ref a) :: l) (.ref a :: st) h Q := g_aload rfl rfl
theorem s90_9n : XE d 90 9 (c0 :: c1 :: c2 :: .val .null :: l) st h Q ↔ XE d 90 10 (c0 :: c1 :: c2 :: .val .null :: l) (.null :: st) h Q := g_aloadN rfl rfl
theorem s90_10 : XE d 90 10 ls (.ref a :: st) h Q ↔ XE d 90 13 ls st h Q := g_ifnullR rfl
theorem s90_10n : XE d 90 10 ls (.null :: st) h Q ↔ XE d 90 20 ls st h Q := g_ifnullN rfl
theorem s90_13 : XE d 90 13 (c0 :: c1 :: .val (.int x) :: l) st h Q ↔ XE d 90 14 (c0 :: c1 :: .val (.int x) :: l) (.int x :: st) h Q := g_iload rfl rfl
theorem s90_14 : XE d 90 14 ls (.int x :: st) h Q ↔ (xvo 8 st = true ∧ XC d 125 [.int x] h (fun v h' => XE d 90 17 ls (v.toList ++ st) h' Q)) := h_s1 rfl rfl
theorem s90_17 : XE d 90 17 ls (.int x :: st) h Q ↔ (if x = 0 then XE d 90 20 ls st h Q else XE d 90 23 ls st h Q) := g_ifne rfl
theorem s90_20 : XE d 90 20 ls st h Q ↔ XE d 90 22 ls (.int (-1000000001) :: st) h Q := g_const rfl
theorem s90_22 : XE d 90 22 ls [.int x] h Q ↔ Q (some (.int x)) h := g_iret rfl
theorem s90_23 : XE d 90 23 (c0 :: c1 :: c2 :: .val (.ref a) :: l) st h Q ↔ XE d 90 24 (c0 :: c1 :: c2 :: .val (.ref a) :: l) (.ref a :: st) h Q := g_aload rfl rfl
theorem s90_23n : XE d 90 23 (c0 :: c1 :: c2 :: .val .null :: l) st h Q ↔ XE d 90 24 (c0 :: c1 :: c2 :: .val .null :: l) (.null :: st) h Q := g_aloadN rfl rfl
theorem s90_24 : XE d 90 24 (c0 :: c1 :: .val (.int x) :: l) st h Q ↔ XE d 90 25 (c0 :: c1 :: .val (.int x) :: l) (.int x :: st) h Q := g_iload rfl rfl
theorem s90_25 : XE d 90 25 ls (.int x :: .ref a :: st) h Q ↔ (xvo 8 st = true ∧ XV [(0, 46), (1, 46), (2, 46), (3, 46), (4, 46), (9, 46)] (h.2.2.1 a) (fun m' => XC d m' [.ref a, .int x] h (fun v h' => XE d 90 28 ls (v.toList ++ st) h' Q))) := h_v1 rfl rfl
theorem s90_28 : XE d 90 28 ls (.int x :: st) h Q ↔ (if x = 0 then XE d 90 38 ls st h Q else XE d 90 31 ls st h Q) := g_ifeq rfl
theorem s90_31 : XE d 90 31 (c0 :: c1 :: c2 :: .val (.ref a) :: l) st h Q ↔ XE d 90 32 (c0 :: c1 :: c2 :: .val (.ref a) :: l) (.ref a :: st) h Q := g_aload rfl rfl
theorem s90_31n : XE d 90 31 (c0 :: c1 :: c2 :: .val .null :: l) st h Q ↔ XE d 90 32 (c0 :: c1 :: c2 :: .val .null :: l) (.null :: st) h Q := g_aloadN rfl rfl
theorem s90_32 : XE d 90 32 ls (.ref a :: st) h Q ↔ XG [0, 1, 2, 3, 4, 9] 1 (h.2.2.1 a) (fun v => XE d 90 35 ls (v :: st) h Q) := g_getf rfl
theorem s90_35 : XE d 90 35 ls st h Q ↔ XE d 90 40 ls st h Q := g_goto rfl
theorem s90_38 : XE d 90 38 ls st h Q ↔ XE d 90 40 ls (.int (-1000000012) :: st) h Q := g_const rfl
theorem s90_40 : XE d 90 40 ls [.int x] h Q ↔ Q (some (.int x)) h := g_iret rfl
-- 91: TwoBells.turns(II)I
theorem e91 : XC (d + 1) 91 [.ref a, .int x, .int y] h Q ↔ XE d 91 0 [.val (.ref a), .val (.int x), .val (.int y), .unset] [] h Q := XC_in rfl
theorem s91_0 : XE d 91 0 (.val (.ref a) :: l) st h Q ↔ XE d 91 1 (.val (.ref a) :: l) (.ref a :: st) h Q := g_aload rfl rfl
theorem s91_1 : XE d 91 1 ls (.ref a :: st) h Q ↔ XG [11] 0 (h.2.2.1 a) (fun v => XE d 91 4 ls (v :: st) h Q) := g_getf rfl
theorem s91_4 : XE d 91 4 (c0 :: .val (.int x) :: l) st h Q ↔ XE d 91 5 (c0 :: .val (.int x) :: l) (.int x :: st) h Q := g_iload rfl rfl
theorem s91_5 : XE d 91 5 ls (.int x :: .ref a :: st) h Q ↔ (xvo 8 st = true ∧ XV [(10, 54)] (h.2.2.1 a) (fun m' => XC d m' [.ref a, .int x] h (fun v h' => XE d 91 8 ls (v.toList ++ st) h' Q))) := h_v1 rfl rfl
theorem s91_8 : XE d 91 8 (c0 :: c1 :: c2 :: c3 :: l) (.ref a :: st) h Q ↔ XE d 91 9 (c0 :: c1 :: c2 :: .val (.ref a) :: l) st h Q := g_astore (Nat.lt_of_lt_of_le (show 3 < 4 by decide) (Nat.le_add_left 4 _)) rfl rfl
theorem s91_8n : XE d 91 8 (c0 :: c1 :: c2 :: c3 :: l) (.null :: st) h Q ↔ XE d 91 9 (c0 :: c1 :: c2 :: .val .null :: l) st h Q := g_astoreN (Nat.lt_of_lt_of_le (show 3 < 4 by decide) (Nat.le_add_left 4 _)) rfl rfl
theorem s91_9 : XE d 91 9 (c0 :: c1 :: c2 :: .val (.ref a) :: l) st h Q ↔ XE d 91 10 (c0 :: c1 :: c2 :: .val (.ref a) :: l) (.ref a :: st) h Q := g_aload rfl rfl
theorem s91_9n : XE d 91 9 (c0 :: c1 :: c2 :: .val .null :: l) st h Q ↔ XE d 91 10 (c0 :: c1 :: c2 :: .val .null :: l) (.null :: st) h Q := g_aloadN rfl rfl
theorem s91_10 : XE d 91 10 ls (.ref a :: st) h Q ↔ XE d 91 13 ls st h Q := g_ifnullR rfl
theorem s91_10n : XE d 91 10 ls (.null :: st) h Q ↔ XE d 91 20 ls st h Q := g_ifnullN rfl
theorem s91_13 : XE d 91 13 (c0 :: c1 :: .val (.int x) :: l) st h Q ↔ XE d 91 14 (c0 :: c1 :: .val (.int x) :: l) (.int x :: st) h Q := g_iload rfl rfl
theorem s91_14 : XE d 91 14 ls (.int x :: st) h Q ↔ (xvo 8 st = true ∧ XC d 125 [.int x] h (fun v h' => XE d 91 17 ls (v.toList ++ st) h' Q)) := h_s1 rfl rfl
theorem s91_17 : XE d 91 17 ls (.int x :: st) h Q ↔ (if x = 0 then XE d 91 20 ls st h Q else XE d 91 23 ls st h Q) := g_ifne rfl
theorem s91_20 : XE d 91 20 ls st h Q ↔ XE d 91 22 ls (.int (-1000000001) :: st) h Q := g_const rfl
theorem s91_22 : XE d 91 22 ls [.int x] h Q ↔ Q (some (.int x)) h := g_iret rfl
theorem s91_23 : XE d 91 23 (.val (.ref a) :: l) st h Q ↔ XE d 91 24 (.val (.ref a) :: l) (.ref a :: st) h Q := g_aload rfl rfl
theorem s91_24 : XE d 91 24 ls (.ref a :: st) h Q ↔ XG [11] 0 (h.2.2.1 a) (fun v => XE d 91 27 ls (v :: st) h Q) := g_getf rfl
theorem s91_27 : XE d 91 27 ls (.ref a :: st) h Q ↔ XG [10] 15 (h.2.2.1 a) (fun v => XE d 91 30 ls (v :: st) h Q) := g_getf rfl
theorem s91_30 : XE d 91 30 (c0 :: .val (.int x) :: l) st h Q ↔ XE d 91 31 (c0 :: .val (.int x) :: l) (.int x :: st) h Q := g_iload rfl rfl
theorem s91_31 : XE d 91 31 (c0 :: c1 :: .val (.int x) :: l) st h Q ↔ XE d 91 32 (c0 :: c1 :: .val (.int x) :: l) (.int x :: st) h Q := g_iload rfl rfl
theorem s91_32 : XE d 91 32 (c0 :: c1 :: c2 :: .val (.ref a) :: l) st h Q ↔ XE d 91 33 (c0 :: c1 :: c2 :: .val (.ref a) :: l) (.ref a :: st) h Q := g_aload rfl rfl
theorem s91_32n : XE d 91 32 (c0 :: c1 :: c2 :: .val .null :: l) st h Q ↔ XE d 91 33 (c0 :: c1 :: c2 :: .val .null :: l) (.null :: st) h Q := g_aloadN rfl rfl
theorem s91_33 : XE d 91 33 ls (.ref a :: st) h Q ↔ XG [0, 1, 2, 3, 4, 9] 1 (h.2.2.1 a) (fun v => XE d 91 36 ls (v :: st) h Q) := g_getf rfl
theorem s91_36 : XE d 91 36 ls (.int y :: .int x :: st) h Q ↔ (xvo 8 st = true ∧ XC d 45 [.int x, .int y] h (fun v h' => XE d 91 39 ls (v.toList ++ st) h' Q)) := h_s2 rfl rfl
theorem s91_39 : XE d 91 39 ls (.ref b :: .int x :: .ref a :: st) h Q ↔ XSr 6 [0, 1, 2, 3, 4, 9] (h.2.2.1 a) x b (h.2.2.1 b) (fun e => XE d 91 40 ls st (xset h a e) Q) := g_aastR rfl
theorem s91_39n : XE d 91 39 ls (.null :: .int x :: .ref a :: st) h Q ↔ XSn 6 (h.2.2.1 a) x (fun e => XE d 91 40 ls st (xset h a e) Q) := g_aastN rfl
theorem s91_40 : XE d 91 40 (c0 :: c1 :: c2 :: .val (.ref a) :: l) st h Q ↔ XE d 91 41 (c0 :: c1 :: c2 :: .val (.ref a) :: l) (.ref a :: st) h Q := g_aload rfl rfl
theorem s91_40n : XE d 91 40 (c0 :: c1 :: c2 :: .val .null :: l) st h Q ↔ XE d 91 41 (c0 :: c1 :: c2 :: .val .null :: l) (.null :: st) h Q := g_aloadN rfl rfl
theorem s91_41 : XE d 91 41 ls (.ref a :: st) h Q ↔ XG [0, 1, 2, 3, 4, 9] 0 (h.2.2.1 a) (fun v => XE d 91 44 ls (v :: st) h Q) := g_getf rfl
theorem s91_44 : XE d 91 44 ls [.int x] h Q ↔ Q (some (.int x)) h := g_iret rfl
-- 92: TwoBells.at(III)I
theorem e92 : XC (d + 1) 92 [.ref a, .int x, .int y, .int z] h Q ↔ XE d 92 0 [.val (.ref a), .val (.int x), .val (.int y), .val (.int z), .unset, .unset] [] h Q := XC_in rfl
theorem s92_0 : XE d 92 0 (.val (.ref a) :: l) st h Q ↔ XE d 92 1 (.val (.ref a) :: l) (.ref a :: st) h Q := g_aload rfl rfl
theorem s92_1 : XE d 92 1 ls (.ref a :: st) h Q ↔ XG [11] 0 (h.2.2.1 a) (fun v => XE d 92 4 ls (v :: st) h Q) := g_getf rfl
theorem s92_4 : XE d 92 4 (c0 :: .val (.int x) :: l) st h Q ↔ XE d 92 5 (c0 :: .val (.int x) :: l) (.int x :: st) h Q := g_iload rfl rfl
theorem s92_5 : XE d 92 5 ls (.int x :: .ref a :: st) h Q ↔ (xvo 8 st = true ∧ XV [(10, 54)] (h.2.2.1 a) (fun m' => XC d m' [.ref a, .int x] h (fun v h' => XE d 92 8 ls (v.toList ++ st) h' Q))) := h_v1 rfl rfl
theorem s92_8 : XE d 92 8 (c0 :: c1 :: c2 :: c3 :: c4 :: l) (.ref a :: st) h Q ↔ XE d 92 10 (c0 :: c1 :: c2 :: c3 :: .val (.ref a) :: l) st h Q := g_astore (Nat.lt_of_lt_of_le (show 4 < 5 by decide) (Nat.le_add_left 5 _)) rfl rfl
theorem s92_8n : XE d 92 8 (c0 :: c1 :: c2 :: c3 :: c4 :: l) (.null :: st) h Q ↔ XE d 92 10 (c0 :: c1 :: c2 :: c3 :: .val .null :: l) st h Q := g_astoreN (Nat.lt_of_lt_of_le (show 4 < 5 by decide) (Nat.le_add_left 5 _)) rfl rfl
theorem s92_10 : XE d 92 10 (c0 :: c1 :: c2 :: c3 :: .val (.ref a) :: l) st h Q ↔ XE d 92 12 (c0 :: c1 :: c2 :: c3 :: .val (.ref a) :: l) (.ref a :: st) h Q := g_aload rfl rfl
theorem s92_10n : XE d 92 10 (c0 :: c1 :: c2 :: c3 :: .val .null :: l) st h Q ↔ XE d 92 12 (c0 :: c1 :: c2 :: c3 :: .val .null :: l) (.null :: st) h Q := g_aloadN rfl rfl
theorem s92_12 : XE d 92 12 ls (.ref a :: st) h Q ↔ XE d 92 15 ls st h Q := g_ifnullR rfl
theorem s92_12n : XE d 92 12 ls (.null :: st) h Q ↔ XE d 92 35 ls st h Q := g_ifnullN rfl
theorem s92_15 : XE d 92 15 (.val (.ref a) :: l) st h Q ↔ XE d 92 16 (.val (.ref a) :: l) (.ref a :: st) h Q := g_aload rfl rfl
theorem s92_16 : XE d 92 16 ls (.ref a :: st) h Q ↔ XG [11] 0 (h.2.2.1 a) (fun v => XE d 92 19 ls (v :: st) h Q) := g_getf rfl
theorem s92_19 : XE d 92 19 (c0 :: c1 :: .val (.int x) :: l) st h Q ↔ XE d 92 20 (c0 :: c1 :: .val (.int x) :: l) (.int x :: st) h Q := g_iload rfl rfl
theorem s92_20 : XE d 92 20 ls (.int x :: .ref a :: st) h Q ↔ (xvo 8 st = true ∧ XV [(10, 53)] (h.2.2.1 a) (fun m' => XC d m' [.ref a, .int x] h (fun v h' => XE d 92 23 ls (v.toList ++ st) h' Q))) := h_v1 rfl rfl
theorem s92_23 : XE d 92 23 ls (.int x :: st) h Q ↔ (if x = 0 then XE d 92 35 ls st h Q else XE d 92 26 ls st h Q) := g_ifeq rfl
theorem s92_26 : XE d 92 26 (c0 :: c1 :: c2 :: .val (.int x) :: l) st h Q ↔ XE d 92 27 (c0 :: c1 :: c2 :: .val (.int x) :: l) (.int x :: st) h Q := g_iload rfl rfl
theorem s92_27 : XE d 92 27 ls st h Q ↔ XE d 92 28 ls (.int 0 :: st) h Q := g_const rfl
theorem s92_28 : XE d 92 28 ls st h Q ↔ XE d 92 29 ls (.int 2 :: st) h Q := g_const rfl
theorem s92_29 : XE d 92 29 ls (.int z :: .int y :: .int x :: st) h Q ↔ (xvo 8 st = true ∧ XC d 123 [.int x, .int y, .int z] h (fun v h' => XE d 92 32 ls (v.toList ++ st) h' Q)) := h_s3 rfl rfl
theorem s92_32 : XE d 92 32 ls (.int x :: st) h Q ↔ (if x = 0 then XE d 92 35 ls st h Q else XE d 92 38 ls st h Q) := g_ifne rfl
theorem s92_35 : XE d 92 35 ls st h Q ↔ XE d 92 37 ls (.int (-1000000001) :: st) h Q := g_const rfl
theorem s92_37 : XE d 92 37 ls [.int x] h Q ↔ Q (some (.int x)) h := g_iret rfl
theorem s92_38 : XE d 92 38 (c0 :: c1 :: c2 :: .val (.int x) :: l) st h Q ↔ XE d 92 39 (c0 :: c1 :: c2 :: .val (.int x) :: l) (.int x :: st) h Q := g_iload rfl rfl
theorem s92_39 : XE d 92 39 ls st h Q ↔ XE d 92 40 ls (.int 2 :: st) h Q := g_const rfl
theorem s92_40 : XE d 92 40 ls (.int y :: .int x :: st) h Q ↔ (if x = y then XE d 92 43 ls st h Q else XE d 92 66 ls st h Q) := g_cne rfl
theorem s92_43 : XE d 92 43 (.val (.ref a) :: l) st h Q ↔ XE d 92 44 (.val (.ref a) :: l) (.ref a :: st) h Q := g_aload rfl rfl
theorem s92_44 : XE d 92 44 ls (.ref a :: st) h Q ↔ XG [11] 0 (h.2.2.1 a) (fun v => XE d 92 47 ls (v :: st) h Q) := g_getf rfl
theorem s92_47 : XE d 92 47 ls (.ref a :: st) h Q ↔ XG [10] 11 (h.2.2.1 a) (fun v => XE d 92 50 ls (v :: st) h Q) := g_getf rfl
theorem s92_50 : XE d 92 50 (c0 :: c1 :: .val (.int x) :: l) st h Q ↔ XE d 92 51 (c0 :: c1 :: .val (.int x) :: l) (.int x :: st) h Q := g_iload rfl rfl
theorem s92_51 : XE d 92 51 ls (.int x :: .ref a :: st) h Q ↔ XA [0, 7] (h.2.2.1 a) x (fun k => XE d 92 52 ls (.int k :: st) h Q) := g_ald rfl
theorem s92_52 : XE d 92 52 (c0 :: c1 :: c2 :: c3 :: .val (.ref a) :: l) st h Q ↔ XE d 92 54 (c0 :: c1 :: c2 :: c3 :: .val (.ref a) :: l) (.ref a :: st) h Q := g_aload rfl rfl
theorem s92_52n : XE d 92 52 (c0 :: c1 :: c2 :: c3 :: .val .null :: l) st h Q ↔ XE d 92 54 (c0 :: c1 :: c2 :: c3 :: .val .null :: l) (.null :: st) h Q := g_aloadN rfl rfl
theorem s92_54 : XE d 92 54 ls (.ref a :: st) h Q ↔ XG [0, 1, 2, 3, 4, 9] 1 (h.2.2.1 a) (fun v => XE d 92 57 ls (v :: st) h Q) := g_getf rfl
theorem s92_57 : XE d 92 57 ls (.int y :: .int x :: st) h Q ↔ (if x = y then XE d 92 60 ls st h Q else XE d 92 64 ls st h Q) := g_cne rfl
theorem s92_60 : XE d 92 60 ls st h Q ↔ XE d 92 61 ls (.int 1 :: st) h Q := g_const rfl
theorem s92_61 : XE d 92 61 ls st h Q ↔ XE d 92 65 ls st h Q := g_goto rfl
theorem s92_64 : XE d 92 64 ls st h Q ↔ XE d 92 65 ls (.int 0 :: st) h Q := g_const rfl
theorem s92_65 : XE d 92 65 ls [.int x] h Q ↔ Q (some (.int x)) h := g_iret rfl
theorem s92_66 : XE d 92 66 (.val (.ref a) :: l) st h Q ↔ XE d 92 67 (.val (.ref a) :: l) (.ref a :: st) h Q := g_aload rfl rfl
theorem s92_67 : XE d 92 67 ls (.ref a :: st) h Q ↔ XG [11] 0 (h.2.2.1 a) (fun v => XE d 92 70 ls (v :: st) h Q) := g_getf rfl
theorem s92_70 : XE d 92 70 ls (.ref a :: st) h Q ↔ (xvo 8 st = true ∧ XV [(10, 65)] (h.2.2.1 a) (fun m' => XC d m' [.ref a] h (fun v h' => XE d 92 73 ls (v.toList ++ st) h' Q))) := h_v0 rfl
theorem s92_73 : XE d 92 73 (.val (.ref a) :: l) st h Q ↔ XE d 92 74 (.val (.ref a) :: l) (.ref a :: st) h Q := g_aload rfl rfl
theorem s92_74 : XE d 92 74 ls (.ref a :: st) h Q ↔ XG [11] 0 (h.2.2.1 a) (fun v => XE d 92 77 ls (v :: st) h Q) := g_getf rfl
theorem s92_77 : XE d 92 77 (c0 :: c1 :: c2 :: c3 :: .val (.ref a) :: l) st h Q ↔ XE d 92 79 (c0 :: c1 :: c2 :: c3 :: .val (.ref a) :: l) (.ref a :: st) h Q := g_aload rfl rfl
theorem s92_77n : XE d 92 77 (c0 :: c1 :: c2 :: c3 :: .val .null :: l) st h Q ↔ XE d 92 79 (c0 :: c1 :: c2 :: c3 :: .val .null :: l) (.null :: st) h Q := g_aloadN rfl rfl
theorem s92_79 : XE d 92 79 (c0 :: c1 :: .val (.int x) :: l) st h Q ↔ XE d 92 80 (c0 :: c1 :: .val (.int x) :: l) (.int x :: st) h Q := g_iload rfl rfl
theorem s92_80 : XE d 92 80 ls (.int x :: .ref b :: .ref a :: st) h Q ↔ (xvo 8 st = true ∧ XV [(10, 66)] (h.2.2.1 a) (fun m' => XC d m' [.ref a, .ref b, .int x] h (fun v h' => XE d 92 83 ls (v.toList ++ st) h' Q))) := h_v2 rfl rfl
theorem s92_83 : XE d 92 83 (c0 :: c1 :: c2 :: c3 :: c4 :: c5 :: l) (.int x :: st) h Q ↔ XE d 92 85 (c0 :: c1 :: c2 :: c3 :: c4 :: .val (.int x) :: l) st h Q := g_istore (Nat.lt_of_lt_of_le (show 5 < 6 by decide) (Nat.le_add_left 6 _)) rfl rfl
theorem s92_85 : XE d 92 85 (c0 :: c1 :: c2 :: .val (.int x) :: l) st h Q ↔ XE d 92 86 (c0 :: c1 :: c2 :: .val (.int x) :: l) (.int x :: st) h Q := g_iload rfl rfl
theorem s92_86 : XE d 92 86 ls (.int x :: st) h Q ↔ (if x = 0 then XE d 92 89 ls st h Q else XE d 92 94 ls st h Q) := g_ifne rfl
theorem s92_89 : XE d 92 89 (c0 :: c1 :: c2 :: c3 :: c4 :: .val (.int x) :: l) st h Q ↔ XE d 92 91 (c0 :: c1 :: c2 :: c3 :: c4 :: .val (.int x) :: l) (.int x :: st) h Q := g_iload rfl rfl
theorem s92_91 : XE d 92 91 ls st h Q ↔ XE d 92 104 ls st h Q := g_goto rfl
theorem s92_94 : XE d 92 94 (.val (.ref a) :: l) st h Q ↔ XE d 92 95 (.val (.ref a) :: l) (.ref a :: st) h Q := g_aload rfl rfl
theorem s92_95 : XE d 92 95 ls (.ref a :: st) h Q ↔ XG [11] 0 (h.2.2.1 a) (fun v => XE d 92 98 ls (v :: st) h Q) := g_getf rfl
theorem s92_98 : XE d 92 98 (c0 :: c1 :: .val (.int x) :: l) st h Q ↔ XE d 92 99 (c0 :: c1 :: .val (.int x) :: l) (.int x :: st) h Q := g_iload rfl rfl
theorem s92_99 : XE d 92 99 (c0 :: c1 :: c2 :: c3 :: c4 :: .val (.int x) :: l) st h Q ↔ XE d 92 101 (c0 :: c1 :: c2 :: c3 :: c4 :: .val (.int x) :: l) (.int x :: st) h Q := g_iload rfl rfl
theorem s92_101 : XE d 92 101 ls (.int y :: .int x :: .ref a :: st) h Q ↔ (xvo 8 st = true ∧ XV [(10, 67)] (h.2.2.1 a) (fun m' => XC d m' [.ref a, .int x, .int y] h (fun v h' => XE d 92 104 ls (v.toList ++ st) h' Q))) := h_v2 rfl rfl
theorem s92_104 : XE d 92 104 ls [.int x] h Q ↔ Q (some (.int x)) h := g_iret rfl
-- 93: TwoBells.heed(II)I
theorem e93 : XC (d + 1) 93 [.ref a, .int x, .int y] h Q ↔ XE d 93 0 [.val (.ref a), .val (.int x), .val (.int y), .unset] [] h Q := XC_in rfl
theorem s93_0 : XE d 93 0 (.val (.ref a) :: l) st h Q ↔ XE d 93 1 (.val (.ref a) :: l) (.ref a :: st) h Q := g_aload rfl rfl
theorem s93_1 : XE d 93 1 ls (.ref a :: st) h Q ↔ XG [11] 0 (h.2.2.1 a) (fun v => XE d 93 4 ls (v :: st) h Q) := g_getf rfl
theorem s93_4 : XE d 93 4 (c0 :: .val (.int x) :: l) st h Q ↔ XE d 93 5 (c0 :: .val (.int x) :: l) (.int x :: st) h Q := g_iload rfl rfl
theorem s93_5 : XE d 93 5 ls (.int x :: .ref a :: st) h Q ↔ (xvo 8 st = true ∧ XV [(10, 54)] (h.2.2.1 a) (fun m' => XC d m' [.ref a, .int x] h (fun v h' => XE d 93 8 ls (v.toList ++ st) h' Q))) := h_v1 rfl rfl
theorem s93_8 : XE d 93 8 (c0 :: c1 :: c2 :: c3 :: l) (.ref a :: st) h Q ↔ XE d 93 9 (c0 :: c1 :: c2 :: .val (.ref a) :: l) st h Q := g_astore (Nat.lt_of_lt_of_le (show 3 < 4 by decide) (Nat.le_add_left 4 _)) rfl rfl
theorem s93_8n : XE d 93 8 (c0 :: c1 :: c2 :: c3 :: l) (.null :: st) h Q ↔ XE d 93 9 (c0 :: c1 :: c2 :: .val .null :: l) st h Q := g_astoreN (Nat.lt_of_lt_of_le (show 3 < 4 by decide) (Nat.le_add_left 4 _)) rfl rfl
theorem s93_9 : XE d 93 9 (c0 :: c1 :: c2 :: .val (.ref a) :: l) st h Q ↔ XE d 93 10 (c0 :: c1 :: c2 :: .val (.ref a) :: l) (.ref a :: st) h Q := g_aload rfl rfl
theorem s93_9n : XE d 93 9 (c0 :: c1 :: c2 :: .val .null :: l) st h Q ↔ XE d 93 10 (c0 :: c1 :: c2 :: .val .null :: l) (.null :: st) h Q := g_aloadN rfl rfl
theorem s93_10 : XE d 93 10 ls (.ref a :: st) h Q ↔ XE d 93 13 ls st h Q := g_ifnullR rfl
theorem s93_10n : XE d 93 10 ls (.null :: st) h Q ↔ XE d 93 24 ls st h Q := g_ifnullN rfl
theorem s93_13 : XE d 93 13 (.val (.ref a) :: l) st h Q ↔ XE d 93 14 (.val (.ref a) :: l) (.ref a :: st) h Q := g_aload rfl rfl
theorem s93_14 : XE d 93 14 ls (.ref a :: st) h Q ↔ XG [11] 0 (h.2.2.1 a) (fun v => XE d 93 17 ls (v :: st) h Q) := g_getf rfl
theorem s93_17 : XE d 93 17 (c0 :: c1 :: .val (.int x) :: l) st h Q ↔ XE d 93 18 (c0 :: c1 :: .val (.int x) :: l) (.int x :: st) h Q := g_iload rfl rfl
theorem s93_18 : XE d 93 18 ls (.int x :: .ref a :: st) h Q ↔ (xvo 8 st = true ∧ XV [(10, 52)] (h.2.2.1 a) (fun m' => XC d m' [.ref a, .int x] h (fun v h' => XE d 93 21 ls (v.toList ++ st) h' Q))) := h_v1 rfl rfl
theorem s93_21 : XE d 93 21 ls (.int x :: st) h Q ↔ (if x = 0 then XE d 93 24 ls st h Q else XE d 93 27 ls st h Q) := g_ifne rfl
theorem s93_24 : XE d 93 24 ls st h Q ↔ XE d 93 26 ls (.int (-1000000001) :: st) h Q := g_const rfl
theorem s93_26 : XE d 93 26 ls [.int x] h Q ↔ Q (some (.int x)) h := g_iret rfl
theorem s93_27 : XE d 93 27 (c0 :: c1 :: c2 :: .val (.ref a) :: l) st h Q ↔ XE d 93 28 (c0 :: c1 :: c2 :: .val (.ref a) :: l) (.ref a :: st) h Q := g_aload rfl rfl
theorem s93_27n : XE d 93 27 (c0 :: c1 :: c2 :: .val .null :: l) st h Q ↔ XE d 93 28 (c0 :: c1 :: c2 :: .val .null :: l) (.null :: st) h Q := g_aloadN rfl rfl
theorem s93_28 : XE d 93 28 (.val (.ref a) :: l) st h Q ↔ XE d 93 29 (.val (.ref a) :: l) (.ref a :: st) h Q := g_aload rfl rfl
theorem s93_29 : XE d 93 29 ls (.ref a :: st) h Q ↔ XG [11] 0 (h.2.2.1 a) (fun v => XE d 93 32 ls (v :: st) h Q) := g_getf rfl
theorem s93_32 : XE d 93 32 (c0 :: c1 :: .val (.int x) :: l) st h Q ↔ XE d 93 33 (c0 :: c1 :: .val (.int x) :: l) (.int x :: st) h Q := g_iload rfl rfl
theorem s93_33 : XE d 93 33 (.val (.ref a) :: l) st h Q ↔ XE d 93 34 (.val (.ref a) :: l) (.ref a :: st) h Q := g_aload rfl rfl
theorem s93_34 : XE d 93 34 ls (.ref a :: st) h Q ↔ XG [11] 0 (h.2.2.1 a) (fun v => XE d 93 37 ls (v :: st) h Q) := g_getf rfl
theorem s93_37 : XE d 93 37 (c0 :: c1 :: .val (.int x) :: l) st h Q ↔ XE d 93 38 (c0 :: c1 :: .val (.int x) :: l) (.int x :: st) h Q := g_iload rfl rfl
theorem s93_38 : XE d 93 38 ls (.int x :: .ref a :: st) h Q ↔ (xvo 8 st = true ∧ XV [(10, 64)] (h.2.2.1 a) (fun m' => XC d m' [.ref a, .int x] h (fun v h' => XE d 93 41 ls (v.toList ++ st) h' Q))) := h_v1 rfl rfl
theorem s93_41 : XE d 93 41 ls (.int y :: .int x :: .ref b :: .ref a :: st) h Q ↔ (xvo 8 st = true ∧ XV [(0, 1), (1, 4), (2, 47), (3, 10), (4, 1), (9, 47)] (h.2.2.1 a) (fun m' => XC d m' [.ref a, .ref b, .int x, .int y] h (fun v h' => XE d 93 44 ls (v.toList ++ st) h' Q))) := h_v3 rfl rfl
theorem s93_44 : XE d 93 44 ls [.int x] h Q ↔ Q (some (.int x)) h := g_iret rfl
-- 94: TwoBells.choice(I)I
theorem e94 : XC (d + 1) 94 [.ref a, .int x] h Q ↔ XE d 94 0 [.val (.ref a), .val (.int x), .unset] [] h Q := XC_in rfl
theorem s94_0 : XE d 94 0 (.val (.ref a) :: l) st h Q ↔ XE d 94 1 (.val (.ref a) :: l) (.ref a :: st) h Q := g_aload rfl rfl
theorem s94_1 : XE d 94 1 ls (.ref a :: st) h Q ↔ XG [11] 0 (h.2.2.1 a) (fun v => XE d 94 4 ls (v :: st) h Q) := g_getf rfl
theorem s94_4 : XE d 94 4 (c0 :: .val (.int x) :: l) st h Q ↔ XE d 94 5 (c0 :: .val (.int x) :: l) (.int x :: st) h Q := g_iload rfl rfl
theorem s94_5 : XE d 94 5 ls (.int x :: .ref a :: st) h Q ↔ (xvo 8 st = true ∧ XV [(10, 54)] (h.2.2.1 a) (fun m' => XC d m' [.ref a, .int x] h (fun v h' => XE d 94 8 ls (v.toList ++ st) h' Q))) := h_v1 rfl rfl
theorem s94_8 : XE d 94 8 (c0 :: c1 :: c2 :: l) (.ref a :: st) h Q ↔ XE d 94 9 (c0 :: c1 :: .val (.ref a) :: l) st h Q := g_astore (Nat.lt_of_lt_of_le (show 2 < 3 by decide) (Nat.le_add_left 3 _)) rfl rfl
theorem s94_8n : XE d 94 8 (c0 :: c1 :: c2 :: l) (.null :: st) h Q ↔ XE d 94 9 (c0 :: c1 :: .val .null :: l) st h Q := g_astoreN (Nat.lt_of_lt_of_le (show 2 < 3 by decide) (Nat.le_add_left 3 _)) rfl rfl
theorem s94_9 : XE d 94 9 (c0 :: c1 :: .val (.ref a) :: l) st h Q ↔ XE d 94 10 (c0 :: c1 :: .val (.ref a) :: l) (.ref a :: st) h Q := g_aload rfl rfl
theorem s94_9n : XE d 94 9 (c0 :: c1 :: .val .null :: l) st h Q ↔ XE d 94 10 (c0 :: c1 :: .val .null :: l) (.null :: st) h Q := g_aloadN rfl rfl
theorem s94_10 : XE d 94 10 ls (.ref a :: st) h Q ↔ XE d 94 16 ls st h Q := g_ifnonR rfl
theorem s94_10n : XE d 94 10 ls (.null :: st) h Q ↔ XE d 94 13 ls st h Q := g_ifnonN rfl
theorem s94_13 : XE d 94 13 ls st h Q ↔ XE d 94 15 ls (.int (-1000000001) :: st) h Q := g_const rfl
theorem s94_15 : XE d 94 15 ls [.int x] h Q ↔ Q (some (.int x)) h := g_iret rfl
theorem s94_16 : XE d 94 16 (.val (.ref a) :: l) st h Q ↔ XE d 94 17 (.val (.ref a) :: l) (.ref a :: st) h Q := g_aload rfl rfl
theorem s94_17 : XE d 94 17 ls (.ref a :: st) h Q ↔ XG [11] 0 (h.2.2.1 a) (fun v => XE d 94 20 ls (v :: st) h Q) := g_getf rfl
theorem s94_20 : XE d 94 20 ls (.ref a :: st) h Q ↔ (xvo 8 st = true ∧ XV [(10, 68)] (h.2.2.1 a) (fun m' => XC d m' [.ref a] h (fun v h' => XE d 94 23 ls (v.toList ++ st) h' Q))) := h_v0 rfl
theorem s94_23 : XE d 94 23 (c0 :: c1 :: .val (.ref a) :: l) st h Q ↔ XE d 94 24 (c0 :: c1 :: .val (.ref a) :: l) (.ref a :: st) h Q := g_aload rfl rfl
theorem s94_23n : XE d 94 23 (c0 :: c1 :: .val .null :: l) st h Q ↔ XE d 94 24 (c0 :: c1 :: .val .null :: l) (.null :: st) h Q := g_aloadN rfl rfl
theorem s94_24 : XE d 94 24 (.val (.ref a) :: l) st h Q ↔ XE d 94 25 (.val (.ref a) :: l) (.ref a :: st) h Q := g_aload rfl rfl
theorem s94_25 : XE d 94 25 ls (.ref a :: st) h Q ↔ XG [11] 0 (h.2.2.1 a) (fun v => XE d 94 28 ls (v :: st) h Q) := g_getf rfl
theorem s94_28 : XE d 94 28 (c0 :: .val (.int x) :: l) st h Q ↔ XE d 94 29 (c0 :: .val (.int x) :: l) (.int x :: st) h Q := g_iload rfl rfl
theorem s94_29 : XE d 94 29 ls (.int x :: .ref b :: .ref a :: st) h Q ↔ (xvo 8 st = true ∧ XV [(0, 48), (1, 48), (2, 7), (3, 7), (4, 13), (9, 48)] (h.2.2.1 a) (fun m' => XC d m' [.ref a, .ref b, .int x] h (fun v h' => XE d 94 32 ls (v.toList ++ st) h' Q))) := h_v2 rfl rfl
theorem s94_32 : XE d 94 32 ls [.int x] h Q ↔ Q (some (.int x)) h := g_iret rfl
-- 95: TwoBells.nights(I)I
theorem e95 : XC (d + 1) 95 [.ref a, .int x] h Q ↔ XE d 95 0 [.val (.ref a), .val (.int x), .unset] [] h Q := XC_in rfl
theorem s95_0 : XE d 95 0 (c0 :: .val (.int x) :: l) st h Q ↔ XE d 95 1 (c0 :: .val (.int x) :: l) (.int x :: st) h Q := g_iload rfl rfl
theorem s95_1 : XE d 95 1 ls st h Q ↔ XE d 95 2 ls (.int 1 :: st) h Q := g_const rfl
theorem s95_2 : XE d 95 2 ls st h Q ↔ XE d 95 4 ls (.int 60 :: st) h Q := g_const rfl
theorem s95_4 : XE d 95 4 ls (.int z :: .int y :: .int x :: st) h Q ↔ (xvo 8 st = true ∧ XC d 123 [.int x, .int y, .int z] h (fun v h' => XE d 95 7 ls (v.toList ++ st) h' Q)) := h_s3 rfl rfl
theorem s95_7 : XE d 95 7 ls (.int x :: st) h Q ↔ (if x = 0 then XE d 95 10 ls st h Q else XE d 95 13 ls st h Q) := g_ifne rfl
theorem s95_10 : XE d 95 10 ls st h Q ↔ XE d 95 12 ls (.int (-1000000001) :: st) h Q := g_const rfl
theorem s95_12 : XE d 95 12 ls [.int x] h Q ↔ Q (some (.int x)) h := g_iret rfl
theorem s95_13 : XE d 95 13 (.val (.ref a) :: l) st h Q ↔ XE d 95 14 (.val (.ref a) :: l) (.ref a :: st) h Q := g_aload rfl rfl
theorem s95_14 : XE d 95 14 ls (.ref a :: st) h Q ↔ XG [11] 0 (h.2.2.1 a) (fun v => XE d 95 17 ls (v :: st) h Q) := g_getf rfl
theorem s95_17 : XE d 95 17 ls (.ref a :: st) h Q ↔ (xvo 8 st = true ∧ XV [(10, 68)] (h.2.2.1 a) (fun m' => XC d m' [.ref a] h (fun v h' => XE d 95 20 ls (v.toList ++ st) h' Q))) := h_v0 rfl
theorem s95_20 : XE d 95 20 ls st h Q ↔ XE d 95 21 ls (.int 0 :: st) h Q := g_const rfl
theorem s95_21 : XE d 95 21 (c0 :: c1 :: c2 :: l) (.int x :: st) h Q ↔ XE d 95 22 (c0 :: c1 :: .val (.int x) :: l) st h Q := g_istore (Nat.lt_of_lt_of_le (show 2 < 3 by decide) (Nat.le_add_left 3 _)) rfl rfl
theorem s95_22 : XE d 95 22 (c0 :: c1 :: .val (.int x) :: l) st h Q ↔ XE d 95 23 (c0 :: c1 :: .val (.int x) :: l) (.int x :: st) h Q := g_iload rfl rfl
theorem s95_23 : XE d 95 23 (c0 :: .val (.int x) :: l) st h Q ↔ XE d 95 24 (c0 :: .val (.int x) :: l) (.int x :: st) h Q := g_iload rfl rfl
theorem s95_24 : XE d 95 24 ls (.int y :: .int x :: st) h Q ↔ (if x < y then XE d 95 27 ls st h Q else XE d 95 40 ls st h Q) := g_cge rfl
theorem s95_27 : XE d 95 27 (.val (.ref a) :: l) st h Q ↔ XE d 95 28 (.val (.ref a) :: l) (.ref a :: st) h Q := g_aload rfl rfl
theorem s95_28 : XE d 95 28 ls (.ref a :: st) h Q ↔ XG [11] 0 (h.2.2.1 a) (fun v => XE d 95 31 ls (v :: st) h Q) := g_getf rfl
theorem s95_31 : XE d 95 31 ls (.ref a :: st) h Q ↔ (xvo 8 st = true ∧ XV [(10, 71)] (h.2.2.1 a) (fun m' => XC d m' [.ref a] h (fun v h' => XE d 95 34 ls (v.toList ++ st) h' Q))) := h_v0 rfl
theorem s95_34 : XE d 95 34 (c0 :: c1 :: .val (.int x) :: l) st h Q ↔ XE d 95 37 (c0 :: c1 :: .val (.int (x + 1)) :: l) st h Q := g_iinc rfl rfl rfl
theorem s95_37 : XE d 95 37 ls st h Q ↔ XE d 95 22 ls st h Q := g_goto rfl
theorem s95_40 : XE d 95 40 (.val (.ref a) :: l) st h Q ↔ XE d 95 41 (.val (.ref a) :: l) (.ref a :: st) h Q := g_aload rfl rfl
theorem s95_41 : XE d 95 41 ls (.ref a :: st) h Q ↔ XG [11] 0 (h.2.2.1 a) (fun v => XE d 95 44 ls (v :: st) h Q) := g_getf rfl
theorem s95_44 : XE d 95 44 ls (.ref a :: st) h Q ↔ XG [10] 5 (h.2.2.1 a) (fun v => XE d 95 47 ls (v :: st) h Q) := g_getf rfl
theorem s95_47 : XE d 95 47 ls [.int x] h Q ↔ Q (some (.int x)) h := g_iret rfl
-- 96: TwoBells.seed(I)I
theorem e96 : XC (d + 1) 96 [.ref a, .int x] h Q ↔ XE d 96 0 [.val (.ref a), .val (.int x), .unset] [] h Q := XC_in rfl
theorem s96_0 : XE d 96 0 (.val (.ref a) :: l) st h Q ↔ XE d 96 1 (.val (.ref a) :: l) (.ref a :: st) h Q := g_aload rfl rfl
theorem s96_1 : XE d 96 1 ls (.ref a :: st) h Q ↔ XG [11] 0 (h.2.2.1 a) (fun v => XE d 96 4 ls (v :: st) h Q) := g_getf rfl
theorem s96_4 : XE d 96 4 ls (.ref a :: st) h Q ↔ XG [10] 7 (h.2.2.1 a) (fun v => XE d 96 7 ls (v :: st) h Q) := g_getf rfl
theorem s96_7 : XE d 96 7 (c0 :: c1 :: c2 :: l) (.int x :: st) h Q ↔ XE d 96 8 (c0 :: c1 :: .val (.int x) :: l) st h Q := g_istore (Nat.lt_of_lt_of_le (show 2 < 3 by decide) (Nat.le_add_left 3 _)) rfl rfl
theorem s96_8 : XE d 96 8 (.val (.ref a) :: l) st h Q ↔ XE d 96 9 (.val (.ref a) :: l) (.ref a :: st) h Q := g_aload rfl rfl
theorem s96_9 : XE d 96 9 ls (.ref a :: st) h Q ↔ XG [11] 0 (h.2.2.1 a) (fun v => XE d 96 12 ls (v :: st) h Q) := g_getf rfl
theorem s96_12 : XE d 96 12 (c0 :: .val (.int x) :: l) st h Q ↔ XE d 96 13 (c0 :: .val (.int x) :: l) (.int x :: st) h Q := g_iload rfl rfl
theorem s96_13 : XE d 96 13 ls (.int x :: .ref a :: st) h Q ↔ XP [10] 7 (.int x) (h.2.2.1 a) (fun e => XE d 96 16 ls st (xset h a e) Q) := g_puti rfl
theorem s96_16 : XE d 96 16 (c0 :: c1 :: .val (.int x) :: l) st h Q ↔ XE d 96 17 (c0 :: c1 :: .val (.int x) :: l) (.int x :: st) h Q := g_iload rfl rfl
theorem s96_17 : XE d 96 17 ls [.int x] h Q ↔ Q (some (.int x)) h := g_iret rfl
-- 97: TwoBells.pair(I)I
theorem e97 : XC (d + 1) 97 [.ref a, .int x] h Q ↔ XE d 97 0 [.val (.ref a), .val (.int x)] [] h Q := XC_in rfl
theorem s97_0 : XE d 97 0 (.val (.ref a) :: l) st h Q ↔ XE d 97 1 (.val (.ref a) :: l) (.ref a :: st) h Q := g_aload rfl rfl
theorem s97_1 : XE d 97 1 ls (.ref a :: st) h Q ↔ XG [11] 0 (h.2.2.1 a) (fun v => XE d 97 4 ls (v :: st) h Q) := g_getf rfl
theorem s97_4 : XE d 97 4 (c0 :: .val (.int x) :: l) st h Q ↔ XE d 97 5 (c0 :: .val (.int x) :: l) (.int x :: st) h Q := g_iload rfl rfl
theorem s97_5 : XE d 97 5 ls (.int x :: .ref a :: st) h Q ↔ (xvo 8 st = true ∧ XV [(10, 53)] (h.2.2.1 a) (fun m' => XC d m' [.ref a, .int x] h (fun v h' => XE d 97 8 ls (v.toList ++ st) h' Q))) := h_v1 rfl rfl
theorem s97_8 : XE d 97 8 ls (.int x :: st) h Q ↔ (if x = 0 then XE d 97 22 ls st h Q else XE d 97 11 ls st h Q) := g_ifeq rfl
theorem s97_11 : XE d 97 11 (.val (.ref a) :: l) st h Q ↔ XE d 97 12 (.val (.ref a) :: l) (.ref a :: st) h Q := g_aload rfl rfl
theorem s97_12 : XE d 97 12 ls (.ref a :: st) h Q ↔ XG [11] 0 (h.2.2.1 a) (fun v => XE d 97 15 ls (v :: st) h Q) := g_getf rfl
theorem s97_15 : XE d 97 15 (c0 :: .val (.int x) :: l) st h Q ↔ XE d 97 16 (c0 :: .val (.int x) :: l) (.int x :: st) h Q := g_iload rfl rfl
theorem s97_16 : XE d 97 16 ls (.int x :: .ref a :: st) h Q ↔ (xvo 8 st = true ∧ XV [(10, 76)] (h.2.2.1 a) (fun m' => XC d m' [.ref a, .int x] h (fun v h' => XE d 97 19 ls (v.toList ++ st) h' Q))) := h_v1 rfl rfl
theorem s97_19 : XE d 97 19 ls st h Q ↔ XE d 97 24 ls st h Q := g_goto rfl
theorem s97_22 : XE d 97 22 ls st h Q ↔ XE d 97 24 ls (.int (-1000000001) :: st) h Q := g_const rfl
theorem s97_24 : XE d 97 24 ls [.int x] h Q ↔ Q (some (.int x)) h := g_iret rfl
-- 98: TwoBells.wiring()I
theorem e98 : XC (d + 1) 98 [.ref a] h Q ↔ XE d 98 0 [.val (.ref a), .unset, .unset] [] h Q := XC_in rfl
theorem s98_0 : XE d 98 0 ls st h Q ↔ XE d 98 1 ls (.int 0 :: st) h Q := g_const rfl
theorem s98_1 : XE d 98 1 (c0 :: c1 :: l) (.int x :: st) h Q ↔ XE d 98 2 (c0 :: .val (.int x) :: l) st h Q := g_istore (Nat.lt_of_lt_of_le (show 1 < 2 by decide) (Nat.le_add_left 2 _)) rfl rfl
theorem s98_2 : XE d 98 2 (c0 :: .val (.int x) :: l) st h Q ↔ XE d 98 3 (c0 :: .val (.int x) :: l) (.int x :: st) h Q := g_iload rfl rfl
theorem s98_3 : XE d 98 3 (.val (.ref a) :: l) st h Q ↔ XE d 98 4 (.val (.ref a) :: l) (.ref a :: st) h Q := g_aload rfl rfl
theorem s98_4 : XE d 98 4 ls (.ref a :: st) h Q ↔ XG [11] 0 (h.2.2.1 a) (fun v => XE d 98 7 ls (v :: st) h Q) := g_getf rfl
theorem s98_7 : XE d 98 7 ls (.ref a :: st) h Q ↔ XG [10] 1 (h.2.2.1 a) (fun v => XE d 98 10 ls (v :: st) h Q) := g_getf rfl
theorem s98_10 : XE d 98 10 ls (.int y :: .int x :: st) h Q ↔ (if x < y then XE d 98 13 ls st h Q else XE d 98 82 ls st h Q) := g_cge rfl
theorem s98_13 : XE d 98 13 (.val (.ref a) :: l) st h Q ↔ XE d 98 14 (.val (.ref a) :: l) (.ref a :: st) h Q := g_aload rfl rfl
theorem s98_14 : XE d 98 14 ls (.ref a :: st) h Q ↔ XG [11] 0 (h.2.2.1 a) (fun v => XE d 98 17 ls (v :: st) h Q) := g_getf rfl
theorem s98_17 : XE d 98 17 (c0 :: .val (.int x) :: l) st h Q ↔ XE d 98 18 (c0 :: .val (.int x) :: l) (.int x :: st) h Q := g_iload rfl rfl
theorem s98_18 : XE d 98 18 ls (.int x :: .ref a :: st) h Q ↔ (xvo 8 st = true ∧ XV [(10, 76)] (h.2.2.1 a) (fun m' => XC d m' [.ref a, .int x] h (fun v h' => XE d 98 21 ls (v.toList ++ st) h' Q))) := h_v1 rfl rfl
theorem s98_21 : XE d 98 21 (c0 :: c1 :: c2 :: l) (.int x :: st) h Q ↔ XE d 98 22 (c0 :: c1 :: .val (.int x) :: l) st h Q := g_istore (Nat.lt_of_lt_of_le (show 2 < 3 by decide) (Nat.le_add_left 3 _)) rfl rfl
theorem s98_22 : XE d 98 22 (.val (.ref a) :: l) st h Q ↔ XE d 98 23 (.val (.ref a) :: l) (.ref a :: st) h Q := g_aload rfl rfl
theorem s98_23 : XE d 98 23 ls (.ref a :: st) h Q ↔ XG [11] 0 (h.2.2.1 a) (fun v => XE d 98 26 ls (v :: st) h Q) := g_getf rfl
theorem s98_26 : XE d 98 26 ls (.ref a :: st) h Q ↔ XG [10] 14 (h.2.2.1 a) (fun v => XE d 98 29 ls (v :: st) h Q) := g_getf rfl
theorem s98_29 : XE d 98 29 ls st h Q ↔ XE d 98 30 ls (.int 2 :: st) h Q := g_const rfl
theorem s98_30 : XE d 98 30 (c0 :: .val (.int x) :: l) st h Q ↔ XE d 98 31 (c0 :: .val (.int x) :: l) (.int x :: st) h Q := g_iload rfl rfl
theorem s98_31 : XE d 98 31 ls (.int y :: .int x :: st) h Q ↔ XE d 98 32 ls (.int (x * y) :: st) h Q := g_mul rfl
theorem s98_32 : XE d 98 32 (c0 :: c1 :: .val (.int x) :: l) st h Q ↔ XE d 98 33 (c0 :: c1 :: .val (.int x) :: l) (.int x :: st) h Q := g_iload rfl rfl
theorem s98_33 : XE d 98 33 ls st h Q ↔ XE d 98 35 ls (.int (-1000000005) :: st) h Q := g_const rfl
theorem s98_35 : XE d 98 35 ls (.int y :: .int x :: st) h Q ↔ (if x = y then XE d 98 38 ls st h Q else XE d 98 43 ls st h Q) := g_cne rfl
theorem s98_38 : XE d 98 38 ls st h Q ↔ XE d 98 40 ls (.int (-1000000005) :: st) h Q := g_const rfl
theorem s98_40 : XE d 98 40 ls st h Q ↔ XE d 98 47 ls st h Q := g_goto rfl
theorem s98_43 : XE d 98 43 (c0 :: c1 :: .val (.int x) :: l) st h Q ↔ XE d 98 44 (c0 :: c1 :: .val (.int x) :: l) (.int x :: st) h Q := g_iload rfl rfl
theorem s98_44 : XE d 98 44 ls st h Q ↔ XE d 98 46 ls (.int 100 :: st) h Q := g_const rfl
theorem s98_46 : XE d 98 46 ls (.int y :: .int x :: st) h Q ↔ (y ≠ 0 ∧ XE d 98 47 ls (.int (x / y) :: st) h Q) := g_div rfl
theorem s98_47 : XE d 98 47 ls (.int y :: .int x :: .ref a :: st) h Q ↔ XS 0 (h.2.2.1 a) x y (fun e => XE d 98 48 ls st (xset h a e) Q) := g_iast rfl
theorem s98_48 : XE d 98 48 (.val (.ref a) :: l) st h Q ↔ XE d 98 49 (.val (.ref a) :: l) (.ref a :: st) h Q := g_aload rfl rfl
theorem s98_49 : XE d 98 49 ls (.ref a :: st) h Q ↔ XG [11] 0 (h.2.2.1 a) (fun v => XE d 98 52 ls (v :: st) h Q) := g_getf rfl
theorem s98_52 : XE d 98 52 ls (.ref a :: st) h Q ↔ XG [10] 14 (h.2.2.1 a) (fun v => XE d 98 55 ls (v :: st) h Q) := g_getf rfl
theorem s98_55 : XE d 98 55 ls st h Q ↔ XE d 98 56 ls (.int 2 :: st) h Q := g_const rfl
theorem s98_56 : XE d 98 56 (c0 :: .val (.int x) :: l) st h Q ↔ XE d 98 57 (c0 :: .val (.int x) :: l) (.int x :: st) h Q := g_iload rfl rfl
theorem s98_57 : XE d 98 57 ls (.int y :: .int x :: st) h Q ↔ XE d 98 58 ls (.int (x * y) :: st) h Q := g_mul rfl
theorem s98_58 : XE d 98 58 ls st h Q ↔ XE d 98 59 ls (.int 1 :: st) h Q := g_const rfl
theorem s98_59 : XE d 98 59 ls (.int y :: .int x :: st) h Q ↔ XE d 98 60 ls (.int (x + y) :: st) h Q := g_add rfl
theorem s98_60 : XE d 98 60 (c0 :: c1 :: .val (.int x) :: l) st h Q ↔ XE d 98 61 (c0 :: c1 :: .val (.int x) :: l) (.int x :: st) h Q := g_iload rfl rfl
theorem s98_61 : XE d 98 61 ls st h Q ↔ XE d 98 63 ls (.int (-1000000005) :: st) h Q := g_const rfl
theorem s98_63 : XE d 98 63 ls (.int y :: .int x :: st) h Q ↔ (if x = y then XE d 98 66 ls st h Q else XE d 98 71 ls st h Q) := g_cne rfl
theorem s98_66 : XE d 98 66 ls st h Q ↔ XE d 98 68 ls (.int (-1000000005) :: st) h Q := g_const rfl
theorem s98_68 : XE d 98 68 ls st h Q ↔ XE d 98 75 ls st h Q := g_goto rfl
theorem s98_71 : XE d 98 71 (c0 :: c1 :: .val (.int x) :: l) st h Q ↔ XE d 98 72 (c0 :: c1 :: .val (.int x) :: l) (.int x :: st) h Q := g_iload rfl rfl
theorem s98_72 : XE d 98 72 ls st h Q ↔ XE d 98 74 ls (.int 100 :: st) h Q := g_const rfl
theorem s98_74 : XE d 98 74 ls (.int y :: .int x :: st) h Q ↔ (y ≠ 0 ∧ XE d 98 75 ls (.int (x % y) :: st) h Q) := g_rem rfl
theorem s98_75 : XE d 98 75 ls (.int y :: .int x :: .ref a :: st) h Q ↔ XS 0 (h.2.2.1 a) x y (fun e => XE d 98 76 ls st (xset h a e) Q) := g_iast rfl
theorem s98_76 : XE d 98 76 (c0 :: .val (.int x) :: l) st h Q ↔ XE d 98 79 (c0 :: .val (.int (x + 1)) :: l) st h Q := g_iinc rfl rfl rfl
theorem s98_79 : XE d 98 79 ls st h Q ↔ XE d 98 2 ls st h Q := g_goto rfl
theorem s98_82 : XE d 98 82 (.val (.ref a) :: l) st h Q ↔ XE d 98 83 (.val (.ref a) :: l) (.ref a :: st) h Q := g_aload rfl rfl
theorem s98_83 : XE d 98 83 ls (.ref a :: st) h Q ↔ XG [11] 0 (h.2.2.1 a) (fun v => XE d 98 86 ls (v :: st) h Q) := g_getf rfl
theorem s98_86 : XE d 98 86 ls (.ref a :: st) h Q ↔ XG [10] 1 (h.2.2.1 a) (fun v => XE d 98 89 ls (v :: st) h Q) := g_getf rfl
theorem s98_89 : XE d 98 89 (.val (.ref a) :: l) st h Q ↔ XE d 98 90 (.val (.ref a) :: l) (.ref a :: st) h Q := g_aload rfl rfl
theorem s98_90 : XE d 98 90 ls (.ref a :: st) h Q ↔ XG [11] 0 (h.2.2.1 a) (fun v => XE d 98 93 ls (v :: st) h Q) := g_getf rfl
theorem s98_93 : XE d 98 93 ls (.ref a :: st) h Q ↔ (xvo 8 st = true ∧ XV [(10, 74)] (h.2.2.1 a) (fun m' => XC d m' [.ref a] h (fun v h' => XE d 98 96 ls (v.toList ++ st) h' Q))) := h_v0 rfl
theorem s98_96 : XE d 98 96 ls (.int y :: .int x :: st) h Q ↔ XE d 98 97 ls (.int (x - y) :: st) h Q := g_sub rfl
theorem s98_97 : XE d 98 97 ls [.int x] h Q ↔ Q (some (.int x)) h := g_iret rfl
-- 99: TwoBells.unlawful(I)I
theorem e99 : XC (d + 1) 99 [.ref a, .int x] h Q ↔ XE d 99 0 [.val (.ref a), .val (.int x)] [] h Q := XC_in rfl
theorem s99_0 : XE d 99 0 (c0 :: .val (.int x) :: l) st h Q ↔ XE d 99 1 (c0 :: .val (.int x) :: l) (.int x :: st) h Q := g_iload rfl rfl
theorem s99_1 : XE d 99 1 ls (.int x :: st) h Q ↔ xswi d 99 x 44 ls st h Q [(0, 28), (1, 36)] := g_switch rfl
theorem s99_28 : XE d 99 28 (.val (.ref a) :: l) st h Q ↔ XE d 99 29 (.val (.ref a) :: l) (.ref a :: st) h Q := g_aload rfl rfl
theorem s99_29 : XE d 99 29 ls (.ref a :: st) h Q ↔ XG [11] 0 (h.2.2.1 a) (fun v => XE d 99 32 ls (v :: st) h Q) := g_getf rfl
theorem s99_32 : XE d 99 32 ls (.ref a :: st) h Q ↔ (xvo 8 st = true ∧ XV [(10, 74)] (h.2.2.1 a) (fun m' => XC d m' [.ref a] h (fun v h' => XE d 99 35 ls (v.toList ++ st) h' Q))) := h_v0 rfl
theorem s99_35 : XE d 99 35 ls [.int x] h Q ↔ Q (some (.int x)) h := g_iret rfl
theorem s99_36 : XE d 99 36 (.val (.ref a) :: l) st h Q ↔ XE d 99 37 (.val (.ref a) :: l) (.ref a :: st) h Q := g_aload rfl rfl
theorem s99_37 : XE d 99 37 ls (.ref a :: st) h Q ↔ XG [11] 0 (h.2.2.1 a) (fun v => XE d 99 40 ls (v :: st) h Q) := g_getf rfl
theorem s99_40 : XE d 99 40 ls (.ref a :: st) h Q ↔ (xvo 8 st = true ∧ XV [(10, 75)] (h.2.2.1 a) (fun m' => XC d m' [.ref a] h (fun v h' => XE d 99 43 ls (v.toList ++ st) h' Q))) := h_v0 rfl
theorem s99_43 : XE d 99 43 ls [.int x] h Q ↔ Q (some (.int x)) h := g_iret rfl
theorem s99_44 : XE d 99 44 ls st h Q ↔ XE d 99 46 ls (.int (-1000000001) :: st) h Q := g_const rfl
theorem s99_46 : XE d 99 46 ls [.int x] h Q ↔ Q (some (.int x)) h := g_iret rfl
-- 100: TwoBells.worst(I)I
theorem e100 : XC (d + 1) 100 [.ref a, .int x] h Q ↔ XE d 100 0 [.val (.ref a), .val (.int x), .unset, .unset, .unset, .unset] [] h Q := XC_in rfl
theorem s100_0 : XE d 100 0 (c0 :: .val (.int x) :: l) st h Q ↔ XE d 100 1 (c0 :: .val (.int x) :: l) (.int x :: st) h Q := g_iload rfl rfl
theorem s100_1 : XE d 100 1 ls st h Q ↔ XE d 100 2 ls (.int 0 :: st) h Q := g_const rfl
theorem s100_2 : XE d 100 2 ls st h Q ↔ XE d 100 3 ls (.int 2 :: st) h Q := g_const rfl
theorem s100_3 : XE d 100 3 ls (.int z :: .int y :: .int x :: st) h Q ↔ (xvo 8 st = true ∧ XC d 123 [.int x, .int y, .int z] h (fun v h' => XE d 100 6 ls (v.toList ++ st) h' Q)) := h_s3 rfl rfl
theorem s100_6 : XE d 100 6 ls (.int x :: st) h Q ↔ (if x = 0 then XE d 100 9 ls st h Q else XE d 100 12 ls st h Q) := g_ifne rfl
theorem s100_9 : XE d 100 9 ls st h Q ↔ XE d 100 11 ls (.int (-1000000001) :: st) h Q := g_const rfl
theorem s100_11 : XE d 100 11 ls [.int x] h Q ↔ Q (some (.int x)) h := g_iret rfl
theorem s100_12 : XE d 100 12 (.val (.ref a) :: l) st h Q ↔ XE d 100 13 (.val (.ref a) :: l) (.ref a :: st) h Q := g_aload rfl rfl
theorem s100_13 : XE d 100 13 ls (.ref a :: st) h Q ↔ XG [11] 0 (h.2.2.1 a) (fun v => XE d 100 16 ls (v :: st) h Q) := g_getf rfl
theorem s100_16 : XE d 100 16 ls (.ref a :: st) h Q ↔ (xvo 8 st = true ∧ XV [(10, 68)] (h.2.2.1 a) (fun m' => XC d m' [.ref a] h (fun v h' => XE d 100 19 ls (v.toList ++ st) h' Q))) := h_v0 rfl
theorem s100_19 : XE d 100 19 ls st h Q ↔ XE d 100 21 ls (.int (-1000000005) :: st) h Q := g_const rfl
theorem s100_21 : XE d 100 21 (c0 :: c1 :: c2 :: l) (.int x :: st) h Q ↔ XE d 100 22 (c0 :: c1 :: .val (.int x) :: l) st h Q := g_istore (Nat.lt_of_lt_of_le (show 2 < 3 by decide) (Nat.le_add_left 3 _)) rfl rfl
theorem s100_22 : XE d 100 22 ls st h Q ↔ XE d 100 23 ls (.int 0 :: st) h Q := g_const rfl
theorem s100_23 : XE d 100 23 (c0 :: c1 :: c2 :: c3 :: l) (.int x :: st) h Q ↔ XE d 100 24 (c0 :: c1 :: c2 :: .val (.int x) :: l) st h Q := g_istore (Nat.lt_of_lt_of_le (show 3 < 4 by decide) (Nat.le_add_left 4 _)) rfl rfl
theorem s100_24 : XE d 100 24 (c0 :: c1 :: c2 :: .val (.int x) :: l) st h Q ↔ XE d 100 25 (c0 :: c1 :: c2 :: .val (.int x) :: l) (.int x :: st) h Q := g_iload rfl rfl
theorem s100_25 : XE d 100 25 (.val (.ref a) :: l) st h Q ↔ XE d 100 26 (.val (.ref a) :: l) (.ref a :: st) h Q := g_aload rfl rfl
theorem s100_26 : XE d 100 26 ls (.ref a :: st) h Q ↔ XG [11] 0 (h.2.2.1 a) (fun v => XE d 100 29 ls (v :: st) h Q) := g_getf rfl
theorem s100_29 : XE d 100 29 ls (.ref a :: st) h Q ↔ XG [10] 2 (h.2.2.1 a) (fun v => XE d 100 32 ls (v :: st) h Q) := g_getf rfl
theorem s100_32 : XE d 100 32 ls (.int y :: .int x :: st) h Q ↔ (if x < y then XE d 100 35 ls st h Q else XE d 100 134 ls st h Q) := g_cge rfl
theorem s100_35 : XE d 100 35 (.val (.ref a) :: l) st h Q ↔ XE d 100 36 (.val (.ref a) :: l) (.ref a :: st) h Q := g_aload rfl rfl
theorem s100_36 : XE d 100 36 ls (.ref a :: st) h Q ↔ XG [11] 0 (h.2.2.1 a) (fun v => XE d 100 39 ls (v :: st) h Q) := g_getf rfl
theorem s100_39 : XE d 100 39 (c0 :: c1 :: c2 :: .val (.int x) :: l) st h Q ↔ XE d 100 40 (c0 :: c1 :: c2 :: .val (.int x) :: l) (.int x :: st) h Q := g_iload rfl rfl
theorem s100_40 : XE d 100 40 ls (.int x :: .ref a :: st) h Q ↔ (xvo 8 st = true ∧ XV [(10, 54)] (h.2.2.1 a) (fun m' => XC d m' [.ref a, .int x] h (fun v h' => XE d 100 43 ls (v.toList ++ st) h' Q))) := h_v1 rfl rfl
theorem s100_43 : XE d 100 43 (c0 :: c1 :: c2 :: c3 :: c4 :: l) (.ref a :: st) h Q ↔ XE d 100 45 (c0 :: c1 :: c2 :: c3 :: .val (.ref a) :: l) st h Q := g_astore (Nat.lt_of_lt_of_le (show 4 < 5 by decide) (Nat.le_add_left 5 _)) rfl rfl
theorem s100_43n : XE d 100 43 (c0 :: c1 :: c2 :: c3 :: c4 :: l) (.null :: st) h Q ↔ XE d 100 45 (c0 :: c1 :: c2 :: c3 :: .val .null :: l) st h Q := g_astoreN (Nat.lt_of_lt_of_le (show 4 < 5 by decide) (Nat.le_add_left 5 _)) rfl rfl
theorem s100_45 : XE d 100 45 (c0 :: c1 :: c2 :: c3 :: .val (.ref a) :: l) st h Q ↔ XE d 100 47 (c0 :: c1 :: c2 :: c3 :: .val (.ref a) :: l) (.ref a :: st) h Q := g_aload rfl rfl
theorem s100_45n : XE d 100 45 (c0 :: c1 :: c2 :: c3 :: .val .null :: l) st h Q ↔ XE d 100 47 (c0 :: c1 :: c2 :: c3 :: .val .null :: l) (.null :: st) h Q := g_aloadN rfl rfl
theorem s100_47 : XE d 100 47 ls (.ref a :: st) h Q ↔ XE d 100 55 ls st h Q := g_ifnonR rfl
theorem s100_47n : XE d 100 47 ls (.null :: st) h Q ↔ XE d 100 50 ls st h Q := g_ifnonN rfl
theorem s100_50 : XE d 100 50 ls st h Q ↔ XE d 100 52 ls (.int (-1000000005) :: st) h Q := g_const rfl
theorem s100_52 : XE d 100 52 ls st h Q ↔ XE d 100 78 ls st h Q := g_goto rfl
theorem s100_55 : XE d 100 55 (.val (.ref a) :: l) st h Q ↔ XE d 100 56 (.val (.ref a) :: l) (.ref a :: st) h Q := g_aload rfl rfl
theorem s100_56 : XE d 100 56 ls (.ref a :: st) h Q ↔ XG [11] 0 (h.2.2.1 a) (fun v => XE d 100 59 ls (v :: st) h Q) := g_getf rfl
theorem s100_59 : XE d 100 59 (c0 :: c1 :: c2 :: c3 :: .val (.ref a) :: l) st h Q ↔ XE d 100 61 (c0 :: c1 :: c2 :: c3 :: .val (.ref a) :: l) (.ref a :: st) h Q := g_aload rfl rfl
theorem s100_59n : XE d 100 59 (c0 :: c1 :: c2 :: c3 :: .val .null :: l) st h Q ↔ XE d 100 61 (c0 :: c1 :: c2 :: c3 :: .val .null :: l) (.null :: st) h Q := g_aloadN rfl rfl
theorem s100_61 : XE d 100 61 ls (.ref a :: st) h Q ↔ XG [0, 1, 2, 3, 4, 9] 1 (h.2.2.1 a) (fun v => XE d 100 64 ls (v :: st) h Q) := g_getf rfl
theorem s100_64 : XE d 100 64 (.val (.ref a) :: l) st h Q ↔ XE d 100 65 (.val (.ref a) :: l) (.ref a :: st) h Q := g_aload rfl rfl
theorem s100_65 : XE d 100 65 ls (.ref a :: st) h Q ↔ XG [11] 0 (h.2.2.1 a) (fun v => XE d 100 68 ls (v :: st) h Q) := g_getf rfl
theorem s100_68 : XE d 100 68 ls (.ref a :: st) h Q ↔ XG [10] 19 (h.2.2.1 a) (fun v => XE d 100 71 ls (v :: st) h Q) := g_getf rfl
theorem s100_71 : XE d 100 71 (c0 :: c1 :: c2 :: .val (.int x) :: l) st h Q ↔ XE d 100 72 (c0 :: c1 :: c2 :: .val (.int x) :: l) (.int x :: st) h Q := g_iload rfl rfl
theorem s100_72 : XE d 100 72 ls st h Q ↔ XE d 100 74 ls (.int 12 :: st) h Q := g_const rfl
theorem s100_74 : XE d 100 74 ls (.int y :: .int x :: st) h Q ↔ XE d 100 75 ls (.int (x * y) :: st) h Q := g_mul rfl
theorem s100_75 : XE d 100 75 ls (.int y :: .ref b :: .int x :: .ref a :: st) h Q ↔ (xvo 8 st = true ∧ XV [(10, 69)] (h.2.2.1 a) (fun m' => XC d m' [.ref a, .int x, .ref b, .int y] h (fun v h' => XE d 100 78 ls (v.toList ++ st) h' Q))) := h_v3 rfl rfl
theorem s100_78 : XE d 100 78 (c0 :: c1 :: c2 :: c3 :: c4 :: c5 :: l) (.int x :: st) h Q ↔ XE d 100 80 (c0 :: c1 :: c2 :: c3 :: c4 :: .val (.int x) :: l) st h Q := g_istore (Nat.lt_of_lt_of_le (show 5 < 6 by decide) (Nat.le_add_left 6 _)) rfl rfl
theorem s100_80 : XE d 100 80 (c0 :: c1 :: c2 :: c3 :: c4 :: .val (.int x) :: l) st h Q ↔ XE d 100 82 (c0 :: c1 :: c2 :: c3 :: c4 :: .val (.int x) :: l) (.int x :: st) h Q := g_iload rfl rfl
theorem s100_82 : XE d 100 82 ls st h Q ↔ XE d 100 84 ls (.int (-1000000005) :: st) h Q := g_const rfl
theorem s100_84 : XE d 100 84 ls (.int y :: .int x :: st) h Q ↔ (if x = y then XE d 100 128 ls st h Q else XE d 100 87 ls st h Q) := g_ceq rfl
theorem s100_87 : XE d 100 87 (c0 :: c1 :: .val (.int x) :: l) st h Q ↔ XE d 100 88 (c0 :: c1 :: .val (.int x) :: l) (.int x :: st) h Q := g_iload rfl rfl
theorem s100_88 : XE d 100 88 ls st h Q ↔ XE d 100 90 ls (.int (-1000000005) :: st) h Q := g_const rfl
theorem s100_90 : XE d 100 90 ls (.int y :: .int x :: st) h Q ↔ (if x = y then XE d 100 120 ls st h Q else XE d 100 93 ls st h Q) := g_ceq rfl
theorem s100_93 : XE d 100 93 (.val (.ref a) :: l) st h Q ↔ XE d 100 94 (.val (.ref a) :: l) (.ref a :: st) h Q := g_aload rfl rfl
theorem s100_94 : XE d 100 94 ls (.ref a :: st) h Q ↔ XG [11] 0 (h.2.2.1 a) (fun v => XE d 100 97 ls (v :: st) h Q) := g_getf rfl
theorem s100_97 : XE d 100 97 ls (.ref a :: st) h Q ↔ XG [10] 19 (h.2.2.1 a) (fun v => XE d 100 100 ls (v :: st) h Q) := g_getf rfl
theorem s100_100 : XE d 100 100 (c0 :: c1 :: c2 :: .val (.int x) :: l) st h Q ↔ XE d 100 101 (c0 :: c1 :: c2 :: .val (.int x) :: l) (.int x :: st) h Q := g_iload rfl rfl
theorem s100_101 : XE d 100 101 ls st h Q ↔ XE d 100 103 ls (.int 12 :: st) h Q := g_const rfl
theorem s100_103 : XE d 100 103 ls (.int y :: .int x :: st) h Q ↔ XE d 100 104 ls (.int (x * y) :: st) h Q := g_mul rfl
theorem s100_104 : XE d 100 104 (c0 :: c1 :: c2 :: c3 :: c4 :: .val (.int x) :: l) st h Q ↔ XE d 100 106 (c0 :: c1 :: c2 :: c3 :: c4 :: .val (.int x) :: l) (.int x :: st) h Q := g_iload rfl rfl
theorem s100_106 : XE d 100 106 ls (.int y :: .int x :: st) h Q ↔ XE d 100 107 ls (.int (x + y) :: st) h Q := g_add rfl
theorem s100_107 : XE d 100 107 ls (.int x :: .ref a :: st) h Q ↔ XA [0, 7] (h.2.2.1 a) x (fun k => XE d 100 108 ls (.int k :: st) h Q) := g_ald rfl
theorem s100_108 : XE d 100 108 (.val (.ref a) :: l) st h Q ↔ XE d 100 109 (.val (.ref a) :: l) (.ref a :: st) h Q := g_aload rfl rfl
theorem s100_109 : XE d 100 109 ls (.ref a :: st) h Q ↔ XG [11] 0 (h.2.2.1 a) (fun v => XE d 100 112 ls (v :: st) h Q) := g_getf rfl
theorem s100_112 : XE d 100 112 ls (.ref a :: st) h Q ↔ XG [10] 19 (h.2.2.1 a) (fun v => XE d 100 115 ls (v :: st) h Q) := g_getf rfl
theorem s100_115 : XE d 100 115 (c0 :: c1 :: .val (.int x) :: l) st h Q ↔ XE d 100 116 (c0 :: c1 :: .val (.int x) :: l) (.int x :: st) h Q := g_iload rfl rfl
theorem s100_116 : XE d 100 116 ls (.int x :: .ref a :: st) h Q ↔ XA [0, 7] (h.2.2.1 a) x (fun k => XE d 100 117 ls (.int k :: st) h Q) := g_ald rfl
theorem s100_117 : XE d 100 117 ls (.int y :: .int x :: st) h Q ↔ (if y < x then XE d 100 120 ls st h Q else XE d 100 128 ls st h Q) := g_cle rfl
theorem s100_120 : XE d 100 120 (c0 :: c1 :: c2 :: .val (.int x) :: l) st h Q ↔ XE d 100 121 (c0 :: c1 :: c2 :: .val (.int x) :: l) (.int x :: st) h Q := g_iload rfl rfl
theorem s100_121 : XE d 100 121 ls st h Q ↔ XE d 100 123 ls (.int 12 :: st) h Q := g_const rfl
theorem s100_123 : XE d 100 123 ls (.int y :: .int x :: st) h Q ↔ XE d 100 124 ls (.int (x * y) :: st) h Q := g_mul rfl
theorem s100_124 : XE d 100 124 (c0 :: c1 :: c2 :: c3 :: c4 :: .val (.int x) :: l) st h Q ↔ XE d 100 126 (c0 :: c1 :: c2 :: c3 :: c4 :: .val (.int x) :: l) (.int x :: st) h Q := g_iload rfl rfl
theorem s100_126 : XE d 100 126 ls (.int y :: .int x :: st) h Q ↔ XE d 100 127 ls (.int (x + y) :: st) h Q := g_add rfl
theorem s100_127 : XE d 100 127 (c0 :: c1 :: c2 :: l) (.int x :: st) h Q ↔ XE d 100 128 (c0 :: c1 :: .val (.int x) :: l) st h Q := g_istore (Nat.lt_of_lt_of_le (show 2 < 3 by decide) (Nat.le_add_left 3 _)) rfl rfl
theorem s100_128 : XE d 100 128 (c0 :: c1 :: c2 :: .val (.int x) :: l) st h Q ↔ XE d 100 131 (c0 :: c1 :: c2 :: .val (.int (x + 1)) :: l) st h Q := g_iinc rfl rfl rfl
theorem s100_131 : XE d 100 131 ls st h Q ↔ XE d 100 24 ls st h Q := g_goto rfl
theorem s100_134 : XE d 100 134 (c0 :: c1 :: .val (.int x) :: l) st h Q ↔ XE d 100 135 (c0 :: c1 :: .val (.int x) :: l) (.int x :: st) h Q := g_iload rfl rfl
theorem s100_135 : XE d 100 135 ls st h Q ↔ XE d 100 137 ls (.int (-1000000005) :: st) h Q := g_const rfl
theorem s100_137 : XE d 100 137 ls (.int y :: .int x :: st) h Q ↔ (if x = y then XE d 100 140 ls st h Q else XE d 100 143 ls st h Q) := g_cne rfl
theorem s100_140 : XE d 100 140 ls st h Q ↔ XE d 100 142 ls (.int (-1000000005) :: st) h Q := g_const rfl
theorem s100_142 : XE d 100 142 ls [.int x] h Q ↔ Q (some (.int x)) h := g_iret rfl
theorem s100_143 : XE d 100 143 (c0 :: .val (.int x) :: l) st h Q ↔ XE d 100 144 (c0 :: .val (.int x) :: l) (.int x :: st) h Q := g_iload rfl rfl
theorem s100_144 : XE d 100 144 ls (.int x :: st) h Q ↔ xswi d 100 x 182 ls st h Q [(0, 172), (1, 177)] := g_switch rfl
theorem s100_172 : XE d 100 172 (c0 :: c1 :: .val (.int x) :: l) st h Q ↔ XE d 100 173 (c0 :: c1 :: .val (.int x) :: l) (.int x :: st) h Q := g_iload rfl rfl
theorem s100_173 : XE d 100 173 ls st h Q ↔ XE d 100 175 ls (.int 12 :: st) h Q := g_const rfl
theorem s100_175 : XE d 100 175 ls (.int y :: .int x :: st) h Q ↔ (y ≠ 0 ∧ XE d 100 176 ls (.int (x / y) :: st) h Q) := g_div rfl
theorem s100_176 : XE d 100 176 ls [.int x] h Q ↔ Q (some (.int x)) h := g_iret rfl
theorem s100_177 : XE d 100 177 (c0 :: c1 :: .val (.int x) :: l) st h Q ↔ XE d 100 178 (c0 :: c1 :: .val (.int x) :: l) (.int x :: st) h Q := g_iload rfl rfl
theorem s100_178 : XE d 100 178 ls st h Q ↔ XE d 100 180 ls (.int 12 :: st) h Q := g_const rfl
theorem s100_180 : XE d 100 180 ls (.int y :: .int x :: st) h Q ↔ (y ≠ 0 ∧ XE d 100 181 ls (.int (x % y) :: st) h Q) := g_rem rfl
theorem s100_181 : XE d 100 181 ls [.int x] h Q ↔ Q (some (.int x)) h := g_iret rfl
theorem s100_182 : XE d 100 182 (.val (.ref a) :: l) st h Q ↔ XE d 100 183 (.val (.ref a) :: l) (.ref a :: st) h Q := g_aload rfl rfl
theorem s100_183 : XE d 100 183 ls (.ref a :: st) h Q ↔ XG [11] 0 (h.2.2.1 a) (fun v => XE d 100 186 ls (v :: st) h Q) := g_getf rfl
theorem s100_186 : XE d 100 186 ls (.ref a :: st) h Q ↔ XG [10] 19 (h.2.2.1 a) (fun v => XE d 100 189 ls (v :: st) h Q) := g_getf rfl
theorem s100_189 : XE d 100 189 (c0 :: c1 :: .val (.int x) :: l) st h Q ↔ XE d 100 190 (c0 :: c1 :: .val (.int x) :: l) (.int x :: st) h Q := g_iload rfl rfl
theorem s100_190 : XE d 100 190 ls (.int x :: .ref a :: st) h Q ↔ XA [0, 7] (h.2.2.1 a) x (fun k => XE d 100 191 ls (.int k :: st) h Q) := g_ald rfl
theorem s100_191 : XE d 100 191 ls [.int x] h Q ↔ Q (some (.int x)) h := g_iret rfl
-- 101: TwoBells.heard(I)I
theorem e101 : XC (d + 1) 101 [.ref a, .int x] h Q ↔ XE d 101 0 [.val (.ref a), .val (.int x), .unset, .unset] [] h Q := XC_in rfl
theorem s101_0 : XE d 101 0 (c0 :: .val (.int x) :: l) st h Q ↔ XE d 101 1 (c0 :: .val (.int x) :: l) (.int x :: st) h Q := g_iload rfl rfl
theorem s101_1 : XE d 101 1 ls st h Q ↔ XE d 101 2 ls (.int 0 :: st) h Q := g_const rfl
theorem s101_2 : XE d 101 2 ls st h Q ↔ XE d 101 3 ls (.int 1 :: st) h Q := g_const rfl
theorem s101_3 : XE d 101 3 (.val (.ref a) :: l) st h Q ↔ XE d 101 4 (.val (.ref a) :: l) (.ref a :: st) h Q := g_aload rfl rfl
theorem s101_4 : XE d 101 4 ls (.ref a :: st) h Q ↔ XG [11] 0 (h.2.2.1 a) (fun v => XE d 101 7 ls (v :: st) h Q) := g_getf rfl
theorem s101_7 : XE d 101 7 ls (.ref a :: st) h Q ↔ XG [10] 0 (h.2.2.1 a) (fun v => XE d 101 10 ls (v :: st) h Q) := g_getf rfl
theorem s101_10 : XE d 101 10 ls (.int y :: .int x :: st) h Q ↔ XE d 101 11 ls (.int (xshl x y) :: st) h Q := g_shl rfl
theorem s101_11 : XE d 101 11 ls st h Q ↔ XE d 101 12 ls (.int 1 :: st) h Q := g_const rfl
theorem s101_12 : XE d 101 12 ls (.int y :: .int x :: st) h Q ↔ XE d 101 13 ls (.int (x - y) :: st) h Q := g_sub rfl
theorem s101_13 : XE d 101 13 ls (.int z :: .int y :: .int x :: st) h Q ↔ (xvo 8 st = true ∧ XC d 123 [.int x, .int y, .int z] h (fun v h' => XE d 101 16 ls (v.toList ++ st) h' Q)) := h_s3 rfl rfl
theorem s101_16 : XE d 101 16 ls (.int x :: st) h Q ↔ (if x = 0 then XE d 101 19 ls st h Q else XE d 101 22 ls st h Q) := g_ifne rfl
theorem s101_19 : XE d 101 19 ls st h Q ↔ XE d 101 21 ls (.int (-1000000001) :: st) h Q := g_const rfl
theorem s101_21 : XE d 101 21 ls [.int x] h Q ↔ Q (some (.int x)) h := g_iret rfl
theorem s101_22 : XE d 101 22 ls st h Q ↔ XE d 101 23 ls (.int 0 :: st) h Q := g_const rfl
theorem s101_23 : XE d 101 23 (c0 :: c1 :: c2 :: l) (.int x :: st) h Q ↔ XE d 101 24 (c0 :: c1 :: .val (.int x) :: l) st h Q := g_istore (Nat.lt_of_lt_of_le (show 2 < 3 by decide) (Nat.le_add_left 3 _)) rfl rfl
theorem s101_24 : XE d 101 24 ls st h Q ↔ XE d 101 25 ls (.int 0 :: st) h Q := g_const rfl
theorem s101_25 : XE d 101 25 (c0 :: c1 :: c2 :: c3 :: l) (.int x :: st) h Q ↔ XE d 101 26 (c0 :: c1 :: c2 :: .val (.int x) :: l) st h Q := g_istore (Nat.lt_of_lt_of_le (show 3 < 4 by decide) (Nat.le_add_left 4 _)) rfl rfl
theorem s101_26 : XE d 101 26 (c0 :: c1 :: c2 :: .val (.int x) :: l) st h Q ↔ XE d 101 27 (c0 :: c1 :: c2 :: .val (.int x) :: l) (.int x :: st) h Q := g_iload rfl rfl
theorem s101_27 : XE d 101 27 (.val (.ref a) :: l) st h Q ↔ XE d 101 28 (.val (.ref a) :: l) (.ref a :: st) h Q := g_aload rfl rfl
theorem s101_28 : XE d 101 28 ls (.ref a :: st) h Q ↔ XG [11] 0 (h.2.2.1 a) (fun v => XE d 101 31 ls (v :: st) h Q) := g_getf rfl
theorem s101_31 : XE d 101 31 ls (.ref a :: st) h Q ↔ XG [10] 1 (h.2.2.1 a) (fun v => XE d 101 34 ls (v :: st) h Q) := g_getf rfl
theorem s101_34 : XE d 101 34 ls (.int y :: .int x :: st) h Q ↔ (if x < y then XE d 101 37 ls st h Q else XE d 101 62 ls st h Q) := g_cge rfl
theorem s101_37 : XE d 101 37 (.val (.ref a) :: l) st h Q ↔ XE d 101 38 (.val (.ref a) :: l) (.ref a :: st) h Q := g_aload rfl rfl
theorem s101_38 : XE d 101 38 ls (.ref a :: st) h Q ↔ XG [11] 0 (h.2.2.1 a) (fun v => XE d 101 41 ls (v :: st) h Q) := g_getf rfl
theorem s101_41 : XE d 101 41 (c0 :: c1 :: c2 :: .val (.int x) :: l) st h Q ↔ XE d 101 42 (c0 :: c1 :: c2 :: .val (.int x) :: l) (.int x :: st) h Q := g_iload rfl rfl
theorem s101_42 : XE d 101 42 ls (.int x :: .ref a :: st) h Q ↔ (xvo 8 st = true ∧ XV [(10, 62)] (h.2.2.1 a) (fun m' => XC d m' [.ref a, .int x] h (fun v h' => XE d 101 45 ls (v.toList ++ st) h' Q))) := h_v1 rfl rfl
theorem s101_45 : XE d 101 45 (c0 :: .val (.int x) :: l) st h Q ↔ XE d 101 46 (c0 :: .val (.int x) :: l) (.int x :: st) h Q := g_iload rfl rfl
theorem s101_46 : XE d 101 46 ls (.int y :: .int x :: st) h Q ↔ XE d 101 47 ls (.int (x &&& y) :: st) h Q := g_and rfl
theorem s101_47 : XE d 101 47 ls (.int x :: st) h Q ↔ (if x = 0 then XE d 101 56 ls st h Q else XE d 101 50 ls st h Q) := g_ifeq rfl
theorem s101_50 : XE d 101 50 (c0 :: c1 :: .val (.int x) :: l) st h Q ↔ XE d 101 51 (c0 :: c1 :: .val (.int x) :: l) (.int x :: st) h Q := g_iload rfl rfl
theorem s101_51 : XE d 101 51 ls st h Q ↔ XE d 101 52 ls (.int 1 :: st) h Q := g_const rfl
theorem s101_52 : XE d 101 52 (c0 :: c1 :: c2 :: .val (.int x) :: l) st h Q ↔ XE d 101 53 (c0 :: c1 :: c2 :: .val (.int x) :: l) (.int x :: st) h Q := g_iload rfl rfl
theorem s101_53 : XE d 101 53 ls (.int y :: .int x :: st) h Q ↔ XE d 101 54 ls (.int (xshl x y) :: st) h Q := g_shl rfl
theorem s101_54 : XE d 101 54 ls (.int y :: .int x :: st) h Q ↔ XE d 101 55 ls (.int (x ||| y) :: st) h Q := g_or rfl
theorem s101_55 : XE d 101 55 (c0 :: c1 :: c2 :: l) (.int x :: st) h Q ↔ XE d 101 56 (c0 :: c1 :: .val (.int x) :: l) st h Q := g_istore (Nat.lt_of_lt_of_le (show 2 < 3 by decide) (Nat.le_add_left 3 _)) rfl rfl
theorem s101_56 : XE d 101 56 (c0 :: c1 :: c2 :: .val (.int x) :: l) st h Q ↔ XE d 101 59 (c0 :: c1 :: c2 :: .val (.int (x + 1)) :: l) st h Q := g_iinc rfl rfl rfl
theorem s101_59 : XE d 101 59 ls st h Q ↔ XE d 101 26 ls st h Q := g_goto rfl
theorem s101_62 : XE d 101 62 (c0 :: c1 :: .val (.int x) :: l) st h Q ↔ XE d 101 63 (c0 :: c1 :: .val (.int x) :: l) (.int x :: st) h Q := g_iload rfl rfl
theorem s101_63 : XE d 101 63 ls [.int x] h Q ↔ Q (some (.int x)) h := g_iret rfl
-- 102: TwoBells.fewest()I
theorem e102 : XC (d + 1) 102 [.ref a] h Q ↔ XE d 102 0 [.val (.ref a), .unset, .unset] [] h Q := XC_in rfl
theorem s102_0 : XE d 102 0 ls st h Q ↔ XE d 102 1 ls (.int 0 :: st) h Q := g_const rfl
theorem s102_1 : XE d 102 1 (c0 :: c1 :: l) (.int x :: st) h Q ↔ XE d 102 2 (c0 :: .val (.int x) :: l) st h Q := g_istore (Nat.lt_of_lt_of_le (show 1 < 2 by decide) (Nat.le_add_left 2 _)) rfl rfl
theorem s102_2 : XE d 102 2 (c0 :: .val (.int x) :: l) st h Q ↔ XE d 102 3 (c0 :: .val (.int x) :: l) (.int x :: st) h Q := g_iload rfl rfl
theorem s102_3 : XE d 102 3 (.val (.ref a) :: l) st h Q ↔ XE d 102 4 (.val (.ref a) :: l) (.ref a :: st) h Q := g_aload rfl rfl
theorem s102_4 : XE d 102 4 ls (.ref a :: st) h Q ↔ XG [11] 0 (h.2.2.1 a) (fun v => XE d 102 7 ls (v :: st) h Q) := g_getf rfl
theorem s102_7 : XE d 102 7 ls (.ref a :: st) h Q ↔ XG [10] 1 (h.2.2.1 a) (fun v => XE d 102 10 ls (v :: st) h Q) := g_getf rfl
theorem s102_10 : XE d 102 10 ls (.int y :: .int x :: st) h Q ↔ (if x < y then XE d 102 13 ls st h Q else XE d 102 33 ls st h Q) := g_cge rfl
theorem s102_13 : XE d 102 13 (.val (.ref a) :: l) st h Q ↔ XE d 102 14 (.val (.ref a) :: l) (.ref a :: st) h Q := g_aload rfl rfl
theorem s102_14 : XE d 102 14 ls (.ref a :: st) h Q ↔ XG [11] 8 (h.2.2.1 a) (fun v => XE d 102 17 ls (v :: st) h Q) := g_getf rfl
theorem s102_17 : XE d 102 17 (c0 :: .val (.int x) :: l) st h Q ↔ XE d 102 18 (c0 :: .val (.int x) :: l) (.int x :: st) h Q := g_iload rfl rfl
theorem s102_18 : XE d 102 18 (.val (.ref a) :: l) st h Q ↔ XE d 102 19 (.val (.ref a) :: l) (.ref a :: st) h Q := g_aload rfl rfl
theorem s102_19 : XE d 102 19 ls (.ref a :: st) h Q ↔ XG [11] 0 (h.2.2.1 a) (fun v => XE d 102 22 ls (v :: st) h Q) := g_getf rfl
theorem s102_22 : XE d 102 22 (c0 :: .val (.int x) :: l) st h Q ↔ XE d 102 23 (c0 :: .val (.int x) :: l) (.int x :: st) h Q := g_iload rfl rfl
theorem s102_23 : XE d 102 23 ls (.int x :: .ref a :: st) h Q ↔ (xvo 8 st = true ∧ XV [(10, 62)] (h.2.2.1 a) (fun m' => XC d m' [.ref a, .int x] h (fun v h' => XE d 102 26 ls (v.toList ++ st) h' Q))) := h_v1 rfl rfl
theorem s102_26 : XE d 102 26 ls (.int y :: .int x :: .ref a :: st) h Q ↔ XS 0 (h.2.2.1 a) x y (fun e => XE d 102 27 ls st (xset h a e) Q) := g_iast rfl
theorem s102_27 : XE d 102 27 (c0 :: .val (.int x) :: l) st h Q ↔ XE d 102 30 (c0 :: .val (.int (x + 1)) :: l) st h Q := g_iinc rfl rfl rfl
theorem s102_30 : XE d 102 30 ls st h Q ↔ XE d 102 2 ls st h Q := g_goto rfl
theorem s102_33 : XE d 102 33 ls st h Q ↔ XE d 102 34 ls (.int 1 :: st) h Q := g_const rfl
theorem s102_34 : XE d 102 34 (.val (.ref a) :: l) st h Q ↔ XE d 102 35 (.val (.ref a) :: l) (.ref a :: st) h Q := g_aload rfl rfl
theorem s102_35 : XE d 102 35 ls (.ref a :: st) h Q ↔ XG [11] 0 (h.2.2.1 a) (fun v => XE d 102 38 ls (v :: st) h Q) := g_getf rfl
theorem s102_38 : XE d 102 38 ls (.ref a :: st) h Q ↔ XG [10] 0 (h.2.2.1 a) (fun v => XE d 102 41 ls (v :: st) h Q) := g_getf rfl
theorem s102_41 : XE d 102 41 ls (.int y :: .int x :: st) h Q ↔ XE d 102 42 ls (.int (xshl x y) :: st) h Q := g_shl rfl
theorem s102_42 : XE d 102 42 ls st h Q ↔ XE d 102 43 ls (.int 1 :: st) h Q := g_const rfl
theorem s102_43 : XE d 102 43 ls (.int y :: .int x :: st) h Q ↔ XE d 102 44 ls (.int (x - y) :: st) h Q := g_sub rfl
theorem s102_44 : XE d 102 44 (c0 :: c1 :: l) (.int x :: st) h Q ↔ XE d 102 45 (c0 :: .val (.int x) :: l) st h Q := g_istore (Nat.lt_of_lt_of_le (show 1 < 2 by decide) (Nat.le_add_left 2 _)) rfl rfl
theorem s102_45 : XE d 102 45 (c0 :: .val (.int x) :: l) st h Q ↔ XE d 102 46 (c0 :: .val (.int x) :: l) (.int x :: st) h Q := g_iload rfl rfl
theorem s102_46 : XE d 102 46 (c0 :: c1 :: c2 :: l) (.int x :: st) h Q ↔ XE d 102 47 (c0 :: c1 :: .val (.int x) :: l) st h Q := g_istore (Nat.lt_of_lt_of_le (show 2 < 3 by decide) (Nat.le_add_left 3 _)) rfl rfl
theorem s102_47 : XE d 102 47 (c0 :: c1 :: .val (.int x) :: l) st h Q ↔ XE d 102 48 (c0 :: c1 :: .val (.int x) :: l) (.int x :: st) h Q := g_iload rfl rfl
theorem s102_48 : XE d 102 48 ls (.int x :: st) h Q ↔ (if x < 0 then XE d 102 78 ls st h Q else XE d 102 51 ls st h Q) := g_iflt rfl
theorem s102_51 : XE d 102 51 (c0 :: c1 :: .val (.int x) :: l) st h Q ↔ XE d 102 52 (c0 :: c1 :: .val (.int x) :: l) (.int x :: st) h Q := g_iload rfl rfl
theorem s102_52 : XE d 102 52 ls (.int x :: st) h Q ↔ (xvo 8 st = true ∧ XC d 226 [.int x] h (fun v h' => XE d 102 55 ls (v.toList ++ st) h' Q)) := h_s1 rfl rfl
theorem s102_55 : XE d 102 55 (c0 :: .val (.int x) :: l) st h Q ↔ XE d 102 56 (c0 :: .val (.int x) :: l) (.int x :: st) h Q := g_iload rfl rfl
theorem s102_56 : XE d 102 56 ls (.int x :: st) h Q ↔ (xvo 8 st = true ∧ XC d 226 [.int x] h (fun v h' => XE d 102 59 ls (v.toList ++ st) h' Q)) := h_s1 rfl rfl
theorem s102_59 : XE d 102 59 ls (.int y :: .int x :: st) h Q ↔ (if y < x then XE d 102 72 ls st h Q else XE d 102 62 ls st h Q) := g_cgt rfl
theorem s102_62 : XE d 102 62 (.val (.ref a) :: l) st h Q ↔ XE d 102 63 (.val (.ref a) :: l) (.ref a :: st) h Q := g_aload rfl rfl
theorem s102_63 : XE d 102 63 (c0 :: c1 :: .val (.int x) :: l) st h Q ↔ XE d 102 64 (c0 :: c1 :: .val (.int x) :: l) (.int x :: st) h Q := g_iload rfl rfl
theorem s102_64 : XE d 102 64 ls (.int x :: .ref a :: st) h Q ↔ (xvo 8 st = true ∧ XV [(11, 128)] (h.2.2.1 a) (fun m' => XC d m' [.ref a, .int x] h (fun v h' => XE d 102 67 ls (v.toList ++ st) h' Q))) := h_v1 rfl rfl
theorem s102_67 : XE d 102 67 ls (.int x :: st) h Q ↔ (if x = 0 then XE d 102 72 ls st h Q else XE d 102 70 ls st h Q) := g_ifeq rfl
theorem s102_70 : XE d 102 70 (c0 :: c1 :: .val (.int x) :: l) st h Q ↔ XE d 102 71 (c0 :: c1 :: .val (.int x) :: l) (.int x :: st) h Q := g_iload rfl rfl
theorem s102_71 : XE d 102 71 (c0 :: c1 :: l) (.int x :: st) h Q ↔ XE d 102 72 (c0 :: .val (.int x) :: l) st h Q := g_istore (Nat.lt_of_lt_of_le (show 1 < 2 by decide) (Nat.le_add_left 2 _)) rfl rfl
theorem s102_72 : XE d 102 72 (c0 :: c1 :: .val (.int x) :: l) st h Q ↔ XE d 102 75 (c0 :: c1 :: .val (.int (x + (-1))) :: l) st h Q := g_iinc rfl rfl rfl
theorem s102_75 : XE d 102 75 ls st h Q ↔ XE d 102 47 ls st h Q := g_goto rfl
theorem s102_78 : XE d 102 78 (c0 :: .val (.int x) :: l) st h Q ↔ XE d 102 79 (c0 :: .val (.int x) :: l) (.int x :: st) h Q := g_iload rfl rfl
theorem s102_79 : XE d 102 79 ls [.int x] h Q ↔ Q (some (.int x)) h := g_iret rfl
-- 103: TwoBells.alike()I
theorem e103 : XC (d + 1) 103 [.ref a] h Q ↔ XE d 103 0 [.val (.ref a), .unset, .unset, .unset] [] h Q := XC_in rfl
theorem s103_0 : XE d 103 0 ls st h Q ↔ XE d 103 1 ls (.int 0 :: st) h Q := g_const rfl
theorem s103_1 : XE d 103 1 (c0 :: c1 :: l) (.int x :: st) h Q ↔ XE d 103 2 (c0 :: .val (.int x) :: l) st h Q := g_istore (Nat.lt_of_lt_of_le (show 1 < 2 by decide) (Nat.le_add_left 2 _)) rfl rfl
theorem s103_2 : XE d 103 2 ls st h Q ↔ XE d 103 3 ls (.int 0 :: st) h Q := g_const rfl
theorem s103_3 : XE d 103 3 (c0 :: c1 :: c2 :: l) (.int x :: st) h Q ↔ XE d 103 4 (c0 :: c1 :: .val (.int x) :: l) st h Q := g_istore (Nat.lt_of_lt_of_le (show 2 < 3 by decide) (Nat.le_add_left 3 _)) rfl rfl
theorem s103_4 : XE d 103 4 (c0 :: c1 :: .val (.int x) :: l) st h Q ↔ XE d 103 5 (c0 :: c1 :: .val (.int x) :: l) (.int x :: st) h Q := g_iload rfl rfl
theorem s103_5 : XE d 103 5 (.val (.ref a) :: l) st h Q ↔ XE d 103 6 (.val (.ref a) :: l) (.ref a :: st) h Q := g_aload rfl rfl
theorem s103_6 : XE d 103 6 ls (.ref a :: st) h Q ↔ XG [11] 0 (h.2.2.1 a) (fun v => XE d 103 9 ls (v :: st) h Q) := g_getf rfl
theorem s103_9 : XE d 103 9 ls (.ref a :: st) h Q ↔ XG [10] 1 (h.2.2.1 a) (fun v => XE d 103 12 ls (v :: st) h Q) := g_getf rfl
theorem s103_12 : XE d 103 12 ls (.int y :: .int x :: st) h Q ↔ (if x < y then XE d 103 15 ls st h Q else XE d 103 64 ls st h Q) := g_cge rfl
theorem s103_15 : XE d 103 15 (c0 :: c1 :: .val (.int x) :: l) st h Q ↔ XE d 103 16 (c0 :: c1 :: .val (.int x) :: l) (.int x :: st) h Q := g_iload rfl rfl
theorem s103_16 : XE d 103 16 ls st h Q ↔ XE d 103 17 ls (.int 1 :: st) h Q := g_const rfl
theorem s103_17 : XE d 103 17 ls (.int y :: .int x :: st) h Q ↔ XE d 103 18 ls (.int (x + y) :: st) h Q := g_add rfl
theorem s103_18 : XE d 103 18 (c0 :: c1 :: c2 :: c3 :: l) (.int x :: st) h Q ↔ XE d 103 19 (c0 :: c1 :: c2 :: .val (.int x) :: l) st h Q := g_istore (Nat.lt_of_lt_of_le (show 3 < 4 by decide) (Nat.le_add_left 4 _)) rfl rfl
theorem s103_19 : XE d 103 19 (c0 :: c1 :: c2 :: .val (.int x) :: l) st h Q ↔ XE d 103 20 (c0 :: c1 :: c2 :: .val (.int x) :: l) (.int x :: st) h Q := g_iload rfl rfl
theorem s103_20 : XE d 103 20 (.val (.ref a) :: l) st h Q ↔ XE d 103 21 (.val (.ref a) :: l) (.ref a :: st) h Q := g_aload rfl rfl
theorem s103_21 : XE d 103 21 ls (.ref a :: st) h Q ↔ XG [11] 0 (h.2.2.1 a) (fun v => XE d 103 24 ls (v :: st) h Q) := g_getf rfl
theorem s103_24 : XE d 103 24 ls (.ref a :: st) h Q ↔ XG [10] 1 (h.2.2.1 a) (fun v => XE d 103 27 ls (v :: st) h Q) := g_getf rfl
theorem s103_27 : XE d 103 27 ls (.int y :: .int x :: st) h Q ↔ (if x < y then XE d 103 30 ls st h Q else XE d 103 58 ls st h Q) := g_cge rfl
theorem s103_30 : XE d 103 30 (.val (.ref a) :: l) st h Q ↔ XE d 103 31 (.val (.ref a) :: l) (.ref a :: st) h Q := g_aload rfl rfl
theorem s103_31 : XE d 103 31 ls (.ref a :: st) h Q ↔ XG [11] 0 (h.2.2.1 a) (fun v => XE d 103 34 ls (v :: st) h Q) := g_getf rfl
theorem s103_34 : XE d 103 34 (c0 :: c1 :: .val (.int x) :: l) st h Q ↔ XE d 103 35 (c0 :: c1 :: .val (.int x) :: l) (.int x :: st) h Q := g_iload rfl rfl
theorem s103_35 : XE d 103 35 ls (.int x :: .ref a :: st) h Q ↔ (xvo 8 st = true ∧ XV [(10, 62)] (h.2.2.1 a) (fun m' => XC d m' [.ref a, .int x] h (fun v h' => XE d 103 38 ls (v.toList ++ st) h' Q))) := h_v1 rfl rfl
theorem s103_38 : XE d 103 38 (.val (.ref a) :: l) st h Q ↔ XE d 103 39 (.val (.ref a) :: l) (.ref a :: st) h Q := g_aload rfl rfl
theorem s103_39 : XE d 103 39 ls (.ref a :: st) h Q ↔ XG [11] 0 (h.2.2.1 a) (fun v => XE d 103 42 ls (v :: st) h Q) := g_getf rfl
theorem s103_42 : XE d 103 42 (c0 :: c1 :: c2 :: .val (.int x) :: l) st h Q ↔ XE d 103 43 (c0 :: c1 :: c2 :: .val (.int x) :: l) (.int x :: st) h Q := g_iload rfl rfl
theorem s103_43 : XE d 103 43 ls (.int x :: .ref a :: st) h Q ↔ (xvo 8 st = true ∧ XV [(10, 62)] (h.2.2.1 a) (fun m' => XC d m' [.ref a, .int x] h (fun v h' => XE d 103 46 ls (v.toList ++ st) h' Q))) := h_v1 rfl rfl
theorem s103_46 : XE d 103 46 ls (.int y :: .int x :: st) h Q ↔ (if x = y then XE d 103 49 ls st h Q else XE d 103 52 ls st h Q) := g_cne rfl
theorem s103_49 : XE d 103 49 (c0 :: .val (.int x) :: l) st h Q ↔ XE d 103 52 (c0 :: .val (.int (x + 1)) :: l) st h Q := g_iinc rfl rfl rfl
theorem s103_52 : XE d 103 52 (c0 :: c1 :: c2 :: .val (.int x) :: l) st h Q ↔ XE d 103 55 (c0 :: c1 :: c2 :: .val (.int (x + 1)) :: l) st h Q := g_iinc rfl rfl rfl
theorem s103_55 : XE d 103 55 ls st h Q ↔ XE d 103 19 ls st h Q := g_goto rfl
theorem s103_58 : XE d 103 58 (c0 :: c1 :: .val (.int x) :: l) st h Q ↔ XE d 103 61 (c0 :: c1 :: .val (.int (x + 1)) :: l) st h Q := g_iinc rfl rfl rfl
theorem s103_61 : XE d 103 61 ls st h Q ↔ XE d 103 4 ls st h Q := g_goto rfl
theorem s103_64 : XE d 103 64 (c0 :: .val (.int x) :: l) st h Q ↔ XE d 103 65 (c0 :: .val (.int x) :: l) (.int x :: st) h Q := g_iload rfl rfl
theorem s103_65 : XE d 103 65 ls [.int x] h Q ↔ Q (some (.int x)) h := g_iret rfl
-- 104: TwoBells.feed(III)I
theorem e104 : XC (d + 1) 104 [.ref a, .int x, .int y, .int z] h Q ↔ XE d 104 0 [.val (.ref a), .val (.int x), .val (.int y), .val (.int z)] [] h Q := XC_in rfl
theorem s104_0 : XE d 104 0 (.val (.ref a) :: l) st h Q ↔ XE d 104 1 (.val (.ref a) :: l) (.ref a :: st) h Q := g_aload rfl rfl
theorem s104_1 : XE d 104 1 ls (.ref a :: st) h Q ↔ XG [11] 3 (h.2.2.1 a) (fun v => XE d 104 4 ls (v :: st) h Q) := g_getf rfl
theorem s104_4 : XE d 104 4 ls (.ref a :: st) h Q ↔ XG [7] 0 (h.2.2.1 a) (fun v => XE d 104 7 ls (v :: st) h Q) := g_getf rfl
theorem s104_7 : XE d 104 7 ls st h Q ↔ XE d 104 9 ls (.int 84 :: st) h Q := g_const rfl
theorem s104_9 : XE d 104 9 ls (.int y :: .int x :: st) h Q ↔ (if y < x then XE d 104 12 ls st h Q else XE d 104 15 ls st h Q) := g_cle rfl
theorem s104_12 : XE d 104 12 ls st h Q ↔ XE d 104 14 ls (.int (-1000000003) :: st) h Q := g_const rfl
theorem s104_14 : XE d 104 14 ls [.int x] h Q ↔ Q (some (.int x)) h := g_iret rfl
theorem s104_15 : XE d 104 15 (.val (.ref a) :: l) st h Q ↔ XE d 104 16 (.val (.ref a) :: l) (.ref a :: st) h Q := g_aload rfl rfl
theorem s104_16 : XE d 104 16 ls (.ref a :: st) h Q ↔ XG [11] 3 (h.2.2.1 a) (fun v => XE d 104 19 ls (v :: st) h Q) := g_getf rfl
theorem s104_19 : XE d 104 19 (c0 :: .val (.int x) :: l) st h Q ↔ XE d 104 20 (c0 :: .val (.int x) :: l) (.int x :: st) h Q := g_iload rfl rfl
theorem s104_20 : XE d 104 20 ls (.int x :: .ref a :: st) h Q ↔ (xvo 8 st = true ∧ XV [(7, 21)] (h.2.2.1 a) (fun m' => XC d m' [.ref a, .int x] h (fun v h' => XE d 104 23 ls (v.toList ++ st) h' Q))) := h_v1 rfl rfl
theorem s104_23 : XE d 104 23 (.val (.ref a) :: l) st h Q ↔ XE d 104 24 (.val (.ref a) :: l) (.ref a :: st) h Q := g_aload rfl rfl
theorem s104_24 : XE d 104 24 ls (.ref a :: st) h Q ↔ XG [11] 3 (h.2.2.1 a) (fun v => XE d 104 27 ls (v :: st) h Q) := g_getf rfl
theorem s104_27 : XE d 104 27 (c0 :: c1 :: .val (.int x) :: l) st h Q ↔ XE d 104 28 (c0 :: c1 :: .val (.int x) :: l) (.int x :: st) h Q := g_iload rfl rfl
theorem s104_28 : XE d 104 28 ls (.int x :: .ref a :: st) h Q ↔ (xvo 8 st = true ∧ XV [(7, 21)] (h.2.2.1 a) (fun m' => XC d m' [.ref a, .int x] h (fun v h' => XE d 104 31 ls (v.toList ++ st) h' Q))) := h_v1 rfl rfl
theorem s104_31 : XE d 104 31 (.val (.ref a) :: l) st h Q ↔ XE d 104 32 (.val (.ref a) :: l) (.ref a :: st) h Q := g_aload rfl rfl
theorem s104_32 : XE d 104 32 ls (.ref a :: st) h Q ↔ XG [11] 3 (h.2.2.1 a) (fun v => XE d 104 35 ls (v :: st) h Q) := g_getf rfl
theorem s104_35 : XE d 104 35 (c0 :: c1 :: c2 :: .val (.int x) :: l) st h Q ↔ XE d 104 36 (c0 :: c1 :: c2 :: .val (.int x) :: l) (.int x :: st) h Q := g_iload rfl rfl
theorem s104_36 : XE d 104 36 ls (.int x :: .ref a :: st) h Q ↔ (xvo 8 st = true ∧ XV [(7, 21)] (h.2.2.1 a) (fun m' => XC d m' [.ref a, .int x] h (fun v h' => XE d 104 39 ls (v.toList ++ st) h' Q))) := h_v1 rfl rfl
theorem s104_39 : XE d 104 39 (.val (.ref a) :: l) st h Q ↔ XE d 104 40 (.val (.ref a) :: l) (.ref a :: st) h Q := g_aload rfl rfl
theorem s104_40 : XE d 104 40 ls (.ref a :: st) h Q ↔ XG [11] 3 (h.2.2.1 a) (fun v => XE d 104 43 ls (v :: st) h Q) := g_getf rfl
theorem s104_43 : XE d 104 43 ls (.ref a :: st) h Q ↔ XG [7] 0 (h.2.2.1 a) (fun v => XE d 104 46 ls (v :: st) h Q) := g_getf rfl
theorem s104_46 : XE d 104 46 ls [.int x] h Q ↔ Q (some (.int x)) h := g_iret rfl
-- 105: TwoBells.trim(I)I
theorem e105 : XC (d + 1) 105 [.ref a, .int x] h Q ↔ XE d 105 0 [.val (.ref a), .val (.int x)] [] h Q := XC_in rfl
theorem s105_0 : XE d 105 0 (c0 :: .val (.int x) :: l) st h Q ↔ XE d 105 1 (c0 :: .val (.int x) :: l) (.int x :: st) h Q := g_iload rfl rfl
theorem s105_1 : XE d 105 1 ls st h Q ↔ XE d 105 2 ls (.int 0 :: st) h Q := g_const rfl
theorem s105_2 : XE d 105 2 (.val (.ref a) :: l) st h Q ↔ XE d 105 3 (.val (.ref a) :: l) (.ref a :: st) h Q := g_aload rfl rfl
theorem s105_3 : XE d 105 3 ls (.ref a :: st) h Q ↔ XG [11] 3 (h.2.2.1 a) (fun v => XE d 105 6 ls (v :: st) h Q) := g_getf rfl
theorem s105_6 : XE d 105 6 ls (.ref a :: st) h Q ↔ XG [7] 0 (h.2.2.1 a) (fun v => XE d 105 9 ls (v :: st) h Q) := g_getf rfl
theorem s105_9 : XE d 105 9 ls (.int z :: .int y :: .int x :: st) h Q ↔ (xvo 8 st = true ∧ XC d 123 [.int x, .int y, .int z] h (fun v h' => XE d 105 12 ls (v.toList ++ st) h' Q)) := h_s3 rfl rfl
theorem s105_12 : XE d 105 12 ls (.int x :: st) h Q ↔ (if x = 0 then XE d 105 15 ls st h Q else XE d 105 18 ls st h Q) := g_ifne rfl
theorem s105_15 : XE d 105 15 ls st h Q ↔ XE d 105 17 ls (.int (-1000000001) :: st) h Q := g_const rfl
theorem s105_17 : XE d 105 17 ls [.int x] h Q ↔ Q (some (.int x)) h := g_iret rfl
theorem s105_18 : XE d 105 18 (.val (.ref a) :: l) st h Q ↔ XE d 105 19 (.val (.ref a) :: l) (.ref a :: st) h Q := g_aload rfl rfl
theorem s105_19 : XE d 105 19 ls (.ref a :: st) h Q ↔ XG [11] 3 (h.2.2.1 a) (fun v => XE d 105 22 ls (v :: st) h Q) := g_getf rfl
theorem s105_22 : XE d 105 22 (c0 :: .val (.int x) :: l) st h Q ↔ XE d 105 23 (c0 :: .val (.int x) :: l) (.int x :: st) h Q := g_iload rfl rfl
theorem s105_23 : XE d 105 23 ls (.int x :: .ref a :: st) h Q ↔ XP [7] 0 (.int x) (h.2.2.1 a) (fun e => XE d 105 26 ls st (xset h a e) Q) := g_puti rfl
theorem s105_26 : XE d 105 26 (c0 :: .val (.int x) :: l) st h Q ↔ XE d 105 27 (c0 :: .val (.int x) :: l) (.int x :: st) h Q := g_iload rfl rfl
theorem s105_27 : XE d 105 27 ls [.int x] h Q ↔ Q (some (.int x)) h := g_iret rfl
-- 106: TwoBells.text()I
theorem e106 : XC (d + 1) 106 [.ref a] h Q ↔ XE d 106 0 [.val (.ref a), .unset] [] h Q := XC_in rfl
theorem s106_0 : XE d 106 0 (.val (.ref a) :: l) st h Q ↔ XE d 106 1 (.val (.ref a) :: l) (.ref a :: st) h Q := g_aload rfl rfl
theorem s106_1 : XE d 106 1 ls (.ref a :: st) h Q ↔ XG [11] 3 (h.2.2.1 a) (fun v => XE d 106 4 ls (v :: st) h Q) := g_getf rfl
theorem s106_4 : XE d 106 4 ls (.ref a :: st) h Q ↔ (xvo 8 st = true ∧ XV [(7, 22)] (h.2.2.1 a) (fun m' => XC d m' [.ref a] h (fun v h' => XE d 106 7 ls (v.toList ++ st) h' Q))) := h_v0 rfl
theorem s106_7 : XE d 106 7 (c0 :: c1 :: l) (.int x :: st) h Q ↔ XE d 106 8 (c0 :: .val (.int x) :: l) st h Q := g_istore (Nat.lt_of_lt_of_le (show 1 < 2 by decide) (Nat.le_add_left 2 _)) rfl rfl
theorem s106_8 : XE d 106 8 (.val (.ref a) :: l) st h Q ↔ XE d 106 9 (.val (.ref a) :: l) (.ref a :: st) h Q := g_aload rfl rfl
theorem s106_9 : XE d 106 9 ls (.ref a :: st) h Q ↔ XG [11] 3 (h.2.2.1 a) (fun v => XE d 106 12 ls (v :: st) h Q) := g_getf rfl
theorem s106_12 : XE d 106 12 ls st h Q ↔ XE d 106 13 ls (.int 0 :: st) h Q := g_const rfl
theorem s106_13 : XE d 106 13 ls (.int x :: .ref a :: st) h Q ↔ XP [7] 0 (.int x) (h.2.2.1 a) (fun e => XE d 106 16 ls st (xset h a e) Q) := g_puti rfl
theorem s106_16 : XE d 106 16 (c0 :: .val (.int x) :: l) st h Q ↔ XE d 106 17 (c0 :: .val (.int x) :: l) (.int x :: st) h Q := g_iload rfl rfl
theorem s106_17 : XE d 106 17 ls st h Q ↔ XE d 106 19 ls (.int (-1000000005) :: st) h Q := g_const rfl
theorem s106_19 : XE d 106 19 ls (.int y :: .int x :: st) h Q ↔ (if x = y then XE d 106 27 ls st h Q else XE d 106 22 ls st h Q) := g_ceq rfl
theorem s106_22 : XE d 106 22 ls st h Q ↔ XE d 106 24 ls (.int (-100) :: st) h Q := g_const rfl
theorem s106_24 : XE d 106 24 (c0 :: .val (.int x) :: l) st h Q ↔ XE d 106 25 (c0 :: .val (.int x) :: l) (.int x :: st) h Q := g_iload rfl rfl
theorem s106_25 : XE d 106 25 ls (.int y :: .int x :: st) h Q ↔ XE d 106 26 ls (.int (x - y) :: st) h Q := g_sub rfl
theorem s106_26 : XE d 106 26 ls [.int x] h Q ↔ Q (some (.int x)) h := g_iret rfl
theorem s106_27 : XE d 106 27 (.val (.ref a) :: l) st h Q ↔ XE d 106 28 (.val (.ref a) :: l) (.ref a :: st) h Q := g_aload rfl rfl
theorem s106_28 : XE d 106 28 ls (.ref a :: st) h Q ↔ XG [11] 0 (h.2.2.1 a) (fun v => XE d 106 31 ls (v :: st) h Q) := g_getf rfl
theorem s106_31 : XE d 106 31 ls (.ref a :: st) h Q ↔ XG [10] 3 (h.2.2.1 a) (fun v => XE d 106 34 ls (v :: st) h Q) := g_getf rfl
theorem s106_34 : XE d 106 34 ls st h Q ↔ XE d 106 36 ls (.int 14 :: st) h Q := g_const rfl
theorem s106_36 : XE d 106 36 ls (.int y :: .int x :: st) h Q ↔ (if x < y then XE d 106 42 ls st h Q else XE d 106 39 ls st h Q) := g_clt rfl
theorem s106_39 : XE d 106 39 ls st h Q ↔ XE d 106 41 ls (.int (-1000000003) :: st) h Q := g_const rfl
theorem s106_41 : XE d 106 41 ls [.int x] h Q ↔ Q (some (.int x)) h := g_iret rfl
theorem s106_42 : XE d 106 42 (.val (.ref a) :: l) st h Q ↔ XE d 106 43 (.val (.ref a) :: l) (.ref a :: st) h Q := g_aload rfl rfl
theorem s106_43 : XE d 106 43 ls (.ref a :: st) h Q ↔ XG [11] 0 (h.2.2.1 a) (fun v => XE d 106 46 ls (v :: st) h Q) := g_getf rfl
theorem s106_46 : XE d 106 46 ls (.ref a :: st) h Q ↔ XG [10] 16 (h.2.2.1 a) (fun v => XE d 106 49 ls (v :: st) h Q) := g_getf rfl
theorem s106_49 : XE d 106 49 (.val (.ref a) :: l) st h Q ↔ XE d 106 50 (.val (.ref a) :: l) (.ref a :: st) h Q := g_aload rfl rfl
theorem s106_50 : XE d 106 50 ls (.ref a :: st) h Q ↔ XG [11] 0 (h.2.2.1 a) (fun v => XE d 106 53 ls (v :: st) h Q) := g_getf rfl
theorem s106_53 : XE d 106 53 ls (.ref a :: st) h Q ↔ XG [10] 3 (h.2.2.1 a) (fun v => XE d 106 56 ls (v :: st) h Q) := g_getf rfl
theorem s106_56 : XE d 106 56 (.val (.ref a) :: l) st h Q ↔ XE d 106 57 (.val (.ref a) :: l) (.ref a :: st) h Q := g_aload rfl rfl
theorem s106_57 : XE d 106 57 ls (.ref a :: st) h Q ↔ XG [11] 3 (h.2.2.1 a) (fun v => XE d 106 60 ls (v :: st) h Q) := g_getf rfl
theorem s106_60 : XE d 106 60 ls (.ref a :: st) h Q ↔ (xvo 8 st = true ∧ XV [(7, 23)] (h.2.2.1 a) (fun m' => XC d m' [.ref a] h (fun v h' => XE d 106 63 ls (v.toList ++ st) h' Q))) := h_v0 rfl
theorem s106_63 : XE d 106 63 ls (.ref b :: .int x :: .ref a :: st) h Q ↔ XSr 5 [8] (h.2.2.1 a) x b (h.2.2.1 b) (fun e => XE d 106 64 ls st (xset h a e) Q) := g_aastR rfl
theorem s106_63n : XE d 106 63 ls (.null :: .int x :: .ref a :: st) h Q ↔ XSn 5 (h.2.2.1 a) x (fun e => XE d 106 64 ls st (xset h a e) Q) := g_aastN rfl
theorem s106_64 : XE d 106 64 (.val (.ref a) :: l) st h Q ↔ XE d 106 65 (.val (.ref a) :: l) (.ref a :: st) h Q := g_aload rfl rfl
theorem s106_65 : XE d 106 65 ls (.ref a :: st) h Q ↔ XG [11] 0 (h.2.2.1 a) (fun v => XE d 106 68 ls (v :: st) h Q) := g_getf rfl
theorem s106_68 : XE d 106 68 ls (.int x :: st) h Q ↔ XE d 106 69 ls (.int x :: .int x :: st) h Q := g_dupI rfl
theorem s106_68r : XE d 106 68 ls (.ref a :: st) h Q ↔ XE d 106 69 ls (.ref a :: .ref a :: st) h Q := g_dupR rfl
theorem s106_69 : XE d 106 69 ls (.ref a :: st) h Q ↔ XG [10] 3 (h.2.2.1 a) (fun v => XE d 106 72 ls (v :: st) h Q) := g_getf rfl
theorem s106_72 : XE d 106 72 ls st h Q ↔ XE d 106 73 ls (.int 1 :: st) h Q := g_const rfl
theorem s106_73 : XE d 106 73 ls (.int y :: .int x :: st) h Q ↔ XE d 106 74 ls (.int (x + y) :: st) h Q := g_add rfl
theorem s106_74 : XE d 106 74 ls (.int x :: .ref a :: st) h Q ↔ XP [10] 3 (.int x) (h.2.2.1 a) (fun e => XE d 106 77 ls st (xset h a e) Q) := g_puti rfl
theorem s106_77 : XE d 106 77 (.val (.ref a) :: l) st h Q ↔ XE d 106 78 (.val (.ref a) :: l) (.ref a :: st) h Q := g_aload rfl rfl
theorem s106_78 : XE d 106 78 ls (.ref a :: st) h Q ↔ XG [11] 0 (h.2.2.1 a) (fun v => XE d 106 81 ls (v :: st) h Q) := g_getf rfl
theorem s106_81 : XE d 106 81 ls (.ref a :: st) h Q ↔ XG [10] 3 (h.2.2.1 a) (fun v => XE d 106 84 ls (v :: st) h Q) := g_getf rfl
theorem s106_84 : XE d 106 84 ls st h Q ↔ XE d 106 85 ls (.int 1 :: st) h Q := g_const rfl
theorem s106_85 : XE d 106 85 ls (.int y :: .int x :: st) h Q ↔ XE d 106 86 ls (.int (x - y) :: st) h Q := g_sub rfl
theorem s106_86 : XE d 106 86 ls [.int x] h Q ↔ Q (some (.int x)) h := g_iret rfl
-- 107: TwoBells.textTold(II)I
theorem e107 : XC (d + 1) 107 [.ref a, .int x, .int y] h Q ↔ XE d 107 0 [.val (.ref a), .val (.int x), .val (.int y), .unset] [] h Q := XC_in rfl
theorem s107_0 : XE d 107 0 (.val (.ref a) :: l) st h Q ↔ XE d 107 1 (.val (.ref a) :: l) (.ref a :: st) h Q := g_aload rfl rfl
theorem s107_1 : XE d 107 1 ls (.ref a :: st) h Q ↔ XG [11] 0 (h.2.2.1 a) (fun v => XE d 107 4 ls (v :: st) h Q) := g_getf rfl
theorem s107_4 : XE d 107 4 (c0 :: .val (.int x) :: l) st h Q ↔ XE d 107 5 (c0 :: .val (.int x) :: l) (.int x :: st) h Q := g_iload rfl rfl
theorem s107_5 : XE d 107 5 ls (.int x :: .ref a :: st) h Q ↔ (xvo 8 st = true ∧ XV [(10, 55)] (h.2.2.1 a) (fun m' => XC d m' [.ref a, .int x] h (fun v h' => XE d 107 8 ls (v.toList ++ st) h' Q))) := h_v1 rfl rfl
theorem s107_8 : XE d 107 8 (c0 :: c1 :: c2 :: c3 :: l) (.ref a :: st) h Q ↔ XE d 107 9 (c0 :: c1 :: c2 :: .val (.ref a) :: l) st h Q := g_astore (Nat.lt_of_lt_of_le (show 3 < 4 by decide) (Nat.le_add_left 4 _)) rfl rfl
theorem s107_8n : XE d 107 8 (c0 :: c1 :: c2 :: c3 :: l) (.null :: st) h Q ↔ XE d 107 9 (c0 :: c1 :: c2 :: .val .null :: l) st h Q := g_astoreN (Nat.lt_of_lt_of_le (show 3 < 4 by decide) (Nat.le_add_left 4 _)) rfl rfl
theorem s107_9 : XE d 107 9 (c0 :: c1 :: c2 :: .val (.ref a) :: l) st h Q ↔ XE d 107 10 (c0 :: c1 :: c2 :: .val (.ref a) :: l) (.ref a :: st) h Q := g_aload rfl rfl
theorem s107_9n : XE d 107 9 (c0 :: c1 :: c2 :: .val .null :: l) st h Q ↔ XE d 107 10 (c0 :: c1 :: c2 :: .val .null :: l) (.null :: st) h Q := g_aloadN rfl rfl
theorem s107_10 : XE d 107 10 ls (.ref a :: st) h Q ↔ XE d 107 16 ls st h Q := g_ifnonR rfl
theorem s107_10n : XE d 107 10 ls (.null :: st) h Q ↔ XE d 107 13 ls st h Q := g_ifnonN rfl
theorem s107_13 : XE d 107 13 ls st h Q ↔ XE d 107 15 ls (.int (-1000000001) :: st) h Q := g_const rfl
theorem s107_15 : XE d 107 15 ls [.int x] h Q ↔ Q (some (.int x)) h := g_iret rfl
theorem s107_16 : XE d 107 16 (c0 :: c1 :: .val (.int x) :: l) st h Q ↔ XE d 107 17 (c0 :: c1 :: .val (.int x) :: l) (.int x :: st) h Q := g_iload rfl rfl
theorem s107_17 : XE d 107 17 ls (.int x :: st) h Q ↔ xswi d 107 x 54 ls st h Q [(0, 44), (1, 49)] := g_switch rfl
theorem s107_44 : XE d 107 44 (c0 :: c1 :: c2 :: .val (.ref a) :: l) st h Q ↔ XE d 107 45 (c0 :: c1 :: c2 :: .val (.ref a) :: l) (.ref a :: st) h Q := g_aload rfl rfl
theorem s107_44n : XE d 107 44 (c0 :: c1 :: c2 :: .val .null :: l) st h Q ↔ XE d 107 45 (c0 :: c1 :: c2 :: .val .null :: l) (.null :: st) h Q := g_aloadN rfl rfl
theorem s107_45 : XE d 107 45 ls (.ref a :: st) h Q ↔ XG [8] 0 (h.2.2.1 a) (fun v => XE d 107 48 ls (v :: st) h Q) := g_getf rfl
theorem s107_48 : XE d 107 48 ls [.int x] h Q ↔ Q (some (.int x)) h := g_iret rfl
theorem s107_49 : XE d 107 49 (c0 :: c1 :: c2 :: .val (.ref a) :: l) st h Q ↔ XE d 107 50 (c0 :: c1 :: c2 :: .val (.ref a) :: l) (.ref a :: st) h Q := g_aload rfl rfl
theorem s107_49n : XE d 107 49 (c0 :: c1 :: c2 :: .val .null :: l) st h Q ↔ XE d 107 50 (c0 :: c1 :: c2 :: .val .null :: l) (.null :: st) h Q := g_aloadN rfl rfl
theorem s107_50 : XE d 107 50 ls (.ref a :: st) h Q ↔ XG [8] 1 (h.2.2.1 a) (fun v => XE d 107 53 ls (v :: st) h Q) := g_getf rfl
theorem s107_53 : XE d 107 53 ls [.int x] h Q ↔ Q (some (.int x)) h := g_iret rfl
theorem s107_54 : XE d 107 54 ls st h Q ↔ XE d 107 56 ls (.int (-1000000001) :: st) h Q := g_const rfl
theorem s107_56 : XE d 107 56 ls [.int x] h Q ↔ Q (some (.int x)) h := g_iret rfl
-- 108: TwoBells.why(I)I
theorem e108 : XC (d + 1) 108 [.ref a, .int x] h Q ↔ XE d 108 0 [.val (.ref a), .val (.int x)] [] h Q := XC_in rfl
theorem s108_0 : XE d 108 0 (c0 :: .val (.int x) :: l) st h Q ↔ XE d 108 1 (c0 :: .val (.int x) :: l) (.int x :: st) h Q := g_iload rfl rfl
theorem s108_1 : XE d 108 1 ls st h Q ↔ XE d 108 2 ls (.int 0 :: st) h Q := g_const rfl
theorem s108_2 : XE d 108 2 ls st h Q ↔ XE d 108 3 ls (.int 2 :: st) h Q := g_const rfl
theorem s108_3 : XE d 108 3 ls (.int z :: .int y :: .int x :: st) h Q ↔ (xvo 8 st = true ∧ XC d 123 [.int x, .int y, .int z] h (fun v h' => XE d 108 6 ls (v.toList ++ st) h' Q)) := h_s3 rfl rfl
theorem s108_6 : XE d 108 6 ls (.int x :: st) h Q ↔ (if x = 0 then XE d 108 20 ls st h Q else XE d 108 9 ls st h Q) := g_ifeq rfl
theorem s108_9 : XE d 108 9 (.val (.ref a) :: l) st h Q ↔ XE d 108 10 (.val (.ref a) :: l) (.ref a :: st) h Q := g_aload rfl rfl
theorem s108_10 : XE d 108 10 ls (.ref a :: st) h Q ↔ XG [11] 0 (h.2.2.1 a) (fun v => XE d 108 13 ls (v :: st) h Q) := g_getf rfl
theorem s108_13 : XE d 108 13 (c0 :: .val (.int x) :: l) st h Q ↔ XE d 108 14 (c0 :: .val (.int x) :: l) (.int x :: st) h Q := g_iload rfl rfl
theorem s108_14 : XE d 108 14 ls (.int x :: .ref a :: st) h Q ↔ (xvo 8 st = true ∧ XV [(10, 63)] (h.2.2.1 a) (fun m' => XC d m' [.ref a, .int x] h (fun v h' => XE d 108 17 ls (v.toList ++ st) h' Q))) := h_v1 rfl rfl
theorem s108_17 : XE d 108 17 ls st h Q ↔ XE d 108 22 ls st h Q := g_goto rfl
theorem s108_20 : XE d 108 20 ls st h Q ↔ XE d 108 22 ls (.int (-1000000001) :: st) h Q := g_const rfl
theorem s108_22 : XE d 108 22 ls [.int x] h Q ↔ Q (some (.int x)) h := g_iret rfl
-- 109: TwoBells.sheet(III)I
theorem e109 : XC (d + 1) 109 [.ref a, .int x, .int y, .int z] h Q ↔ XE d 109 0 [.val (.ref a), .val (.int x), .val (.int y), .val (.int z), .unset] [] h Q := XC_in rfl
theorem s109_0 : XE d 109 0 (.val (.ref a) :: l) st h Q ↔ XE d 109 1 (.val (.ref a) :: l) (.ref a :: st) h Q := g_aload rfl rfl
theorem s109_1 : XE d 109 1 (c0 :: .val (.int x) :: l) st h Q ↔ XE d 109 2 (c0 :: .val (.int x) :: l) (.int x :: st) h Q := g_iload rfl rfl
theorem s109_2 : XE d 109 2 ls (.int x :: .ref a :: st) h Q ↔ (xvo 8 st = true ∧ XV [(11, 126)] (h.2.2.1 a) (fun m' => XC d m' [.ref a, .int x] h (fun v h' => XE d 109 5 ls (v.toList ++ st) h' Q))) := h_v1 rfl rfl
theorem s109_5 : XE d 109 5 (c0 :: c1 :: c2 :: c3 :: c4 :: l) (.ref a :: st) h Q ↔ XE d 109 7 (c0 :: c1 :: c2 :: c3 :: .val (.ref a) :: l) st h Q := g_astore (Nat.lt_of_lt_of_le (show 4 < 5 by decide) (Nat.le_add_left 5 _)) rfl rfl
theorem s109_5n : XE d 109 5 (c0 :: c1 :: c2 :: c3 :: c4 :: l) (.null :: st) h Q ↔ XE d 109 7 (c0 :: c1 :: c2 :: c3 :: .val .null :: l) st h Q := g_astoreN (Nat.lt_of_lt_of_le (show 4 < 5 by decide) (Nat.le_add_left 5 _)) rfl rfl
theorem s109_7 : XE d 109 7 (c0 :: c1 :: c2 :: c3 :: .val (.ref a) :: l) st h Q ↔ XE d 109 9 (c0 :: c1 :: c2 :: c3 :: .val (.ref a) :: l) (.ref a :: st) h Q := g_aload rfl rfl
theorem s109_7n : XE d 109 7 (c0 :: c1 :: c2 :: c3 :: .val .null :: l) st h Q ↔ XE d 109 9 (c0 :: c1 :: c2 :: c3 :: .val .null :: l) (.null :: st) h Q := g_aloadN rfl rfl
theorem s109_9 : XE d 109 9 ls (.ref a :: st) h Q ↔ XE d 109 12 ls st h Q := g_ifnullR rfl
theorem s109_9n : XE d 109 9 ls (.null :: st) h Q ↔ XE d 109 21 ls st h Q := g_ifnullN rfl
theorem s109_12 : XE d 109 12 (c0 :: c1 :: .val (.int x) :: l) st h Q ↔ XE d 109 13 (c0 :: c1 :: .val (.int x) :: l) (.int x :: st) h Q := g_iload rfl rfl
theorem s109_13 : XE d 109 13 ls st h Q ↔ XE d 109 14 ls (.int (-1) :: st) h Q := g_const rfl
theorem s109_14 : XE d 109 14 ls st h Q ↔ XE d 109 15 ls (.int 1 :: st) h Q := g_const rfl
theorem s109_15 : XE d 109 15 ls (.int z :: .int y :: .int x :: st) h Q ↔ (xvo 8 st = true ∧ XC d 123 [.int x, .int y, .int z] h (fun v h' => XE d 109 18 ls (v.toList ++ st) h' Q)) := h_s3 rfl rfl
theorem s109_18 : XE d 109 18 ls (.int x :: st) h Q ↔ (if x = 0 then XE d 109 21 ls st h Q else XE d 109 24 ls st h Q) := g_ifne rfl
theorem s109_21 : XE d 109 21 ls st h Q ↔ XE d 109 23 ls (.int (-1000000001) :: st) h Q := g_const rfl
theorem s109_23 : XE d 109 23 ls [.int x] h Q ↔ Q (some (.int x)) h := g_iret rfl
theorem s109_24 : XE d 109 24 (c0 :: c1 :: .val (.int x) :: l) st h Q ↔ XE d 109 25 (c0 :: c1 :: .val (.int x) :: l) (.int x :: st) h Q := g_iload rfl rfl
theorem s109_25 : XE d 109 25 ls st h Q ↔ XE d 109 26 ls (.int (-1) :: st) h Q := g_const rfl
theorem s109_26 : XE d 109 26 ls (.int y :: .int x :: st) h Q ↔ (if x = y then XE d 109 29 ls st h Q else XE d 109 43 ls st h Q) := g_cne rfl
theorem s109_29 : XE d 109 29 (c0 :: c1 :: c2 :: c3 :: .val (.ref a) :: l) st h Q ↔ XE d 109 31 (c0 :: c1 :: c2 :: c3 :: .val (.ref a) :: l) (.ref a :: st) h Q := g_aload rfl rfl
theorem s109_29n : XE d 109 29 (c0 :: c1 :: c2 :: c3 :: .val .null :: l) st h Q ↔ XE d 109 31 (c0 :: c1 :: c2 :: c3 :: .val .null :: l) (.null :: st) h Q := g_aloadN rfl rfl
theorem s109_31 : XE d 109 31 ls st h Q ↔ XE d 109 32 ls (.int (-1) :: st) h Q := g_const rfl
theorem s109_32 : XE d 109 32 ls (.int x :: .ref a :: st) h Q ↔ XP [5] 0 (.int x) (h.2.2.1 a) (fun e => XE d 109 35 ls st (xset h a e) Q) := g_puti rfl
theorem s109_35 : XE d 109 35 (c0 :: c1 :: c2 :: c3 :: .val (.ref a) :: l) st h Q ↔ XE d 109 37 (c0 :: c1 :: c2 :: c3 :: .val (.ref a) :: l) (.ref a :: st) h Q := g_aload rfl rfl
theorem s109_35n : XE d 109 35 (c0 :: c1 :: c2 :: c3 :: .val .null :: l) st h Q ↔ XE d 109 37 (c0 :: c1 :: c2 :: c3 :: .val .null :: l) (.null :: st) h Q := g_aloadN rfl rfl
theorem s109_37 : XE d 109 37 ls st h Q ↔ XE d 109 38 ls (.int 0 :: st) h Q := g_const rfl
theorem s109_38 : XE d 109 38 ls (.int x :: .ref a :: st) h Q ↔ XP [5] 1 (.int x) (h.2.2.1 a) (fun e => XE d 109 41 ls st (xset h a e) Q) := g_puti rfl
theorem s109_41 : XE d 109 41 ls st h Q ↔ XE d 109 42 ls (.int 0 :: st) h Q := g_const rfl
theorem s109_42 : XE d 109 42 ls [.int x] h Q ↔ Q (some (.int x)) h := g_iret rfl
theorem s109_43 : XE d 109 43 (c0 :: c1 :: c2 :: .val (.int x) :: l) st h Q ↔ XE d 109 44 (c0 :: c1 :: c2 :: .val (.int x) :: l) (.int x :: st) h Q := g_iload rfl rfl
theorem s109_44 : XE d 109 44 ls st h Q ↔ XE d 109 46 ls (.int 24 :: st) h Q := g_const rfl
theorem s109_46 : XE d 109 46 ls (.int y :: .int x :: st) h Q ↔ (if y < x then XE d 109 49 ls st h Q else XE d 109 52 ls st h Q) := g_cle rfl
theorem s109_49 : XE d 109 49 ls st h Q ↔ XE d 109 51 ls (.int (-1000000001) :: st) h Q := g_const rfl
theorem s109_51 : XE d 109 51 ls [.int x] h Q ↔ Q (some (.int x)) h := g_iret rfl
theorem s109_52 : XE d 109 52 (c0 :: c1 :: c2 :: .val (.int x) :: l) st h Q ↔ XE d 109 53 (c0 :: c1 :: c2 :: .val (.int x) :: l) (.int x :: st) h Q := g_iload rfl rfl
theorem s109_53 : XE d 109 53 ls (.int x :: st) h Q ↔ (if x < 0 then XE d 109 56 ls st h Q else XE d 109 60 ls st h Q) := g_ifge rfl
theorem s109_56 : XE d 109 56 ls st h Q ↔ XE d 109 59 ls (.int (-1000000014) :: st) h Q := g_const rfl
theorem s109_59 : XE d 109 59 ls [.int x] h Q ↔ Q (some (.int x)) h := g_iret rfl
theorem s109_60 : XE d 109 60 (c0 :: c1 :: c2 :: c3 :: .val (.ref a) :: l) st h Q ↔ XE d 109 62 (c0 :: c1 :: c2 :: c3 :: .val (.ref a) :: l) (.ref a :: st) h Q := g_aload rfl rfl
theorem s109_60n : XE d 109 60 (c0 :: c1 :: c2 :: c3 :: .val .null :: l) st h Q ↔ XE d 109 62 (c0 :: c1 :: c2 :: c3 :: .val .null :: l) (.null :: st) h Q := g_aloadN rfl rfl
theorem s109_62 : XE d 109 62 (c0 :: c1 :: .val (.int x) :: l) st h Q ↔ XE d 109 63 (c0 :: c1 :: .val (.int x) :: l) (.int x :: st) h Q := g_iload rfl rfl
theorem s109_63 : XE d 109 63 ls (.int x :: .ref a :: st) h Q ↔ XP [5] 0 (.int x) (h.2.2.1 a) (fun e => XE d 109 66 ls st (xset h a e) Q) := g_puti rfl
theorem s109_66 : XE d 109 66 (c0 :: c1 :: c2 :: c3 :: .val (.ref a) :: l) st h Q ↔ XE d 109 68 (c0 :: c1 :: c2 :: c3 :: .val (.ref a) :: l) (.ref a :: st) h Q := g_aload rfl rfl
theorem s109_66n : XE d 109 66 (c0 :: c1 :: c2 :: c3 :: .val .null :: l) st h Q ↔ XE d 109 68 (c0 :: c1 :: c2 :: c3 :: .val .null :: l) (.null :: st) h Q := g_aloadN rfl rfl
theorem s109_68 : XE d 109 68 (c0 :: c1 :: c2 :: .val (.int x) :: l) st h Q ↔ XE d 109 69 (c0 :: c1 :: c2 :: .val (.int x) :: l) (.int x :: st) h Q := g_iload rfl rfl
theorem s109_69 : XE d 109 69 ls (.int x :: .ref a :: st) h Q ↔ XP [5] 1 (.int x) (h.2.2.1 a) (fun e => XE d 109 72 ls st (xset h a e) Q) := g_puti rfl
theorem s109_72 : XE d 109 72 (c0 :: c1 :: c2 :: c3 :: .val (.ref a) :: l) st h Q ↔ XE d 109 74 (c0 :: c1 :: c2 :: c3 :: .val (.ref a) :: l) (.ref a :: st) h Q := g_aload rfl rfl
theorem s109_72n : XE d 109 72 (c0 :: c1 :: c2 :: c3 :: .val .null :: l) st h Q ↔ XE d 109 74 (c0 :: c1 :: c2 :: c3 :: .val .null :: l) (.null :: st) h Q := g_aloadN rfl rfl
theorem s109_74 : XE d 109 74 ls (.ref a :: st) h Q ↔ XG [5] 2 (h.2.2.1 a) (fun v => XE d 109 77 ls (v :: st) h Q) := g_getf rfl
theorem s109_77 : XE d 109 77 ls st h Q ↔ XE d 109 78 ls (.int 0 :: st) h Q := g_const rfl
theorem s109_78 : XE d 109 78 ls (.int x :: .ref b :: st) h Q ↔ (xvo 8 st = true ∧ XC d 240 [.ref b, .int x] h (fun v h' => XE d 109 81 ls (v.toList ++ st) h' Q)) := h_s2 rfl rfl
theorem s109_81 : XE d 109 81 (c0 :: c1 :: c2 :: .val (.int x) :: l) st h Q ↔ XE d 109 82 (c0 :: c1 :: c2 :: .val (.int x) :: l) (.int x :: st) h Q := g_iload rfl rfl
theorem s109_82 : XE d 109 82 ls [.int x] h Q ↔ Q (some (.int x)) h := g_iret rfl
-- 110: TwoBells.mark(III)I
theorem e110 : XC (d + 1) 110 [.ref a, .int x, .int y, .int z] h Q ↔ XE d 110 0 [.val (.ref a), .val (.int x), .val (.int y), .val (.int z), .unset] [] h Q := XC_in rfl
theorem s110_0 : XE d 110 0 (.val (.ref a) :: l) st h Q ↔ XE d 110 1 (.val (.ref a) :: l) (.ref a :: st) h Q := g_aload rfl rfl
theorem s110_1 : XE d 110 1 (c0 :: .val (.int x) :: l) st h Q ↔ XE d 110 2 (c0 :: .val (.int x) :: l) (.int x :: st) h Q := g_iload rfl rfl
theorem s110_2 : XE d 110 2 ls (.int x :: .ref a :: st) h Q ↔ (xvo 8 st = true ∧ XV [(11, 126)] (h.2.2.1 a) (fun m' => XC d m' [.ref a, .int x] h (fun v h' => XE d 110 5 ls (v.toList ++ st) h' Q))) := h_v1 rfl rfl
theorem s110_5 : XE d 110 5 (c0 :: c1 :: c2 :: c3 :: c4 :: l) (.ref a :: st) h Q ↔ XE d 110 7 (c0 :: c1 :: c2 :: c3 :: .val (.ref a) :: l) st h Q := g_astore (Nat.lt_of_lt_of_le (show 4 < 5 by decide) (Nat.le_add_left 5 _)) rfl rfl
theorem s110_5n : XE d 110 5 (c0 :: c1 :: c2 :: c3 :: c4 :: l) (.null :: st) h Q ↔ XE d 110 7 (c0 :: c1 :: c2 :: c3 :: .val .null :: l) st h Q := g_astoreN (Nat.lt_of_lt_of_le (show 4 < 5 by decide) (Nat.le_add_left 5 _)) rfl rfl
theorem s110_7 : XE d 110 7 (c0 :: c1 :: c2 :: c3 :: .val (.ref a) :: l) st h Q ↔ XE d 110 9 (c0 :: c1 :: c2 :: c3 :: .val (.ref a) :: l) (.ref a :: st) h Q := g_aload rfl rfl
theorem s110_7n : XE d 110 7 (c0 :: c1 :: c2 :: c3 :: .val .null :: l) st h Q ↔ XE d 110 9 (c0 :: c1 :: c2 :: c3 :: .val .null :: l) (.null :: st) h Q := g_aloadN rfl rfl
theorem s110_9 : XE d 110 9 ls (.ref a :: st) h Q ↔ XE d 110 15 ls st h Q := g_ifnonR rfl
theorem s110_9n : XE d 110 9 ls (.null :: st) h Q ↔ XE d 110 12 ls st h Q := g_ifnonN rfl
theorem s110_12 : XE d 110 12 ls st h Q ↔ XE d 110 14 ls (.int (-1000000001) :: st) h Q := g_const rfl
theorem s110_14 : XE d 110 14 ls [.int x] h Q ↔ Q (some (.int x)) h := g_iret rfl
theorem s110_15 : XE d 110 15 (c0 :: c1 :: c2 :: c3 :: .val (.ref a) :: l) st h Q ↔ XE d 110 17 (c0 :: c1 :: c2 :: c3 :: .val (.ref a) :: l) (.ref a :: st) h Q := g_aload rfl rfl
theorem s110_15n : XE d 110 15 (c0 :: c1 :: c2 :: c3 :: .val .null :: l) st h Q ↔ XE d 110 17 (c0 :: c1 :: c2 :: c3 :: .val .null :: l) (.null :: st) h Q := g_aloadN rfl rfl
theorem s110_17 : XE d 110 17 ls (.ref a :: st) h Q ↔ XG [5] 0 (h.2.2.1 a) (fun v => XE d 110 20 ls (v :: st) h Q) := g_getf rfl
theorem s110_20 : XE d 110 20 ls st h Q ↔ XE d 110 21 ls (.int (-1) :: st) h Q := g_const rfl
theorem s110_21 : XE d 110 21 ls (.int y :: .int x :: st) h Q ↔ (if x = y then XE d 110 24 ls st h Q else XE d 110 28 ls st h Q) := g_cne rfl
theorem s110_24 : XE d 110 24 ls st h Q ↔ XE d 110 27 ls (.int (-1000000011) :: st) h Q := g_const rfl
theorem s110_27 : XE d 110 27 ls [.int x] h Q ↔ Q (some (.int x)) h := g_iret rfl
theorem s110_28 : XE d 110 28 (c0 :: c1 :: c2 :: c3 :: .val (.ref a) :: l) st h Q ↔ XE d 110 30 (c0 :: c1 :: c2 :: c3 :: .val (.ref a) :: l) (.ref a :: st) h Q := g_aload rfl rfl
theorem s110_28n : XE d 110 28 (c0 :: c1 :: c2 :: c3 :: .val .null :: l) st h Q ↔ XE d 110 30 (c0 :: c1 :: c2 :: c3 :: .val .null :: l) (.null :: st) h Q := g_aloadN rfl rfl
theorem s110_30 : XE d 110 30 (c0 :: c1 :: .val (.int x) :: l) st h Q ↔ XE d 110 31 (c0 :: c1 :: .val (.int x) :: l) (.int x :: st) h Q := g_iload rfl rfl
theorem s110_31 : XE d 110 31 ls (.int x :: .ref a :: st) h Q ↔ (xvo 8 st = true ∧ XV [(5, 17)] (h.2.2.1 a) (fun m' => XC d m' [.ref a, .int x] h (fun v h' => XE d 110 34 ls (v.toList ++ st) h' Q))) := h_v1 rfl rfl
theorem s110_34 : XE d 110 34 ls (.int x :: st) h Q ↔ (if x = 0 then XE d 110 37 ls st h Q else XE d 110 41 ls st h Q) := g_ifne rfl
theorem s110_37 : XE d 110 37 ls st h Q ↔ XE d 110 40 ls (.int (-1000000013) :: st) h Q := g_const rfl
theorem s110_40 : XE d 110 40 ls [.int x] h Q ↔ Q (some (.int x)) h := g_iret rfl
theorem s110_41 : XE d 110 41 (c0 :: c1 :: c2 :: c3 :: .val (.ref a) :: l) st h Q ↔ XE d 110 43 (c0 :: c1 :: c2 :: c3 :: .val (.ref a) :: l) (.ref a :: st) h Q := g_aload rfl rfl
theorem s110_41n : XE d 110 41 (c0 :: c1 :: c2 :: c3 :: .val .null :: l) st h Q ↔ XE d 110 43 (c0 :: c1 :: c2 :: c3 :: .val .null :: l) (.null :: st) h Q := g_aloadN rfl rfl
theorem s110_43 : XE d 110 43 ls (.ref a :: st) h Q ↔ XG [5] 0 (h.2.2.1 a) (fun v => XE d 110 46 ls (v :: st) h Q) := g_getf rfl
theorem s110_46 : XE d 110 46 ls (.int x :: st) h Q ↔ (if x = 0 then XE d 110 49 ls st h Q else XE d 110 69 ls st h Q) := g_ifne rfl
theorem s110_49 : XE d 110 49 (c0 :: c1 :: c2 :: .val (.int x) :: l) st h Q ↔ XE d 110 50 (c0 :: c1 :: c2 :: .val (.int x) :: l) (.int x :: st) h Q := g_iload rfl rfl
theorem s110_50 : XE d 110 50 ls st h Q ↔ XE d 110 52 ls (.int (-1000000005) :: st) h Q := g_const rfl
theorem s110_52 : XE d 110 52 ls (.int y :: .int x :: st) h Q ↔ (if x = y then XE d 110 55 ls st h Q else XE d 110 58 ls st h Q) := g_cne rfl
theorem s110_55 : XE d 110 55 ls st h Q ↔ XE d 110 57 ls (.int (-1000000012) :: st) h Q := g_const rfl
theorem s110_57 : XE d 110 57 ls [.int x] h Q ↔ Q (some (.int x)) h := g_iret rfl
theorem s110_58 : XE d 110 58 (c0 :: c1 :: c2 :: c3 :: .val (.ref a) :: l) st h Q ↔ XE d 110 60 (c0 :: c1 :: c2 :: c3 :: .val (.ref a) :: l) (.ref a :: st) h Q := g_aload rfl rfl
theorem s110_58n : XE d 110 58 (c0 :: c1 :: c2 :: c3 :: .val .null :: l) st h Q ↔ XE d 110 60 (c0 :: c1 :: c2 :: c3 :: .val .null :: l) (.null :: st) h Q := g_aloadN rfl rfl
theorem s110_60 : XE d 110 60 ls (.ref a :: st) h Q ↔ XG [5] 2 (h.2.2.1 a) (fun v => XE d 110 63 ls (v :: st) h Q) := g_getf rfl
theorem s110_63 : XE d 110 63 (c0 :: c1 :: .val (.int x) :: l) st h Q ↔ XE d 110 64 (c0 :: c1 :: .val (.int x) :: l) (.int x :: st) h Q := g_iload rfl rfl
theorem s110_64 : XE d 110 64 (c0 :: c1 :: c2 :: .val (.int x) :: l) st h Q ↔ XE d 110 65 (c0 :: c1 :: c2 :: .val (.int x) :: l) (.int x :: st) h Q := g_iload rfl rfl
theorem s110_65 : XE d 110 65 ls (.int x :: st) h Q ↔ XE d 110 66 ls (.int x.toInt16.toInt32 :: st) h Q := g_i2s rfl
theorem s110_66 : XE d 110 66 ls (.int y :: .int x :: .ref a :: st) h Q ↔ XS 0 (h.2.2.1 a) x y (fun e => XE d 110 67 ls st (xset h a e) Q) := g_iast rfl
theorem s110_67 : XE d 110 67 ls st h Q ↔ XE d 110 68 ls (.int 1 :: st) h Q := g_const rfl
theorem s110_68 : XE d 110 68 ls [.int x] h Q ↔ Q (some (.int x)) h := g_iret rfl
theorem s110_69 : XE d 110 69 (c0 :: c1 :: c2 :: .val (.int x) :: l) st h Q ↔ XE d 110 70 (c0 :: c1 :: c2 :: .val (.int x) :: l) (.int x :: st) h Q := g_iload rfl rfl
theorem s110_70 : XE d 110 70 ls st h Q ↔ XE d 110 72 ls (.int (-1000000005) :: st) h Q := g_const rfl
theorem s110_72 : XE d 110 72 ls (.int y :: .int x :: st) h Q ↔ (if x = y then XE d 110 91 ls st h Q else XE d 110 75 ls st h Q) := g_ceq rfl
theorem s110_75 : XE d 110 75 (c0 :: c1 :: c2 :: .val (.int x) :: l) st h Q ↔ XE d 110 76 (c0 :: c1 :: c2 :: .val (.int x) :: l) (.int x :: st) h Q := g_iload rfl rfl
theorem s110_76 : XE d 110 76 ls st h Q ↔ XE d 110 79 ls (.int (-99999) :: st) h Q := g_const rfl
theorem s110_79 : XE d 110 79 ls st h Q ↔ XE d 110 82 ls (.int 99999 :: st) h Q := g_const rfl
theorem s110_82 : XE d 110 82 ls (.int z :: .int y :: .int x :: st) h Q ↔ (xvo 8 st = true ∧ XC d 123 [.int x, .int y, .int z] h (fun v h' => XE d 110 85 ls (v.toList ++ st) h' Q)) := h_s3 rfl rfl
theorem s110_85 : XE d 110 85 ls (.int x :: st) h Q ↔ (if x = 0 then XE d 110 88 ls st h Q else XE d 110 91 ls st h Q) := g_ifne rfl
theorem s110_88 : XE d 110 88 ls st h Q ↔ XE d 110 90 ls (.int (-1000000001) :: st) h Q := g_const rfl
theorem s110_90 : XE d 110 90 ls [.int x] h Q ↔ Q (some (.int x)) h := g_iret rfl
theorem s110_91 : XE d 110 91 (c0 :: c1 :: c2 :: c3 :: .val (.ref a) :: l) st h Q ↔ XE d 110 93 (c0 :: c1 :: c2 :: c3 :: .val (.ref a) :: l) (.ref a :: st) h Q := g_aload rfl rfl
theorem s110_91n : XE d 110 91 (c0 :: c1 :: c2 :: c3 :: .val .null :: l) st h Q ↔ XE d 110 93 (c0 :: c1 :: c2 :: c3 :: .val .null :: l) (.null :: st) h Q := g_aloadN rfl rfl
theorem s110_93 : XE d 110 93 ls (.ref a :: st) h Q ↔ XG [5] 2 (h.2.2.1 a) (fun v => XE d 110 96 ls (v :: st) h Q) := g_getf rfl
theorem s110_96 : XE d 110 96 (c0 :: c1 :: .val (.int x) :: l) st h Q ↔ XE d 110 97 (c0 :: c1 :: .val (.int x) :: l) (.int x :: st) h Q := g_iload rfl rfl
theorem s110_97 : XE d 110 97 (c0 :: c1 :: c2 :: .val (.int x) :: l) st h Q ↔ XE d 110 98 (c0 :: c1 :: c2 :: .val (.int x) :: l) (.int x :: st) h Q := g_iload rfl rfl
theorem s110_98 : XE d 110 98 ls (.int y :: .int x :: .ref a :: st) h Q ↔ XS 0 (h.2.2.1 a) x y (fun e => XE d 110 99 ls st (xset h a e) Q) := g_iast rfl
theorem s110_99 : XE d 110 99 ls st h Q ↔ XE d 110 100 ls (.int 1 :: st) h Q := g_const rfl
theorem s110_100 : XE d 110 100 ls [.int x] h Q ↔ Q (some (.int x)) h := g_iret rfl
-- 111: TwoBells.pour(I)I
theorem e111 : XC (d + 1) 111 [.ref a, .int x] h Q ↔ XE d 111 0 [.val (.ref a), .val (.int x), .unset, .unset, .unset, .unset] [] h Q := XC_in rfl
theorem s111_0 : XE d 111 0 (.val (.ref a) :: l) st h Q ↔ XE d 111 1 (.val (.ref a) :: l) (.ref a :: st) h Q := g_aload rfl rfl
theorem s111_1 : XE d 111 1 (c0 :: .val (.int x) :: l) st h Q ↔ XE d 111 2 (c0 :: .val (.int x) :: l) (.int x :: st) h Q := g_iload rfl rfl
theorem s111_2 : XE d 111 2 ls (.int x :: .ref a :: st) h Q ↔ (xvo 8 st = true ∧ XV [(11, 126)] (h.2.2.1 a) (fun m' => XC d m' [.ref a, .int x] h (fun v h' => XE d 111 5 ls (v.toList ++ st) h' Q))) := h_v1 rfl rfl
theorem s111_5 : XE d 111 5 (c0 :: c1 :: c2 :: l) (.ref a :: st) h Q ↔ XE d 111 6 (c0 :: c1 :: .val (.ref a) :: l) st h Q := g_astore (Nat.lt_of_lt_of_le (show 2 < 3 by decide) (Nat.le_add_left 3 _)) rfl rfl
theorem s111_5n : XE d 111 5 (c0 :: c1 :: c2 :: l) (.null :: st) h Q ↔ XE d 111 6 (c0 :: c1 :: .val .null :: l) st h Q := g_astoreN (Nat.lt_of_lt_of_le (show 2 < 3 by decide) (Nat.le_add_left 3 _)) rfl rfl
theorem s111_6 : XE d 111 6 (c0 :: c1 :: .val (.ref a) :: l) st h Q ↔ XE d 111 7 (c0 :: c1 :: .val (.ref a) :: l) (.ref a :: st) h Q := g_aload rfl rfl
theorem s111_6n : XE d 111 6 (c0 :: c1 :: .val .null :: l) st h Q ↔ XE d 111 7 (c0 :: c1 :: .val .null :: l) (.null :: st) h Q := g_aloadN rfl rfl
theorem s111_7 : XE d 111 7 ls (.ref a :: st) h Q ↔ XE d 111 13 ls st h Q := g_ifnonR rfl
theorem s111_7n : XE d 111 7 ls (.null :: st) h Q ↔ XE d 111 10 ls st h Q := g_ifnonN rfl
theorem s111_10 : XE d 111 10 ls st h Q ↔ XE d 111 12 ls (.int (-1000000001) :: st) h Q := g_const rfl
theorem s111_12 : XE d 111 12 ls [.int x] h Q ↔ Q (some (.int x)) h := g_iret rfl
theorem s111_13 : XE d 111 13 (c0 :: c1 :: .val (.ref a) :: l) st h Q ↔ XE d 111 14 (c0 :: c1 :: .val (.ref a) :: l) (.ref a :: st) h Q := g_aload rfl rfl
theorem s111_13n : XE d 111 13 (c0 :: c1 :: .val .null :: l) st h Q ↔ XE d 111 14 (c0 :: c1 :: .val .null :: l) (.null :: st) h Q := g_aloadN rfl rfl
theorem s111_14 : XE d 111 14 ls (.ref a :: st) h Q ↔ XG [5] 0 (h.2.2.1 a) (fun v => XE d 111 17 ls (v :: st) h Q) := g_getf rfl
theorem s111_17 : XE d 111 17 ls st h Q ↔ XE d 111 18 ls (.int (-1) :: st) h Q := g_const rfl
theorem s111_18 : XE d 111 18 ls (.int y :: .int x :: st) h Q ↔ (if x = y then XE d 111 21 ls st h Q else XE d 111 25 ls st h Q) := g_cne rfl
theorem s111_21 : XE d 111 21 ls st h Q ↔ XE d 111 24 ls (.int (-1000000011) :: st) h Q := g_const rfl
theorem s111_24 : XE d 111 24 ls [.int x] h Q ↔ Q (some (.int x)) h := g_iret rfl
theorem s111_25 : XE d 111 25 ls st h Q ↔ XE d 111 26 ls (.int 0 :: st) h Q := g_const rfl
theorem s111_26 : XE d 111 26 (c0 :: c1 :: c2 :: c3 :: l) (.int x :: st) h Q ↔ XE d 111 27 (c0 :: c1 :: c2 :: .val (.int x) :: l) st h Q := g_istore (Nat.lt_of_lt_of_le (show 3 < 4 by decide) (Nat.le_add_left 4 _)) rfl rfl
theorem s111_27 : XE d 111 27 ls st h Q ↔ XE d 111 28 ls (.int 0 :: st) h Q := g_const rfl
theorem s111_28 : XE d 111 28 (c0 :: c1 :: c2 :: c3 :: c4 :: l) (.int x :: st) h Q ↔ XE d 111 30 (c0 :: c1 :: c2 :: c3 :: .val (.int x) :: l) st h Q := g_istore (Nat.lt_of_lt_of_le (show 4 < 5 by decide) (Nat.le_add_left 5 _)) rfl rfl
theorem s111_30 : XE d 111 30 (c0 :: c1 :: c2 :: c3 :: .val (.int x) :: l) st h Q ↔ XE d 111 32 (c0 :: c1 :: c2 :: c3 :: .val (.int x) :: l) (.int x :: st) h Q := g_iload rfl rfl
theorem s111_32 : XE d 111 32 (c0 :: c1 :: .val (.ref a) :: l) st h Q ↔ XE d 111 33 (c0 :: c1 :: .val (.ref a) :: l) (.ref a :: st) h Q := g_aload rfl rfl
theorem s111_32n : XE d 111 32 (c0 :: c1 :: .val .null :: l) st h Q ↔ XE d 111 33 (c0 :: c1 :: .val .null :: l) (.null :: st) h Q := g_aloadN rfl rfl
theorem s111_33 : XE d 111 33 ls (.ref a :: st) h Q ↔ XG [5] 1 (h.2.2.1 a) (fun v => XE d 111 36 ls (v :: st) h Q) := g_getf rfl
theorem s111_36 : XE d 111 36 ls (.int y :: .int x :: st) h Q ↔ (if x < y then XE d 111 39 ls st h Q else XE d 111 120 ls st h Q) := g_cge rfl
theorem s111_39 : XE d 111 39 (c0 :: c1 :: c2 :: c3 :: .val (.int x) :: l) st h Q ↔ XE d 111 41 (c0 :: c1 :: c2 :: c3 :: .val (.int x) :: l) (.int x :: st) h Q := g_iload rfl rfl
theorem s111_41 : XE d 111 41 ls st h Q ↔ XE d 111 42 ls (.int 2 :: st) h Q := g_const rfl
theorem s111_42 : XE d 111 42 (.val (.ref a) :: l) st h Q ↔ XE d 111 43 (.val (.ref a) :: l) (.ref a :: st) h Q := g_aload rfl rfl
theorem s111_43 : XE d 111 43 ls (.ref a :: st) h Q ↔ XG [11] 0 (h.2.2.1 a) (fun v => XE d 111 46 ls (v :: st) h Q) := g_getf rfl
theorem s111_46 : XE d 111 46 ls (.ref a :: st) h Q ↔ XG [10] 1 (h.2.2.1 a) (fun v => XE d 111 49 ls (v :: st) h Q) := g_getf rfl
theorem s111_49 : XE d 111 49 ls (.int y :: .int x :: st) h Q ↔ XE d 111 50 ls (.int (x * y) :: st) h Q := g_mul rfl
theorem s111_50 : XE d 111 50 ls (.int y :: .int x :: st) h Q ↔ (if x < y then XE d 111 53 ls st h Q else XE d 111 120 ls st h Q) := g_cge rfl
theorem s111_53 : XE d 111 53 (.val (.ref a) :: l) st h Q ↔ XE d 111 54 (.val (.ref a) :: l) (.ref a :: st) h Q := g_aload rfl rfl
theorem s111_54 : XE d 111 54 ls (.ref a :: st) h Q ↔ XG [11] 0 (h.2.2.1 a) (fun v => XE d 111 57 ls (v :: st) h Q) := g_getf rfl
theorem s111_57 : XE d 111 57 (c0 :: c1 :: .val (.ref a) :: l) st h Q ↔ XE d 111 58 (c0 :: c1 :: .val (.ref a) :: l) (.ref a :: st) h Q := g_aload rfl rfl
theorem s111_57n : XE d 111 57 (c0 :: c1 :: .val .null :: l) st h Q ↔ XE d 111 58 (c0 :: c1 :: .val .null :: l) (.null :: st) h Q := g_aloadN rfl rfl
theorem s111_58 : XE d 111 58 ls (.ref a :: st) h Q ↔ XG [5] 2 (h.2.2.1 a) (fun v => XE d 111 61 ls (v :: st) h Q) := g_getf rfl
theorem s111_61 : XE d 111 61 (c0 :: c1 :: c2 :: c3 :: .val (.int x) :: l) st h Q ↔ XE d 111 63 (c0 :: c1 :: c2 :: c3 :: .val (.int x) :: l) (.int x :: st) h Q := g_iload rfl rfl
theorem s111_63 : XE d 111 63 ls (.int x :: .ref a :: st) h Q ↔ XA [0, 7] (h.2.2.1 a) x (fun k => XE d 111 64 ls (.int k :: st) h Q) := g_ald rfl
theorem s111_64 : XE d 111 64 ls (.int x :: .ref a :: st) h Q ↔ (xvo 8 st = true ∧ XV [(10, 52)] (h.2.2.1 a) (fun m' => XC d m' [.ref a, .int x] h (fun v h' => XE d 111 67 ls (v.toList ++ st) h' Q))) := h_v1 rfl rfl
theorem s111_67 : XE d 111 67 ls (.int x :: st) h Q ↔ (if x = 0 then XE d 111 80 ls st h Q else XE d 111 70 ls st h Q) := g_ifeq rfl
theorem s111_70 : XE d 111 70 (c0 :: c1 :: .val (.ref a) :: l) st h Q ↔ XE d 111 71 (c0 :: c1 :: .val (.ref a) :: l) (.ref a :: st) h Q := g_aload rfl rfl
theorem s111_70n : XE d 111 70 (c0 :: c1 :: .val .null :: l) st h Q ↔ XE d 111 71 (c0 :: c1 :: .val .null :: l) (.null :: st) h Q := g_aloadN rfl rfl
theorem s111_71 : XE d 111 71 ls (.ref a :: st) h Q ↔ XG [5] 2 (h.2.2.1 a) (fun v => XE d 111 74 ls (v :: st) h Q) := g_getf rfl
theorem s111_74 : XE d 111 74 (c0 :: c1 :: c2 :: c3 :: .val (.int x) :: l) st h Q ↔ XE d 111 76 (c0 :: c1 :: c2 :: c3 :: .val (.int x) :: l) (.int x :: st) h Q := g_iload rfl rfl
theorem s111_76 : XE d 111 76 ls (.int x :: .ref a :: st) h Q ↔ XA [0, 7] (h.2.2.1 a) x (fun k => XE d 111 77 ls (.int k :: st) h Q) := g_ald rfl
theorem s111_77 : XE d 111 77 ls st h Q ↔ XE d 111 82 ls st h Q := g_goto rfl
theorem s111_80 : XE d 111 80 ls st h Q ↔ XE d 111 82 ls (.int (-1000000005) :: st) h Q := g_const rfl
theorem s111_82 : XE d 111 82 (c0 :: c1 :: c2 :: c3 :: c4 :: c5 :: l) (.int x :: st) h Q ↔ XE d 111 84 (c0 :: c1 :: c2 :: c3 :: c4 :: .val (.int x) :: l) st h Q := g_istore (Nat.lt_of_lt_of_le (show 5 < 6 by decide) (Nat.le_add_left 6 _)) rfl rfl
theorem s111_84 : XE d 111 84 (.val (.ref a) :: l) st h Q ↔ XE d 111 85 (.val (.ref a) :: l) (.ref a :: st) h Q := g_aload rfl rfl
theorem s111_85 : XE d 111 85 ls (.ref a :: st) h Q ↔ XG [11] 0 (h.2.2.1 a) (fun v => XE d 111 88 ls (v :: st) h Q) := g_getf rfl
theorem s111_88 : XE d 111 88 ls (.ref a :: st) h Q ↔ XG [10] 14 (h.2.2.1 a) (fun v => XE d 111 91 ls (v :: st) h Q) := g_getf rfl
theorem s111_91 : XE d 111 91 (c0 :: c1 :: c2 :: c3 :: .val (.int x) :: l) st h Q ↔ XE d 111 93 (c0 :: c1 :: c2 :: c3 :: .val (.int x) :: l) (.int x :: st) h Q := g_iload rfl rfl
theorem s111_93 : XE d 111 93 ls (.int x :: .ref a :: st) h Q ↔ XA [0, 7] (h.2.2.1 a) x (fun k => XE d 111 94 ls (.int k :: st) h Q) := g_ald rfl
theorem s111_94 : XE d 111 94 (c0 :: c1 :: c2 :: c3 :: c4 :: .val (.int x) :: l) st h Q ↔ XE d 111 96 (c0 :: c1 :: c2 :: c3 :: c4 :: .val (.int x) :: l) (.int x :: st) h Q := g_iload rfl rfl
theorem s111_96 : XE d 111 96 ls (.int y :: .int x :: st) h Q ↔ (if x = y then XE d 111 114 ls st h Q else XE d 111 99 ls st h Q) := g_ceq rfl
theorem s111_99 : XE d 111 99 (.val (.ref a) :: l) st h Q ↔ XE d 111 100 (.val (.ref a) :: l) (.ref a :: st) h Q := g_aload rfl rfl
theorem s111_100 : XE d 111 100 ls (.ref a :: st) h Q ↔ XG [11] 0 (h.2.2.1 a) (fun v => XE d 111 103 ls (v :: st) h Q) := g_getf rfl
theorem s111_103 : XE d 111 103 ls (.ref a :: st) h Q ↔ XG [10] 14 (h.2.2.1 a) (fun v => XE d 111 106 ls (v :: st) h Q) := g_getf rfl
theorem s111_106 : XE d 111 106 (c0 :: c1 :: c2 :: c3 :: .val (.int x) :: l) st h Q ↔ XE d 111 108 (c0 :: c1 :: c2 :: c3 :: .val (.int x) :: l) (.int x :: st) h Q := g_iload rfl rfl
theorem s111_108 : XE d 111 108 (c0 :: c1 :: c2 :: c3 :: c4 :: .val (.int x) :: l) st h Q ↔ XE d 111 110 (c0 :: c1 :: c2 :: c3 :: c4 :: .val (.int x) :: l) (.int x :: st) h Q := g_iload rfl rfl
theorem s111_110 : XE d 111 110 ls (.int y :: .int x :: .ref a :: st) h Q ↔ XS 0 (h.2.2.1 a) x y (fun e => XE d 111 111 ls st (xset h a e) Q) := g_iast rfl
theorem s111_111 : XE d 111 111 (c0 :: c1 :: c2 :: .val (.int x) :: l) st h Q ↔ XE d 111 114 (c0 :: c1 :: c2 :: .val (.int (x + 1)) :: l) st h Q := g_iinc rfl rfl rfl
theorem s111_114 : XE d 111 114 (c0 :: c1 :: c2 :: c3 :: .val (.int x) :: l) st h Q ↔ XE d 111 117 (c0 :: c1 :: c2 :: c3 :: .val (.int (x + 1)) :: l) st h Q := g_iinc rfl rfl rfl
theorem s111_117 : XE d 111 117 ls st h Q ↔ XE d 111 30 ls st h Q := g_goto rfl
theorem s111_120 : XE d 111 120 (c0 :: c1 :: c2 :: .val (.int x) :: l) st h Q ↔ XE d 111 121 (c0 :: c1 :: c2 :: .val (.int x) :: l) (.int x :: st) h Q := g_iload rfl rfl
theorem s111_121 : XE d 111 121 ls [.int x] h Q ↔ Q (some (.int x)) h := g_iret rfl
-- 112: TwoBells.reads(I)I
theorem e112 : XC (d + 1) 112 [.ref a, .int x] h Q ↔ XE d 112 0 [.val (.ref a), .val (.int x), .unset, .unset, .unset] [] h Q := XC_in rfl
theorem s112_0 : XE d 112 0 (.val (.ref a) :: l) st h Q ↔ XE d 112 1 (.val (.ref a) :: l) (.ref a :: st) h Q := g_aload rfl rfl
theorem s112_1 : XE d 112 1 (c0 :: .val (.int x) :: l) st h Q ↔ XE d 112 2 (c0 :: .val (.int x) :: l) (.int x :: st) h Q := g_iload rfl rfl
theorem s112_2 : XE d 112 2 ls (.int x :: .ref a :: st) h Q ↔ (xvo 8 st = true ∧ XV [(11, 126)] (h.2.2.1 a) (fun m' => XC d m' [.ref a, .int x] h (fun v h' => XE d 112 5 ls (v.toList ++ st) h' Q))) := h_v1 rfl rfl
theorem s112_5 : XE d 112 5 (c0 :: c1 :: c2 :: l) (.ref a :: st) h Q ↔ XE d 112 6 (c0 :: c1 :: .val (.ref a) :: l) st h Q := g_astore (Nat.lt_of_lt_of_le (show 2 < 3 by decide) (Nat.le_add_left 3 _)) rfl rfl
theorem s112_5n : XE d 112 5 (c0 :: c1 :: c2 :: l) (.null :: st) h Q ↔ XE d 112 6 (c0 :: c1 :: .val .null :: l) st h Q := g_astoreN (Nat.lt_of_lt_of_le (show 2 < 3 by decide) (Nat.le_add_left 3 _)) rfl rfl
theorem s112_6 : XE d 112 6 (c0 :: c1 :: .val (.ref a) :: l) st h Q ↔ XE d 112 7 (c0 :: c1 :: .val (.ref a) :: l) (.ref a :: st) h Q := g_aload rfl rfl
theorem s112_6n : XE d 112 6 (c0 :: c1 :: .val .null :: l) st h Q ↔ XE d 112 7 (c0 :: c1 :: .val .null :: l) (.null :: st) h Q := g_aloadN rfl rfl
theorem s112_7 : XE d 112 7 ls (.ref a :: st) h Q ↔ XE d 112 13 ls st h Q := g_ifnonR rfl
theorem s112_7n : XE d 112 7 ls (.null :: st) h Q ↔ XE d 112 10 ls st h Q := g_ifnonN rfl
theorem s112_10 : XE d 112 10 ls st h Q ↔ XE d 112 12 ls (.int (-1000000001) :: st) h Q := g_const rfl
theorem s112_12 : XE d 112 12 ls [.int x] h Q ↔ Q (some (.int x)) h := g_iret rfl
theorem s112_13 : XE d 112 13 (c0 :: c1 :: .val (.ref a) :: l) st h Q ↔ XE d 112 14 (c0 :: c1 :: .val (.ref a) :: l) (.ref a :: st) h Q := g_aload rfl rfl
theorem s112_13n : XE d 112 13 (c0 :: c1 :: .val .null :: l) st h Q ↔ XE d 112 14 (c0 :: c1 :: .val .null :: l) (.null :: st) h Q := g_aloadN rfl rfl
theorem s112_14 : XE d 112 14 ls (.ref a :: st) h Q ↔ XG [5] 0 (h.2.2.1 a) (fun v => XE d 112 17 ls (v :: st) h Q) := g_getf rfl
theorem s112_17 : XE d 112 17 ls st h Q ↔ XE d 112 18 ls (.int (-1) :: st) h Q := g_const rfl
theorem s112_18 : XE d 112 18 ls (.int y :: .int x :: st) h Q ↔ (if x = y then XE d 112 21 ls st h Q else XE d 112 25 ls st h Q) := g_cne rfl
theorem s112_21 : XE d 112 21 ls st h Q ↔ XE d 112 24 ls (.int (-1000000011) :: st) h Q := g_const rfl
theorem s112_24 : XE d 112 24 ls [.int x] h Q ↔ Q (some (.int x)) h := g_iret rfl
theorem s112_25 : XE d 112 25 ls st h Q ↔ XE d 112 26 ls (.int 0 :: st) h Q := g_const rfl
theorem s112_26 : XE d 112 26 (c0 :: c1 :: c2 :: c3 :: l) (.int x :: st) h Q ↔ XE d 112 27 (c0 :: c1 :: c2 :: .val (.int x) :: l) st h Q := g_istore (Nat.lt_of_lt_of_le (show 3 < 4 by decide) (Nat.le_add_left 4 _)) rfl rfl
theorem s112_27 : XE d 112 27 (c0 :: c1 :: c2 :: .val (.int x) :: l) st h Q ↔ XE d 112 28 (c0 :: c1 :: c2 :: .val (.int x) :: l) (.int x :: st) h Q := g_iload rfl rfl
theorem s112_28 : XE d 112 28 (c0 :: c1 :: .val (.ref a) :: l) st h Q ↔ XE d 112 29 (c0 :: c1 :: .val (.ref a) :: l) (.ref a :: st) h Q := g_aload rfl rfl
theorem s112_28n : XE d 112 28 (c0 :: c1 :: .val .null :: l) st h Q ↔ XE d 112 29 (c0 :: c1 :: .val .null :: l) (.null :: st) h Q := g_aloadN rfl rfl
theorem s112_29 : XE d 112 29 ls (.ref a :: st) h Q ↔ XG [5] 1 (h.2.2.1 a) (fun v => XE d 112 32 ls (v :: st) h Q) := g_getf rfl
theorem s112_32 : XE d 112 32 ls (.int y :: .int x :: st) h Q ↔ (if x < y then XE d 112 35 ls st h Q else XE d 112 84 ls st h Q) := g_cge rfl
theorem s112_35 : XE d 112 35 (c0 :: c1 :: .val (.ref a) :: l) st h Q ↔ XE d 112 36 (c0 :: c1 :: .val (.ref a) :: l) (.ref a :: st) h Q := g_aload rfl rfl
theorem s112_35n : XE d 112 35 (c0 :: c1 :: .val .null :: l) st h Q ↔ XE d 112 36 (c0 :: c1 :: .val .null :: l) (.null :: st) h Q := g_aloadN rfl rfl
theorem s112_36 : XE d 112 36 ls (.ref a :: st) h Q ↔ XG [5] 2 (h.2.2.1 a) (fun v => XE d 112 39 ls (v :: st) h Q) := g_getf rfl
theorem s112_39 : XE d 112 39 (c0 :: c1 :: c2 :: .val (.int x) :: l) st h Q ↔ XE d 112 40 (c0 :: c1 :: c2 :: .val (.int x) :: l) (.int x :: st) h Q := g_iload rfl rfl
theorem s112_40 : XE d 112 40 ls (.int x :: .ref a :: st) h Q ↔ XA [0, 7] (h.2.2.1 a) x (fun k => XE d 112 41 ls (.int k :: st) h Q) := g_ald rfl
theorem s112_41 : XE d 112 41 (c0 :: c1 :: c2 :: c3 :: c4 :: l) (.int x :: st) h Q ↔ XE d 112 43 (c0 :: c1 :: c2 :: c3 :: .val (.int x) :: l) st h Q := g_istore (Nat.lt_of_lt_of_le (show 4 < 5 by decide) (Nat.le_add_left 5 _)) rfl rfl
theorem s112_43 : XE d 112 43 (c0 :: c1 :: c2 :: c3 :: .val (.int x) :: l) st h Q ↔ XE d 112 45 (c0 :: c1 :: c2 :: c3 :: .val (.int x) :: l) (.int x :: st) h Q := g_iload rfl rfl
theorem s112_45 : XE d 112 45 ls st h Q ↔ XE d 112 47 ls (.int (-1000000005) :: st) h Q := g_const rfl
theorem s112_47 : XE d 112 47 ls (.int y :: .int x :: st) h Q ↔ (if x = y then XE d 112 78 ls st h Q else XE d 112 50 ls st h Q) := g_ceq rfl
theorem s112_50 : XE d 112 50 (.val (.ref a) :: l) st h Q ↔ XE d 112 51 (.val (.ref a) :: l) (.ref a :: st) h Q := g_aload rfl rfl
theorem s112_51 : XE d 112 51 ls (.ref a :: st) h Q ↔ XG [11] 0 (h.2.2.1 a) (fun v => XE d 112 54 ls (v :: st) h Q) := g_getf rfl
theorem s112_54 : XE d 112 54 (c0 :: c1 :: c2 :: .val (.int x) :: l) st h Q ↔ XE d 112 55 (c0 :: c1 :: c2 :: .val (.int x) :: l) (.int x :: st) h Q := g_iload rfl rfl
theorem s112_55 : XE d 112 55 ls (.int x :: .ref a :: st) h Q ↔ (xvo 8 st = true ∧ XV [(10, 52)] (h.2.2.1 a) (fun m' => XC d m' [.ref a, .int x] h (fun v h' => XE d 112 58 ls (v.toList ++ st) h' Q))) := h_v1 rfl rfl
theorem s112_58 : XE d 112 58 ls (.int x :: st) h Q ↔ (if x = 0 then XE d 112 76 ls st h Q else XE d 112 61 ls st h Q) := g_ifeq rfl
theorem s112_61 : XE d 112 61 (c0 :: c1 :: c2 :: c3 :: .val (.int x) :: l) st h Q ↔ XE d 112 63 (c0 :: c1 :: c2 :: c3 :: .val (.int x) :: l) (.int x :: st) h Q := g_iload rfl rfl
theorem s112_63 : XE d 112 63 (.val (.ref a) :: l) st h Q ↔ XE d 112 64 (.val (.ref a) :: l) (.ref a :: st) h Q := g_aload rfl rfl
theorem s112_64 : XE d 112 64 ls (.ref a :: st) h Q ↔ XG [11] 0 (h.2.2.1 a) (fun v => XE d 112 67 ls (v :: st) h Q) := g_getf rfl
theorem s112_67 : XE d 112 67 (c0 :: c1 :: c2 :: .val (.int x) :: l) st h Q ↔ XE d 112 68 (c0 :: c1 :: c2 :: .val (.int x) :: l) (.int x :: st) h Q := g_iload rfl rfl
theorem s112_68 : XE d 112 68 ls st h Q ↔ XE d 112 70 ls (.int (-1000000005) :: st) h Q := g_const rfl
theorem s112_70 : XE d 112 70 ls (.int y :: .int x :: .ref a :: st) h Q ↔ (xvo 8 st = true ∧ XV [(10, 60)] (h.2.2.1 a) (fun m' => XC d m' [.ref a, .int x, .int y] h (fun v h' => XE d 112 73 ls (v.toList ++ st) h' Q))) := h_v2 rfl rfl
theorem s112_73 : XE d 112 73 ls (.int y :: .int x :: st) h Q ↔ (if x = y then XE d 112 78 ls st h Q else XE d 112 76 ls st h Q) := g_ceq rfl
theorem s112_76 : XE d 112 76 (c0 :: c1 :: c2 :: .val (.int x) :: l) st h Q ↔ XE d 112 77 (c0 :: c1 :: c2 :: .val (.int x) :: l) (.int x :: st) h Q := g_iload rfl rfl
theorem s112_77 : XE d 112 77 ls [.int x] h Q ↔ Q (some (.int x)) h := g_iret rfl
theorem s112_78 : XE d 112 78 (c0 :: c1 :: c2 :: .val (.int x) :: l) st h Q ↔ XE d 112 81 (c0 :: c1 :: c2 :: .val (.int (x + 1)) :: l) st h Q := g_iinc rfl rfl rfl
theorem s112_81 : XE d 112 81 ls st h Q ↔ XE d 112 27 ls st h Q := g_goto rfl
theorem s112_84 : XE d 112 84 ls st h Q ↔ XE d 112 86 ls (.int (-1000000005) :: st) h Q := g_const rfl
theorem s112_86 : XE d 112 86 ls [.int x] h Q ↔ Q (some (.int x)) h := g_iret rfl
-- 113: TwoBells.copy(IIIII)I
theorem e113 : XC (d + 1) 113 [.ref a, .int x, .int y, .int z, .int w, .int u] h Q ↔ XE d 113 0 [.val (.ref a), .val (.int x), .val (.int y), .val (.int z), .val (.int w), .val (.int u), .unset, .unset] [] h Q := XC_in rfl
theorem s113_0 : XE d 113 0 (.val (.ref a) :: l) st h Q ↔ XE d 113 1 (.val (.ref a) :: l) (.ref a :: st) h Q := g_aload rfl rfl
theorem s113_1 : XE d 113 1 (c0 :: .val (.int x) :: l) st h Q ↔ XE d 113 2 (c0 :: .val (.int x) :: l) (.int x :: st) h Q := g_iload rfl rfl
theorem s113_2 : XE d 113 2 ls (.int x :: .ref a :: st) h Q ↔ (xvo 8 st = true ∧ XV [(11, 126)] (h.2.2.1 a) (fun m' => XC d m' [.ref a, .int x] h (fun v h' => XE d 113 5 ls (v.toList ++ st) h' Q))) := h_v1 rfl rfl
theorem s113_5 : XE d 113 5 (c0 :: c1 :: c2 :: c3 :: c4 :: c5 :: c6 :: l) (.ref a :: st) h Q ↔ XE d 113 7 (c0 :: c1 :: c2 :: c3 :: c4 :: c5 :: .val (.ref a) :: l) st h Q := g_astore (Nat.lt_of_lt_of_le (show 6 < 7 by decide) (Nat.le_add_left 7 _)) rfl rfl
theorem s113_5n : XE d 113 5 (c0 :: c1 :: c2 :: c3 :: c4 :: c5 :: c6 :: l) (.null :: st) h Q ↔ XE d 113 7 (c0 :: c1 :: c2 :: c3 :: c4 :: c5 :: .val .null :: l) st h Q := g_astoreN (Nat.lt_of_lt_of_le (show 6 < 7 by decide) (Nat.le_add_left 7 _)) rfl rfl
theorem s113_7 : XE d 113 7 (.val (.ref a) :: l) st h Q ↔ XE d 113 8 (.val (.ref a) :: l) (.ref a :: st) h Q := g_aload rfl rfl
theorem s113_8 : XE d 113 8 (c0 :: c1 :: c2 :: .val (.int x) :: l) st h Q ↔ XE d 113 9 (c0 :: c1 :: c2 :: .val (.int x) :: l) (.int x :: st) h Q := g_iload rfl rfl
theorem s113_9 : XE d 113 9 ls (.int x :: .ref a :: st) h Q ↔ (xvo 8 st = true ∧ XV [(11, 126)] (h.2.2.1 a) (fun m' => XC d m' [.ref a, .int x] h (fun v h' => XE d 113 12 ls (v.toList ++ st) h' Q))) := h_v1 rfl rfl
theorem s113_12 : XE d 113 12 (c0 :: c1 :: c2 :: c3 :: c4 :: c5 :: c6 :: c7 :: l) (.ref a :: st) h Q ↔ XE d 113 14 (c0 :: c1 :: c2 :: c3 :: c4 :: c5 :: c6 :: .val (.ref a) :: l) st h Q := g_astore (Nat.lt_of_lt_of_le (show 7 < 8 by decide) (Nat.le_add_left 8 _)) rfl rfl
theorem s113_12n : XE d 113 12 (c0 :: c1 :: c2 :: c3 :: c4 :: c5 :: c6 :: c7 :: l) (.null :: st) h Q ↔ XE d 113 14 (c0 :: c1 :: c2 :: c3 :: c4 :: c5 :: c6 :: .val .null :: l) st h Q := g_astoreN (Nat.lt_of_lt_of_le (show 7 < 8 by decide) (Nat.le_add_left 8 _)) rfl rfl
theorem s113_14 : XE d 113 14 (c0 :: c1 :: c2 :: c3 :: c4 :: c5 :: .val (.ref a) :: l) st h Q ↔ XE d 113 16 (c0 :: c1 :: c2 :: c3 :: c4 :: c5 :: .val (.ref a) :: l) (.ref a :: st) h Q := g_aload rfl rfl
theorem s113_14n : XE d 113 14 (c0 :: c1 :: c2 :: c3 :: c4 :: c5 :: .val .null :: l) st h Q ↔ XE d 113 16 (c0 :: c1 :: c2 :: c3 :: c4 :: c5 :: .val .null :: l) (.null :: st) h Q := g_aloadN rfl rfl
theorem s113_16 : XE d 113 16 ls (.ref a :: st) h Q ↔ XE d 113 19 ls st h Q := g_ifnullR rfl
theorem s113_16n : XE d 113 16 ls (.null :: st) h Q ↔ XE d 113 24 ls st h Q := g_ifnullN rfl
theorem s113_19 : XE d 113 19 (c0 :: c1 :: c2 :: c3 :: c4 :: c5 :: c6 :: .val (.ref a) :: l) st h Q ↔ XE d 113 21 (c0 :: c1 :: c2 :: c3 :: c4 :: c5 :: c6 :: .val (.ref a) :: l) (.ref a :: st) h Q := g_aload rfl rfl
theorem s113_19n : XE d 113 19 (c0 :: c1 :: c2 :: c3 :: c4 :: c5 :: c6 :: .val .null :: l) st h Q ↔ XE d 113 21 (c0 :: c1 :: c2 :: c3 :: c4 :: c5 :: c6 :: .val .null :: l) (.null :: st) h Q := g_aloadN rfl rfl
theorem s113_21 : XE d 113 21 ls (.ref a :: st) h Q ↔ XE d 113 27 ls st h Q := g_ifnonR rfl
theorem s113_21n : XE d 113 21 ls (.null :: st) h Q ↔ XE d 113 24 ls st h Q := g_ifnonN rfl
theorem s113_24 : XE d 113 24 ls st h Q ↔ XE d 113 26 ls (.int (-1000000001) :: st) h Q := g_const rfl
theorem s113_26 : XE d 113 26 ls [.int x] h Q ↔ Q (some (.int x)) h := g_iret rfl
theorem s113_27 : XE d 113 27 (c0 :: c1 :: c2 :: c3 :: c4 :: c5 :: .val (.ref a) :: l) st h Q ↔ XE d 113 29 (c0 :: c1 :: c2 :: c3 :: c4 :: c5 :: .val (.ref a) :: l) (.ref a :: st) h Q := g_aload rfl rfl
theorem s113_27n : XE d 113 27 (c0 :: c1 :: c2 :: c3 :: c4 :: c5 :: .val .null :: l) st h Q ↔ XE d 113 29 (c0 :: c1 :: c2 :: c3 :: c4 :: c5 :: .val .null :: l) (.null :: st) h Q := g_aloadN rfl rfl
theorem s113_29 : XE d 113 29 ls (.ref a :: st) h Q ↔ XG [5] 0 (h.2.2.1 a) (fun v => XE d 113 32 ls (v :: st) h Q) := g_getf rfl
theorem s113_32 : XE d 113 32 ls st h Q ↔ XE d 113 33 ls (.int (-1) :: st) h Q := g_const rfl
theorem s113_33 : XE d 113 33 ls (.int y :: .int x :: st) h Q ↔ (if x = y then XE d 113 45 ls st h Q else XE d 113 36 ls st h Q) := g_ceq rfl
theorem s113_36 : XE d 113 36 (c0 :: c1 :: c2 :: c3 :: c4 :: c5 :: c6 :: .val (.ref a) :: l) st h Q ↔ XE d 113 38 (c0 :: c1 :: c2 :: c3 :: c4 :: c5 :: c6 :: .val (.ref a) :: l) (.ref a :: st) h Q := g_aload rfl rfl
theorem s113_36n : XE d 113 36 (c0 :: c1 :: c2 :: c3 :: c4 :: c5 :: c6 :: .val .null :: l) st h Q ↔ XE d 113 38 (c0 :: c1 :: c2 :: c3 :: c4 :: c5 :: c6 :: .val .null :: l) (.null :: st) h Q := g_aloadN rfl rfl
theorem s113_38 : XE d 113 38 ls (.ref a :: st) h Q ↔ XG [5] 0 (h.2.2.1 a) (fun v => XE d 113 41 ls (v :: st) h Q) := g_getf rfl
theorem s113_41 : XE d 113 41 ls st h Q ↔ XE d 113 42 ls (.int (-1) :: st) h Q := g_const rfl
theorem s113_42 : XE d 113 42 ls (.int y :: .int x :: st) h Q ↔ (if x = y then XE d 113 45 ls st h Q else XE d 113 49 ls st h Q) := g_cne rfl
theorem s113_45 : XE d 113 45 ls st h Q ↔ XE d 113 48 ls (.int (-1000000011) :: st) h Q := g_const rfl
theorem s113_48 : XE d 113 48 ls [.int x] h Q ↔ Q (some (.int x)) h := g_iret rfl
theorem s113_49 : XE d 113 49 (c0 :: c1 :: c2 :: c3 :: c4 :: c5 :: .val (.ref a) :: l) st h Q ↔ XE d 113 51 (c0 :: c1 :: c2 :: c3 :: c4 :: c5 :: .val (.ref a) :: l) (.ref a :: st) h Q := g_aload rfl rfl
theorem s113_49n : XE d 113 49 (c0 :: c1 :: c2 :: c3 :: c4 :: c5 :: .val .null :: l) st h Q ↔ XE d 113 51 (c0 :: c1 :: c2 :: c3 :: c4 :: c5 :: .val .null :: l) (.null :: st) h Q := g_aloadN rfl rfl
theorem s113_51 : XE d 113 51 ls (.ref a :: st) h Q ↔ XG [5] 0 (h.2.2.1 a) (fun v => XE d 113 54 ls (v :: st) h Q) := g_getf rfl
theorem s113_54 : XE d 113 54 (c0 :: c1 :: c2 :: c3 :: c4 :: c5 :: c6 :: .val (.ref a) :: l) st h Q ↔ XE d 113 56 (c0 :: c1 :: c2 :: c3 :: c4 :: c5 :: c6 :: .val (.ref a) :: l) (.ref a :: st) h Q := g_aload rfl rfl
theorem s113_54n : XE d 113 54 (c0 :: c1 :: c2 :: c3 :: c4 :: c5 :: c6 :: .val .null :: l) st h Q ↔ XE d 113 56 (c0 :: c1 :: c2 :: c3 :: c4 :: c5 :: c6 :: .val .null :: l) (.null :: st) h Q := g_aloadN rfl rfl
theorem s113_56 : XE d 113 56 ls (.ref a :: st) h Q ↔ XG [5] 0 (h.2.2.1 a) (fun v => XE d 113 59 ls (v :: st) h Q) := g_getf rfl
theorem s113_59 : XE d 113 59 ls (.int y :: .int x :: st) h Q ↔ (if x = y then XE d 113 65 ls st h Q else XE d 113 62 ls st h Q) := g_ceq rfl
theorem s113_62 : XE d 113 62 ls st h Q ↔ XE d 113 64 ls (.int (-1000000012) :: st) h Q := g_const rfl
theorem s113_64 : XE d 113 64 ls [.int x] h Q ↔ Q (some (.int x)) h := g_iret rfl
theorem s113_65 : XE d 113 65 (c0 :: c1 :: c2 :: c3 :: c4 :: c5 :: .val (.ref a) :: l) st h Q ↔ XE d 113 67 (c0 :: c1 :: c2 :: c3 :: c4 :: c5 :: .val (.ref a) :: l) (.ref a :: st) h Q := g_aload rfl rfl
theorem s113_65n : XE d 113 65 (c0 :: c1 :: c2 :: c3 :: c4 :: c5 :: .val .null :: l) st h Q ↔ XE d 113 67 (c0 :: c1 :: c2 :: c3 :: c4 :: c5 :: .val .null :: l) (.null :: st) h Q := g_aloadN rfl rfl
theorem s113_67 : XE d 113 67 (c0 :: c1 :: .val (.int x) :: l) st h Q ↔ XE d 113 68 (c0 :: c1 :: .val (.int x) :: l) (.int x :: st) h Q := g_iload rfl rfl
theorem s113_68 : XE d 113 68 (c0 :: c1 :: c2 :: c3 :: c4 :: .val (.int x) :: l) st h Q ↔ XE d 113 70 (c0 :: c1 :: c2 :: c3 :: c4 :: .val (.int x) :: l) (.int x :: st) h Q := g_iload rfl rfl
theorem s113_70 : XE d 113 70 ls (.int y :: .int x :: .ref a :: st) h Q ↔ (xvo 8 st = true ∧ XV [(5, 18)] (h.2.2.1 a) (fun m' => XC d m' [.ref a, .int x, .int y] h (fun v h' => XE d 113 73 ls (v.toList ++ st) h' Q))) := h_v2 rfl rfl
theorem s113_73 : XE d 113 73 ls (.int x :: st) h Q ↔ (if x = 0 then XE d 113 88 ls st h Q else XE d 113 76 ls st h Q) := g_ifeq rfl
theorem s113_76 : XE d 113 76 (c0 :: c1 :: c2 :: c3 :: c4 :: c5 :: c6 :: .val (.ref a) :: l) st h Q ↔ XE d 113 78 (c0 :: c1 :: c2 :: c3 :: c4 :: c5 :: c6 :: .val (.ref a) :: l) (.ref a :: st) h Q := g_aload rfl rfl
theorem s113_76n : XE d 113 76 (c0 :: c1 :: c2 :: c3 :: c4 :: c5 :: c6 :: .val .null :: l) st h Q ↔ XE d 113 78 (c0 :: c1 :: c2 :: c3 :: c4 :: c5 :: c6 :: .val .null :: l) (.null :: st) h Q := g_aloadN rfl rfl
theorem s113_78 : XE d 113 78 (c0 :: c1 :: c2 :: c3 :: .val (.int x) :: l) st h Q ↔ XE d 113 80 (c0 :: c1 :: c2 :: c3 :: .val (.int x) :: l) (.int x :: st) h Q := g_iload rfl rfl
theorem s113_80 : XE d 113 80 (c0 :: c1 :: c2 :: c3 :: c4 :: .val (.int x) :: l) st h Q ↔ XE d 113 82 (c0 :: c1 :: c2 :: c3 :: c4 :: .val (.int x) :: l) (.int x :: st) h Q := g_iload rfl rfl
theorem s113_82 : XE d 113 82 ls (.int y :: .int x :: .ref a :: st) h Q ↔ (xvo 8 st = true ∧ XV [(5, 18)] (h.2.2.1 a) (fun m' => XC d m' [.ref a, .int x, .int y] h (fun v h' => XE d 113 85 ls (v.toList ++ st) h' Q))) := h_v2 rfl rfl
theorem s113_85 : XE d 113 85 ls (.int x :: st) h Q ↔ (if x = 0 then XE d 113 88 ls st h Q else XE d 113 92 ls st h Q) := g_ifne rfl
theorem s113_88 : XE d 113 88 ls st h Q ↔ XE d 113 91 ls (.int (-1000000013) :: st) h Q := g_const rfl
theorem s113_91 : XE d 113 91 ls [.int x] h Q ↔ Q (some (.int x)) h := g_iret rfl
theorem s113_92 : XE d 113 92 (c0 :: c1 :: c2 :: c3 :: c4 :: c5 :: .val (.ref a) :: l) st h Q ↔ XE d 113 94 (c0 :: c1 :: c2 :: c3 :: c4 :: c5 :: .val (.ref a) :: l) (.ref a :: st) h Q := g_aload rfl rfl
theorem s113_92n : XE d 113 92 (c0 :: c1 :: c2 :: c3 :: c4 :: c5 :: .val .null :: l) st h Q ↔ XE d 113 94 (c0 :: c1 :: c2 :: c3 :: c4 :: c5 :: .val .null :: l) (.null :: st) h Q := g_aloadN rfl rfl
theorem s113_94 : XE d 113 94 ls (.ref a :: st) h Q ↔ XG [5] 2 (h.2.2.1 a) (fun v => XE d 113 97 ls (v :: st) h Q) := g_getf rfl
theorem s113_97 : XE d 113 97 (c0 :: c1 :: .val (.int x) :: l) st h Q ↔ XE d 113 98 (c0 :: c1 :: .val (.int x) :: l) (.int x :: st) h Q := g_iload rfl rfl
theorem s113_98 : XE d 113 98 (c0 :: c1 :: c2 :: c3 :: c4 :: c5 :: c6 :: .val (.ref a) :: l) st h Q ↔ XE d 113 100 (c0 :: c1 :: c2 :: c3 :: c4 :: c5 :: c6 :: .val (.ref a) :: l) (.ref a :: st) h Q := g_aload rfl rfl
theorem s113_98n : XE d 113 98 (c0 :: c1 :: c2 :: c3 :: c4 :: c5 :: c6 :: .val .null :: l) st h Q ↔ XE d 113 100 (c0 :: c1 :: c2 :: c3 :: c4 :: c5 :: c6 :: .val .null :: l) (.null :: st) h Q := g_aloadN rfl rfl
theorem s113_100 : XE d 113 100 ls (.ref a :: st) h Q ↔ XG [5] 2 (h.2.2.1 a) (fun v => XE d 113 103 ls (v :: st) h Q) := g_getf rfl
theorem s113_103 : XE d 113 103 (c0 :: c1 :: c2 :: c3 :: .val (.int x) :: l) st h Q ↔ XE d 113 105 (c0 :: c1 :: c2 :: c3 :: .val (.int x) :: l) (.int x :: st) h Q := g_iload rfl rfl
theorem s113_105 : XE d 113 105 (c0 :: c1 :: c2 :: c3 :: c4 :: .val (.int x) :: l) st h Q ↔ XE d 113 107 (c0 :: c1 :: c2 :: c3 :: c4 :: .val (.int x) :: l) (.int x :: st) h Q := g_iload rfl rfl
theorem s113_107 (hr : xvo 8 st = true) : XE d 113 107 ls (.int z :: .int y :: .ref a :: .int x :: .ref b :: st) h Q ↔ XCp (h.2.2.1 a) (h.2.2.1 b) z y x (fun e => XE d 113 110 ls st (xset h a e) Q) := g_acopy hr rfl
theorem s113_110 : XE d 113 110 (c0 :: c1 :: c2 :: c3 :: c4 :: .val (.int x) :: l) st h Q ↔ XE d 113 112 (c0 :: c1 :: c2 :: c3 :: c4 :: .val (.int x) :: l) (.int x :: st) h Q := g_iload rfl rfl
theorem s113_112 : XE d 113 112 ls [.int x] h Q ↔ Q (some (.int x)) h := g_iret rfl
-- 114: TwoBells.lay(III)I
theorem e114 : XC (d + 1) 114 [.ref a, .int x, .int y, .int z] h Q ↔ XE d 114 0 [.val (.ref a), .val (.int x), .val (.int y), .val (.int z), .unset, .unset, .unset, .unset] [] h Q := XC_in rfl
theorem s114_0 : XE d 114 0 (.val (.ref a) :: l) st h Q ↔ XE d 114 1 (.val (.ref a) :: l) (.ref a :: st) h Q := g_aload rfl rfl
theorem s114_1 : XE d 114 1 (c0 :: .val (.int x) :: l) st h Q ↔ XE d 114 2 (c0 :: .val (.int x) :: l) (.int x :: st) h Q := g_iload rfl rfl
theorem s114_2 : XE d 114 2 ls (.int x :: .ref a :: st) h Q ↔ (xvo 8 st = true ∧ XV [(11, 127)] (h.2.2.1 a) (fun m' => XC d m' [.ref a, .int x] h (fun v h' => XE d 114 5 ls (v.toList ++ st) h' Q))) := h_v1 rfl rfl
theorem s114_5 : XE d 114 5 (c0 :: c1 :: c2 :: c3 :: c4 :: l) (.ref a :: st) h Q ↔ XE d 114 7 (c0 :: c1 :: c2 :: c3 :: .val (.ref a) :: l) st h Q := g_astore (Nat.lt_of_lt_of_le (show 4 < 5 by decide) (Nat.le_add_left 5 _)) rfl rfl
theorem s114_5n : XE d 114 5 (c0 :: c1 :: c2 :: c3 :: c4 :: l) (.null :: st) h Q ↔ XE d 114 7 (c0 :: c1 :: c2 :: c3 :: .val .null :: l) st h Q := g_astoreN (Nat.lt_of_lt_of_le (show 4 < 5 by decide) (Nat.le_add_left 5 _)) rfl rfl
theorem s114_7 : XE d 114 7 (c0 :: c1 :: c2 :: c3 :: .val (.ref a) :: l) st h Q ↔ XE d 114 9 (c0 :: c1 :: c2 :: c3 :: .val (.ref a) :: l) (.ref a :: st) h Q := g_aload rfl rfl
theorem s114_7n : XE d 114 7 (c0 :: c1 :: c2 :: c3 :: .val .null :: l) st h Q ↔ XE d 114 9 (c0 :: c1 :: c2 :: c3 :: .val .null :: l) (.null :: st) h Q := g_aloadN rfl rfl
theorem s114_9 : XE d 114 9 ls (.ref a :: st) h Q ↔ XE d 114 12 ls st h Q := g_ifnullR rfl
theorem s114_9n : XE d 114 9 ls (.null :: st) h Q ↔ XE d 114 21 ls st h Q := g_ifnullN rfl
theorem s114_12 : XE d 114 12 (c0 :: c1 :: .val (.int x) :: l) st h Q ↔ XE d 114 13 (c0 :: c1 :: .val (.int x) :: l) (.int x :: st) h Q := g_iload rfl rfl
theorem s114_13 : XE d 114 13 ls st h Q ↔ XE d 114 14 ls (.int 0 :: st) h Q := g_const rfl
theorem s114_14 : XE d 114 14 ls st h Q ↔ XE d 114 15 ls (.int 3 :: st) h Q := g_const rfl
theorem s114_15 : XE d 114 15 ls (.int z :: .int y :: .int x :: st) h Q ↔ (xvo 8 st = true ∧ XC d 123 [.int x, .int y, .int z] h (fun v h' => XE d 114 18 ls (v.toList ++ st) h' Q)) := h_s3 rfl rfl
theorem s114_18 : XE d 114 18 ls (.int x :: st) h Q ↔ (if x = 0 then XE d 114 21 ls st h Q else XE d 114 24 ls st h Q) := g_ifne rfl
theorem s114_21 : XE d 114 21 ls st h Q ↔ XE d 114 23 ls (.int (-1000000001) :: st) h Q := g_const rfl
theorem s114_23 : XE d 114 23 ls [.int x] h Q ↔ Q (some (.int x)) h := g_iret rfl
theorem s114_24 : XE d 114 24 (c0 :: c1 :: .val (.int x) :: l) st h Q ↔ XE d 114 25 (c0 :: c1 :: .val (.int x) :: l) (.int x :: st) h Q := g_iload rfl rfl
theorem s114_25 : XE d 114 25 ls st h Q ↔ XE d 114 26 ls (.int 1 :: st) h Q := g_const rfl
theorem s114_26 : XE d 114 26 ls (.int y :: .int x :: st) h Q ↔ (if x = y then XE d 114 29 ls st h Q else XE d 114 40 ls st h Q) := g_cne rfl
theorem s114_29 : XE d 114 29 (.val (.ref a) :: l) st h Q ↔ XE d 114 30 (.val (.ref a) :: l) (.ref a :: st) h Q := g_aload rfl rfl
theorem s114_30 : XE d 114 30 ls (.ref a :: st) h Q ↔ XG [11] 0 (h.2.2.1 a) (fun v => XE d 114 33 ls (v :: st) h Q) := g_getf rfl
theorem s114_33 : XE d 114 33 (c0 :: c1 :: c2 :: .val (.int x) :: l) st h Q ↔ XE d 114 34 (c0 :: c1 :: c2 :: .val (.int x) :: l) (.int x :: st) h Q := g_iload rfl rfl
theorem s114_34 : XE d 114 34 ls (.int x :: .ref a :: st) h Q ↔ (xvo 8 st = true ∧ XV [(10, 54)] (h.2.2.1 a) (fun m' => XC d m' [.ref a, .int x] h (fun v h' => XE d 114 37 ls (v.toList ++ st) h' Q))) := h_v1 rfl rfl
theorem s114_37 : XE d 114 37 ls st h Q ↔ XE d 114 41 ls st h Q := g_goto rfl
theorem s114_40 : XE d 114 40 ls st h Q ↔ XE d 114 41 ls (.null :: st) h Q := g_null rfl
theorem s114_41 : XE d 114 41 (c0 :: c1 :: c2 :: c3 :: c4 :: c5 :: l) (.ref a :: st) h Q ↔ XE d 114 43 (c0 :: c1 :: c2 :: c3 :: c4 :: .val (.ref a) :: l) st h Q := g_astore (Nat.lt_of_lt_of_le (show 5 < 6 by decide) (Nat.le_add_left 6 _)) rfl rfl
theorem s114_41n : XE d 114 41 (c0 :: c1 :: c2 :: c3 :: c4 :: c5 :: l) (.null :: st) h Q ↔ XE d 114 43 (c0 :: c1 :: c2 :: c3 :: c4 :: .val .null :: l) st h Q := g_astoreN (Nat.lt_of_lt_of_le (show 5 < 6 by decide) (Nat.le_add_left 6 _)) rfl rfl
theorem s114_43 : XE d 114 43 (c0 :: c1 :: .val (.int x) :: l) st h Q ↔ XE d 114 44 (c0 :: c1 :: .val (.int x) :: l) (.int x :: st) h Q := g_iload rfl rfl
theorem s114_44 : XE d 114 44 ls st h Q ↔ XE d 114 45 ls (.int 2 :: st) h Q := g_const rfl
theorem s114_45 : XE d 114 45 ls (.int y :: .int x :: st) h Q ↔ (if x = y then XE d 114 48 ls st h Q else XE d 114 56 ls st h Q) := g_cne rfl
theorem s114_48 : XE d 114 48 (.val (.ref a) :: l) st h Q ↔ XE d 114 49 (.val (.ref a) :: l) (.ref a :: st) h Q := g_aload rfl rfl
theorem s114_49 : XE d 114 49 (c0 :: c1 :: c2 :: .val (.int x) :: l) st h Q ↔ XE d 114 50 (c0 :: c1 :: c2 :: .val (.int x) :: l) (.int x :: st) h Q := g_iload rfl rfl
theorem s114_50 : XE d 114 50 ls (.int x :: .ref a :: st) h Q ↔ (xvo 8 st = true ∧ XV [(11, 126)] (h.2.2.1 a) (fun m' => XC d m' [.ref a, .int x] h (fun v h' => XE d 114 53 ls (v.toList ++ st) h' Q))) := h_v1 rfl rfl
theorem s114_53 : XE d 114 53 ls st h Q ↔ XE d 114 57 ls st h Q := g_goto rfl
theorem s114_56 : XE d 114 56 ls st h Q ↔ XE d 114 57 ls (.null :: st) h Q := g_null rfl
theorem s114_57 : XE d 114 57 (c0 :: c1 :: c2 :: c3 :: c4 :: c5 :: c6 :: l) (.ref a :: st) h Q ↔ XE d 114 59 (c0 :: c1 :: c2 :: c3 :: c4 :: c5 :: .val (.ref a) :: l) st h Q := g_astore (Nat.lt_of_lt_of_le (show 6 < 7 by decide) (Nat.le_add_left 7 _)) rfl rfl
theorem s114_57n : XE d 114 57 (c0 :: c1 :: c2 :: c3 :: c4 :: c5 :: c6 :: l) (.null :: st) h Q ↔ XE d 114 59 (c0 :: c1 :: c2 :: c3 :: c4 :: c5 :: .val .null :: l) st h Q := g_astoreN (Nat.lt_of_lt_of_le (show 6 < 7 by decide) (Nat.le_add_left 7 _)) rfl rfl
theorem s114_59 : XE d 114 59 (c0 :: c1 :: .val (.int x) :: l) st h Q ↔ XE d 114 60 (c0 :: c1 :: .val (.int x) :: l) (.int x :: st) h Q := g_iload rfl rfl
theorem s114_60 : XE d 114 60 ls st h Q ↔ XE d 114 61 ls (.int 1 :: st) h Q := g_const rfl
theorem s114_61 : XE d 114 61 ls (.int y :: .int x :: st) h Q ↔ (if x = y then XE d 114 64 ls st h Q else XE d 114 69 ls st h Q) := g_cne rfl
theorem s114_64 : XE d 114 64 (c0 :: c1 :: c2 :: c3 :: c4 :: .val (.ref a) :: l) st h Q ↔ XE d 114 66 (c0 :: c1 :: c2 :: c3 :: c4 :: .val (.ref a) :: l) (.ref a :: st) h Q := g_aload rfl rfl
theorem s114_64n : XE d 114 64 (c0 :: c1 :: c2 :: c3 :: c4 :: .val .null :: l) st h Q ↔ XE d 114 66 (c0 :: c1 :: c2 :: c3 :: c4 :: .val .null :: l) (.null :: st) h Q := g_aloadN rfl rfl
theorem s114_66 : XE d 114 66 ls (.ref a :: st) h Q ↔ XE d 114 69 ls st h Q := g_ifnullR rfl
theorem s114_66n : XE d 114 66 ls (.null :: st) h Q ↔ XE d 114 79 ls st h Q := g_ifnullN rfl
theorem s114_69 : XE d 114 69 (c0 :: c1 :: .val (.int x) :: l) st h Q ↔ XE d 114 70 (c0 :: c1 :: .val (.int x) :: l) (.int x :: st) h Q := g_iload rfl rfl
theorem s114_70 : XE d 114 70 ls st h Q ↔ XE d 114 71 ls (.int 2 :: st) h Q := g_const rfl
theorem s114_71 : XE d 114 71 ls (.int y :: .int x :: st) h Q ↔ (if x = y then XE d 114 74 ls st h Q else XE d 114 82 ls st h Q) := g_cne rfl
theorem s114_74 : XE d 114 74 (c0 :: c1 :: c2 :: c3 :: c4 :: c5 :: .val (.ref a) :: l) st h Q ↔ XE d 114 76 (c0 :: c1 :: c2 :: c3 :: c4 :: c5 :: .val (.ref a) :: l) (.ref a :: st) h Q := g_aload rfl rfl
theorem s114_74n : XE d 114 74 (c0 :: c1 :: c2 :: c3 :: c4 :: c5 :: .val .null :: l) st h Q ↔ XE d 114 76 (c0 :: c1 :: c2 :: c3 :: c4 :: c5 :: .val .null :: l) (.null :: st) h Q := g_aloadN rfl rfl
theorem s114_76 : XE d 114 76 ls (.ref a :: st) h Q ↔ XE d 114 82 ls st h Q := g_ifnonR rfl
theorem s114_76n : XE d 114 76 ls (.null :: st) h Q ↔ XE d 114 79 ls st h Q := g_ifnonN rfl
theorem s114_79 : XE d 114 79 ls st h Q ↔ XE d 114 81 ls (.int (-1000000001) :: st) h Q := g_const rfl
theorem s114_81 : XE d 114 81 ls [.int x] h Q ↔ Q (some (.int x)) h := g_iret rfl
theorem s114_82 : XE d 114 82 (c0 :: c1 :: c2 :: c3 :: c4 :: c5 :: .val (.ref a) :: l) st h Q ↔ XE d 114 84 (c0 :: c1 :: c2 :: c3 :: c4 :: c5 :: .val (.ref a) :: l) (.ref a :: st) h Q := g_aload rfl rfl
theorem s114_82n : XE d 114 82 (c0 :: c1 :: c2 :: c3 :: c4 :: c5 :: .val .null :: l) st h Q ↔ XE d 114 84 (c0 :: c1 :: c2 :: c3 :: c4 :: c5 :: .val .null :: l) (.null :: st) h Q := g_aloadN rfl rfl
theorem s114_84 : XE d 114 84 ls (.ref a :: st) h Q ↔ XE d 114 87 ls st h Q := g_ifnullR rfl
theorem s114_84n : XE d 114 84 ls (.null :: st) h Q ↔ XE d 114 100 ls st h Q := g_ifnullN rfl
theorem s114_87 : XE d 114 87 (c0 :: c1 :: c2 :: c3 :: c4 :: c5 :: .val (.ref a) :: l) st h Q ↔ XE d 114 89 (c0 :: c1 :: c2 :: c3 :: c4 :: c5 :: .val (.ref a) :: l) (.ref a :: st) h Q := g_aload rfl rfl
theorem s114_87n : XE d 114 87 (c0 :: c1 :: c2 :: c3 :: c4 :: c5 :: .val .null :: l) st h Q ↔ XE d 114 89 (c0 :: c1 :: c2 :: c3 :: c4 :: c5 :: .val .null :: l) (.null :: st) h Q := g_aloadN rfl rfl
theorem s114_89 : XE d 114 89 ls (.ref a :: st) h Q ↔ XG [5] 0 (h.2.2.1 a) (fun v => XE d 114 92 ls (v :: st) h Q) := g_getf rfl
theorem s114_92 : XE d 114 92 ls st h Q ↔ XE d 114 93 ls (.int (-1) :: st) h Q := g_const rfl
theorem s114_93 : XE d 114 93 ls (.int y :: .int x :: st) h Q ↔ (if x = y then XE d 114 96 ls st h Q else XE d 114 100 ls st h Q) := g_cne rfl
theorem s114_96 : XE d 114 96 ls st h Q ↔ XE d 114 99 ls (.int (-1000000011) :: st) h Q := g_const rfl
theorem s114_99 : XE d 114 99 ls [.int x] h Q ↔ Q (some (.int x)) h := g_iret rfl
theorem s114_100 : XE d 114 100 (c0 :: c1 :: c2 :: c3 :: .val (.ref a) :: l) st h Q ↔ XE d 114 102 (c0 :: c1 :: c2 :: c3 :: .val (.ref a) :: l) (.ref a :: st) h Q := g_aload rfl rfl
theorem s114_100n : XE d 114 100 (c0 :: c1 :: c2 :: c3 :: .val .null :: l) st h Q ↔ XE d 114 102 (c0 :: c1 :: c2 :: c3 :: .val .null :: l) (.null :: st) h Q := g_aloadN rfl rfl
theorem s114_102 : XE d 114 102 ls (.ref a :: st) h Q ↔ XG [6] 0 (h.2.2.1 a) (fun v => XE d 114 105 ls (v :: st) h Q) := g_getf rfl
theorem s114_105 : XE d 114 105 (c0 :: c1 :: c2 :: c3 :: c4 :: c5 :: c6 :: c7 :: l) (.int x :: st) h Q ↔ XE d 114 107 (c0 :: c1 :: c2 :: c3 :: c4 :: c5 :: c6 :: .val (.int x) :: l) st h Q := g_istore (Nat.lt_of_lt_of_le (show 7 < 8 by decide) (Nat.le_add_left 8 _)) rfl rfl
theorem s114_107 : XE d 114 107 (c0 :: c1 :: c2 :: c3 :: .val (.ref a) :: l) st h Q ↔ XE d 114 109 (c0 :: c1 :: c2 :: c3 :: .val (.ref a) :: l) (.ref a :: st) h Q := g_aload rfl rfl
theorem s114_107n : XE d 114 107 (c0 :: c1 :: c2 :: c3 :: .val .null :: l) st h Q ↔ XE d 114 109 (c0 :: c1 :: c2 :: c3 :: .val .null :: l) (.null :: st) h Q := g_aloadN rfl rfl
theorem s114_109 : XE d 114 109 (c0 :: c1 :: .val (.int x) :: l) st h Q ↔ XE d 114 110 (c0 :: c1 :: .val (.int x) :: l) (.int x :: st) h Q := g_iload rfl rfl
theorem s114_110 : XE d 114 110 ls (.int x :: .ref a :: st) h Q ↔ XP [6] 0 (.int x) (h.2.2.1 a) (fun e => XE d 114 113 ls st (xset h a e) Q) := g_puti rfl
theorem s114_113 : XE d 114 113 (c0 :: c1 :: c2 :: c3 :: .val (.ref a) :: l) st h Q ↔ XE d 114 115 (c0 :: c1 :: c2 :: c3 :: .val (.ref a) :: l) (.ref a :: st) h Q := g_aload rfl rfl
theorem s114_113n : XE d 114 113 (c0 :: c1 :: c2 :: c3 :: .val .null :: l) st h Q ↔ XE d 114 115 (c0 :: c1 :: c2 :: c3 :: .val .null :: l) (.null :: st) h Q := g_aloadN rfl rfl
theorem s114_115 : XE d 114 115 (c0 :: c1 :: c2 :: c3 :: c4 :: .val (.ref a) :: l) st h Q ↔ XE d 114 117 (c0 :: c1 :: c2 :: c3 :: c4 :: .val (.ref a) :: l) (.ref a :: st) h Q := g_aload rfl rfl
theorem s114_115n : XE d 114 115 (c0 :: c1 :: c2 :: c3 :: c4 :: .val .null :: l) st h Q ↔ XE d 114 117 (c0 :: c1 :: c2 :: c3 :: c4 :: .val .null :: l) (.null :: st) h Q := g_aloadN rfl rfl
theorem s114_117 : XE d 114 117 ls (.ref b :: .ref a :: st) h Q ↔ XP [6] 1 (.ref b) (h.2.2.1 a) (fun e => XE d 114 120 ls st (xset h a e) Q) := g_putaR rfl
theorem s114_117n : XE d 114 117 ls (.null :: .ref a :: st) h Q ↔ XP [6] 1 .null (h.2.2.1 a) (fun e => XE d 114 120 ls st (xset h a e) Q) := g_putaN rfl
theorem s114_120 : XE d 114 120 (c0 :: c1 :: c2 :: c3 :: .val (.ref a) :: l) st h Q ↔ XE d 114 122 (c0 :: c1 :: c2 :: c3 :: .val (.ref a) :: l) (.ref a :: st) h Q := g_aload rfl rfl
theorem s114_120n : XE d 114 120 (c0 :: c1 :: c2 :: c3 :: .val .null :: l) st h Q ↔ XE d 114 122 (c0 :: c1 :: c2 :: c3 :: .val .null :: l) (.null :: st) h Q := g_aloadN rfl rfl
theorem s114_122 : XE d 114 122 (c0 :: c1 :: c2 :: .val (.int x) :: l) st h Q ↔ XE d 114 123 (c0 :: c1 :: c2 :: .val (.int x) :: l) (.int x :: st) h Q := g_iload rfl rfl
theorem s114_123 : XE d 114 123 ls (.int x :: .ref a :: st) h Q ↔ XP [6] 3 (.int x) (h.2.2.1 a) (fun e => XE d 114 126 ls st (xset h a e) Q) := g_puti rfl
theorem s114_126 : XE d 114 126 (c0 :: c1 :: c2 :: c3 :: c4 :: c5 :: .val (.ref a) :: l) st h Q ↔ XE d 114 128 (c0 :: c1 :: c2 :: c3 :: c4 :: c5 :: .val (.ref a) :: l) (.ref a :: st) h Q := g_aload rfl rfl
theorem s114_126n : XE d 114 126 (c0 :: c1 :: c2 :: c3 :: c4 :: c5 :: .val .null :: l) st h Q ↔ XE d 114 128 (c0 :: c1 :: c2 :: c3 :: c4 :: c5 :: .val .null :: l) (.null :: st) h Q := g_aloadN rfl rfl
theorem s114_128 : XE d 114 128 ls (.ref a :: st) h Q ↔ XE d 114 131 ls st h Q := g_ifnullR rfl
theorem s114_128n : XE d 114 128 ls (.null :: st) h Q ↔ XE d 114 141 ls st h Q := g_ifnullN rfl
theorem s114_131 : XE d 114 131 (c0 :: c1 :: c2 :: c3 :: .val (.ref a) :: l) st h Q ↔ XE d 114 133 (c0 :: c1 :: c2 :: c3 :: .val (.ref a) :: l) (.ref a :: st) h Q := g_aload rfl rfl
theorem s114_131n : XE d 114 131 (c0 :: c1 :: c2 :: c3 :: .val .null :: l) st h Q ↔ XE d 114 133 (c0 :: c1 :: c2 :: c3 :: .val .null :: l) (.null :: st) h Q := g_aloadN rfl rfl
theorem s114_133 : XE d 114 133 ls (.ref a :: st) h Q ↔ XG [6] 2 (h.2.2.1 a) (fun v => XE d 114 136 ls (v :: st) h Q) := g_getf rfl
theorem s114_136 : XE d 114 136 (c0 :: c1 :: c2 :: c3 :: c4 :: c5 :: .val (.ref a) :: l) st h Q ↔ XE d 114 138 (c0 :: c1 :: c2 :: c3 :: c4 :: c5 :: .val (.ref a) :: l) (.ref a :: st) h Q := g_aload rfl rfl
theorem s114_136n : XE d 114 136 (c0 :: c1 :: c2 :: c3 :: c4 :: c5 :: .val .null :: l) st h Q ↔ XE d 114 138 (c0 :: c1 :: c2 :: c3 :: c4 :: c5 :: .val .null :: l) (.null :: st) h Q := g_aloadN rfl rfl
theorem s114_138 : XE d 114 138 ls (.ref b :: .ref a :: st) h Q ↔ (xvo 8 st = true ∧ XV [(5, 16)] (h.2.2.1 a) (fun m' => XC d m' [.ref a, .ref b] h (fun v h' => XE d 114 141 ls (v.toList ++ st) h' Q))) := h_v1 rfl rfl
theorem s114_141 : XE d 114 141 (c0 :: c1 :: c2 :: c3 :: c4 :: c5 :: c6 :: .val (.int x) :: l) st h Q ↔ XE d 114 143 (c0 :: c1 :: c2 :: c3 :: c4 :: c5 :: c6 :: .val (.int x) :: l) (.int x :: st) h Q := g_iload rfl rfl
theorem s114_143 : XE d 114 143 ls [.int x] h Q ↔ Q (some (.int x)) h := g_iret rfl
-- 115: TwoBells.ask(II)I
theorem e115 : XC (d + 1) 115 [.ref a, .int x, .int y] h Q ↔ XE d 115 0 [.val (.ref a), .val (.int x), .val (.int y), .unset, .unset] [] h Q := XC_in rfl
theorem s115_0 : XE d 115 0 (.val (.ref a) :: l) st h Q ↔ XE d 115 1 (.val (.ref a) :: l) (.ref a :: st) h Q := g_aload rfl rfl
theorem s115_1 : XE d 115 1 (c0 :: .val (.int x) :: l) st h Q ↔ XE d 115 2 (c0 :: .val (.int x) :: l) (.int x :: st) h Q := g_iload rfl rfl
theorem s115_2 : XE d 115 2 ls (.int x :: .ref a :: st) h Q ↔ (xvo 8 st = true ∧ XV [(11, 127)] (h.2.2.1 a) (fun m' => XC d m' [.ref a, .int x] h (fun v h' => XE d 115 5 ls (v.toList ++ st) h' Q))) := h_v1 rfl rfl
theorem s115_5 : XE d 115 5 (c0 :: c1 :: c2 :: c3 :: l) (.ref a :: st) h Q ↔ XE d 115 6 (c0 :: c1 :: c2 :: .val (.ref a) :: l) st h Q := g_astore (Nat.lt_of_lt_of_le (show 3 < 4 by decide) (Nat.le_add_left 4 _)) rfl rfl
theorem s115_5n : XE d 115 5 (c0 :: c1 :: c2 :: c3 :: l) (.null :: st) h Q ↔ XE d 115 6 (c0 :: c1 :: c2 :: .val .null :: l) st h Q := g_astoreN (Nat.lt_of_lt_of_le (show 3 < 4 by decide) (Nat.le_add_left 4 _)) rfl rfl
theorem s115_6 : XE d 115 6 (c0 :: c1 :: c2 :: .val (.ref a) :: l) st h Q ↔ XE d 115 7 (c0 :: c1 :: c2 :: .val (.ref a) :: l) (.ref a :: st) h Q := g_aload rfl rfl
theorem s115_6n : XE d 115 6 (c0 :: c1 :: c2 :: .val .null :: l) st h Q ↔ XE d 115 7 (c0 :: c1 :: c2 :: .val .null :: l) (.null :: st) h Q := g_aloadN rfl rfl
theorem s115_7 : XE d 115 7 ls (.ref a :: st) h Q ↔ XE d 115 10 ls st h Q := g_ifnullR rfl
theorem s115_7n : XE d 115 7 ls (.null :: st) h Q ↔ XE d 115 17 ls st h Q := g_ifnullN rfl
theorem s115_10 : XE d 115 10 (c0 :: c1 :: .val (.int x) :: l) st h Q ↔ XE d 115 11 (c0 :: c1 :: .val (.int x) :: l) (.int x :: st) h Q := g_iload rfl rfl
theorem s115_11 : XE d 115 11 ls (.int x :: st) h Q ↔ (xvo 8 st = true ∧ XC d 125 [.int x] h (fun v h' => XE d 115 14 ls (v.toList ++ st) h' Q)) := h_s1 rfl rfl
theorem s115_14 : XE d 115 14 ls (.int x :: st) h Q ↔ (if x = 0 then XE d 115 17 ls st h Q else XE d 115 20 ls st h Q) := g_ifne rfl
theorem s115_17 : XE d 115 17 ls st h Q ↔ XE d 115 19 ls (.int (-1000000001) :: st) h Q := g_const rfl
theorem s115_19 : XE d 115 19 ls [.int x] h Q ↔ Q (some (.int x)) h := g_iret rfl
theorem s115_20 : XE d 115 20 (c0 :: c1 :: c2 :: .val (.ref a) :: l) st h Q ↔ XE d 115 21 (c0 :: c1 :: c2 :: .val (.ref a) :: l) (.ref a :: st) h Q := g_aload rfl rfl
theorem s115_20n : XE d 115 20 (c0 :: c1 :: c2 :: .val .null :: l) st h Q ↔ XE d 115 21 (c0 :: c1 :: c2 :: .val .null :: l) (.null :: st) h Q := g_aloadN rfl rfl
theorem s115_21 : XE d 115 21 ls (.ref a :: st) h Q ↔ XG [6] 0 (h.2.2.1 a) (fun v => XE d 115 24 ls (v :: st) h Q) := g_getf rfl
theorem s115_24 : XE d 115 24 ls (.int x :: st) h Q ↔ (if x = 0 then XE d 115 27 ls st h Q else XE d 115 31 ls st h Q) := g_ifne rfl
theorem s115_27 : XE d 115 27 ls st h Q ↔ XE d 115 30 ls (.int (-1000000011) :: st) h Q := g_const rfl
theorem s115_30 : XE d 115 30 ls [.int x] h Q ↔ Q (some (.int x)) h := g_iret rfl
theorem s115_31 : XE d 115 31 (c0 :: c1 :: c2 :: .val (.ref a) :: l) st h Q ↔ XE d 115 32 (c0 :: c1 :: c2 :: .val (.ref a) :: l) (.ref a :: st) h Q := g_aload rfl rfl
theorem s115_31n : XE d 115 31 (c0 :: c1 :: c2 :: .val .null :: l) st h Q ↔ XE d 115 32 (c0 :: c1 :: c2 :: .val .null :: l) (.null :: st) h Q := g_aloadN rfl rfl
theorem s115_32 : XE d 115 32 ls (.ref a :: st) h Q ↔ XG [6] 1 (h.2.2.1 a) (fun v => XE d 115 35 ls (v :: st) h Q) := g_getf rfl
theorem s115_35 : XE d 115 35 (c0 :: c1 :: c2 :: c3 :: c4 :: l) (.ref a :: st) h Q ↔ XE d 115 37 (c0 :: c1 :: c2 :: c3 :: .val (.ref a) :: l) st h Q := g_astore (Nat.lt_of_lt_of_le (show 4 < 5 by decide) (Nat.le_add_left 5 _)) rfl rfl
theorem s115_35n : XE d 115 35 (c0 :: c1 :: c2 :: c3 :: c4 :: l) (.null :: st) h Q ↔ XE d 115 37 (c0 :: c1 :: c2 :: c3 :: .val .null :: l) st h Q := g_astoreN (Nat.lt_of_lt_of_le (show 4 < 5 by decide) (Nat.le_add_left 5 _)) rfl rfl
theorem s115_37 : XE d 115 37 (c0 :: c1 :: c2 :: c3 :: .val (.ref a) :: l) st h Q ↔ XE d 115 39 (c0 :: c1 :: c2 :: c3 :: .val (.ref a) :: l) (.ref a :: st) h Q := g_aload rfl rfl
theorem s115_37n : XE d 115 37 (c0 :: c1 :: c2 :: c3 :: .val .null :: l) st h Q ↔ XE d 115 39 (c0 :: c1 :: c2 :: c3 :: .val .null :: l) (.null :: st) h Q := g_aloadN rfl rfl
theorem s115_39 : XE d 115 39 ls (.ref a :: st) h Q ↔ XE d 115 42 ls st h Q := g_ifnullR rfl
theorem s115_39n : XE d 115 39 ls (.null :: st) h Q ↔ XE d 115 59 ls st h Q := g_ifnullN rfl
theorem s115_42 : XE d 115 42 (c0 :: c1 :: c2 :: c3 :: .val (.ref a) :: l) st h Q ↔ XE d 115 44 (c0 :: c1 :: c2 :: c3 :: .val (.ref a) :: l) (.ref a :: st) h Q := g_aload rfl rfl
theorem s115_42n : XE d 115 42 (c0 :: c1 :: c2 :: c3 :: .val .null :: l) st h Q ↔ XE d 115 44 (c0 :: c1 :: c2 :: c3 :: .val .null :: l) (.null :: st) h Q := g_aloadN rfl rfl
theorem s115_44 : XE d 115 44 (c0 :: c1 :: .val (.int x) :: l) st h Q ↔ XE d 115 45 (c0 :: c1 :: .val (.int x) :: l) (.int x :: st) h Q := g_iload rfl rfl
theorem s115_45 : XE d 115 45 ls (.int x :: .ref a :: st) h Q ↔ (xvo 8 st = true ∧ XV [(0, 46), (1, 46), (2, 46), (3, 46), (4, 46), (9, 46)] (h.2.2.1 a) (fun m' => XC d m' [.ref a, .int x] h (fun v h' => XE d 115 48 ls (v.toList ++ st) h' Q))) := h_v1 rfl rfl
theorem s115_48 : XE d 115 48 ls (.int x :: st) h Q ↔ (if x = 0 then XE d 115 59 ls st h Q else XE d 115 51 ls st h Q) := g_ifeq rfl
theorem s115_51 : XE d 115 51 (c0 :: c1 :: c2 :: c3 :: .val (.ref a) :: l) st h Q ↔ XE d 115 53 (c0 :: c1 :: c2 :: c3 :: .val (.ref a) :: l) (.ref a :: st) h Q := g_aload rfl rfl
theorem s115_51n : XE d 115 51 (c0 :: c1 :: c2 :: c3 :: .val .null :: l) st h Q ↔ XE d 115 53 (c0 :: c1 :: c2 :: c3 :: .val .null :: l) (.null :: st) h Q := g_aloadN rfl rfl
theorem s115_53 : XE d 115 53 ls (.ref a :: st) h Q ↔ (xvo 8 st = true ∧ XV [(0, 2), (1, 5), (2, 8), (3, 11), (4, 14), (9, 49)] (h.2.2.1 a) (fun m' => XC d m' [.ref a] h (fun v h' => XE d 115 56 ls (v.toList ++ st) h' Q))) := h_v0 rfl
theorem s115_56 : XE d 115 56 ls st h Q ↔ XE d 115 61 ls st h Q := g_goto rfl
theorem s115_59 : XE d 115 59 ls st h Q ↔ XE d 115 61 ls (.int (-1000000012) :: st) h Q := g_const rfl
theorem s115_61 : XE d 115 61 ls [.int x] h Q ↔ Q (some (.int x)) h := g_iret rfl
-- 116: TwoBells.item(II)I
theorem e116 : XC (d + 1) 116 [.ref a, .int x, .int y] h Q ↔ XE d 116 0 [.val (.ref a), .val (.int x), .val (.int y), .unset, .unset] [] h Q := XC_in rfl
theorem s116_0 : XE d 116 0 (.val (.ref a) :: l) st h Q ↔ XE d 116 1 (.val (.ref a) :: l) (.ref a :: st) h Q := g_aload rfl rfl
theorem s116_1 : XE d 116 1 (c0 :: .val (.int x) :: l) st h Q ↔ XE d 116 2 (c0 :: .val (.int x) :: l) (.int x :: st) h Q := g_iload rfl rfl
theorem s116_2 : XE d 116 2 ls (.int x :: .ref a :: st) h Q ↔ (xvo 8 st = true ∧ XV [(11, 127)] (h.2.2.1 a) (fun m' => XC d m' [.ref a, .int x] h (fun v h' => XE d 116 5 ls (v.toList ++ st) h' Q))) := h_v1 rfl rfl
theorem s116_5 : XE d 116 5 (c0 :: c1 :: c2 :: c3 :: l) (.ref a :: st) h Q ↔ XE d 116 6 (c0 :: c1 :: c2 :: .val (.ref a) :: l) st h Q := g_astore (Nat.lt_of_lt_of_le (show 3 < 4 by decide) (Nat.le_add_left 4 _)) rfl rfl
theorem s116_5n : XE d 116 5 (c0 :: c1 :: c2 :: c3 :: l) (.null :: st) h Q ↔ XE d 116 6 (c0 :: c1 :: c2 :: .val .null :: l) st h Q := g_astoreN (Nat.lt_of_lt_of_le (show 3 < 4 by decide) (Nat.le_add_left 4 _)) rfl rfl
theorem s116_6 : XE d 116 6 (c0 :: c1 :: c2 :: .val (.ref a) :: l) st h Q ↔ XE d 116 7 (c0 :: c1 :: c2 :: .val (.ref a) :: l) (.ref a :: st) h Q := g_aload rfl rfl
theorem s116_6n : XE d 116 6 (c0 :: c1 :: c2 :: .val .null :: l) st h Q ↔ XE d 116 7 (c0 :: c1 :: c2 :: .val .null :: l) (.null :: st) h Q := g_aloadN rfl rfl
theorem s116_7 : XE d 116 7 ls (.ref a :: st) h Q ↔ XE d 116 13 ls st h Q := g_ifnonR rfl
theorem s116_7n : XE d 116 7 ls (.null :: st) h Q ↔ XE d 116 10 ls st h Q := g_ifnonN rfl
theorem s116_10 : XE d 116 10 ls st h Q ↔ XE d 116 12 ls (.int (-1000000001) :: st) h Q := g_const rfl
theorem s116_12 : XE d 116 12 ls [.int x] h Q ↔ Q (some (.int x)) h := g_iret rfl
theorem s116_13 : XE d 116 13 (c0 :: c1 :: c2 :: .val (.ref a) :: l) st h Q ↔ XE d 116 14 (c0 :: c1 :: c2 :: .val (.ref a) :: l) (.ref a :: st) h Q := g_aload rfl rfl
theorem s116_13n : XE d 116 13 (c0 :: c1 :: c2 :: .val .null :: l) st h Q ↔ XE d 116 14 (c0 :: c1 :: c2 :: .val .null :: l) (.null :: st) h Q := g_aloadN rfl rfl
theorem s116_14 : XE d 116 14 ls (.ref a :: st) h Q ↔ XG [6] 0 (h.2.2.1 a) (fun v => XE d 116 17 ls (v :: st) h Q) := g_getf rfl
theorem s116_17 : XE d 116 17 ls (.int x :: st) h Q ↔ (if x = 0 then XE d 116 20 ls st h Q else XE d 116 24 ls st h Q) := g_ifne rfl
theorem s116_20 : XE d 116 20 ls st h Q ↔ XE d 116 23 ls (.int (-1000000011) :: st) h Q := g_const rfl
theorem s116_23 : XE d 116 23 ls [.int x] h Q ↔ Q (some (.int x)) h := g_iret rfl
theorem s116_24 : XE d 116 24 (c0 :: c1 :: c2 :: .val (.ref a) :: l) st h Q ↔ XE d 116 25 (c0 :: c1 :: c2 :: .val (.ref a) :: l) (.ref a :: st) h Q := g_aload rfl rfl
theorem s116_24n : XE d 116 24 (c0 :: c1 :: c2 :: .val .null :: l) st h Q ↔ XE d 116 25 (c0 :: c1 :: c2 :: .val .null :: l) (.null :: st) h Q := g_aloadN rfl rfl
theorem s116_25 : XE d 116 25 ls (.ref a :: st) h Q ↔ XG [6] 0 (h.2.2.1 a) (fun v => XE d 116 28 ls (v :: st) h Q) := g_getf rfl
theorem s116_28 : XE d 116 28 ls st h Q ↔ XE d 116 29 ls (.int 2 :: st) h Q := g_const rfl
theorem s116_29 : XE d 116 29 ls (.int y :: .int x :: st) h Q ↔ (if x = y then XE d 116 35 ls st h Q else XE d 116 32 ls st h Q) := g_ceq rfl
theorem s116_32 : XE d 116 32 ls st h Q ↔ XE d 116 34 ls (.int (-1000000012) :: st) h Q := g_const rfl
theorem s116_34 : XE d 116 34 ls [.int x] h Q ↔ Q (some (.int x)) h := g_iret rfl
theorem s116_35 : XE d 116 35 (c0 :: c1 :: c2 :: .val (.ref a) :: l) st h Q ↔ XE d 116 36 (c0 :: c1 :: c2 :: .val (.ref a) :: l) (.ref a :: st) h Q := g_aload rfl rfl
theorem s116_35n : XE d 116 35 (c0 :: c1 :: c2 :: .val .null :: l) st h Q ↔ XE d 116 36 (c0 :: c1 :: c2 :: .val .null :: l) (.null :: st) h Q := g_aloadN rfl rfl
theorem s116_36 : XE d 116 36 ls (.ref a :: st) h Q ↔ XG [6] 2 (h.2.2.1 a) (fun v => XE d 116 39 ls (v :: st) h Q) := g_getf rfl
theorem s116_39 : XE d 116 39 (c0 :: c1 :: .val (.int x) :: l) st h Q ↔ XE d 116 40 (c0 :: c1 :: .val (.int x) :: l) (.int x :: st) h Q := g_iload rfl rfl
theorem s116_40 : XE d 116 40 ls (.int x :: .ref a :: st) h Q ↔ (xvo 8 st = true ∧ XV [(5, 17)] (h.2.2.1 a) (fun m' => XC d m' [.ref a, .int x] h (fun v h' => XE d 116 43 ls (v.toList ++ st) h' Q))) := h_v1 rfl rfl
theorem s116_43 : XE d 116 43 ls (.int x :: st) h Q ↔ (if x = 0 then XE d 116 46 ls st h Q else XE d 116 50 ls st h Q) := g_ifne rfl
theorem s116_46 : XE d 116 46 ls st h Q ↔ XE d 116 49 ls (.int (-1000000013) :: st) h Q := g_const rfl
theorem s116_49 : XE d 116 49 ls [.int x] h Q ↔ Q (some (.int x)) h := g_iret rfl
theorem s116_50 : XE d 116 50 (c0 :: c1 :: c2 :: .val (.ref a) :: l) st h Q ↔ XE d 116 51 (c0 :: c1 :: c2 :: .val (.ref a) :: l) (.ref a :: st) h Q := g_aload rfl rfl
theorem s116_50n : XE d 116 50 (c0 :: c1 :: c2 :: .val .null :: l) st h Q ↔ XE d 116 51 (c0 :: c1 :: c2 :: .val .null :: l) (.null :: st) h Q := g_aloadN rfl rfl
theorem s116_51 : XE d 116 51 ls (.ref a :: st) h Q ↔ XG [6] 2 (h.2.2.1 a) (fun v => XE d 116 54 ls (v :: st) h Q) := g_getf rfl
theorem s116_54 : XE d 116 54 ls (.ref a :: st) h Q ↔ XG [5] 2 (h.2.2.1 a) (fun v => XE d 116 57 ls (v :: st) h Q) := g_getf rfl
theorem s116_57 : XE d 116 57 (c0 :: c1 :: .val (.int x) :: l) st h Q ↔ XE d 116 58 (c0 :: c1 :: .val (.int x) :: l) (.int x :: st) h Q := g_iload rfl rfl
theorem s116_58 : XE d 116 58 ls (.int x :: .ref a :: st) h Q ↔ XA [0, 7] (h.2.2.1 a) x (fun k => XE d 116 59 ls (.int k :: st) h Q) := g_ald rfl
theorem s116_59 : XE d 116 59 (c0 :: c1 :: c2 :: c3 :: c4 :: l) (.int x :: st) h Q ↔ XE d 116 61 (c0 :: c1 :: c2 :: c3 :: .val (.int x) :: l) st h Q := g_istore (Nat.lt_of_lt_of_le (show 4 < 5 by decide) (Nat.le_add_left 5 _)) rfl rfl
theorem s116_61 : XE d 116 61 (c0 :: c1 :: c2 :: c3 :: .val (.int x) :: l) st h Q ↔ XE d 116 63 (c0 :: c1 :: c2 :: c3 :: .val (.int x) :: l) (.int x :: st) h Q := g_iload rfl rfl
theorem s116_63 : XE d 116 63 ls st h Q ↔ XE d 116 65 ls (.int (-1000000005) :: st) h Q := g_const rfl
theorem s116_65 : XE d 116 65 ls (.int y :: .int x :: st) h Q ↔ (if x = y then XE d 116 68 ls st h Q else XE d 116 73 ls st h Q) := g_cne rfl
theorem s116_68 : XE d 116 68 ls st h Q ↔ XE d 116 70 ls (.int (-1000000012) :: st) h Q := g_const rfl
theorem s116_70 : XE d 116 70 ls st h Q ↔ XE d 116 75 ls st h Q := g_goto rfl
theorem s116_73 : XE d 116 73 (c0 :: c1 :: c2 :: c3 :: .val (.int x) :: l) st h Q ↔ XE d 116 75 (c0 :: c1 :: c2 :: c3 :: .val (.int x) :: l) (.int x :: st) h Q := g_iload rfl rfl
theorem s116_75 : XE d 116 75 ls [.int x] h Q ↔ Q (some (.int x)) h := g_iret rfl
-- 117: TwoBells.rest(II)I
theorem e117 : XC (d + 1) 117 [.ref a, .int x, .int y] h Q ↔ XE d 117 0 [.val (.ref a), .val (.int x), .val (.int y), .unset] [] h Q := XC_in rfl
theorem s117_0 : XE d 117 0 (.val (.ref a) :: l) st h Q ↔ XE d 117 1 (.val (.ref a) :: l) (.ref a :: st) h Q := g_aload rfl rfl
theorem s117_1 : XE d 117 1 (c0 :: .val (.int x) :: l) st h Q ↔ XE d 117 2 (c0 :: .val (.int x) :: l) (.int x :: st) h Q := g_iload rfl rfl
theorem s117_2 : XE d 117 2 ls (.int x :: .ref a :: st) h Q ↔ (xvo 8 st = true ∧ XV [(11, 127)] (h.2.2.1 a) (fun m' => XC d m' [.ref a, .int x] h (fun v h' => XE d 117 5 ls (v.toList ++ st) h' Q))) := h_v1 rfl rfl
theorem s117_5 : XE d 117 5 (c0 :: c1 :: c2 :: c3 :: l) (.ref a :: st) h Q ↔ XE d 117 6 (c0 :: c1 :: c2 :: .val (.ref a) :: l) st h Q := g_astore (Nat.lt_of_lt_of_le (show 3 < 4 by decide) (Nat.le_add_left 4 _)) rfl rfl
theorem s117_5n : XE d 117 5 (c0 :: c1 :: c2 :: c3 :: l) (.null :: st) h Q ↔ XE d 117 6 (c0 :: c1 :: c2 :: .val .null :: l) st h Q := g_astoreN (Nat.lt_of_lt_of_le (show 3 < 4 by decide) (Nat.le_add_left 4 _)) rfl rfl
theorem s117_6 : XE d 117 6 (c0 :: c1 :: c2 :: .val (.ref a) :: l) st h Q ↔ XE d 117 7 (c0 :: c1 :: c2 :: .val (.ref a) :: l) (.ref a :: st) h Q := g_aload rfl rfl
theorem s117_6n : XE d 117 6 (c0 :: c1 :: c2 :: .val .null :: l) st h Q ↔ XE d 117 7 (c0 :: c1 :: c2 :: .val .null :: l) (.null :: st) h Q := g_aloadN rfl rfl
theorem s117_7 : XE d 117 7 ls (.ref a :: st) h Q ↔ XE d 117 13 ls st h Q := g_ifnonR rfl
theorem s117_7n : XE d 117 7 ls (.null :: st) h Q ↔ XE d 117 10 ls st h Q := g_ifnonN rfl
theorem s117_10 : XE d 117 10 ls st h Q ↔ XE d 117 12 ls (.int (-1000000001) :: st) h Q := g_const rfl
theorem s117_12 : XE d 117 12 ls [.int x] h Q ↔ Q (some (.int x)) h := g_iret rfl
theorem s117_13 : XE d 117 13 (c0 :: c1 :: c2 :: .val (.ref a) :: l) st h Q ↔ XE d 117 14 (c0 :: c1 :: c2 :: .val (.ref a) :: l) (.ref a :: st) h Q := g_aload rfl rfl
theorem s117_13n : XE d 117 13 (c0 :: c1 :: c2 :: .val .null :: l) st h Q ↔ XE d 117 14 (c0 :: c1 :: c2 :: .val .null :: l) (.null :: st) h Q := g_aloadN rfl rfl
theorem s117_14 : XE d 117 14 ls (.ref a :: st) h Q ↔ XG [6] 0 (h.2.2.1 a) (fun v => XE d 117 17 ls (v :: st) h Q) := g_getf rfl
theorem s117_17 : XE d 117 17 ls (.int x :: st) h Q ↔ (if x = 0 then XE d 117 20 ls st h Q else XE d 117 24 ls st h Q) := g_ifne rfl
theorem s117_20 : XE d 117 20 ls st h Q ↔ XE d 117 23 ls (.int (-1000000011) :: st) h Q := g_const rfl
theorem s117_23 : XE d 117 23 ls [.int x] h Q ↔ Q (some (.int x)) h := g_iret rfl
theorem s117_24 : XE d 117 24 (c0 :: c1 :: c2 :: .val (.ref a) :: l) st h Q ↔ XE d 117 25 (c0 :: c1 :: c2 :: .val (.ref a) :: l) (.ref a :: st) h Q := g_aload rfl rfl
theorem s117_24n : XE d 117 24 (c0 :: c1 :: c2 :: .val .null :: l) st h Q ↔ XE d 117 25 (c0 :: c1 :: c2 :: .val .null :: l) (.null :: st) h Q := g_aloadN rfl rfl
theorem s117_25 : XE d 117 25 ls (.ref a :: st) h Q ↔ XG [6] 0 (h.2.2.1 a) (fun v => XE d 117 28 ls (v :: st) h Q) := g_getf rfl
theorem s117_28 : XE d 117 28 ls st h Q ↔ XE d 117 29 ls (.int 3 :: st) h Q := g_const rfl
theorem s117_29 : XE d 117 29 ls (.int y :: .int x :: st) h Q ↔ (if x = y then XE d 117 35 ls st h Q else XE d 117 32 ls st h Q) := g_ceq rfl
theorem s117_32 : XE d 117 32 ls st h Q ↔ XE d 117 34 ls (.int (-1000000012) :: st) h Q := g_const rfl
theorem s117_34 : XE d 117 34 ls [.int x] h Q ↔ Q (some (.int x)) h := g_iret rfl
theorem s117_35 : XE d 117 35 (c0 :: c1 :: .val (.int x) :: l) st h Q ↔ XE d 117 36 (c0 :: c1 :: .val (.int x) :: l) (.int x :: st) h Q := g_iload rfl rfl
theorem s117_36 : XE d 117 36 ls (.int x :: st) h Q ↔ (if x = 0 then XE d 117 39 ls st h Q else XE d 117 45 ls st h Q) := g_ifne rfl
theorem s117_39 : XE d 117 39 ls st h Q ↔ XE d 117 42 ls (.int (-1000000002) :: st) h Q := g_const rfl
theorem s117_42 : XE d 117 42 ls st h Q ↔ XE d 117 51 ls st h Q := g_goto rfl
theorem s117_45 : XE d 117 45 (c0 :: c1 :: c2 :: .val (.ref a) :: l) st h Q ↔ XE d 117 46 (c0 :: c1 :: c2 :: .val (.ref a) :: l) (.ref a :: st) h Q := g_aload rfl rfl
theorem s117_45n : XE d 117 45 (c0 :: c1 :: c2 :: .val .null :: l) st h Q ↔ XE d 117 46 (c0 :: c1 :: c2 :: .val .null :: l) (.null :: st) h Q := g_aloadN rfl rfl
theorem s117_46 : XE d 117 46 ls (.ref a :: st) h Q ↔ XG [6] 3 (h.2.2.1 a) (fun v => XE d 117 49 ls (v :: st) h Q) := g_getf rfl
theorem s117_49 : XE d 117 49 (c0 :: c1 :: .val (.int x) :: l) st h Q ↔ XE d 117 50 (c0 :: c1 :: .val (.int x) :: l) (.int x :: st) h Q := g_iload rfl rfl
theorem s117_50 : XE d 117 50 ls (.int y :: .int x :: st) h Q ↔ (y ≠ 0 ∧ XE d 117 51 ls (.int (x % y) :: st) h Q) := g_rem rfl
theorem s117_51 : XE d 117 51 ls [.int x] h Q ↔ Q (some (.int x)) h := g_iret rfl
-- 118: TwoBells.tell(I)I
theorem e118 : XC (d + 1) 118 [.ref a, .int x] h Q ↔ XE d 118 0 [.val (.ref a), .val (.int x)] [] h Q := XC_in rfl
theorem s118_0 : XE d 118 0 (.val (.ref a) :: l) st h Q ↔ XE d 118 1 (.val (.ref a) :: l) (.ref a :: st) h Q := g_aload rfl rfl
theorem s118_1 : XE d 118 1 ls (.ref a :: st) h Q ↔ XG [11] 5 (h.2.2.1 a) (fun v => XE d 118 4 ls (v :: st) h Q) := g_getf rfl
theorem s118_4 : XE d 118 4 ls st h Q ↔ XE d 118 6 ls (.int 60 :: st) h Q := g_const rfl
theorem s118_6 : XE d 118 6 ls (.int y :: .int x :: st) h Q ↔ (if x < y then XE d 118 12 ls st h Q else XE d 118 9 ls st h Q) := g_clt rfl
theorem s118_9 : XE d 118 9 ls st h Q ↔ XE d 118 11 ls (.int (-1000000003) :: st) h Q := g_const rfl
theorem s118_11 : XE d 118 11 ls [.int x] h Q ↔ Q (some (.int x)) h := g_iret rfl
theorem s118_12 : XE d 118 12 (.val (.ref a) :: l) st h Q ↔ XE d 118 13 (.val (.ref a) :: l) (.ref a :: st) h Q := g_aload rfl rfl
theorem s118_13 : XE d 118 13 ls (.ref a :: st) h Q ↔ XG [11] 4 (h.2.2.1 a) (fun v => XE d 118 16 ls (v :: st) h Q) := g_getf rfl
theorem s118_16 : XE d 118 16 (.val (.ref a) :: l) st h Q ↔ XE d 118 17 (.val (.ref a) :: l) (.ref a :: st) h Q := g_aload rfl rfl
theorem s118_17 : XE d 118 17 ls (.ref a :: st) h Q ↔ XG [11] 5 (h.2.2.1 a) (fun v => XE d 118 20 ls (v :: st) h Q) := g_getf rfl
theorem s118_20 : XE d 118 20 (c0 :: .val (.int x) :: l) st h Q ↔ XE d 118 21 (c0 :: .val (.int x) :: l) (.int x :: st) h Q := g_iload rfl rfl
theorem s118_21 : XE d 118 21 ls (.int y :: .int x :: .ref a :: st) h Q ↔ XS 0 (h.2.2.1 a) x y (fun e => XE d 118 22 ls st (xset h a e) Q) := g_iast rfl
theorem s118_22 : XE d 118 22 (.val (.ref a) :: l) st h Q ↔ XE d 118 23 (.val (.ref a) :: l) (.ref a :: st) h Q := g_aload rfl rfl
theorem s118_23 : XE d 118 23 ls (.int x :: st) h Q ↔ XE d 118 24 ls (.int x :: .int x :: st) h Q := g_dupI rfl
theorem s118_23r : XE d 118 23 ls (.ref a :: st) h Q ↔ XE d 118 24 ls (.ref a :: .ref a :: st) h Q := g_dupR rfl
theorem s118_24 : XE d 118 24 ls (.ref a :: st) h Q ↔ XG [11] 5 (h.2.2.1 a) (fun v => XE d 118 27 ls (v :: st) h Q) := g_getf rfl
theorem s118_27 : XE d 118 27 ls st h Q ↔ XE d 118 28 ls (.int 1 :: st) h Q := g_const rfl
theorem s118_28 : XE d 118 28 ls (.int y :: .int x :: st) h Q ↔ XE d 118 29 ls (.int (x + y) :: st) h Q := g_add rfl
theorem s118_29 : XE d 118 29 ls (.int x :: .ref a :: st) h Q ↔ XP [11] 5 (.int x) (h.2.2.1 a) (fun e => XE d 118 32 ls st (xset h a e) Q) := g_puti rfl
theorem s118_32 : XE d 118 32 (.val (.ref a) :: l) st h Q ↔ XE d 118 33 (.val (.ref a) :: l) (.ref a :: st) h Q := g_aload rfl rfl
theorem s118_33 : XE d 118 33 ls (.ref a :: st) h Q ↔ XG [11] 5 (h.2.2.1 a) (fun v => XE d 118 36 ls (v :: st) h Q) := g_getf rfl
theorem s118_36 : XE d 118 36 ls [.int x] h Q ↔ Q (some (.int x)) h := g_iret rfl
-- 119: TwoBells.check(I)I
theorem e119 : XC (d + 1) 119 [.ref a, .int x] h Q ↔ XE d 119 0 [.val (.ref a), .val (.int x), .unset, .unset] [] h Q := XC_in rfl
theorem s119_0 : XE d 119 0 (.val (.ref a) :: l) st h Q ↔ XE d 119 1 (.val (.ref a) :: l) (.ref a :: st) h Q := g_aload rfl rfl
theorem s119_1 : XE d 119 1 ls (.ref a :: st) h Q ↔ XG [11] 5 (h.2.2.1 a) (fun v => XE d 119 4 ls (v :: st) h Q) := g_getf rfl
theorem s119_4 : XE d 119 4 (c0 :: c1 :: c2 :: l) (.int x :: st) h Q ↔ XE d 119 5 (c0 :: c1 :: .val (.int x) :: l) st h Q := g_istore (Nat.lt_of_lt_of_le (show 2 < 3 by decide) (Nat.le_add_left 3 _)) rfl rfl
theorem s119_5 : XE d 119 5 (.val (.ref a) :: l) st h Q ↔ XE d 119 6 (.val (.ref a) :: l) (.ref a :: st) h Q := g_aload rfl rfl
theorem s119_6 : XE d 119 6 ls st h Q ↔ XE d 119 7 ls (.int 0 :: st) h Q := g_const rfl
theorem s119_7 : XE d 119 7 ls (.int x :: .ref a :: st) h Q ↔ XP [11] 5 (.int x) (h.2.2.1 a) (fun e => XE d 119 10 ls st (xset h a e) Q) := g_puti rfl
theorem s119_10 : XE d 119 10 (c0 :: .val (.int x) :: l) st h Q ↔ XE d 119 11 (c0 :: .val (.int x) :: l) (.int x :: st) h Q := g_iload rfl rfl
theorem s119_11 : XE d 119 11 ls st h Q ↔ XE d 119 12 ls (.int 1 :: st) h Q := g_const rfl
theorem s119_12 : XE d 119 12 ls st h Q ↔ XE d 119 14 ls (.int 30 :: st) h Q := g_const rfl
theorem s119_14 : XE d 119 14 ls (.int z :: .int y :: .int x :: st) h Q ↔ (xvo 8 st = true ∧ XC d 123 [.int x, .int y, .int z] h (fun v h' => XE d 119 17 ls (v.toList ++ st) h' Q)) := h_s3 rfl rfl
theorem s119_17 : XE d 119 17 ls (.int x :: st) h Q ↔ (if x = 0 then XE d 119 20 ls st h Q else XE d 119 23 ls st h Q) := g_ifne rfl
theorem s119_20 : XE d 119 20 ls st h Q ↔ XE d 119 22 ls (.int (-1000000001) :: st) h Q := g_const rfl
theorem s119_22 : XE d 119 22 ls [.int x] h Q ↔ Q (some (.int x)) h := g_iret rfl
theorem s119_23 : XE d 119 23 (.val (.ref a) :: l) st h Q ↔ XE d 119 24 (.val (.ref a) :: l) (.ref a :: st) h Q := g_aload rfl rfl
theorem s119_24 : XE d 119 24 ls (.ref a :: st) h Q ↔ XG [11] 2 (h.2.2.1 a) (fun v => XE d 119 27 ls (v :: st) h Q) := g_getf rfl
theorem s119_27 : XE d 119 27 ls (.int x :: st) h Q ↔ (if x = 0 then XE d 119 30 ls st h Q else XE d 119 34 ls st h Q) := g_ifne rfl
theorem s119_30 : XE d 119 30 ls st h Q ↔ XE d 119 33 ls (.int (-1000000002) :: st) h Q := g_const rfl
theorem s119_33 : XE d 119 33 ls [.int x] h Q ↔ Q (some (.int x)) h := g_iret rfl
theorem s119_34 : XE d 119 34 (.val (.ref a) :: l) st h Q ↔ XE d 119 35 (.val (.ref a) :: l) (.ref a :: st) h Q := g_aload rfl rfl
theorem s119_35 : XE d 119 35 (c0 :: .val (.int x) :: l) st h Q ↔ XE d 119 36 (c0 :: .val (.int x) :: l) (.int x :: st) h Q := g_iload rfl rfl
theorem s119_36 : XE d 119 36 (c0 :: c1 :: .val (.int x) :: l) st h Q ↔ XE d 119 37 (c0 :: c1 :: .val (.int x) :: l) (.int x :: st) h Q := g_iload rfl rfl
theorem s119_37 : XE d 119 37 ls (.int y :: .int x :: .ref a :: st) h Q ↔ (xvo 8 st = true ∧ XV [(11, 129)] (h.2.2.1 a) (fun m' => XC d m' [.ref a, .int x, .int y] h (fun v h' => XE d 119 40 ls (v.toList ++ st) h' Q))) := h_v2 rfl rfl
theorem s119_40 : XE d 119 40 (c0 :: c1 :: c2 :: c3 :: l) (.int x :: st) h Q ↔ XE d 119 41 (c0 :: c1 :: c2 :: .val (.int x) :: l) st h Q := g_istore (Nat.lt_of_lt_of_le (show 3 < 4 by decide) (Nat.le_add_left 4 _)) rfl rfl
theorem s119_41 : XE d 119 41 (c0 :: c1 :: c2 :: .val (.int x) :: l) st h Q ↔ XE d 119 42 (c0 :: c1 :: c2 :: .val (.int x) :: l) (.int x :: st) h Q := g_iload rfl rfl
theorem s119_42 : XE d 119 42 ls st h Q ↔ XE d 119 43 ls (.int 2 :: st) h Q := g_const rfl
theorem s119_43 : XE d 119 43 (c0 :: .val (.int x) :: l) st h Q ↔ XE d 119 44 (c0 :: .val (.int x) :: l) (.int x :: st) h Q := g_iload rfl rfl
theorem s119_44 : XE d 119 44 ls (.int y :: .int x :: st) h Q ↔ XE d 119 45 ls (.int (x * y) :: st) h Q := g_mul rfl
theorem s119_45 : XE d 119 45 ls (.int y :: .int x :: st) h Q ↔ (if x = y then XE d 119 48 ls st h Q else XE d 119 59 ls st h Q) := g_cne rfl
theorem s119_48 : XE d 119 48 (c0 :: c1 :: .val (.int x) :: l) st h Q ↔ XE d 119 49 (c0 :: c1 :: .val (.int x) :: l) (.int x :: st) h Q := g_iload rfl rfl
theorem s119_49 : XE d 119 49 ls st h Q ↔ XE d 119 50 ls (.int 2 :: st) h Q := g_const rfl
theorem s119_50 : XE d 119 50 (c0 :: .val (.int x) :: l) st h Q ↔ XE d 119 51 (c0 :: .val (.int x) :: l) (.int x :: st) h Q := g_iload rfl rfl
theorem s119_51 : XE d 119 51 ls (.int y :: .int x :: st) h Q ↔ XE d 119 52 ls (.int (x * y) :: st) h Q := g_mul rfl
theorem s119_52 : XE d 119 52 ls (.int y :: .int x :: st) h Q ↔ (if x = y then XE d 119 55 ls st h Q else XE d 119 59 ls st h Q) := g_cne rfl
theorem s119_55 : XE d 119 55 ls st h Q ↔ XE d 119 56 ls (.int 0 :: st) h Q := g_const rfl
theorem s119_56 : XE d 119 56 ls st h Q ↔ XE d 119 62 ls st h Q := g_goto rfl
theorem s119_59 : XE d 119 59 ls st h Q ↔ XE d 119 60 ls (.int 1 :: st) h Q := g_const rfl
theorem s119_60 : XE d 119 60 (c0 :: c1 :: c2 :: .val (.int x) :: l) st h Q ↔ XE d 119 61 (c0 :: c1 :: c2 :: .val (.int x) :: l) (.int x :: st) h Q := g_iload rfl rfl
theorem s119_61 : XE d 119 61 ls (.int y :: .int x :: st) h Q ↔ XE d 119 62 ls (.int (x + y) :: st) h Q := g_add rfl
theorem s119_62 : XE d 119 62 ls [.int x] h Q ↔ Q (some (.int x)) h := g_iret rfl
-- 120: TwoBells.keep()I
theorem e120 : XC (d + 1) 120 [.ref a] h Q ↔ XE d 120 0 [.val (.ref a)] [] h Q := XC_in rfl
theorem s120_0 : XE d 120 0 (.val (.ref a) :: l) st h Q ↔ XE d 120 1 (.val (.ref a) :: l) (.ref a :: st) h Q := g_aload rfl rfl
theorem s120_1 : XE d 120 1 ls (.ref a :: st) h Q ↔ XG [11] 1 (h.2.2.1 a) (fun v => XE d 120 4 ls (v :: st) h Q) := g_getf rfl
theorem s120_4 : XE d 120 4 (.val (.ref a) :: l) st h Q ↔ XE d 120 5 (.val (.ref a) :: l) (.ref a :: st) h Q := g_aload rfl rfl
theorem s120_5 : XE d 120 5 ls (.ref a :: st) h Q ↔ XG [11] 0 (h.2.2.1 a) (fun v => XE d 120 8 ls (v :: st) h Q) := g_getf rfl
theorem s120_8 : XE d 120 8 ls (.ref b :: .ref a :: st) h Q ↔ (xvo 8 st = true ∧ XV [(10, 51)] (h.2.2.1 a) (fun m' => XC d m' [.ref a, .ref b] h (fun v h' => XE d 120 11 ls (v.toList ++ st) h' Q))) := h_v1 rfl rfl
theorem s120_11 : XE d 120 11 (.val (.ref a) :: l) st h Q ↔ XE d 120 12 (.val (.ref a) :: l) (.ref a :: st) h Q := g_aload rfl rfl
theorem s120_12 : XE d 120 12 ls st h Q ↔ XE d 120 13 ls (.int 1 :: st) h Q := g_const rfl
theorem s120_13 : XE d 120 13 ls (.int x :: .ref a :: st) h Q ↔ ((x = 0 ∨ x = 1) ∧ XP [11] 2 (.int x) (h.2.2.1 a) (fun e => XE d 120 16 ls st (xset h a e) Q)) := g_putz rfl
theorem s120_16 : XE d 120 16 (.val (.ref a) :: l) st h Q ↔ XE d 120 17 (.val (.ref a) :: l) (.ref a :: st) h Q := g_aload rfl rfl
theorem s120_17 : XE d 120 17 ls (.ref a :: st) h Q ↔ XG [11] 0 (h.2.2.1 a) (fun v => XE d 120 20 ls (v :: st) h Q) := g_getf rfl
theorem s120_20 : XE d 120 20 ls (.ref a :: st) h Q ↔ XG [10] 1 (h.2.2.1 a) (fun v => XE d 120 23 ls (v :: st) h Q) := g_getf rfl
theorem s120_23 : XE d 120 23 ls [.int x] h Q ↔ Q (some (.int x)) h := g_iret rfl
-- 121: TwoBells.back()I
theorem e121 : XC (d + 1) 121 [.ref a] h Q ↔ XE d 121 0 [.val (.ref a)] [] h Q := XC_in rfl
theorem s121_0 : XE d 121 0 (.val (.ref a) :: l) st h Q ↔ XE d 121 1 (.val (.ref a) :: l) (.ref a :: st) h Q := g_aload rfl rfl
theorem s121_1 : XE d 121 1 ls (.ref a :: st) h Q ↔ XG [11] 2 (h.2.2.1 a) (fun v => XE d 121 4 ls (v :: st) h Q) := g_getf rfl
theorem s121_4 : XE d 121 4 ls (.int x :: st) h Q ↔ (if x = 0 then XE d 121 7 ls st h Q else XE d 121 11 ls st h Q) := g_ifne rfl
theorem s121_7 : XE d 121 7 ls st h Q ↔ XE d 121 10 ls (.int (-1000000002) :: st) h Q := g_const rfl
theorem s121_10 : XE d 121 10 ls [.int x] h Q ↔ Q (some (.int x)) h := g_iret rfl
theorem s121_11 : XE d 121 11 (.val (.ref a) :: l) st h Q ↔ XE d 121 12 (.val (.ref a) :: l) (.ref a :: st) h Q := g_aload rfl rfl
theorem s121_12 : XE d 121 12 ls (.ref a :: st) h Q ↔ XG [11] 0 (h.2.2.1 a) (fun v => XE d 121 15 ls (v :: st) h Q) := g_getf rfl
theorem s121_15 : XE d 121 15 (.val (.ref a) :: l) st h Q ↔ XE d 121 16 (.val (.ref a) :: l) (.ref a :: st) h Q := g_aload rfl rfl
theorem s121_16 : XE d 121 16 ls (.ref a :: st) h Q ↔ XG [11] 1 (h.2.2.1 a) (fun v => XE d 121 19 ls (v :: st) h Q) := g_getf rfl
theorem s121_19 : XE d 121 19 ls (.ref b :: .ref a :: st) h Q ↔ (xvo 8 st = true ∧ XV [(10, 51)] (h.2.2.1 a) (fun m' => XC d m' [.ref a, .ref b] h (fun v h' => XE d 121 22 ls (v.toList ++ st) h' Q))) := h_v1 rfl rfl
theorem s121_22 : XE d 121 22 (.val (.ref a) :: l) st h Q ↔ XE d 121 23 (.val (.ref a) :: l) (.ref a :: st) h Q := g_aload rfl rfl
theorem s121_23 : XE d 121 23 ls (.ref a :: st) h Q ↔ XG [11] 0 (h.2.2.1 a) (fun v => XE d 121 26 ls (v :: st) h Q) := g_getf rfl
theorem s121_26 : XE d 121 26 ls (.ref a :: st) h Q ↔ XG [10] 1 (h.2.2.1 a) (fun v => XE d 121 29 ls (v :: st) h Q) := g_getf rfl
theorem s121_29 : XE d 121 29 ls [.int x] h Q ↔ Q (some (.int x)) h := g_iret rfl
-- 122: TwoBells.count(I)I
theorem e122 : XC (d + 1) 122 [.ref a, .int x] h Q ↔ XE d 122 0 [.val (.ref a), .val (.int x)] [] h Q := XC_in rfl
theorem s122_0 : XE d 122 0 (c0 :: .val (.int x) :: l) st h Q ↔ XE d 122 1 (c0 :: .val (.int x) :: l) (.int x :: st) h Q := g_iload rfl rfl
theorem s122_1 : XE d 122 1 ls (.int x :: st) h Q ↔ xswi d 122 x 133 ls st h Q [(0, 56), (1, 64), (2, 72), (3, 80), (4, 88), (5, 96), (6, 104), (7, 112), (8, 117), (9, 125)] := g_switch rfl
theorem s122_56 : XE d 122 56 (.val (.ref a) :: l) st h Q ↔ XE d 122 57 (.val (.ref a) :: l) (.ref a :: st) h Q := g_aload rfl rfl
theorem s122_57 : XE d 122 57 ls (.ref a :: st) h Q ↔ XG [11] 0 (h.2.2.1 a) (fun v => XE d 122 60 ls (v :: st) h Q) := g_getf rfl
theorem s122_60 : XE d 122 60 ls (.ref a :: st) h Q ↔ XG [10] 0 (h.2.2.1 a) (fun v => XE d 122 63 ls (v :: st) h Q) := g_getf rfl
theorem s122_63 : XE d 122 63 ls [.int x] h Q ↔ Q (some (.int x)) h := g_iret rfl
theorem s122_64 : XE d 122 64 (.val (.ref a) :: l) st h Q ↔ XE d 122 65 (.val (.ref a) :: l) (.ref a :: st) h Q := g_aload rfl rfl
theorem s122_65 : XE d 122 65 ls (.ref a :: st) h Q ↔ XG [11] 0 (h.2.2.1 a) (fun v => XE d 122 68 ls (v :: st) h Q) := g_getf rfl
theorem s122_68 : XE d 122 68 ls (.ref a :: st) h Q ↔ XG [10] 1 (h.2.2.1 a) (fun v => XE d 122 71 ls (v :: st) h Q) := g_getf rfl
theorem s122_71 : XE d 122 71 ls [.int x] h Q ↔ Q (some (.int x)) h := g_iret rfl
theorem s122_72 : XE d 122 72 (.val (.ref a) :: l) st h Q ↔ XE d 122 73 (.val (.ref a) :: l) (.ref a :: st) h Q := g_aload rfl rfl
theorem s122_73 : XE d 122 73 ls (.ref a :: st) h Q ↔ XG [11] 0 (h.2.2.1 a) (fun v => XE d 122 76 ls (v :: st) h Q) := g_getf rfl
theorem s122_76 : XE d 122 76 ls (.ref a :: st) h Q ↔ XG [10] 2 (h.2.2.1 a) (fun v => XE d 122 79 ls (v :: st) h Q) := g_getf rfl
theorem s122_79 : XE d 122 79 ls [.int x] h Q ↔ Q (some (.int x)) h := g_iret rfl
theorem s122_80 : XE d 122 80 (.val (.ref a) :: l) st h Q ↔ XE d 122 81 (.val (.ref a) :: l) (.ref a :: st) h Q := g_aload rfl rfl
theorem s122_81 : XE d 122 81 ls (.ref a :: st) h Q ↔ XG [11] 0 (h.2.2.1 a) (fun v => XE d 122 84 ls (v :: st) h Q) := g_getf rfl
theorem s122_84 : XE d 122 84 ls (.ref a :: st) h Q ↔ XG [10] 5 (h.2.2.1 a) (fun v => XE d 122 87 ls (v :: st) h Q) := g_getf rfl
theorem s122_87 : XE d 122 87 ls [.int x] h Q ↔ Q (some (.int x)) h := g_iret rfl
theorem s122_88 : XE d 122 88 (.val (.ref a) :: l) st h Q ↔ XE d 122 89 (.val (.ref a) :: l) (.ref a :: st) h Q := g_aload rfl rfl
theorem s122_89 : XE d 122 89 ls (.ref a :: st) h Q ↔ XG [11] 0 (h.2.2.1 a) (fun v => XE d 122 92 ls (v :: st) h Q) := g_getf rfl
theorem s122_92 : XE d 122 92 ls (.ref a :: st) h Q ↔ XG [10] 6 (h.2.2.1 a) (fun v => XE d 122 95 ls (v :: st) h Q) := g_getf rfl
theorem s122_95 : XE d 122 95 ls [.int x] h Q ↔ Q (some (.int x)) h := g_iret rfl
theorem s122_96 : XE d 122 96 (.val (.ref a) :: l) st h Q ↔ XE d 122 97 (.val (.ref a) :: l) (.ref a :: st) h Q := g_aload rfl rfl
theorem s122_97 : XE d 122 97 ls (.ref a :: st) h Q ↔ XG [11] 0 (h.2.2.1 a) (fun v => XE d 122 100 ls (v :: st) h Q) := g_getf rfl
theorem s122_100 : XE d 122 100 ls (.ref a :: st) h Q ↔ XG [10] 4 (h.2.2.1 a) (fun v => XE d 122 103 ls (v :: st) h Q) := g_getf rfl
theorem s122_103 : XE d 122 103 ls [.int x] h Q ↔ Q (some (.int x)) h := g_iret rfl
theorem s122_104 : XE d 122 104 (.val (.ref a) :: l) st h Q ↔ XE d 122 105 (.val (.ref a) :: l) (.ref a :: st) h Q := g_aload rfl rfl
theorem s122_105 : XE d 122 105 ls (.ref a :: st) h Q ↔ XG [11] 0 (h.2.2.1 a) (fun v => XE d 122 108 ls (v :: st) h Q) := g_getf rfl
theorem s122_108 : XE d 122 108 ls (.ref a :: st) h Q ↔ XG [10] 3 (h.2.2.1 a) (fun v => XE d 122 111 ls (v :: st) h Q) := g_getf rfl
theorem s122_111 : XE d 122 111 ls [.int x] h Q ↔ Q (some (.int x)) h := g_iret rfl
theorem s122_112 : XE d 122 112 (.val (.ref a) :: l) st h Q ↔ XE d 122 113 (.val (.ref a) :: l) (.ref a :: st) h Q := g_aload rfl rfl
theorem s122_113 : XE d 122 113 ls (.ref a :: st) h Q ↔ XG [11] 5 (h.2.2.1 a) (fun v => XE d 122 116 ls (v :: st) h Q) := g_getf rfl
theorem s122_116 : XE d 122 116 ls [.int x] h Q ↔ Q (some (.int x)) h := g_iret rfl
theorem s122_117 : XE d 122 117 (.val (.ref a) :: l) st h Q ↔ XE d 122 118 (.val (.ref a) :: l) (.ref a :: st) h Q := g_aload rfl rfl
theorem s122_118 : XE d 122 118 ls (.ref a :: st) h Q ↔ XG [11] 3 (h.2.2.1 a) (fun v => XE d 122 121 ls (v :: st) h Q) := g_getf rfl
theorem s122_121 : XE d 122 121 ls (.ref a :: st) h Q ↔ XG [7] 0 (h.2.2.1 a) (fun v => XE d 122 124 ls (v :: st) h Q) := g_getf rfl
theorem s122_124 : XE d 122 124 ls [.int x] h Q ↔ Q (some (.int x)) h := g_iret rfl
theorem s122_125 : XE d 122 125 (.val (.ref a) :: l) st h Q ↔ XE d 122 126 (.val (.ref a) :: l) (.ref a :: st) h Q := g_aload rfl rfl
theorem s122_126 : XE d 122 126 ls (.ref a :: st) h Q ↔ XG [11] 0 (h.2.2.1 a) (fun v => XE d 122 129 ls (v :: st) h Q) := g_getf rfl
theorem s122_129 : XE d 122 129 ls (.ref a :: st) h Q ↔ XG [10] 7 (h.2.2.1 a) (fun v => XE d 122 132 ls (v :: st) h Q) := g_getf rfl
theorem s122_132 : XE d 122 132 ls [.int x] h Q ↔ Q (some (.int x)) h := g_iret rfl
theorem s122_133 : XE d 122 133 ls st h Q ↔ XE d 122 135 ls (.int (-1000000001) :: st) h Q := g_const rfl
theorem s122_135 : XE d 122 135 ls [.int x] h Q ↔ Q (some (.int x)) h := g_iret rfl
-- 123: TwoBells.within(III)Z
theorem e123 : XC (d + 1) 123 [.int x, .int y, .int z] h Q ↔ XE d 123 0 [.val (.int x), .val (.int y), .val (.int z)] [] h Q := XC_in rfl
theorem s123_0 : XE d 123 0 (.val (.int x) :: l) st h Q ↔ XE d 123 1 (.val (.int x) :: l) (.int x :: st) h Q := g_iload rfl rfl
theorem s123_1 : XE d 123 1 (c0 :: .val (.int x) :: l) st h Q ↔ XE d 123 2 (c0 :: .val (.int x) :: l) (.int x :: st) h Q := g_iload rfl rfl
theorem s123_2 : XE d 123 2 ls (.int y :: .int x :: st) h Q ↔ (if x < y then XE d 123 14 ls st h Q else XE d 123 5 ls st h Q) := g_clt rfl
theorem s123_5 : XE d 123 5 (.val (.int x) :: l) st h Q ↔ XE d 123 6 (.val (.int x) :: l) (.int x :: st) h Q := g_iload rfl rfl
theorem s123_6 : XE d 123 6 (c0 :: c1 :: .val (.int x) :: l) st h Q ↔ XE d 123 7 (c0 :: c1 :: .val (.int x) :: l) (.int x :: st) h Q := g_iload rfl rfl
theorem s123_7 : XE d 123 7 ls (.int y :: .int x :: st) h Q ↔ (if y < x then XE d 123 14 ls st h Q else XE d 123 10 ls st h Q) := g_cgt rfl
theorem s123_10 : XE d 123 10 ls st h Q ↔ XE d 123 11 ls (.int 1 :: st) h Q := g_const rfl
theorem s123_11 : XE d 123 11 ls st h Q ↔ XE d 123 15 ls st h Q := g_goto rfl
theorem s123_14 : XE d 123 14 ls st h Q ↔ XE d 123 15 ls (.int 0 :: st) h Q := g_const rfl
theorem s123_15 : XE d 123 15 ls [.int 0] h Q ↔ Q (some (.int 0)) h := g_zret rfl rfl
theorem s123_15t : XE d 123 15 ls [.int 1] h Q ↔ Q (some (.int 1)) h := g_zret rfl rfl
theorem s123_15b : XE d 123 15 ls [.int (bI q)] h Q ↔ Q (some (.int (bI q))) h := g_zret (bI_nar q) rfl
-- 124: TwoBells.held(III)I
theorem e124 : XC (d + 1) 124 [.int x, .int y, .int z] h Q ↔ XE d 124 0 [.val (.int x), .val (.int y), .val (.int z)] [] h Q := XC_in rfl
theorem s124_0 : XE d 124 0 (c0 :: .val (.int x) :: l) st h Q ↔ XE d 124 1 (c0 :: .val (.int x) :: l) (.int x :: st) h Q := g_iload rfl rfl
theorem s124_1 : XE d 124 1 (c0 :: c1 :: .val (.int x) :: l) st h Q ↔ XE d 124 2 (c0 :: c1 :: .val (.int x) :: l) (.int x :: st) h Q := g_iload rfl rfl
theorem s124_2 : XE d 124 2 (.val (.int x) :: l) st h Q ↔ XE d 124 3 (.val (.int x) :: l) (.int x :: st) h Q := g_iload rfl rfl
theorem s124_3 : XE d 124 3 ls (.int y :: .int x :: st) h Q ↔ (xvo 8 st = true ∧ XE d 124 6 ls (.int (if y < x then y else x) :: st) h Q) := h_min rfl
theorem s124_6 : XE d 124 6 ls (.int y :: .int x :: st) h Q ↔ (xvo 8 st = true ∧ XE d 124 9 ls (.int (if x < y then y else x) :: st) h Q) := h_max rfl
theorem s124_9 : XE d 124 9 ls [.int x] h Q ↔ Q (some (.int x)) h := g_iret rfl
-- 125: TwoBells.isKind(I)Z
theorem e125 : XC (d + 1) 125 [.int x] h Q ↔ XE d 125 0 [.val (.int x)] [] h Q := XC_in rfl
theorem s125_0 : XE d 125 0 (.val (.int x) :: l) st h Q ↔ XE d 125 1 (.val (.int x) :: l) (.int x :: st) h Q := g_iload rfl rfl
theorem s125_1 : XE d 125 1 ls st h Q ↔ XE d 125 2 ls (.int 0 :: st) h Q := g_const rfl
theorem s125_2 : XE d 125 2 ls st h Q ↔ XE d 125 3 ls (.int 5 :: st) h Q := g_const rfl
theorem s125_3 : XE d 125 3 ls (.int z :: .int y :: .int x :: st) h Q ↔ (xvo 8 st = true ∧ XC d 123 [.int x, .int y, .int z] h (fun v h' => XE d 125 6 ls (v.toList ++ st) h' Q)) := h_s3 rfl rfl
theorem s125_6 : XE d 125 6 ls [.int 0] h Q ↔ Q (some (.int 0)) h := g_zret rfl rfl
theorem s125_6t : XE d 125 6 ls [.int 1] h Q ↔ Q (some (.int 1)) h := g_zret rfl rfl
theorem s125_6b : XE d 125 6 ls [.int (bI q)] h Q ↔ Q (some (.int (bI q))) h := g_zret (bI_nar q) rfl
-- 126: TwoBells.sheetAt(I)LTwoBells$Sheet;
theorem e126 : XC (d + 1) 126 [.ref a, .int x] h Q ↔ XE d 126 0 [.val (.ref a), .val (.int x)] [] h Q := XC_in rfl
theorem s126_0 : XE d 126 0 (c0 :: .val (.int x) :: l) st h Q ↔ XE d 126 1 (c0 :: .val (.int x) :: l) (.int x :: st) h Q := g_iload rfl rfl
theorem s126_1 : XE d 126 1 ls st h Q ↔ XE d 126 2 ls (.int 0 :: st) h Q := g_const rfl
theorem s126_2 : XE d 126 2 ls st h Q ↔ XE d 126 3 ls (.int 3 :: st) h Q := g_const rfl
theorem s126_3 : XE d 126 3 ls (.int z :: .int y :: .int x :: st) h Q ↔ (xvo 8 st = true ∧ XC d 123 [.int x, .int y, .int z] h (fun v h' => XE d 126 6 ls (v.toList ++ st) h' Q)) := h_s3 rfl rfl
theorem s126_6 : XE d 126 6 ls (.int x :: st) h Q ↔ (if x = 0 then XE d 126 18 ls st h Q else XE d 126 9 ls st h Q) := g_ifeq rfl
theorem s126_9 : XE d 126 9 (.val (.ref a) :: l) st h Q ↔ XE d 126 10 (.val (.ref a) :: l) (.ref a :: st) h Q := g_aload rfl rfl
theorem s126_10 : XE d 126 10 ls (.ref a :: st) h Q ↔ XG [11] 6 (h.2.2.1 a) (fun v => XE d 126 13 ls (v :: st) h Q) := g_getf rfl
theorem s126_13 : XE d 126 13 (c0 :: .val (.int x) :: l) st h Q ↔ XE d 126 14 (c0 :: .val (.int x) :: l) (.int x :: st) h Q := g_iload rfl rfl
theorem s126_14 : XE d 126 14 ls (.int x :: .ref a :: st) h Q ↔ XQ (h.2.2.1 a) x (fun v => XE d 126 15 ls (v :: st) h Q) := g_aald rfl
theorem s126_15 : XE d 126 15 ls st h Q ↔ XE d 126 19 ls st h Q := g_goto rfl
theorem s126_18 : XE d 126 18 ls st h Q ↔ XE d 126 19 ls (.null :: st) h Q := g_null rfl
theorem s126_19 : XE d 126 19 ls [.ref a] h Q ↔ Q (some (.ref a)) h := g_aretR rfl
theorem s126_19n : XE d 126 19 ls [.null] h Q ↔ Q (some .null) h := g_aretN rfl
-- 127: TwoBells.slotAt(I)LTwoBells$Slot;
theorem e127 : XC (d + 1) 127 [.ref a, .int x] h Q ↔ XE d 127 0 [.val (.ref a), .val (.int x)] [] h Q := XC_in rfl
theorem s127_0 : XE d 127 0 (c0 :: .val (.int x) :: l) st h Q ↔ XE d 127 1 (c0 :: .val (.int x) :: l) (.int x :: st) h Q := g_iload rfl rfl
theorem s127_1 : XE d 127 1 ls st h Q ↔ XE d 127 2 ls (.int 0 :: st) h Q := g_const rfl
theorem s127_2 : XE d 127 2 ls st h Q ↔ XE d 127 3 ls (.int 4 :: st) h Q := g_const rfl
theorem s127_3 : XE d 127 3 ls (.int z :: .int y :: .int x :: st) h Q ↔ (xvo 8 st = true ∧ XC d 123 [.int x, .int y, .int z] h (fun v h' => XE d 127 6 ls (v.toList ++ st) h' Q)) := h_s3 rfl rfl
theorem s127_6 : XE d 127 6 ls (.int x :: st) h Q ↔ (if x = 0 then XE d 127 18 ls st h Q else XE d 127 9 ls st h Q) := g_ifeq rfl
theorem s127_9 : XE d 127 9 (.val (.ref a) :: l) st h Q ↔ XE d 127 10 (.val (.ref a) :: l) (.ref a :: st) h Q := g_aload rfl rfl
theorem s127_10 : XE d 127 10 ls (.ref a :: st) h Q ↔ XG [11] 7 (h.2.2.1 a) (fun v => XE d 127 13 ls (v :: st) h Q) := g_getf rfl
theorem s127_13 : XE d 127 13 (c0 :: .val (.int x) :: l) st h Q ↔ XE d 127 14 (c0 :: .val (.int x) :: l) (.int x :: st) h Q := g_iload rfl rfl
theorem s127_14 : XE d 127 14 ls (.int x :: .ref a :: st) h Q ↔ XQ (h.2.2.1 a) x (fun v => XE d 127 15 ls (v :: st) h Q) := g_aald rfl
theorem s127_15 : XE d 127 15 ls st h Q ↔ XE d 127 19 ls st h Q := g_goto rfl
theorem s127_18 : XE d 127 18 ls st h Q ↔ XE d 127 19 ls (.null :: st) h Q := g_null rfl
theorem s127_19 : XE d 127 19 ls [.ref a] h Q ↔ Q (some (.ref a)) h := g_aretR rfl
theorem s127_19n : XE d 127 19 ls [.null] h Q ↔ Q (some .null) h := g_aretN rfl
-- 128: TwoBells.hearsAllRung(I)Z
theorem e128 : XC (d + 1) 128 [.ref a, .int x] h Q ↔ XE d 128 0 [.val (.ref a), .val (.int x), .unset] [] h Q := XC_in rfl
theorem s128_0 : XE d 128 0 ls st h Q ↔ XE d 128 1 ls (.int 0 :: st) h Q := g_const rfl
theorem s128_1 : XE d 128 1 (c0 :: c1 :: c2 :: l) (.int x :: st) h Q ↔ XE d 128 2 (c0 :: c1 :: .val (.int x) :: l) st h Q := g_istore (Nat.lt_of_lt_of_le (show 2 < 3 by decide) (Nat.le_add_left 3 _)) rfl rfl
theorem s128_2 : XE d 128 2 (c0 :: c1 :: .val (.int x) :: l) st h Q ↔ XE d 128 3 (c0 :: c1 :: .val (.int x) :: l) (.int x :: st) h Q := g_iload rfl rfl
theorem s128_3 : XE d 128 3 (.val (.ref a) :: l) st h Q ↔ XE d 128 4 (.val (.ref a) :: l) (.ref a :: st) h Q := g_aload rfl rfl
theorem s128_4 : XE d 128 4 ls (.ref a :: st) h Q ↔ XG [11] 0 (h.2.2.1 a) (fun v => XE d 128 7 ls (v :: st) h Q) := g_getf rfl
theorem s128_7 : XE d 128 7 ls (.ref a :: st) h Q ↔ XG [10] 1 (h.2.2.1 a) (fun v => XE d 128 10 ls (v :: st) h Q) := g_getf rfl
theorem s128_10 : XE d 128 10 ls (.int y :: .int x :: st) h Q ↔ (if x < y then XE d 128 13 ls st h Q else XE d 128 41 ls st h Q) := g_cge rfl
theorem s128_13 : XE d 128 13 (.val (.ref a) :: l) st h Q ↔ XE d 128 14 (.val (.ref a) :: l) (.ref a :: st) h Q := g_aload rfl rfl
theorem s128_14 : XE d 128 14 ls (.ref a :: st) h Q ↔ XG [11] 8 (h.2.2.1 a) (fun v => XE d 128 17 ls (v :: st) h Q) := g_getf rfl
theorem s128_17 : XE d 128 17 (c0 :: c1 :: .val (.int x) :: l) st h Q ↔ XE d 128 18 (c0 :: c1 :: .val (.int x) :: l) (.int x :: st) h Q := g_iload rfl rfl
theorem s128_18 : XE d 128 18 ls (.int x :: .ref a :: st) h Q ↔ XA [0, 7] (h.2.2.1 a) x (fun k => XE d 128 19 ls (.int k :: st) h Q) := g_ald rfl
theorem s128_19 : XE d 128 19 ls (.int x :: st) h Q ↔ (if x = 0 then XE d 128 35 ls st h Q else XE d 128 22 ls st h Q) := g_ifeq rfl
theorem s128_22 : XE d 128 22 (.val (.ref a) :: l) st h Q ↔ XE d 128 23 (.val (.ref a) :: l) (.ref a :: st) h Q := g_aload rfl rfl
theorem s128_23 : XE d 128 23 ls (.ref a :: st) h Q ↔ XG [11] 8 (h.2.2.1 a) (fun v => XE d 128 26 ls (v :: st) h Q) := g_getf rfl
theorem s128_26 : XE d 128 26 (c0 :: c1 :: .val (.int x) :: l) st h Q ↔ XE d 128 27 (c0 :: c1 :: .val (.int x) :: l) (.int x :: st) h Q := g_iload rfl rfl
theorem s128_27 : XE d 128 27 ls (.int x :: .ref a :: st) h Q ↔ XA [0, 7] (h.2.2.1 a) x (fun k => XE d 128 28 ls (.int k :: st) h Q) := g_ald rfl
theorem s128_28 : XE d 128 28 (c0 :: .val (.int x) :: l) st h Q ↔ XE d 128 29 (c0 :: .val (.int x) :: l) (.int x :: st) h Q := g_iload rfl rfl
theorem s128_29 : XE d 128 29 ls (.int y :: .int x :: st) h Q ↔ XE d 128 30 ls (.int (x &&& y) :: st) h Q := g_and rfl
theorem s128_30 : XE d 128 30 ls (.int x :: st) h Q ↔ (if x = 0 then XE d 128 33 ls st h Q else XE d 128 35 ls st h Q) := g_ifne rfl
theorem s128_33 : XE d 128 33 ls st h Q ↔ XE d 128 34 ls (.int 0 :: st) h Q := g_const rfl
theorem s128_34 : XE d 128 34 ls [.int 0] h Q ↔ Q (some (.int 0)) h := g_zret rfl rfl
theorem s128_34t : XE d 128 34 ls [.int 1] h Q ↔ Q (some (.int 1)) h := g_zret rfl rfl
theorem s128_34b : XE d 128 34 ls [.int (bI q)] h Q ↔ Q (some (.int (bI q))) h := g_zret (bI_nar q) rfl
theorem s128_35 : XE d 128 35 (c0 :: c1 :: .val (.int x) :: l) st h Q ↔ XE d 128 38 (c0 :: c1 :: .val (.int (x + 1)) :: l) st h Q := g_iinc rfl rfl rfl
theorem s128_38 : XE d 128 38 ls st h Q ↔ XE d 128 2 ls st h Q := g_goto rfl
theorem s128_41 : XE d 128 41 ls st h Q ↔ XE d 128 42 ls (.int 1 :: st) h Q := g_const rfl
theorem s128_42 : XE d 128 42 ls [.int 0] h Q ↔ Q (some (.int 0)) h := g_zret rfl rfl
theorem s128_42t : XE d 128 42 ls [.int 1] h Q ↔ Q (some (.int 1)) h := g_zret rfl rfl
theorem s128_42b : XE d 128 42 ls [.int (bI q)] h Q ↔ Q (some (.int (bI q))) h := g_zret (bI_nar q) rfl
-- 129: TwoBells.howManyRight(II)I
theorem e129 : XC (d + 1) 129 [.ref a, .int x, .int y] h Q ↔ XE d 129 0 [.val (.ref a), .val (.int x), .val (.int y), .unset, .unset, .unset, .unset, .unset] [] h Q := XC_in rfl
theorem s129_0 : XE d 129 0 (.val (.ref a) :: l) st h Q ↔ XE d 129 1 (.val (.ref a) :: l) (.ref a :: st) h Q := g_aload rfl rfl
theorem s129_1 : XE d 129 1 ls (.ref a :: st) h Q ↔ XG [11] 1 (h.2.2.1 a) (fun v => XE d 129 4 ls (v :: st) h Q) := g_getf rfl
theorem s129_4 : XE d 129 4 ls (.ref a :: st) h Q ↔ XG [10] 7 (h.2.2.1 a) (fun v => XE d 129 7 ls (v :: st) h Q) := g_getf rfl
theorem s129_7 : XE d 129 7 (c0 :: c1 :: c2 :: c3 :: l) (.int x :: st) h Q ↔ XE d 129 8 (c0 :: c1 :: c2 :: .val (.int x) :: l) st h Q := g_istore (Nat.lt_of_lt_of_le (show 3 < 4 by decide) (Nat.le_add_left 4 _)) rfl rfl
theorem s129_8 : XE d 129 8 (.val (.ref a) :: l) st h Q ↔ XE d 129 9 (.val (.ref a) :: l) (.ref a :: st) h Q := g_aload rfl rfl
theorem s129_9 : XE d 129 9 ls (.ref a :: st) h Q ↔ XG [11] 1 (h.2.2.1 a) (fun v => XE d 129 12 ls (v :: st) h Q) := g_getf rfl
theorem s129_12 : XE d 129 12 ls (.ref a :: st) h Q ↔ XG [10] 5 (h.2.2.1 a) (fun v => XE d 129 15 ls (v :: st) h Q) := g_getf rfl
theorem s129_15 : XE d 129 15 (c0 :: c1 :: c2 :: c3 :: c4 :: l) (.int x :: st) h Q ↔ XE d 129 17 (c0 :: c1 :: c2 :: c3 :: .val (.int x) :: l) st h Q := g_istore (Nat.lt_of_lt_of_le (show 4 < 5 by decide) (Nat.le_add_left 5 _)) rfl rfl
theorem s129_17 : XE d 129 17 (.val (.ref a) :: l) st h Q ↔ XE d 129 18 (.val (.ref a) :: l) (.ref a :: st) h Q := g_aload rfl rfl
theorem s129_18 : XE d 129 18 ls (.ref a :: st) h Q ↔ XG [11] 1 (h.2.2.1 a) (fun v => XE d 129 21 ls (v :: st) h Q) := g_getf rfl
theorem s129_21 : XE d 129 21 ls (.ref a :: st) h Q ↔ XG [10] 6 (h.2.2.1 a) (fun v => XE d 129 24 ls (v :: st) h Q) := g_getf rfl
theorem s129_24 : XE d 129 24 (c0 :: c1 :: c2 :: c3 :: c4 :: c5 :: l) (.int x :: st) h Q ↔ XE d 129 26 (c0 :: c1 :: c2 :: c3 :: c4 :: .val (.int x) :: l) st h Q := g_istore (Nat.lt_of_lt_of_le (show 5 < 6 by decide) (Nat.le_add_left 6 _)) rfl rfl
theorem s129_26 : XE d 129 26 ls st h Q ↔ XE d 129 27 ls (.int 0 :: st) h Q := g_const rfl
theorem s129_27 : XE d 129 27 (c0 :: c1 :: c2 :: c3 :: c4 :: c5 :: c6 :: l) (.int x :: st) h Q ↔ XE d 129 29 (c0 :: c1 :: c2 :: c3 :: c4 :: c5 :: .val (.int x) :: l) st h Q := g_istore (Nat.lt_of_lt_of_le (show 6 < 7 by decide) (Nat.le_add_left 7 _)) rfl rfl
theorem s129_29 : XE d 129 29 (.val (.ref a) :: l) st h Q ↔ XE d 129 30 (.val (.ref a) :: l) (.ref a :: st) h Q := g_aload rfl rfl
theorem s129_30 : XE d 129 30 ls (.ref a :: st) h Q ↔ XG [11] 1 (h.2.2.1 a) (fun v => XE d 129 33 ls (v :: st) h Q) := g_getf rfl
theorem s129_33 : XE d 129 33 ls (.ref a :: st) h Q ↔ (xvo 8 st = true ∧ XV [(10, 68)] (h.2.2.1 a) (fun m' => XC d m' [.ref a] h (fun v h' => XE d 129 36 ls (v.toList ++ st) h' Q))) := h_v0 rfl
theorem s129_36 : XE d 129 36 ls st h Q ↔ XE d 129 37 ls (.int 0 :: st) h Q := g_const rfl
theorem s129_37 : XE d 129 37 (c0 :: c1 :: c2 :: c3 :: c4 :: c5 :: c6 :: c7 :: l) (.int x :: st) h Q ↔ XE d 129 39 (c0 :: c1 :: c2 :: c3 :: c4 :: c5 :: c6 :: .val (.int x) :: l) st h Q := g_istore (Nat.lt_of_lt_of_le (show 7 < 8 by decide) (Nat.le_add_left 8 _)) rfl rfl
theorem s129_39 : XE d 129 39 (c0 :: c1 :: c2 :: c3 :: c4 :: c5 :: c6 :: .val (.int x) :: l) st h Q ↔ XE d 129 41 (c0 :: c1 :: c2 :: c3 :: c4 :: c5 :: c6 :: .val (.int x) :: l) (.int x :: st) h Q := g_iload rfl rfl
theorem s129_41 : XE d 129 41 (c0 :: .val (.int x) :: l) st h Q ↔ XE d 129 42 (c0 :: .val (.int x) :: l) (.int x :: st) h Q := g_iload rfl rfl
theorem s129_42 : XE d 129 42 ls (.int y :: .int x :: st) h Q ↔ (if x < y then XE d 129 45 ls st h Q else XE d 129 130 ls st h Q) := g_cge rfl
theorem s129_45 : XE d 129 45 (c0 :: c1 :: c2 :: c3 :: c4 :: c5 :: .val (.int x) :: l) st h Q ↔ XE d 129 47 (c0 :: c1 :: c2 :: c3 :: c4 :: c5 :: .val (.int x) :: l) (.int x :: st) h Q := g_iload rfl rfl
theorem s129_47 : XE d 129 47 ls st h Q ↔ XE d 129 48 ls (.int 2 :: st) h Q := g_const rfl
theorem s129_48 : XE d 129 48 (c0 :: c1 :: c2 :: c3 :: c4 :: c5 :: c6 :: .val (.int x) :: l) st h Q ↔ XE d 129 50 (c0 :: c1 :: c2 :: c3 :: c4 :: c5 :: c6 :: .val (.int x) :: l) (.int x :: st) h Q := g_iload rfl rfl
theorem s129_50 : XE d 129 50 ls (.int y :: .int x :: st) h Q ↔ XE d 129 51 ls (.int (x * y) :: st) h Q := g_mul rfl
theorem s129_51 : XE d 129 51 ls (.int y :: .int x :: st) h Q ↔ (if x = y then XE d 129 54 ls st h Q else XE d 129 130 ls st h Q) := g_cne rfl
theorem s129_54 : XE d 129 54 (.val (.ref a) :: l) st h Q ↔ XE d 129 55 (.val (.ref a) :: l) (.ref a :: st) h Q := g_aload rfl rfl
theorem s129_55 : XE d 129 55 ls (.ref a :: st) h Q ↔ XG [11] 1 (h.2.2.1 a) (fun v => XE d 129 58 ls (v :: st) h Q) := g_getf rfl
theorem s129_58 : XE d 129 58 ls (.ref a :: st) h Q ↔ (xvo 8 st = true ∧ XV [(10, 71)] (h.2.2.1 a) (fun m' => XC d m' [.ref a] h (fun v h' => XE d 129 61 ls (v.toList ++ st) h' Q))) := h_v0 rfl
theorem s129_61 : XE d 129 61 (c0 :: c1 :: c2 :: c3 :: c4 :: c5 :: .val (.int x) :: l) st h Q ↔ XE d 129 63 (c0 :: c1 :: c2 :: c3 :: c4 :: c5 :: .val (.int x) :: l) (.int x :: st) h Q := g_iload rfl rfl
theorem s129_63 : XE d 129 63 (.val (.ref a) :: l) st h Q ↔ XE d 129 64 (.val (.ref a) :: l) (.ref a :: st) h Q := g_aload rfl rfl
theorem s129_64 : XE d 129 64 (c0 :: c1 :: c2 :: c3 :: c4 :: c5 :: .val (.int x) :: l) st h Q ↔ XE d 129 66 (c0 :: c1 :: c2 :: c3 :: c4 :: c5 :: .val (.int x) :: l) (.int x :: st) h Q := g_iload rfl rfl
theorem s129_66 : XE d 129 66 (c0 :: c1 :: .val (.int x) :: l) st h Q ↔ XE d 129 67 (c0 :: c1 :: .val (.int x) :: l) (.int x :: st) h Q := g_iload rfl rfl
theorem s129_67 : XE d 129 67 (.val (.ref a) :: l) st h Q ↔ XE d 129 68 (.val (.ref a) :: l) (.ref a :: st) h Q := g_aload rfl rfl
theorem s129_68 : XE d 129 68 ls (.ref a :: st) h Q ↔ XG [11] 1 (h.2.2.1 a) (fun v => XE d 129 71 ls (v :: st) h Q) := g_getf rfl
theorem s129_71 : XE d 129 71 ls (.ref a :: st) h Q ↔ XG [10] 5 (h.2.2.1 a) (fun v => XE d 129 74 ls (v :: st) h Q) := g_getf rfl
theorem s129_74 : XE d 129 74 ls (.int z :: .int y :: .int x :: .ref a :: st) h Q ↔ (xvo 8 st = true ∧ XV [(11, 130)] (h.2.2.1 a) (fun m' => XC d m' [.ref a, .int x, .int y, .int z] h (fun v h' => XE d 129 77 ls (v.toList ++ st) h' Q))) := h_v3 rfl rfl
theorem s129_77 : XE d 129 77 ls (.int x :: st) h Q ↔ (if x = 0 then XE d 129 84 ls st h Q else XE d 129 80 ls st h Q) := g_ifeq rfl
theorem s129_80 : XE d 129 80 ls st h Q ↔ XE d 129 81 ls (.int 1 :: st) h Q := g_const rfl
theorem s129_81 : XE d 129 81 ls st h Q ↔ XE d 129 85 ls st h Q := g_goto rfl
theorem s129_84 : XE d 129 84 ls st h Q ↔ XE d 129 85 ls (.int 0 :: st) h Q := g_const rfl
theorem s129_85 : XE d 129 85 ls (.int y :: .int x :: st) h Q ↔ XE d 129 86 ls (.int (x + y) :: st) h Q := g_add rfl
theorem s129_86 : XE d 129 86 (c0 :: c1 :: c2 :: c3 :: c4 :: c5 :: c6 :: l) (.int x :: st) h Q ↔ XE d 129 88 (c0 :: c1 :: c2 :: c3 :: c4 :: c5 :: .val (.int x) :: l) st h Q := g_istore (Nat.lt_of_lt_of_le (show 6 < 7 by decide) (Nat.le_add_left 7 _)) rfl rfl
theorem s129_88 : XE d 129 88 (c0 :: c1 :: c2 :: c3 :: c4 :: c5 :: .val (.int x) :: l) st h Q ↔ XE d 129 90 (c0 :: c1 :: c2 :: c3 :: c4 :: c5 :: .val (.int x) :: l) (.int x :: st) h Q := g_iload rfl rfl
theorem s129_90 : XE d 129 90 (c0 :: c1 :: c2 :: c3 :: c4 :: c5 :: .val (.int x) :: l) st h Q ↔ XE d 129 92 (c0 :: c1 :: c2 :: c3 :: c4 :: c5 :: .val (.int x) :: l) (.int x :: st) h Q := g_iload rfl rfl
theorem s129_92 : XE d 129 92 ls st h Q ↔ XE d 129 93 ls (.int 2 :: st) h Q := g_const rfl
theorem s129_93 : XE d 129 93 (c0 :: c1 :: c2 :: c3 :: c4 :: c5 :: c6 :: .val (.int x) :: l) st h Q ↔ XE d 129 95 (c0 :: c1 :: c2 :: c3 :: c4 :: c5 :: c6 :: .val (.int x) :: l) (.int x :: st) h Q := g_iload rfl rfl
theorem s129_95 : XE d 129 95 ls (.int y :: .int x :: st) h Q ↔ XE d 129 96 ls (.int (x * y) :: st) h Q := g_mul rfl
theorem s129_96 : XE d 129 96 ls (.int y :: .int x :: st) h Q ↔ (if y < x then XE d 129 99 ls st h Q else XE d 129 120 ls st h Q) := g_cle rfl
theorem s129_99 : XE d 129 99 (.val (.ref a) :: l) st h Q ↔ XE d 129 100 (.val (.ref a) :: l) (.ref a :: st) h Q := g_aload rfl rfl
theorem s129_100 : XE d 129 100 (c0 :: c1 :: c2 :: c3 :: c4 :: c5 :: .val (.int x) :: l) st h Q ↔ XE d 129 102 (c0 :: c1 :: c2 :: c3 :: c4 :: c5 :: .val (.int x) :: l) (.int x :: st) h Q := g_iload rfl rfl
theorem s129_102 : XE d 129 102 (c0 :: c1 :: .val (.int x) :: l) st h Q ↔ XE d 129 103 (c0 :: c1 :: .val (.int x) :: l) (.int x :: st) h Q := g_iload rfl rfl
theorem s129_103 : XE d 129 103 (.val (.ref a) :: l) st h Q ↔ XE d 129 104 (.val (.ref a) :: l) (.ref a :: st) h Q := g_aload rfl rfl
theorem s129_104 : XE d 129 104 ls (.ref a :: st) h Q ↔ XG [11] 1 (h.2.2.1 a) (fun v => XE d 129 107 ls (v :: st) h Q) := g_getf rfl
theorem s129_107 : XE d 129 107 ls (.ref a :: st) h Q ↔ XG [10] 6 (h.2.2.1 a) (fun v => XE d 129 110 ls (v :: st) h Q) := g_getf rfl
theorem s129_110 : XE d 129 110 ls (.int z :: .int y :: .int x :: .ref a :: st) h Q ↔ (xvo 8 st = true ∧ XV [(11, 130)] (h.2.2.1 a) (fun m' => XC d m' [.ref a, .int x, .int y, .int z] h (fun v h' => XE d 129 113 ls (v.toList ++ st) h' Q))) := h_v3 rfl rfl
theorem s129_113 : XE d 129 113 ls (.int x :: st) h Q ↔ (if x = 0 then XE d 129 120 ls st h Q else XE d 129 116 ls st h Q) := g_ifeq rfl
theorem s129_116 : XE d 129 116 ls st h Q ↔ XE d 129 117 ls (.int 1 :: st) h Q := g_const rfl
theorem s129_117 : XE d 129 117 ls st h Q ↔ XE d 129 121 ls st h Q := g_goto rfl
theorem s129_120 : XE d 129 120 ls st h Q ↔ XE d 129 121 ls (.int 0 :: st) h Q := g_const rfl
theorem s129_121 : XE d 129 121 ls (.int y :: .int x :: st) h Q ↔ XE d 129 122 ls (.int (x + y) :: st) h Q := g_add rfl
theorem s129_122 : XE d 129 122 (c0 :: c1 :: c2 :: c3 :: c4 :: c5 :: c6 :: l) (.int x :: st) h Q ↔ XE d 129 124 (c0 :: c1 :: c2 :: c3 :: c4 :: c5 :: .val (.int x) :: l) st h Q := g_istore (Nat.lt_of_lt_of_le (show 6 < 7 by decide) (Nat.le_add_left 7 _)) rfl rfl
theorem s129_124 : XE d 129 124 (c0 :: c1 :: c2 :: c3 :: c4 :: c5 :: c6 :: .val (.int x) :: l) st h Q ↔ XE d 129 127 (c0 :: c1 :: c2 :: c3 :: c4 :: c5 :: c6 :: .val (.int (x + 1)) :: l) st h Q := g_iinc rfl rfl rfl
theorem s129_127 : XE d 129 127 ls st h Q ↔ XE d 129 39 ls st h Q := g_goto rfl
theorem s129_130 : XE d 129 130 (.val (.ref a) :: l) st h Q ↔ XE d 129 131 (.val (.ref a) :: l) (.ref a :: st) h Q := g_aload rfl rfl
theorem s129_131 : XE d 129 131 ls (.ref a :: st) h Q ↔ XG [11] 1 (h.2.2.1 a) (fun v => XE d 129 134 ls (v :: st) h Q) := g_getf rfl
theorem s129_134 : XE d 129 134 (c0 :: c1 :: c2 :: .val (.int x) :: l) st h Q ↔ XE d 129 135 (c0 :: c1 :: c2 :: .val (.int x) :: l) (.int x :: st) h Q := g_iload rfl rfl
theorem s129_135 : XE d 129 135 ls (.int x :: .ref a :: st) h Q ↔ XP [10] 7 (.int x) (h.2.2.1 a) (fun e => XE d 129 138 ls st (xset h a e) Q) := g_puti rfl
theorem s129_138 : XE d 129 138 (.val (.ref a) :: l) st h Q ↔ XE d 129 139 (.val (.ref a) :: l) (.ref a :: st) h Q := g_aload rfl rfl
theorem s129_139 : XE d 129 139 ls (.ref a :: st) h Q ↔ XG [11] 1 (h.2.2.1 a) (fun v => XE d 129 142 ls (v :: st) h Q) := g_getf rfl
theorem s129_142 : XE d 129 142 (c0 :: c1 :: c2 :: c3 :: .val (.int x) :: l) st h Q ↔ XE d 129 144 (c0 :: c1 :: c2 :: c3 :: .val (.int x) :: l) (.int x :: st) h Q := g_iload rfl rfl
theorem s129_144 : XE d 129 144 ls (.int x :: .ref a :: st) h Q ↔ XP [10] 5 (.int x) (h.2.2.1 a) (fun e => XE d 129 147 ls st (xset h a e) Q) := g_puti rfl
theorem s129_147 : XE d 129 147 (.val (.ref a) :: l) st h Q ↔ XE d 129 148 (.val (.ref a) :: l) (.ref a :: st) h Q := g_aload rfl rfl
theorem s129_148 : XE d 129 148 ls (.ref a :: st) h Q ↔ XG [11] 1 (h.2.2.1 a) (fun v => XE d 129 151 ls (v :: st) h Q) := g_getf rfl
theorem s129_151 : XE d 129 151 (c0 :: c1 :: c2 :: c3 :: c4 :: .val (.int x) :: l) st h Q ↔ XE d 129 153 (c0 :: c1 :: c2 :: c3 :: c4 :: .val (.int x) :: l) (.int x :: st) h Q := g_iload rfl rfl
theorem s129_153 : XE d 129 153 ls (.int x :: .ref a :: st) h Q ↔ XP [10] 6 (.int x) (h.2.2.1 a) (fun e => XE d 129 156 ls st (xset h a e) Q) := g_puti rfl
theorem s129_156 : XE d 129 156 (c0 :: c1 :: c2 :: c3 :: c4 :: c5 :: .val (.int x) :: l) st h Q ↔ XE d 129 158 (c0 :: c1 :: c2 :: c3 :: c4 :: c5 :: .val (.int x) :: l) (.int x :: st) h Q := g_iload rfl rfl
theorem s129_158 : XE d 129 158 ls [.int x] h Q ↔ Q (some (.int x)) h := g_iret rfl
-- 130: TwoBells.waitsAt(III)Z
theorem e130 : XC (d + 1) 130 [.ref a, .int x, .int y, .int z] h Q ↔ XE d 130 0 [.val (.ref a), .val (.int x), .val (.int y), .val (.int z)] [] h Q := XC_in rfl
theorem s130_0 : XE d 130 0 (c0 :: .val (.int x) :: l) st h Q ↔ XE d 130 1 (c0 :: .val (.int x) :: l) (.int x :: st) h Q := g_iload rfl rfl
theorem s130_1 : XE d 130 1 (c0 :: c1 :: .val (.int x) :: l) st h Q ↔ XE d 130 2 (c0 :: c1 :: .val (.int x) :: l) (.int x :: st) h Q := g_iload rfl rfl
theorem s130_2 : XE d 130 2 ls (.int y :: .int x :: st) h Q ↔ (if x < y then XE d 130 5 ls st h Q else XE d 130 25 ls st h Q) := g_cge rfl
theorem s130_5 : XE d 130 5 (c0 :: .val (.int x) :: l) st h Q ↔ XE d 130 6 (c0 :: .val (.int x) :: l) (.int x :: st) h Q := g_iload rfl rfl
theorem s130_6 : XE d 130 6 ls st h Q ↔ XE d 130 8 ls (.int 60 :: st) h Q := g_const rfl
theorem s130_8 : XE d 130 8 ls (.int y :: .int x :: st) h Q ↔ (if x < y then XE d 130 11 ls st h Q else XE d 130 25 ls st h Q) := g_cge rfl
theorem s130_11 : XE d 130 11 (.val (.ref a) :: l) st h Q ↔ XE d 130 12 (.val (.ref a) :: l) (.ref a :: st) h Q := g_aload rfl rfl
theorem s130_12 : XE d 130 12 ls (.ref a :: st) h Q ↔ XG [11] 4 (h.2.2.1 a) (fun v => XE d 130 15 ls (v :: st) h Q) := g_getf rfl
theorem s130_15 : XE d 130 15 (c0 :: .val (.int x) :: l) st h Q ↔ XE d 130 16 (c0 :: .val (.int x) :: l) (.int x :: st) h Q := g_iload rfl rfl
theorem s130_16 : XE d 130 16 ls (.int x :: .ref a :: st) h Q ↔ XA [0, 7] (h.2.2.1 a) x (fun k => XE d 130 17 ls (.int k :: st) h Q) := g_ald rfl
theorem s130_17 : XE d 130 17 (c0 :: c1 :: c2 :: .val (.int x) :: l) st h Q ↔ XE d 130 18 (c0 :: c1 :: c2 :: .val (.int x) :: l) (.int x :: st) h Q := g_iload rfl rfl
theorem s130_18 : XE d 130 18 ls (.int y :: .int x :: st) h Q ↔ (if x = y then XE d 130 21 ls st h Q else XE d 130 25 ls st h Q) := g_cne rfl
theorem s130_21 : XE d 130 21 ls st h Q ↔ XE d 130 22 ls (.int 1 :: st) h Q := g_const rfl
theorem s130_22 : XE d 130 22 ls st h Q ↔ XE d 130 26 ls st h Q := g_goto rfl
theorem s130_25 : XE d 130 25 ls st h Q ↔ XE d 130 26 ls (.int 0 :: st) h Q := g_const rfl
theorem s130_26 : XE d 130 26 ls [.int 0] h Q ↔ Q (some (.int 0)) h := g_zret rfl rfl
theorem s130_26t : XE d 130 26 ls [.int 1] h Q ↔ Q (some (.int 1)) h := g_zret rfl rfl
theorem s130_26b : XE d 130 26 ls [.int (bI q)] h Q ↔ Q (some (.int (bI q))) h := g_zret (bI_nar q) rfl
-- 131: TwoBellsModel.<init>()V
theorem e131 : XC (d + 1) 131 [.ref a] h Q ↔ XE d 131 0 [.val (.ref a)] [] h Q := XC_in rfl
theorem s131_0 : XE d 131 0 (.val (.ref a) :: l) st h Q ↔ XE d 131 1 (.val (.ref a) :: l) (.ref a :: st) h Q := g_aload rfl rfl
theorem s131_1 : XE d 131 1 ls (.ref a :: st) h Q ↔ (xvo 8 st = true ∧ XE d 131 4 ls st h Q) := h_objinit rfl
theorem s131_4 : XE d 131 4 (.val (.ref a) :: l) st h Q ↔ XE d 131 5 (.val (.ref a) :: l) (.ref a :: st) h Q := g_aload rfl rfl
theorem s131_5 : XE d 131 5 ls st h Q ↔ XE d 131 8 ls (.int 1482 :: st) h Q := g_const rfl
theorem s131_8 : XE d 131 8 ls (.int x :: st) h Q ↔ ((0 ≤ x ∧ x.toNatClampNeg ≤ 100000) ∧ XE d 131 10 ls (.ref h.1 :: st) (xnew h x.toNatClampNeg (.inl (0, xis x.toNatClampNeg (fun _ => 0)))) Q) := g_newa rfl
theorem s131_10 : XE d 131 10 ls (.ref b :: .ref a :: st) h Q ↔ XP [12] 0 (.ref b) (h.2.2.1 a) (fun e => XE d 131 13 ls st (xset h a e) Q) := g_putaR rfl
theorem s131_10n : XE d 131 10 ls (.null :: .ref a :: st) h Q ↔ XP [12] 0 .null (h.2.2.1 a) (fun e => XE d 131 13 ls st (xset h a e) Q) := g_putaN rfl
theorem s131_13 : XE d 131 13 (.val (.ref a) :: l) st h Q ↔ XE d 131 14 (.val (.ref a) :: l) (.ref a :: st) h Q := g_aload rfl rfl
theorem s131_14 : XE d 131 14 ls st h Q ↔ XE d 131 17 ls (.int 1482 :: st) h Q := g_const rfl
theorem s131_17 : XE d 131 17 ls (.int x :: st) h Q ↔ ((0 ≤ x ∧ x.toNatClampNeg ≤ 100000) ∧ XE d 131 19 ls (.ref h.1 :: st) (xnew h x.toNatClampNeg (.inl (0, xis x.toNatClampNeg (fun _ => 0)))) Q) := g_newa rfl
theorem s131_19 : XE d 131 19 ls (.ref b :: .ref a :: st) h Q ↔ XP [12] 1 (.ref b) (h.2.2.1 a) (fun e => XE d 131 22 ls st (xset h a e) Q) := g_putaR rfl
theorem s131_19n : XE d 131 19 ls (.null :: .ref a :: st) h Q ↔ XP [12] 1 .null (h.2.2.1 a) (fun e => XE d 131 22 ls st (xset h a e) Q) := g_putaN rfl
theorem s131_22 : XE d 131 22 (.val (.ref a) :: l) st h Q ↔ XE d 131 23 (.val (.ref a) :: l) (.ref a :: st) h Q := g_aload rfl rfl
theorem s131_23 : XE d 131 23 ls st h Q ↔ XE d 131 26 ls (.int 1482 :: st) h Q := g_const rfl
theorem s131_26 : XE d 131 26 ls (.int x :: st) h Q ↔ ((0 ≤ x ∧ x.toNatClampNeg ≤ 100000) ∧ XE d 131 28 ls (.ref h.1 :: st) (xnew h x.toNatClampNeg (.inl (0, xis x.toNatClampNeg (fun _ => 0)))) Q) := g_newa rfl
theorem s131_28 : XE d 131 28 ls (.ref b :: .ref a :: st) h Q ↔ XP [12] 2 (.ref b) (h.2.2.1 a) (fun e => XE d 131 31 ls st (xset h a e) Q) := g_putaR rfl
theorem s131_28n : XE d 131 28 ls (.null :: .ref a :: st) h Q ↔ XP [12] 2 .null (h.2.2.1 a) (fun e => XE d 131 31 ls st (xset h a e) Q) := g_putaN rfl
theorem s131_31 : XE d 131 31 (.val (.ref a) :: l) st h Q ↔ XE d 131 32 (.val (.ref a) :: l) (.ref a :: st) h Q := g_aload rfl rfl
theorem s131_32 : XE d 131 32 ls st h Q ↔ XE d 131 34 ls (.int 96 :: st) h Q := g_const rfl
theorem s131_34 : XE d 131 34 ls (.int x :: st) h Q ↔ ((0 ≤ x ∧ x.toNatClampNeg ≤ 100000) ∧ XE d 131 36 ls (.ref h.1 :: st) (xnew h x.toNatClampNeg (.inl (0, xis x.toNatClampNeg (fun _ => 0)))) Q) := g_newa rfl
theorem s131_36 : XE d 131 36 ls (.ref b :: .ref a :: st) h Q ↔ XP [12] 4 (.ref b) (h.2.2.1 a) (fun e => XE d 131 39 ls st (xset h a e) Q) := g_putaR rfl
theorem s131_36n : XE d 131 36 ls (.null :: .ref a :: st) h Q ↔ XP [12] 4 .null (h.2.2.1 a) (fun e => XE d 131 39 ls st (xset h a e) Q) := g_putaN rfl
theorem s131_39 : XE d 131 39 (.val (.ref a) :: l) st h Q ↔ XE d 131 40 (.val (.ref a) :: l) (.ref a :: st) h Q := g_aload rfl rfl
theorem s131_40 : XE d 131 40 ls st h Q ↔ XE d 131 42 ls (.int 11 :: st) h Q := g_const rfl
theorem s131_42 : XE d 131 42 ls (.int x :: st) h Q ↔ ((0 ≤ x ∧ x.toNatClampNeg ≤ 100000) ∧ XE d 131 44 ls (.ref h.1 :: st) (xnew h x.toNatClampNeg (.inl (2, xis x.toNatClampNeg (fun _ => 0)))) Q) := g_newa rfl
theorem s131_44 : XE d 131 44 ls (.int x :: st) h Q ↔ XE d 131 45 ls (.int x :: .int x :: st) h Q := g_dupI rfl
theorem s131_44r : XE d 131 44 ls (.ref a :: st) h Q ↔ XE d 131 45 ls (.ref a :: .ref a :: st) h Q := g_dupR rfl
theorem s131_45 : XE d 131 45 ls st h Q ↔ XE d 131 46 ls (.int 0 :: st) h Q := g_const rfl
theorem s131_46 : XE d 131 46 ls st h Q ↔ XE d 131 48 ls (.int 99 :: st) h Q := g_const rfl
theorem s131_48 : XE d 131 48 ls (.int y :: .int x :: .ref a :: st) h Q ↔ XS 2 (h.2.2.1 a) x y (fun e => XE d 131 49 ls st (xset h a e) Q) := g_cast rfl
theorem s131_49 : XE d 131 49 ls (.int x :: st) h Q ↔ XE d 131 50 ls (.int x :: .int x :: st) h Q := g_dupI rfl
theorem s131_49r : XE d 131 49 ls (.ref a :: st) h Q ↔ XE d 131 50 ls (.ref a :: .ref a :: st) h Q := g_dupR rfl
theorem s131_50 : XE d 131 50 ls st h Q ↔ XE d 131 51 ls (.int 1 :: st) h Q := g_const rfl
theorem s131_51 : XE d 131 51 ls st h Q ↔ XE d 131 53 ls (.int 111 :: st) h Q := g_const rfl
theorem s131_53 : XE d 131 53 ls (.int y :: .int x :: .ref a :: st) h Q ↔ XS 2 (h.2.2.1 a) x y (fun e => XE d 131 54 ls st (xset h a e) Q) := g_cast rfl
theorem s131_54 : XE d 131 54 ls (.int x :: st) h Q ↔ XE d 131 55 ls (.int x :: .int x :: st) h Q := g_dupI rfl
theorem s131_54r : XE d 131 54 ls (.ref a :: st) h Q ↔ XE d 131 55 ls (.ref a :: .ref a :: st) h Q := g_dupR rfl
theorem s131_55 : XE d 131 55 ls st h Q ↔ XE d 131 56 ls (.int 2 :: st) h Q := g_const rfl
theorem s131_56 : XE d 131 56 ls st h Q ↔ XE d 131 58 ls (.int 109 :: st) h Q := g_const rfl
theorem s131_58 : XE d 131 58 ls (.int y :: .int x :: .ref a :: st) h Q ↔ XS 2 (h.2.2.1 a) x y (fun e => XE d 131 59 ls st (xset h a e) Q) := g_cast rfl
theorem s131_59 : XE d 131 59 ls (.int x :: st) h Q ↔ XE d 131 60 ls (.int x :: .int x :: st) h Q := g_dupI rfl
theorem s131_59r : XE d 131 59 ls (.ref a :: st) h Q ↔ XE d 131 60 ls (.ref a :: .ref a :: st) h Q := g_dupR rfl
theorem s131_60 : XE d 131 60 ls st h Q ↔ XE d 131 61 ls (.int 3 :: st) h Q := g_const rfl
theorem s131_61 : XE d 131 61 ls st h Q ↔ XE d 131 63 ls (.int 101 :: st) h Q := g_const rfl
theorem s131_63 : XE d 131 63 ls (.int y :: .int x :: .ref a :: st) h Q ↔ XS 2 (h.2.2.1 a) x y (fun e => XE d 131 64 ls st (xset h a e) Q) := g_cast rfl
theorem s131_64 : XE d 131 64 ls (.int x :: st) h Q ↔ XE d 131 65 ls (.int x :: .int x :: st) h Q := g_dupI rfl
theorem s131_64r : XE d 131 64 ls (.ref a :: st) h Q ↔ XE d 131 65 ls (.ref a :: .ref a :: st) h Q := g_dupR rfl
theorem s131_65 : XE d 131 65 ls st h Q ↔ XE d 131 66 ls (.int 4 :: st) h Q := g_const rfl
theorem s131_66 : XE d 131 66 ls st h Q ↔ XE d 131 68 ls (.int 103 :: st) h Q := g_const rfl
theorem s131_68 : XE d 131 68 ls (.int y :: .int x :: .ref a :: st) h Q ↔ XS 2 (h.2.2.1 a) x y (fun e => XE d 131 69 ls st (xset h a e) Q) := g_cast rfl
theorem s131_69 : XE d 131 69 ls (.int x :: st) h Q ↔ XE d 131 70 ls (.int x :: .int x :: st) h Q := g_dupI rfl
theorem s131_69r : XE d 131 69 ls (.ref a :: st) h Q ↔ XE d 131 70 ls (.ref a :: .ref a :: st) h Q := g_dupR rfl
theorem s131_70 : XE d 131 70 ls st h Q ↔ XE d 131 71 ls (.int 5 :: st) h Q := g_const rfl
theorem s131_71 : XE d 131 71 ls st h Q ↔ XE d 131 73 ls (.int 97 :: st) h Q := g_const rfl
theorem s131_73 : XE d 131 73 ls (.int y :: .int x :: .ref a :: st) h Q ↔ XS 2 (h.2.2.1 a) x y (fun e => XE d 131 74 ls st (xset h a e) Q) := g_cast rfl
theorem s131_74 : XE d 131 74 ls (.int x :: st) h Q ↔ XE d 131 75 ls (.int x :: .int x :: st) h Q := g_dupI rfl
theorem s131_74r : XE d 131 74 ls (.ref a :: st) h Q ↔ XE d 131 75 ls (.ref a :: .ref a :: st) h Q := g_dupR rfl
theorem s131_75 : XE d 131 75 ls st h Q ↔ XE d 131 77 ls (.int 6 :: st) h Q := g_const rfl
theorem s131_77 : XE d 131 77 ls st h Q ↔ XE d 131 79 ls (.int 105 :: st) h Q := g_const rfl
theorem s131_79 : XE d 131 79 ls (.int y :: .int x :: .ref a :: st) h Q ↔ XS 2 (h.2.2.1 a) x y (fun e => XE d 131 80 ls st (xset h a e) Q) := g_cast rfl
theorem s131_80 : XE d 131 80 ls (.int x :: st) h Q ↔ XE d 131 81 ls (.int x :: .int x :: st) h Q := g_dupI rfl
theorem s131_80r : XE d 131 80 ls (.ref a :: st) h Q ↔ XE d 131 81 ls (.ref a :: .ref a :: st) h Q := g_dupR rfl
theorem s131_81 : XE d 131 81 ls st h Q ↔ XE d 131 83 ls (.int 7 :: st) h Q := g_const rfl
theorem s131_83 : XE d 131 83 ls st h Q ↔ XE d 131 85 ls (.int 110 :: st) h Q := g_const rfl
theorem s131_85 : XE d 131 85 ls (.int y :: .int x :: .ref a :: st) h Q ↔ XS 2 (h.2.2.1 a) x y (fun e => XE d 131 86 ls st (xset h a e) Q) := g_cast rfl
theorem s131_86 : XE d 131 86 ls (.int x :: st) h Q ↔ XE d 131 87 ls (.int x :: .int x :: st) h Q := g_dupI rfl
theorem s131_86r : XE d 131 86 ls (.ref a :: st) h Q ↔ XE d 131 87 ls (.ref a :: .ref a :: st) h Q := g_dupR rfl
theorem s131_87 : XE d 131 87 ls st h Q ↔ XE d 131 89 ls (.int 8 :: st) h Q := g_const rfl
theorem s131_89 : XE d 131 89 ls st h Q ↔ XE d 131 91 ls (.int 109 :: st) h Q := g_const rfl
theorem s131_91 : XE d 131 91 ls (.int y :: .int x :: .ref a :: st) h Q ↔ XS 2 (h.2.2.1 a) x y (fun e => XE d 131 92 ls st (xset h a e) Q) := g_cast rfl
theorem s131_92 : XE d 131 92 ls (.int x :: st) h Q ↔ XE d 131 93 ls (.int x :: .int x :: st) h Q := g_dupI rfl
theorem s131_92r : XE d 131 92 ls (.ref a :: st) h Q ↔ XE d 131 93 ls (.ref a :: .ref a :: st) h Q := g_dupR rfl
theorem s131_93 : XE d 131 93 ls st h Q ↔ XE d 131 95 ls (.int 9 :: st) h Q := g_const rfl
theorem s131_95 : XE d 131 95 ls st h Q ↔ XE d 131 97 ls (.int 97 :: st) h Q := g_const rfl
theorem s131_97 : XE d 131 97 ls (.int y :: .int x :: .ref a :: st) h Q ↔ XS 2 (h.2.2.1 a) x y (fun e => XE d 131 98 ls st (xset h a e) Q) := g_cast rfl
theorem s131_98 : XE d 131 98 ls (.int x :: st) h Q ↔ XE d 131 99 ls (.int x :: .int x :: st) h Q := g_dupI rfl
theorem s131_98r : XE d 131 98 ls (.ref a :: st) h Q ↔ XE d 131 99 ls (.ref a :: .ref a :: st) h Q := g_dupR rfl
theorem s131_99 : XE d 131 99 ls st h Q ↔ XE d 131 101 ls (.int 10 :: st) h Q := g_const rfl
theorem s131_101 : XE d 131 101 ls st h Q ↔ XE d 131 103 ls (.int 121 :: st) h Q := g_const rfl
theorem s131_103 : XE d 131 103 ls (.int y :: .int x :: .ref a :: st) h Q ↔ XS 2 (h.2.2.1 a) x y (fun e => XE d 131 104 ls st (xset h a e) Q) := g_cast rfl
theorem s131_104 : XE d 131 104 ls (.ref b :: .ref a :: st) h Q ↔ XP [12] 12 (.ref b) (h.2.2.1 a) (fun e => XE d 131 107 ls st (xset h a e) Q) := g_putaR rfl
theorem s131_104n : XE d 131 104 ls (.null :: .ref a :: st) h Q ↔ XP [12] 12 .null (h.2.2.1 a) (fun e => XE d 131 107 ls st (xset h a e) Q) := g_putaN rfl
theorem s131_107 : XE d 131 107 (.val (.ref a) :: l) st h Q ↔ XE d 131 108 (.val (.ref a) :: l) (.ref a :: st) h Q := g_aload rfl rfl
theorem s131_108 : XE d 131 108 ls st h Q ↔ XE d 131 109 ls (.int 4 :: st) h Q := g_const rfl
theorem s131_109 : XE d 131 109 ls (.int x :: st) h Q ↔ ((0 ≤ x ∧ x.toNatClampNeg ≤ 100000) ∧ XE d 131 111 ls (.ref h.1 :: st) (xnew h x.toNatClampNeg (.inl (0, xis x.toNatClampNeg (fun _ => 0)))) Q) := g_newa rfl
theorem s131_111 : XE d 131 111 ls (.int x :: st) h Q ↔ XE d 131 112 ls (.int x :: .int x :: st) h Q := g_dupI rfl
theorem s131_111r : XE d 131 111 ls (.ref a :: st) h Q ↔ XE d 131 112 ls (.ref a :: .ref a :: st) h Q := g_dupR rfl
theorem s131_112 : XE d 131 112 ls st h Q ↔ XE d 131 113 ls (.int 0 :: st) h Q := g_const rfl
theorem s131_113 : XE d 131 113 ls st h Q ↔ XE d 131 114 ls (.int 0 :: st) h Q := g_const rfl
theorem s131_114 : XE d 131 114 ls (.int y :: .int x :: .ref a :: st) h Q ↔ XS 0 (h.2.2.1 a) x y (fun e => XE d 131 115 ls st (xset h a e) Q) := g_iast rfl
theorem s131_115 : XE d 131 115 ls (.int x :: st) h Q ↔ XE d 131 116 ls (.int x :: .int x :: st) h Q := g_dupI rfl
theorem s131_115r : XE d 131 115 ls (.ref a :: st) h Q ↔ XE d 131 116 ls (.ref a :: .ref a :: st) h Q := g_dupR rfl
theorem s131_116 : XE d 131 116 ls st h Q ↔ XE d 131 117 ls (.int 1 :: st) h Q := g_const rfl
theorem s131_117 : XE d 131 117 ls st h Q ↔ XE d 131 118 ls (.int 4 :: st) h Q := g_const rfl
theorem s131_118 : XE d 131 118 ls (.int y :: .int x :: .ref a :: st) h Q ↔ XS 0 (h.2.2.1 a) x y (fun e => XE d 131 119 ls st (xset h a e) Q) := g_iast rfl
theorem s131_119 : XE d 131 119 ls (.int x :: st) h Q ↔ XE d 131 120 ls (.int x :: .int x :: st) h Q := g_dupI rfl
theorem s131_119r : XE d 131 119 ls (.ref a :: st) h Q ↔ XE d 131 120 ls (.ref a :: .ref a :: st) h Q := g_dupR rfl
theorem s131_120 : XE d 131 120 ls st h Q ↔ XE d 131 121 ls (.int 2 :: st) h Q := g_const rfl
theorem s131_121 : XE d 131 121 ls st h Q ↔ XE d 131 123 ls (.int 8 :: st) h Q := g_const rfl
theorem s131_123 : XE d 131 123 ls (.int y :: .int x :: .ref a :: st) h Q ↔ XS 0 (h.2.2.1 a) x y (fun e => XE d 131 124 ls st (xset h a e) Q) := g_iast rfl
theorem s131_124 : XE d 131 124 ls (.int x :: st) h Q ↔ XE d 131 125 ls (.int x :: .int x :: st) h Q := g_dupI rfl
theorem s131_124r : XE d 131 124 ls (.ref a :: st) h Q ↔ XE d 131 125 ls (.ref a :: .ref a :: st) h Q := g_dupR rfl
theorem s131_125 : XE d 131 125 ls st h Q ↔ XE d 131 126 ls (.int 3 :: st) h Q := g_const rfl
theorem s131_126 : XE d 131 126 ls st h Q ↔ XE d 131 128 ls (.int 11 :: st) h Q := g_const rfl
theorem s131_128 : XE d 131 128 ls (.int y :: .int x :: .ref a :: st) h Q ↔ XS 0 (h.2.2.1 a) x y (fun e => XE d 131 129 ls st (xset h a e) Q) := g_iast rfl
theorem s131_129 : XE d 131 129 ls (.ref b :: .ref a :: st) h Q ↔ XP [12] 13 (.ref b) (h.2.2.1 a) (fun e => XE d 131 132 ls st (xset h a e) Q) := g_putaR rfl
theorem s131_129n : XE d 131 129 ls (.null :: .ref a :: st) h Q ↔ XP [12] 13 .null (h.2.2.1 a) (fun e => XE d 131 132 ls st (xset h a e) Q) := g_putaN rfl
theorem s131_132 : XE d 131 132 (.val (.ref a) :: l) st h Q ↔ XE d 131 133 (.val (.ref a) :: l) (.ref a :: st) h Q := g_aload rfl rfl
theorem s131_133 : XE d 131 133 ls st h Q ↔ XE d 131 135 ls (.int 96 :: st) h Q := g_const rfl
theorem s131_135 : XE d 131 135 ls (.int x :: st) h Q ↔ ((0 ≤ x ∧ x.toNatClampNeg ≤ 100000) ∧ XE d 131 137 ls (.ref h.1 :: st) (xnew h x.toNatClampNeg (.inl (0, xis x.toNatClampNeg (fun _ => 0)))) Q) := g_newa rfl
theorem s131_137 : XE d 131 137 ls (.ref b :: .ref a :: st) h Q ↔ XP [12] 14 (.ref b) (h.2.2.1 a) (fun e => XE d 131 140 ls st (xset h a e) Q) := g_putaR rfl
theorem s131_137n : XE d 131 137 ls (.null :: .ref a :: st) h Q ↔ XP [12] 14 .null (h.2.2.1 a) (fun e => XE d 131 140 ls st (xset h a e) Q) := g_putaN rfl
theorem s131_140 : XE d 131 140 (.val (.ref a) :: l) st h Q ↔ XE d 131 141 (.val (.ref a) :: l) (.ref a :: st) h Q := g_aload rfl rfl
theorem s131_141 : XE d 131 141 ls st h Q ↔ XE d 131 143 ls (.int 96 :: st) h Q := g_const rfl
theorem s131_143 : XE d 131 143 ls (.int x :: st) h Q ↔ ((0 ≤ x ∧ x.toNatClampNeg ≤ 100000) ∧ XE d 131 145 ls (.ref h.1 :: st) (xnew h x.toNatClampNeg (.inl (0, xis x.toNatClampNeg (fun _ => 0)))) Q) := g_newa rfl
theorem s131_145 : XE d 131 145 ls (.ref b :: .ref a :: st) h Q ↔ XP [12] 17 (.ref b) (h.2.2.1 a) (fun e => XE d 131 148 ls st (xset h a e) Q) := g_putaR rfl
theorem s131_145n : XE d 131 145 ls (.null :: .ref a :: st) h Q ↔ XP [12] 17 .null (h.2.2.1 a) (fun e => XE d 131 148 ls st (xset h a e) Q) := g_putaN rfl
theorem s131_148 : XE d 131 148 (.val (.ref a) :: l) st h Q ↔ XE d 131 149 (.val (.ref a) :: l) (.ref a :: st) h Q := g_aload rfl rfl
theorem s131_149 : XE d 131 149 ls st h Q ↔ XE d 131 151 ls (.int 10 :: st) h Q := g_const rfl
theorem s131_151 : XE d 131 151 ls (.int x :: st) h Q ↔ ((0 ≤ x ∧ x.toNatClampNeg ≤ 100000) ∧ XE d 131 153 ls (.ref h.1 :: st) (xnew h x.toNatClampNeg (.inl (1, xis x.toNatClampNeg (fun _ => 0)))) Q) := g_newa rfl
theorem s131_153 : XE d 131 153 ls (.ref b :: .ref a :: st) h Q ↔ XP [12] 19 (.ref b) (h.2.2.1 a) (fun e => XE d 131 156 ls st (xset h a e) Q) := g_putaR rfl
theorem s131_153n : XE d 131 153 ls (.null :: .ref a :: st) h Q ↔ XP [12] 19 .null (h.2.2.1 a) (fun e => XE d 131 156 ls st (xset h a e) Q) := g_putaN rfl
theorem s131_156 : XE d 131 156 (.val (.ref a) :: l) st h Q ↔ XE d 131 157 (.val (.ref a) :: l) (.ref a :: st) h Q := g_aload rfl rfl
theorem s131_157 : XE d 131 157 ls st h Q ↔ XE d 131 159 ls (.int 96 :: st) h Q := g_const rfl
theorem s131_159 : XE d 131 159 ls (.int x :: st) h Q ↔ ((0 ≤ x ∧ x.toNatClampNeg ≤ 100000) ∧ XE d 131 161 ls (.ref h.1 :: st) (xnew h x.toNatClampNeg (.inl (0, xis x.toNatClampNeg (fun _ => 0)))) Q) := g_newa rfl
theorem s131_161 : XE d 131 161 ls (.ref b :: .ref a :: st) h Q ↔ XP [12] 20 (.ref b) (h.2.2.1 a) (fun e => XE d 131 164 ls st (xset h a e) Q) := g_putaR rfl
theorem s131_161n : XE d 131 161 ls (.null :: .ref a :: st) h Q ↔ XP [12] 20 .null (h.2.2.1 a) (fun e => XE d 131 164 ls st (xset h a e) Q) := g_putaN rfl
theorem s131_164 : XE d 131 164 (.val (.ref a) :: l) st h Q ↔ XE d 131 165 (.val (.ref a) :: l) (.ref a :: st) h Q := g_aload rfl rfl
theorem s131_165 : XE d 131 165 ls st h Q ↔ XE d 131 166 ls (.int 4 :: st) h Q := g_const rfl
theorem s131_166 : XE d 131 166 ls (.int x :: st) h Q ↔ ((0 ≤ x ∧ x.toNatClampNeg ≤ 100000) ∧ XE d 131 168 ls (.ref h.1 :: st) (xnew h x.toNatClampNeg (.inl (0, xis x.toNatClampNeg (fun _ => 0)))) Q) := g_newa rfl
theorem s131_168 : XE d 131 168 ls (.ref b :: .ref a :: st) h Q ↔ XP [12] 21 (.ref b) (h.2.2.1 a) (fun e => XE d 131 171 ls st (xset h a e) Q) := g_putaR rfl
theorem s131_168n : XE d 131 168 ls (.null :: .ref a :: st) h Q ↔ XP [12] 21 .null (h.2.2.1 a) (fun e => XE d 131 171 ls st (xset h a e) Q) := g_putaN rfl
theorem s131_171 : XE d 131 171 (.val (.ref a) :: l) st h Q ↔ XE d 131 172 (.val (.ref a) :: l) (.ref a :: st) h Q := g_aload rfl rfl
theorem s131_172 : XE d 131 172 ls st h Q ↔ XE d 131 173 ls (.int 4 :: st) h Q := g_const rfl
theorem s131_173 : XE d 131 173 ls (.int x :: st) h Q ↔ ((0 ≤ x ∧ x.toNatClampNeg ≤ 100000) ∧ XE d 131 175 ls (.ref h.1 :: st) (xnew h x.toNatClampNeg (.inl (0, xis x.toNatClampNeg (fun _ => 0)))) Q) := g_newa rfl
theorem s131_175 : XE d 131 175 ls (.int x :: st) h Q ↔ XE d 131 176 ls (.int x :: .int x :: st) h Q := g_dupI rfl
theorem s131_175r : XE d 131 175 ls (.ref a :: st) h Q ↔ XE d 131 176 ls (.ref a :: .ref a :: st) h Q := g_dupR rfl
theorem s131_176 : XE d 131 176 ls st h Q ↔ XE d 131 177 ls (.int 0 :: st) h Q := g_const rfl
theorem s131_177 : XE d 131 177 ls st h Q ↔ XE d 131 178 ls (.int (-1) :: st) h Q := g_const rfl
theorem s131_178 : XE d 131 178 ls (.int y :: .int x :: .ref a :: st) h Q ↔ XS 0 (h.2.2.1 a) x y (fun e => XE d 131 179 ls st (xset h a e) Q) := g_iast rfl
theorem s131_179 : XE d 131 179 ls (.int x :: st) h Q ↔ XE d 131 180 ls (.int x :: .int x :: st) h Q := g_dupI rfl
theorem s131_179r : XE d 131 179 ls (.ref a :: st) h Q ↔ XE d 131 180 ls (.ref a :: .ref a :: st) h Q := g_dupR rfl
theorem s131_180 : XE d 131 180 ls st h Q ↔ XE d 131 181 ls (.int 1 :: st) h Q := g_const rfl
theorem s131_181 : XE d 131 181 ls st h Q ↔ XE d 131 182 ls (.int (-1) :: st) h Q := g_const rfl
theorem s131_182 : XE d 131 182 ls (.int y :: .int x :: .ref a :: st) h Q ↔ XS 0 (h.2.2.1 a) x y (fun e => XE d 131 183 ls st (xset h a e) Q) := g_iast rfl
theorem s131_183 : XE d 131 183 ls (.int x :: st) h Q ↔ XE d 131 184 ls (.int x :: .int x :: st) h Q := g_dupI rfl
theorem s131_183r : XE d 131 183 ls (.ref a :: st) h Q ↔ XE d 131 184 ls (.ref a :: .ref a :: st) h Q := g_dupR rfl
theorem s131_184 : XE d 131 184 ls st h Q ↔ XE d 131 185 ls (.int 2 :: st) h Q := g_const rfl
theorem s131_185 : XE d 131 185 ls st h Q ↔ XE d 131 186 ls (.int (-1) :: st) h Q := g_const rfl
theorem s131_186 : XE d 131 186 ls (.int y :: .int x :: .ref a :: st) h Q ↔ XS 0 (h.2.2.1 a) x y (fun e => XE d 131 187 ls st (xset h a e) Q) := g_iast rfl
theorem s131_187 : XE d 131 187 ls (.int x :: st) h Q ↔ XE d 131 188 ls (.int x :: .int x :: st) h Q := g_dupI rfl
theorem s131_187r : XE d 131 187 ls (.ref a :: st) h Q ↔ XE d 131 188 ls (.ref a :: .ref a :: st) h Q := g_dupR rfl
theorem s131_188 : XE d 131 188 ls st h Q ↔ XE d 131 189 ls (.int 3 :: st) h Q := g_const rfl
theorem s131_189 : XE d 131 189 ls st h Q ↔ XE d 131 190 ls (.int (-1) :: st) h Q := g_const rfl
theorem s131_190 : XE d 131 190 ls (.int y :: .int x :: .ref a :: st) h Q ↔ XS 0 (h.2.2.1 a) x y (fun e => XE d 131 191 ls st (xset h a e) Q) := g_iast rfl
theorem s131_191 : XE d 131 191 ls (.ref b :: .ref a :: st) h Q ↔ XP [12] 22 (.ref b) (h.2.2.1 a) (fun e => XE d 131 194 ls st (xset h a e) Q) := g_putaR rfl
theorem s131_191n : XE d 131 191 ls (.null :: .ref a :: st) h Q ↔ XP [12] 22 .null (h.2.2.1 a) (fun e => XE d 131 194 ls st (xset h a e) Q) := g_putaN rfl
theorem s131_194 : XE d 131 194 (.val (.ref a) :: l) st h Q ↔ XE d 131 195 (.val (.ref a) :: l) (.ref a :: st) h Q := g_aload rfl rfl
theorem s131_195 : XE d 131 195 ls st h Q ↔ XE d 131 196 ls (.int 4 :: st) h Q := g_const rfl
theorem s131_196 : XE d 131 196 ls (.int x :: st) h Q ↔ ((0 ≤ x ∧ x.toNatClampNeg ≤ 100000) ∧ XE d 131 198 ls (.ref h.1 :: st) (xnew h x.toNatClampNeg (.inl (0, xis x.toNatClampNeg (fun _ => 0)))) Q) := g_newa rfl
theorem s131_198 : XE d 131 198 ls (.ref b :: .ref a :: st) h Q ↔ XP [12] 23 (.ref b) (h.2.2.1 a) (fun e => XE d 131 201 ls st (xset h a e) Q) := g_putaR rfl
theorem s131_198n : XE d 131 198 ls (.null :: .ref a :: st) h Q ↔ XP [12] 23 .null (h.2.2.1 a) (fun e => XE d 131 201 ls st (xset h a e) Q) := g_putaN rfl
theorem s131_201 : XE d 131 201 (.val (.ref a) :: l) st h Q ↔ XE d 131 202 (.val (.ref a) :: l) (.ref a :: st) h Q := g_aload rfl rfl
theorem s131_202 : XE d 131 202 ls st h Q ↔ XE d 131 204 ls (.int 96 :: st) h Q := g_const rfl
theorem s131_204 : XE d 131 204 ls (.int x :: st) h Q ↔ ((0 ≤ x ∧ x.toNatClampNeg ≤ 100000) ∧ XE d 131 206 ls (.ref h.1 :: st) (xnew h x.toNatClampNeg (.inl (0, xis x.toNatClampNeg (fun _ => 0)))) Q) := g_newa rfl
theorem s131_206 : XE d 131 206 ls (.ref b :: .ref a :: st) h Q ↔ XP [12] 24 (.ref b) (h.2.2.1 a) (fun e => XE d 131 209 ls st (xset h a e) Q) := g_putaR rfl
theorem s131_206n : XE d 131 206 ls (.null :: .ref a :: st) h Q ↔ XP [12] 24 .null (h.2.2.1 a) (fun e => XE d 131 209 ls st (xset h a e) Q) := g_putaN rfl
theorem s131_209 : XE d 131 209 (.val (.ref a) :: l) st h Q ↔ XE d 131 210 (.val (.ref a) :: l) (.ref a :: st) h Q := g_aload rfl rfl
theorem s131_210 : XE d 131 210 ls st h Q ↔ XE d 131 211 ls (.int 5 :: st) h Q := g_const rfl
theorem s131_211 : XE d 131 211 ls (.int x :: st) h Q ↔ ((0 ≤ x ∧ x.toNatClampNeg ≤ 100000) ∧ XE d 131 213 ls (.ref h.1 :: st) (xnew h x.toNatClampNeg (.inl (0, xis x.toNatClampNeg (fun _ => 0)))) Q) := g_newa rfl
theorem s131_213 : XE d 131 213 ls (.ref b :: .ref a :: st) h Q ↔ XP [12] 25 (.ref b) (h.2.2.1 a) (fun e => XE d 131 216 ls st (xset h a e) Q) := g_putaR rfl
theorem s131_213n : XE d 131 213 ls (.null :: .ref a :: st) h Q ↔ XP [12] 25 .null (h.2.2.1 a) (fun e => XE d 131 216 ls st (xset h a e) Q) := g_putaN rfl
theorem s131_216 : XE d 131 216 (.val (.ref a) :: l) st h Q ↔ XE d 131 217 (.val (.ref a) :: l) (.ref a :: st) h Q := g_aload rfl rfl
theorem s131_217 : XE d 131 217 ls st h Q ↔ XE d 131 218 ls (.int 5 :: st) h Q := g_const rfl
theorem s131_218 : XE d 131 218 ls (.int x :: st) h Q ↔ ((0 ≤ x ∧ x.toNatClampNeg ≤ 100000) ∧ XE d 131 220 ls (.ref h.1 :: st) (xnew h x.toNatClampNeg (.inl (0, xis x.toNatClampNeg (fun _ => 0)))) Q) := g_newa rfl
theorem s131_220 : XE d 131 220 ls (.ref b :: .ref a :: st) h Q ↔ XP [12] 26 (.ref b) (h.2.2.1 a) (fun e => XE d 131 223 ls st (xset h a e) Q) := g_putaR rfl
theorem s131_220n : XE d 131 220 ls (.null :: .ref a :: st) h Q ↔ XP [12] 26 .null (h.2.2.1 a) (fun e => XE d 131 223 ls st (xset h a e) Q) := g_putaN rfl
theorem s131_223 : XE d 131 223 (.val (.ref a) :: l) st h Q ↔ XE d 131 224 (.val (.ref a) :: l) (.ref a :: st) h Q := g_aload rfl rfl
theorem s131_224 : XE d 131 224 ls st h Q ↔ XE d 131 225 ls (.int 5 :: st) h Q := g_const rfl
theorem s131_225 : XE d 131 225 ls (.int x :: st) h Q ↔ ((0 ≤ x ∧ x.toNatClampNeg ≤ 100000) ∧ XE d 131 227 ls (.ref h.1 :: st) (xnew h x.toNatClampNeg (.inl (0, xis x.toNatClampNeg (fun _ => 0)))) Q) := g_newa rfl
theorem s131_227 : XE d 131 227 ls (.ref b :: .ref a :: st) h Q ↔ XP [12] 27 (.ref b) (h.2.2.1 a) (fun e => XE d 131 230 ls st (xset h a e) Q) := g_putaR rfl
theorem s131_227n : XE d 131 227 ls (.null :: .ref a :: st) h Q ↔ XP [12] 27 .null (h.2.2.1 a) (fun e => XE d 131 230 ls st (xset h a e) Q) := g_putaN rfl
theorem s131_230 : XE d 131 230 (.val (.ref a) :: l) st h Q ↔ XE d 131 231 (.val (.ref a) :: l) (.ref a :: st) h Q := g_aload rfl rfl
theorem s131_231 : XE d 131 231 ls st h Q ↔ XE d 131 233 ls (.int 120 :: st) h Q := g_const rfl
theorem s131_233 : XE d 131 233 ls (.int x :: st) h Q ↔ ((0 ≤ x ∧ x.toNatClampNeg ≤ 100000) ∧ XE d 131 235 ls (.ref h.1 :: st) (xnew h x.toNatClampNeg (.inl (0, xis x.toNatClampNeg (fun _ => 0)))) Q) := g_newa rfl
theorem s131_235 : XE d 131 235 ls (.ref b :: .ref a :: st) h Q ↔ XP [12] 28 (.ref b) (h.2.2.1 a) (fun e => XE d 131 238 ls st (xset h a e) Q) := g_putaR rfl
theorem s131_235n : XE d 131 235 ls (.null :: .ref a :: st) h Q ↔ XP [12] 28 .null (h.2.2.1 a) (fun e => XE d 131 238 ls st (xset h a e) Q) := g_putaN rfl
theorem s131_238 : XE d 131 238 (.val (.ref a) :: l) st h Q ↔ XE d 131 239 (.val (.ref a) :: l) (.ref a :: st) h Q := g_aload rfl rfl
theorem s131_239 : XE d 131 239 ls st h Q ↔ XE d 131 241 ls (.int 24 :: st) h Q := g_const rfl
theorem s131_241 : XE d 131 241 ls (.int x :: st) h Q ↔ ((0 ≤ x ∧ x.toNatClampNeg ≤ 100000) ∧ XE d 131 243 ls (.ref h.1 :: st) (xnew h x.toNatClampNeg (.inl (0, xis x.toNatClampNeg (fun _ => 0)))) Q) := g_newa rfl
theorem s131_243 : XE d 131 243 ls (.ref b :: .ref a :: st) h Q ↔ XP [12] 29 (.ref b) (h.2.2.1 a) (fun e => XE d 131 246 ls st (xset h a e) Q) := g_putaR rfl
theorem s131_243n : XE d 131 243 ls (.null :: .ref a :: st) h Q ↔ XP [12] 29 .null (h.2.2.1 a) (fun e => XE d 131 246 ls st (xset h a e) Q) := g_putaN rfl
theorem s131_246 : XE d 131 246 (.val (.ref a) :: l) st h Q ↔ XE d 131 247 (.val (.ref a) :: l) (.ref a :: st) h Q := g_aload rfl rfl
theorem s131_247 : XE d 131 247 ls st h Q ↔ XE d 131 249 ls (.int 60 :: st) h Q := g_const rfl
theorem s131_249 : XE d 131 249 ls (.int x :: st) h Q ↔ ((0 ≤ x ∧ x.toNatClampNeg ≤ 100000) ∧ XE d 131 251 ls (.ref h.1 :: st) (xnew h x.toNatClampNeg (.inl (0, xis x.toNatClampNeg (fun _ => 0)))) Q) := g_newa rfl
theorem s131_251 : XE d 131 251 ls (.ref b :: .ref a :: st) h Q ↔ XP [12] 30 (.ref b) (h.2.2.1 a) (fun e => XE d 131 254 ls st (xset h a e) Q) := g_putaR rfl
theorem s131_251n : XE d 131 251 ls (.null :: .ref a :: st) h Q ↔ XP [12] 30 .null (h.2.2.1 a) (fun e => XE d 131 254 ls st (xset h a e) Q) := g_putaN rfl
theorem s131_254 : XE d 131 254 (.val (.ref a) :: l) st h Q ↔ XE d 131 255 (.val (.ref a) :: l) (.ref a :: st) h Q := g_aload rfl rfl
theorem s131_255 : XE d 131 255 ls (.ref a :: st) h Q ↔ XG [12] 0 (h.2.2.1 a) (fun v => XE d 131 258 ls (v :: st) h Q) := g_getf rfl
theorem s131_258 : XE d 131 258 ls st h Q ↔ XE d 131 259 ls (.int 0 :: st) h Q := g_const rfl
theorem s131_259 : XE d 131 259 ls st h Q ↔ XE d 131 260 ls (.int 1 :: st) h Q := g_const rfl
theorem s131_260 : XE d 131 260 ls (.int y :: .int x :: .ref a :: st) h Q ↔ XS 0 (h.2.2.1 a) x y (fun e => XE d 131 261 ls st (xset h a e) Q) := g_iast rfl
theorem s131_261 : XE d 131 261 (.val (.ref a) :: l) st h Q ↔ XE d 131 262 (.val (.ref a) :: l) (.ref a :: st) h Q := g_aload rfl rfl
theorem s131_262 : XE d 131 262 ls (.ref a :: st) h Q ↔ XG [12] 0 (h.2.2.1 a) (fun v => XE d 131 265 ls (v :: st) h Q) := g_getf rfl
theorem s131_265 : XE d 131 265 ls st h Q ↔ XE d 131 267 ls (.int 6 :: st) h Q := g_const rfl
theorem s131_267 : XE d 131 267 ls st h Q ↔ XE d 131 268 ls (.int 3 :: st) h Q := g_const rfl
theorem s131_268 : XE d 131 268 ls (.int y :: .int x :: .ref a :: st) h Q ↔ XS 0 (h.2.2.1 a) x y (fun e => XE d 131 269 ls st (xset h a e) Q) := g_iast rfl
theorem s131_269 : XE d 131 269 ls [] h Q ↔ Q none h := g_ret rfl
-- 132: TwoBellsModel.in(III)Z
theorem e132 : XC (d + 1) 132 [.int x, .int y, .int z] h Q ↔ XE d 132 0 [.val (.int x), .val (.int y), .val (.int z)] [] h Q := XC_in rfl
theorem s132_0 : XE d 132 0 (.val (.int x) :: l) st h Q ↔ XE d 132 1 (.val (.int x) :: l) (.int x :: st) h Q := g_iload rfl rfl
theorem s132_1 : XE d 132 1 (c0 :: .val (.int x) :: l) st h Q ↔ XE d 132 2 (c0 :: .val (.int x) :: l) (.int x :: st) h Q := g_iload rfl rfl
theorem s132_2 : XE d 132 2 ls (.int y :: .int x :: st) h Q ↔ (if x < y then XE d 132 14 ls st h Q else XE d 132 5 ls st h Q) := g_clt rfl
theorem s132_5 : XE d 132 5 (.val (.int x) :: l) st h Q ↔ XE d 132 6 (.val (.int x) :: l) (.int x :: st) h Q := g_iload rfl rfl
theorem s132_6 : XE d 132 6 (c0 :: c1 :: .val (.int x) :: l) st h Q ↔ XE d 132 7 (c0 :: c1 :: .val (.int x) :: l) (.int x :: st) h Q := g_iload rfl rfl
theorem s132_7 : XE d 132 7 ls (.int y :: .int x :: st) h Q ↔ (if y < x then XE d 132 14 ls st h Q else XE d 132 10 ls st h Q) := g_cgt rfl
theorem s132_10 : XE d 132 10 ls st h Q ↔ XE d 132 11 ls (.int 1 :: st) h Q := g_const rfl
theorem s132_11 : XE d 132 11 ls st h Q ↔ XE d 132 15 ls st h Q := g_goto rfl
theorem s132_14 : XE d 132 14 ls st h Q ↔ XE d 132 15 ls (.int 0 :: st) h Q := g_const rfl
theorem s132_15 : XE d 132 15 ls [.int 0] h Q ↔ Q (some (.int 0)) h := g_zret rfl rfl
theorem s132_15t : XE d 132 15 ls [.int 1] h Q ↔ Q (some (.int 1)) h := g_zret rfl rfl
theorem s132_15b : XE d 132 15 ls [.int (bI q)] h Q ↔ Q (some (.int (bI q))) h := g_zret (bI_nar q) rfl
-- 133: TwoBellsModel.within(III)I
theorem e133 : XC (d + 1) 133 [.int x, .int y, .int z] h Q ↔ XE d 133 0 [.val (.int x), .val (.int y), .val (.int z)] [] h Q := XC_in rfl
theorem s133_0 : XE d 133 0 (.val (.int x) :: l) st h Q ↔ XE d 133 1 (.val (.int x) :: l) (.int x :: st) h Q := g_iload rfl rfl
theorem s133_1 : XE d 133 1 (c0 :: .val (.int x) :: l) st h Q ↔ XE d 133 2 (c0 :: .val (.int x) :: l) (.int x :: st) h Q := g_iload rfl rfl
theorem s133_2 : XE d 133 2 ls (.int y :: .int x :: st) h Q ↔ (if x < y then XE d 133 5 ls st h Q else XE d 133 9 ls st h Q) := g_cge rfl
theorem s133_5 : XE d 133 5 (c0 :: .val (.int x) :: l) st h Q ↔ XE d 133 6 (c0 :: .val (.int x) :: l) (.int x :: st) h Q := g_iload rfl rfl
theorem s133_6 : XE d 133 6 ls st h Q ↔ XE d 133 19 ls st h Q := g_goto rfl
theorem s133_9 : XE d 133 9 (.val (.int x) :: l) st h Q ↔ XE d 133 10 (.val (.int x) :: l) (.int x :: st) h Q := g_iload rfl rfl
theorem s133_10 : XE d 133 10 (c0 :: c1 :: .val (.int x) :: l) st h Q ↔ XE d 133 11 (c0 :: c1 :: .val (.int x) :: l) (.int x :: st) h Q := g_iload rfl rfl
theorem s133_11 : XE d 133 11 ls (.int y :: .int x :: st) h Q ↔ (if y < x then XE d 133 14 ls st h Q else XE d 133 18 ls st h Q) := g_cle rfl
theorem s133_14 : XE d 133 14 (c0 :: c1 :: .val (.int x) :: l) st h Q ↔ XE d 133 15 (c0 :: c1 :: .val (.int x) :: l) (.int x :: st) h Q := g_iload rfl rfl
theorem s133_15 : XE d 133 15 ls st h Q ↔ XE d 133 19 ls st h Q := g_goto rfl
theorem s133_18 : XE d 133 18 (.val (.int x) :: l) st h Q ↔ XE d 133 19 (.val (.int x) :: l) (.int x :: st) h Q := g_iload rfl rfl
theorem s133_19 : XE d 133 19 ls [.int x] h Q ↔ Q (some (.int x)) h := g_iret rfl
-- 134: TwoBellsModel.copyAll([I[I)V
theorem e134 : XC (d + 1) 134 [.ref b, .ref b] h Q ↔ XE d 134 0 [.val (.ref b), .val (.ref b), .unset] [] h Q := XC_in rfl
theorem s134_0 : XE d 134 0 ls st h Q ↔ XE d 134 1 ls (.int 0 :: st) h Q := g_const rfl
theorem s134_1 : XE d 134 1 (c0 :: c1 :: c2 :: l) (.int x :: st) h Q ↔ XE d 134 2 (c0 :: c1 :: .val (.int x) :: l) st h Q := g_istore (Nat.lt_of_lt_of_le (show 2 < 3 by decide) (Nat.le_add_left 3 _)) rfl rfl
theorem s134_2 : XE d 134 2 (c0 :: c1 :: .val (.int x) :: l) st h Q ↔ XE d 134 3 (c0 :: c1 :: .val (.int x) :: l) (.int x :: st) h Q := g_iload rfl rfl
theorem s134_3 : XE d 134 3 ls st h Q ↔ XE d 134 6 ls (.int 1482 :: st) h Q := g_const rfl
theorem s134_6 : XE d 134 6 ls (.int y :: .int x :: st) h Q ↔ (if x < y then XE d 134 9 ls st h Q else XE d 134 21 ls st h Q) := g_cge rfl
theorem s134_9 : XE d 134 9 (c0 :: .val (.ref a) :: l) st h Q ↔ XE d 134 10 (c0 :: .val (.ref a) :: l) (.ref a :: st) h Q := g_aload rfl rfl
theorem s134_9n : XE d 134 9 (c0 :: .val .null :: l) st h Q ↔ XE d 134 10 (c0 :: .val .null :: l) (.null :: st) h Q := g_aloadN rfl rfl
theorem s134_10 : XE d 134 10 (c0 :: c1 :: .val (.int x) :: l) st h Q ↔ XE d 134 11 (c0 :: c1 :: .val (.int x) :: l) (.int x :: st) h Q := g_iload rfl rfl
theorem s134_11 : XE d 134 11 (.val (.ref a) :: l) st h Q ↔ XE d 134 12 (.val (.ref a) :: l) (.ref a :: st) h Q := g_aload rfl rfl
theorem s134_12 : XE d 134 12 (c0 :: c1 :: .val (.int x) :: l) st h Q ↔ XE d 134 13 (c0 :: c1 :: .val (.int x) :: l) (.int x :: st) h Q := g_iload rfl rfl
theorem s134_13 : XE d 134 13 ls (.int x :: .ref a :: st) h Q ↔ XA [0, 7] (h.2.2.1 a) x (fun k => XE d 134 14 ls (.int k :: st) h Q) := g_ald rfl
theorem s134_14 : XE d 134 14 ls (.int y :: .int x :: .ref a :: st) h Q ↔ XS 0 (h.2.2.1 a) x y (fun e => XE d 134 15 ls st (xset h a e) Q) := g_iast rfl
theorem s134_15 : XE d 134 15 (c0 :: c1 :: .val (.int x) :: l) st h Q ↔ XE d 134 18 (c0 :: c1 :: .val (.int (x + 1)) :: l) st h Q := g_iinc rfl rfl rfl
theorem s134_18 : XE d 134 18 ls st h Q ↔ XE d 134 2 ls st h Q := g_goto rfl
theorem s134_21 : XE d 134 21 ls [] h Q ↔ Q none h := g_ret rfl
-- 135: TwoBellsModel.told0(I)I
theorem e135 : XC (d + 1) 135 [.int x] h Q ↔ XE d 135 0 [.val (.int x)] [] h Q := XC_in rfl
theorem s135_0 : XE d 135 0 (.val (.int x) :: l) st h Q ↔ XE d 135 1 (.val (.int x) :: l) (.int x :: st) h Q := g_iload rfl rfl
theorem s135_1 : XE d 135 1 ls (.int x :: st) h Q ↔ (if x < 0 then XE d 135 4 ls st h Q else XE d 135 9 ls st h Q) := g_ifge rfl
theorem s135_4 : XE d 135 4 ls st h Q ↔ XE d 135 6 ls (.int (-1000000005) :: st) h Q := g_const rfl
theorem s135_6 : XE d 135 6 ls st h Q ↔ XE d 135 10 ls st h Q := g_goto rfl
theorem s135_9 : XE d 135 9 (.val (.int x) :: l) st h Q ↔ XE d 135 10 (.val (.int x) :: l) (.int x :: st) h Q := g_iload rfl rfl
theorem s135_10 : XE d 135 10 ls [.int x] h Q ↔ Q (some (.int x)) h := g_iret rfl
-- 136: TwoBellsModel.isHouse(I)Z
theorem e136 : XC (d + 1) 136 [.ref a, .int x] h Q ↔ XE d 136 0 [.val (.ref a), .val (.int x)] [] h Q := XC_in rfl
theorem s136_0 : XE d 136 0 (c0 :: .val (.int x) :: l) st h Q ↔ XE d 136 1 (c0 :: .val (.int x) :: l) (.int x :: st) h Q := g_iload rfl rfl
theorem s136_1 : XE d 136 1 ls st h Q ↔ XE d 136 2 ls (.int 0 :: st) h Q := g_const rfl
theorem s136_2 : XE d 136 2 (.val (.ref a) :: l) st h Q ↔ XE d 136 3 (.val (.ref a) :: l) (.ref a :: st) h Q := g_aload rfl rfl
theorem s136_3 : XE d 136 3 ls (.ref a :: st) h Q ↔ XG [12] 0 (h.2.2.1 a) (fun v => XE d 136 6 ls (v :: st) h Q) := g_getf rfl
theorem s136_6 : XE d 136 6 ls st h Q ↔ XE d 136 7 ls (.int 1 :: st) h Q := g_const rfl
theorem s136_7 : XE d 136 7 ls (.int x :: .ref a :: st) h Q ↔ XA [0, 7] (h.2.2.1 a) x (fun k => XE d 136 8 ls (.int k :: st) h Q) := g_ald rfl
theorem s136_8 : XE d 136 8 ls st h Q ↔ XE d 136 9 ls (.int 1 :: st) h Q := g_const rfl
theorem s136_9 : XE d 136 9 ls (.int y :: .int x :: st) h Q ↔ XE d 136 10 ls (.int (x - y) :: st) h Q := g_sub rfl
theorem s136_10 : XE d 136 10 ls (.int z :: .int y :: .int x :: st) h Q ↔ (xvo 8 st = true ∧ XC d 132 [.int x, .int y, .int z] h (fun v h' => XE d 136 13 ls (v.toList ++ st) h' Q)) := h_s3 rfl rfl
theorem s136_13 : XE d 136 13 ls [.int 0] h Q ↔ Q (some (.int 0)) h := g_zret rfl rfl
theorem s136_13t : XE d 136 13 ls [.int 1] h Q ↔ Q (some (.int 1)) h := g_zret rfl rfl
theorem s136_13b : XE d 136 13 ls [.int (bI q)] h Q ↔ Q (some (.int (bI q))) h := g_zret (bI_nar q) rfl
-- 137: TwoBellsModel.isDoor(I)Z
theorem e137 : XC (d + 1) 137 [.ref a, .int x] h Q ↔ XE d 137 0 [.val (.ref a), .val (.int x)] [] h Q := XC_in rfl
theorem s137_0 : XE d 137 0 (c0 :: .val (.int x) :: l) st h Q ↔ XE d 137 1 (c0 :: .val (.int x) :: l) (.int x :: st) h Q := g_iload rfl rfl
theorem s137_1 : XE d 137 1 ls st h Q ↔ XE d 137 2 ls (.int 0 :: st) h Q := g_const rfl
theorem s137_2 : XE d 137 2 (.val (.ref a) :: l) st h Q ↔ XE d 137 3 (.val (.ref a) :: l) (.ref a :: st) h Q := g_aload rfl rfl
theorem s137_3 : XE d 137 3 ls (.ref a :: st) h Q ↔ XG [12] 0 (h.2.2.1 a) (fun v => XE d 137 6 ls (v :: st) h Q) := g_getf rfl
theorem s137_6 : XE d 137 6 ls st h Q ↔ XE d 137 7 ls (.int 2 :: st) h Q := g_const rfl
theorem s137_7 : XE d 137 7 ls (.int x :: .ref a :: st) h Q ↔ XA [0, 7] (h.2.2.1 a) x (fun k => XE d 137 8 ls (.int k :: st) h Q) := g_ald rfl
theorem s137_8 : XE d 137 8 ls st h Q ↔ XE d 137 9 ls (.int 1 :: st) h Q := g_const rfl
theorem s137_9 : XE d 137 9 ls (.int y :: .int x :: st) h Q ↔ XE d 137 10 ls (.int (x - y) :: st) h Q := g_sub rfl
theorem s137_10 : XE d 137 10 ls (.int z :: .int y :: .int x :: st) h Q ↔ (xvo 8 st = true ∧ XC d 132 [.int x, .int y, .int z] h (fun v h' => XE d 137 13 ls (v.toList ++ st) h' Q)) := h_s3 rfl rfl
theorem s137_13 : XE d 137 13 ls [.int 0] h Q ↔ Q (some (.int 0)) h := g_zret rfl rfl
theorem s137_13t : XE d 137 13 ls [.int 1] h Q ↔ Q (some (.int 1)) h := g_zret rfl rfl
theorem s137_13b : XE d 137 13 ls [.int (bI q)] h Q ↔ Q (some (.int (bI q))) h := g_zret (bI_nar q) rfl
-- 138: TwoBellsModel.isThief(I)Z
theorem e138 : XC (d + 1) 138 [.ref a, .int x] h Q ↔ XE d 138 0 [.val (.ref a), .val (.int x)] [] h Q := XC_in rfl
theorem s138_0 : XE d 138 0 (c0 :: .val (.int x) :: l) st h Q ↔ XE d 138 1 (c0 :: .val (.int x) :: l) (.int x :: st) h Q := g_iload rfl rfl
theorem s138_1 : XE d 138 1 ls st h Q ↔ XE d 138 2 ls (.int 0 :: st) h Q := g_const rfl
theorem s138_2 : XE d 138 2 (.val (.ref a) :: l) st h Q ↔ XE d 138 3 (.val (.ref a) :: l) (.ref a :: st) h Q := g_aload rfl rfl
theorem s138_3 : XE d 138 3 ls (.ref a :: st) h Q ↔ XG [12] 0 (h.2.2.1 a) (fun v => XE d 138 6 ls (v :: st) h Q) := g_getf rfl
theorem s138_6 : XE d 138 6 ls st h Q ↔ XE d 138 7 ls (.int 3 :: st) h Q := g_const rfl
theorem s138_7 : XE d 138 7 ls (.int x :: .ref a :: st) h Q ↔ XA [0, 7] (h.2.2.1 a) x (fun k => XE d 138 8 ls (.int k :: st) h Q) := g_ald rfl
theorem s138_8 : XE d 138 8 ls st h Q ↔ XE d 138 9 ls (.int 1 :: st) h Q := g_const rfl
theorem s138_9 : XE d 138 9 ls (.int y :: .int x :: st) h Q ↔ XE d 138 10 ls (.int (x - y) :: st) h Q := g_sub rfl
theorem s138_10 : XE d 138 10 ls (.int z :: .int y :: .int x :: st) h Q ↔ (xvo 8 st = true ∧ XC d 132 [.int x, .int y, .int z] h (fun v h' => XE d 138 13 ls (v.toList ++ st) h' Q)) := h_s3 rfl rfl
theorem s138_13 : XE d 138 13 ls [.int 0] h Q ↔ Q (some (.int 0)) h := g_zret rfl rfl
theorem s138_13t : XE d 138 13 ls [.int 1] h Q ↔ Q (some (.int 1)) h := g_zret rfl rfl
theorem s138_13b : XE d 138 13 ls [.int (bI q)] h Q ↔ Q (some (.int (bI q))) h := g_zret (bI_nar q) rfl
-- 139: TwoBellsModel.houseOf(II)I
theorem e139 : XC (d + 1) 139 [.ref a, .int x, .int y] h Q ↔ XE d 139 0 [.val (.ref a), .val (.int x), .val (.int y)] [] h Q := XC_in rfl
theorem s139_0 : XE d 139 0 (.val (.ref a) :: l) st h Q ↔ XE d 139 1 (.val (.ref a) :: l) (.ref a :: st) h Q := g_aload rfl rfl
theorem s139_1 : XE d 139 1 ls (.ref a :: st) h Q ↔ XG [12] 0 (h.2.2.1 a) (fun v => XE d 139 4 ls (v :: st) h Q) := g_getf rfl
theorem s139_4 : XE d 139 4 ls st h Q ↔ XE d 139 6 ls (.int 8 :: st) h Q := g_const rfl
theorem s139_6 : XE d 139 6 ls st h Q ↔ XE d 139 7 ls (.int 3 :: st) h Q := g_const rfl
theorem s139_7 : XE d 139 7 (c0 :: .val (.int x) :: l) st h Q ↔ XE d 139 8 (c0 :: .val (.int x) :: l) (.int x :: st) h Q := g_iload rfl rfl
theorem s139_8 : XE d 139 8 ls (.int y :: .int x :: st) h Q ↔ XE d 139 9 ls (.int (x * y) :: st) h Q := g_mul rfl
theorem s139_9 : XE d 139 9 ls (.int y :: .int x :: st) h Q ↔ XE d 139 10 ls (.int (x + y) :: st) h Q := g_add rfl
theorem s139_10 : XE d 139 10 (c0 :: c1 :: .val (.int x) :: l) st h Q ↔ XE d 139 11 (c0 :: c1 :: .val (.int x) :: l) (.int x :: st) h Q := g_iload rfl rfl
theorem s139_11 : XE d 139 11 ls (.int y :: .int x :: st) h Q ↔ XE d 139 12 ls (.int (x + y) :: st) h Q := g_add rfl
theorem s139_12 : XE d 139 12 ls (.int x :: .ref a :: st) h Q ↔ XA [0, 7] (h.2.2.1 a) x (fun k => XE d 139 13 ls (.int k :: st) h Q) := g_ald rfl
theorem s139_13 : XE d 139 13 ls [.int x] h Q ↔ Q (some (.int x)) h := g_iret rfl
-- 140: TwoBellsModel.doorOf(II)I
theorem e140 : XC (d + 1) 140 [.ref a, .int x, .int y] h Q ↔ XE d 140 0 [.val (.ref a), .val (.int x), .val (.int y)] [] h Q := XC_in rfl
theorem s140_0 : XE d 140 0 (.val (.ref a) :: l) st h Q ↔ XE d 140 1 (.val (.ref a) :: l) (.ref a :: st) h Q := g_aload rfl rfl
theorem s140_1 : XE d 140 1 ls (.ref a :: st) h Q ↔ XG [12] 0 (h.2.2.1 a) (fun v => XE d 140 4 ls (v :: st) h Q) := g_getf rfl
theorem s140_4 : XE d 140 4 ls st h Q ↔ XE d 140 6 ls (.int 38 :: st) h Q := g_const rfl
theorem s140_6 : XE d 140 6 ls st h Q ↔ XE d 140 7 ls (.int 5 :: st) h Q := g_const rfl
theorem s140_7 : XE d 140 7 (c0 :: .val (.int x) :: l) st h Q ↔ XE d 140 8 (c0 :: .val (.int x) :: l) (.int x :: st) h Q := g_iload rfl rfl
theorem s140_8 : XE d 140 8 ls (.int y :: .int x :: st) h Q ↔ XE d 140 9 ls (.int (x * y) :: st) h Q := g_mul rfl
theorem s140_9 : XE d 140 9 ls (.int y :: .int x :: st) h Q ↔ XE d 140 10 ls (.int (x + y) :: st) h Q := g_add rfl
theorem s140_10 : XE d 140 10 (c0 :: c1 :: .val (.int x) :: l) st h Q ↔ XE d 140 11 (c0 :: c1 :: .val (.int x) :: l) (.int x :: st) h Q := g_iload rfl rfl
theorem s140_11 : XE d 140 11 ls (.int y :: .int x :: st) h Q ↔ XE d 140 12 ls (.int (x + y) :: st) h Q := g_add rfl
theorem s140_12 : XE d 140 12 ls (.int x :: .ref a :: st) h Q ↔ XA [0, 7] (h.2.2.1 a) x (fun k => XE d 140 13 ls (.int k :: st) h Q) := g_ald rfl
theorem s140_13 : XE d 140 13 ls [.int x] h Q ↔ Q (some (.int x)) h := g_iret rfl
-- 141: TwoBellsModel.kindOf(I)I
theorem e141 : XC (d + 1) 141 [.ref a, .int x] h Q ↔ XE d 141 0 [.val (.ref a), .val (.int x)] [] h Q := XC_in rfl
theorem s141_0 : XE d 141 0 (.val (.ref a) :: l) st h Q ↔ XE d 141 1 (.val (.ref a) :: l) (.ref a :: st) h Q := g_aload rfl rfl
theorem s141_1 : XE d 141 1 ls (.ref a :: st) h Q ↔ XG [12] 0 (h.2.2.1 a) (fun v => XE d 141 4 ls (v :: st) h Q) := g_getf rfl
theorem s141_4 : XE d 141 4 ls st h Q ↔ XE d 141 6 ls (.int 98 :: st) h Q := g_const rfl
theorem s141_6 : XE d 141 6 ls st h Q ↔ XE d 141 7 ls (.int 2 :: st) h Q := g_const rfl
theorem s141_7 : XE d 141 7 (c0 :: .val (.int x) :: l) st h Q ↔ XE d 141 8 (c0 :: .val (.int x) :: l) (.int x :: st) h Q := g_iload rfl rfl
theorem s141_8 : XE d 141 8 ls (.int y :: .int x :: st) h Q ↔ XE d 141 9 ls (.int (x * y) :: st) h Q := g_mul rfl
theorem s141_9 : XE d 141 9 ls (.int y :: .int x :: st) h Q ↔ XE d 141 10 ls (.int (x + y) :: st) h Q := g_add rfl
theorem s141_10 : XE d 141 10 ls (.int x :: .ref a :: st) h Q ↔ XA [0, 7] (h.2.2.1 a) x (fun k => XE d 141 11 ls (.int k :: st) h Q) := g_ald rfl
theorem s141_11 : XE d 141 11 ls [.int x] h Q ↔ Q (some (.int x)) h := g_iret rfl
-- 142: TwoBellsModel.homeOf(I)I
theorem e142 : XC (d + 1) 142 [.ref a, .int x] h Q ↔ XE d 142 0 [.val (.ref a), .val (.int x)] [] h Q := XC_in rfl
theorem s142_0 : XE d 142 0 (.val (.ref a) :: l) st h Q ↔ XE d 142 1 (.val (.ref a) :: l) (.ref a :: st) h Q := g_aload rfl rfl
theorem s142_1 : XE d 142 1 ls (.ref a :: st) h Q ↔ XG [12] 0 (h.2.2.1 a) (fun v => XE d 142 4 ls (v :: st) h Q) := g_getf rfl
theorem s142_4 : XE d 142 4 ls st h Q ↔ XE d 142 6 ls (.int 98 :: st) h Q := g_const rfl
theorem s142_6 : XE d 142 6 ls st h Q ↔ XE d 142 7 ls (.int 2 :: st) h Q := g_const rfl
theorem s142_7 : XE d 142 7 (c0 :: .val (.int x) :: l) st h Q ↔ XE d 142 8 (c0 :: .val (.int x) :: l) (.int x :: st) h Q := g_iload rfl rfl
theorem s142_8 : XE d 142 8 ls (.int y :: .int x :: st) h Q ↔ XE d 142 9 ls (.int (x * y) :: st) h Q := g_mul rfl
theorem s142_9 : XE d 142 9 ls (.int y :: .int x :: st) h Q ↔ XE d 142 10 ls (.int (x + y) :: st) h Q := g_add rfl
theorem s142_10 : XE d 142 10 ls st h Q ↔ XE d 142 11 ls (.int 1 :: st) h Q := g_const rfl
theorem s142_11 : XE d 142 11 ls (.int y :: .int x :: st) h Q ↔ XE d 142 12 ls (.int (x + y) :: st) h Q := g_add rfl
theorem s142_12 : XE d 142 12 ls (.int x :: .ref a :: st) h Q ↔ XA [0, 7] (h.2.2.1 a) x (fun k => XE d 142 13 ls (.int k :: st) h Q) := g_ald rfl
theorem s142_13 : XE d 142 13 ls [.int x] h Q ↔ Q (some (.int x)) h := g_iret rfl
-- 143: TwoBellsModel.becomes(II)I
theorem e143 : XC (d + 1) 143 [.ref a, .int x, .int y] h Q ↔ XE d 143 0 [.val (.ref a), .val (.int x), .val (.int y), .unset] [] h Q := XC_in rfl
theorem s143_0 : XE d 143 0 (.val (.ref a) :: l) st h Q ↔ XE d 143 1 (.val (.ref a) :: l) (.ref a :: st) h Q := g_aload rfl rfl
theorem s143_1 : XE d 143 1 ls (.ref a :: st) h Q ↔ XG [12] 0 (h.2.2.1 a) (fun v => XE d 143 4 ls (v :: st) h Q) := g_getf rfl
theorem s143_4 : XE d 143 4 (c0 :: .val (.int x) :: l) st h Q ↔ XE d 143 5 (c0 :: .val (.int x) :: l) (.int x :: st) h Q := g_iload rfl rfl
theorem s143_5 : XE d 143 5 ls (.int x :: .ref a :: st) h Q ↔ XA [0, 7] (h.2.2.1 a) x (fun k => XE d 143 6 ls (.int k :: st) h Q) := g_ald rfl
theorem s143_6 : XE d 143 6 (c0 :: c1 :: c2 :: c3 :: l) (.int x :: st) h Q ↔ XE d 143 7 (c0 :: c1 :: c2 :: .val (.int x) :: l) st h Q := g_istore (Nat.lt_of_lt_of_le (show 3 < 4 by decide) (Nat.le_add_left 4 _)) rfl rfl
theorem s143_7 : XE d 143 7 (.val (.ref a) :: l) st h Q ↔ XE d 143 8 (.val (.ref a) :: l) (.ref a :: st) h Q := g_aload rfl rfl
theorem s143_8 : XE d 143 8 ls (.ref a :: st) h Q ↔ XG [12] 0 (h.2.2.1 a) (fun v => XE d 143 11 ls (v :: st) h Q) := g_getf rfl
theorem s143_11 : XE d 143 11 (c0 :: .val (.int x) :: l) st h Q ↔ XE d 143 12 (c0 :: .val (.int x) :: l) (.int x :: st) h Q := g_iload rfl rfl
theorem s143_12 : XE d 143 12 (c0 :: c1 :: .val (.int x) :: l) st h Q ↔ XE d 143 13 (c0 :: c1 :: .val (.int x) :: l) (.int x :: st) h Q := g_iload rfl rfl
theorem s143_13 : XE d 143 13 ls (.int y :: .int x :: .ref a :: st) h Q ↔ XS 0 (h.2.2.1 a) x y (fun e => XE d 143 14 ls st (xset h a e) Q) := g_iast rfl
theorem s143_14 : XE d 143 14 (c0 :: c1 :: c2 :: .val (.int x) :: l) st h Q ↔ XE d 143 15 (c0 :: c1 :: c2 :: .val (.int x) :: l) (.int x :: st) h Q := g_iload rfl rfl
theorem s143_15 : XE d 143 15 ls [.int x] h Q ↔ Q (some (.int x)) h := g_iret rfl
end PR
