section PR
variable {d : Nat} {ls l : List Slot} {c0 c1 c2 c3 c4 c5 c6 c7 c8 c9 c10 c11 : Slot} {st : List Value} {h : xH} {Q : Option Value → xH → Prop} {x y z w u : Int32} {a b : Nat} {v : Value} {q : Bool}
-- 203: TwoBellsModel.notsOpen()I
theorem e203 : XC (d + 1) 203 [.ref a] h Q ↔ XE d 203 0 [.val (.ref a), .unset, .unset] [] h Q := XC_in rfl
theorem s203_0 : XE d 203 0 ls st h Q ↔ XE d 203 1 ls (.int 0 :: st) h Q := g_const rfl
theorem s203_1 : XE d 203 1 (c0 :: c1 :: l) (.int x :: st) h Q ↔ XE d 203 2 (c0 :: .val (.int x) :: l) st h Q := g_istore (Nat.lt_of_lt_of_le (show 1 < 2 by decide) (Nat.le_add_left 2 _)) rfl rfl
theorem s203_2 : XE d 203 2 ls st h Q ↔ XE d 203 3 ls (.int 0 :: st) h Q := g_const rfl
theorem s203_3 : XE d 203 3 (c0 :: c1 :: c2 :: l) (.int x :: st) h Q ↔ XE d 203 4 (c0 :: c1 :: .val (.int x) :: l) st h Q := g_istore (Nat.lt_of_lt_of_le (show 2 < 3 by decide) (Nat.le_add_left 3 _)) rfl rfl
theorem s203_4 : XE d 203 4 (c0 :: c1 :: .val (.int x) :: l) st h Q ↔ XE d 203 5 (c0 :: c1 :: .val (.int x) :: l) (.int x :: st) h Q := g_iload rfl rfl
theorem s203_5 : XE d 203 5 (.val (.ref a) :: l) st h Q ↔ XE d 203 6 (.val (.ref a) :: l) (.ref a :: st) h Q := g_aload rfl rfl
theorem s203_6 : XE d 203 6 ls (.ref a :: st) h Q ↔ XG [12] 18 (h.2.2.1 a) (fun v => XE d 203 9 ls (v :: st) h Q) := g_getf rfl
theorem s203_9 : XE d 203 9 ls (.int y :: .int x :: st) h Q ↔ (if x < y then XE d 203 12 ls st h Q else XE d 203 37 ls st h Q) := g_cge rfl
theorem s203_12 : XE d 203 12 (c0 :: .val (.int x) :: l) st h Q ↔ XE d 203 13 (c0 :: .val (.int x) :: l) (.int x :: st) h Q := g_iload rfl rfl
theorem s203_13 : XE d 203 13 (.val (.ref a) :: l) st h Q ↔ XE d 203 14 (.val (.ref a) :: l) (.ref a :: st) h Q := g_aload rfl rfl
theorem s203_14 : XE d 203 14 ls (.ref a :: st) h Q ↔ XG [12] 17 (h.2.2.1 a) (fun v => XE d 203 17 ls (v :: st) h Q) := g_getf rfl
theorem s203_17 : XE d 203 17 (c0 :: c1 :: .val (.int x) :: l) st h Q ↔ XE d 203 18 (c0 :: c1 :: .val (.int x) :: l) (.int x :: st) h Q := g_iload rfl rfl
theorem s203_18 : XE d 203 18 ls (.int x :: .ref a :: st) h Q ↔ XA [0, 7] (h.2.2.1 a) x (fun k => XE d 203 19 ls (.int k :: st) h Q) := g_ald rfl
theorem s203_19 : XE d 203 19 ls st h Q ↔ XE d 203 21 ls (.int (-10) :: st) h Q := g_const rfl
theorem s203_21 : XE d 203 21 ls (.int y :: .int x :: st) h Q ↔ (if x = y then XE d 203 24 ls st h Q else XE d 203 28 ls st h Q) := g_cne rfl
theorem s203_24 : XE d 203 24 ls st h Q ↔ XE d 203 25 ls (.int 1 :: st) h Q := g_const rfl
theorem s203_25 : XE d 203 25 ls st h Q ↔ XE d 203 29 ls st h Q := g_goto rfl
theorem s203_28 : XE d 203 28 ls st h Q ↔ XE d 203 29 ls (.int 0 :: st) h Q := g_const rfl
theorem s203_29 : XE d 203 29 ls (.int y :: .int x :: st) h Q ↔ XE d 203 30 ls (.int (x + y) :: st) h Q := g_add rfl
theorem s203_30 : XE d 203 30 (c0 :: c1 :: l) (.int x :: st) h Q ↔ XE d 203 31 (c0 :: .val (.int x) :: l) st h Q := g_istore (Nat.lt_of_lt_of_le (show 1 < 2 by decide) (Nat.le_add_left 2 _)) rfl rfl
theorem s203_31 : XE d 203 31 (c0 :: c1 :: .val (.int x) :: l) st h Q ↔ XE d 203 34 (c0 :: c1 :: .val (.int (x + 1)) :: l) st h Q := g_iinc rfl rfl rfl
theorem s203_34 : XE d 203 34 ls st h Q ↔ XE d 203 4 ls st h Q := g_goto rfl
theorem s203_37 : XE d 203 37 (c0 :: .val (.int x) :: l) st h Q ↔ XE d 203 38 (c0 :: .val (.int x) :: l) (.int x :: st) h Q := g_iload rfl rfl
theorem s203_38 : XE d 203 38 ls [.int x] h Q ↔ Q (some (.int x)) h := g_iret rfl
-- 204: TwoBellsModel.text()I
theorem e204 : XC (d + 1) 204 [.ref a] h Q ↔ XE d 204 0 [.val (.ref a), .unset, .unset, .unset] [] h Q := XC_in rfl
theorem s204_0 : XE d 204 0 (.val (.ref a) :: l) st h Q ↔ XE d 204 1 (.val (.ref a) :: l) (.ref a :: st) h Q := g_aload rfl rfl
theorem s204_1 : XE d 204 1 ls st h Q ↔ XE d 204 2 ls (.int 0 :: st) h Q := g_const rfl
theorem s204_2 : XE d 204 2 ls (.int x :: .ref a :: st) h Q ↔ XP [12] 6 (.int x) (h.2.2.1 a) (fun e => XE d 204 5 ls st (xset h a e) Q) := g_puti rfl
theorem s204_5 : XE d 204 5 (.val (.ref a) :: l) st h Q ↔ XE d 204 6 (.val (.ref a) :: l) (.ref a :: st) h Q := g_aload rfl rfl
theorem s204_6 : XE d 204 6 ls st h Q ↔ XE d 204 7 ls (.int (-1) :: st) h Q := g_const rfl
theorem s204_7 : XE d 204 7 ls (.int x :: .ref a :: st) h Q ↔ XP [12] 10 (.int x) (h.2.2.1 a) (fun e => XE d 204 10 ls st (xset h a e) Q) := g_puti rfl
theorem s204_10 : XE d 204 10 (.val (.ref a) :: l) st h Q ↔ XE d 204 11 (.val (.ref a) :: l) (.ref a :: st) h Q := g_aload rfl rfl
theorem s204_11 : XE d 204 11 ls (.ref a :: st) h Q ↔ (xvo 8 st = true ∧ XV [(12, 195)] (h.2.2.1 a) (fun m' => XC d m' [.ref a] h (fun v h' => XE d 204 14 ls (v.toList ++ st) h' Q))) := h_v0 rfl
theorem s204_14 : XE d 204 14 (.val (.ref a) :: l) st h Q ↔ XE d 204 15 (.val (.ref a) :: l) (.ref a :: st) h Q := g_aload rfl rfl
theorem s204_15 : XE d 204 15 ls (.ref a :: st) h Q ↔ (xvo 8 st = true ∧ XV [(12, 196)] (h.2.2.1 a) (fun m' => XC d m' [.ref a] h (fun v h' => XE d 204 18 ls (v.toList ++ st) h' Q))) := h_v0 rfl
theorem s204_18 : XE d 204 18 ls (.int x :: st) h Q ↔ (if x = 0 then XE d 204 32 ls st h Q else XE d 204 21 ls st h Q) := g_ifeq rfl
theorem s204_21 : XE d 204 21 (.val (.ref a) :: l) st h Q ↔ XE d 204 22 (.val (.ref a) :: l) (.ref a :: st) h Q := g_aload rfl rfl
theorem s204_22 : XE d 204 22 ls (.ref a :: st) h Q ↔ (xvo 8 st = true ∧ XV [(12, 202)] (h.2.2.1 a) (fun m' => XC d m' [.ref a] h (fun v h' => XE d 204 25 ls (v.toList ++ st) h' Q))) := h_v0 rfl
theorem s204_25 : XE d 204 25 ls (.int x :: st) h Q ↔ (if x = 0 then XE d 204 32 ls st h Q else XE d 204 28 ls st h Q) := g_ifeq rfl
theorem s204_28 : XE d 204 28 ls st h Q ↔ XE d 204 29 ls (.int 1 :: st) h Q := g_const rfl
theorem s204_29 : XE d 204 29 ls st h Q ↔ XE d 204 33 ls st h Q := g_goto rfl
theorem s204_32 : XE d 204 32 ls st h Q ↔ XE d 204 33 ls (.int 0 :: st) h Q := g_const rfl
theorem s204_33 : XE d 204 33 (c0 :: c1 :: l) (.int x :: st) h Q ↔ XE d 204 34 (c0 :: .val (.int x) :: l) st h Q := g_istore (Nat.lt_of_lt_of_le (show 1 < 2 by decide) (Nat.le_add_left 2 _)) rfl rfl
theorem s204_34 : XE d 204 34 (.val (.ref a) :: l) st h Q ↔ XE d 204 35 (.val (.ref a) :: l) (.ref a :: st) h Q := g_aload rfl rfl
theorem s204_35 : XE d 204 35 ls st h Q ↔ XE d 204 36 ls (.int 0 :: st) h Q := g_const rfl
theorem s204_36 : XE d 204 36 ls (.int x :: .ref a :: st) h Q ↔ XP [12] 5 (.int x) (h.2.2.1 a) (fun e => XE d 204 39 ls st (xset h a e) Q) := g_puti rfl
theorem s204_39 : XE d 204 39 (c0 :: .val (.int x) :: l) st h Q ↔ XE d 204 40 (c0 :: .val (.int x) :: l) (.int x :: st) h Q := g_iload rfl rfl
theorem s204_40 : XE d 204 40 ls (.int x :: st) h Q ↔ (if x = 0 then XE d 204 43 ls st h Q else XE d 204 51 ls st h Q) := g_ifne rfl
theorem s204_43 : XE d 204 43 ls st h Q ↔ XE d 204 45 ls (.int (-100) :: st) h Q := g_const rfl
theorem s204_45 : XE d 204 45 (.val (.ref a) :: l) st h Q ↔ XE d 204 46 (.val (.ref a) :: l) (.ref a :: st) h Q := g_aload rfl rfl
theorem s204_46 : XE d 204 46 ls (.ref a :: st) h Q ↔ XG [12] 7 (h.2.2.1 a) (fun v => XE d 204 49 ls (v :: st) h Q) := g_getf rfl
theorem s204_49 : XE d 204 49 ls (.int y :: .int x :: st) h Q ↔ XE d 204 50 ls (.int (x - y) :: st) h Q := g_sub rfl
theorem s204_50 : XE d 204 50 ls [.int x] h Q ↔ Q (some (.int x)) h := g_iret rfl
theorem s204_51 : XE d 204 51 (.val (.ref a) :: l) st h Q ↔ XE d 204 52 (.val (.ref a) :: l) (.ref a :: st) h Q := g_aload rfl rfl
theorem s204_52 : XE d 204 52 ls (.ref a :: st) h Q ↔ XG [12] 0 (h.2.2.1 a) (fun v => XE d 204 55 ls (v :: st) h Q) := g_getf rfl
theorem s204_55 : XE d 204 55 ls st h Q ↔ XE d 204 57 ls (.int 7 :: st) h Q := g_const rfl
theorem s204_57 : XE d 204 57 ls (.int x :: .ref a :: st) h Q ↔ XA [0, 7] (h.2.2.1 a) x (fun k => XE d 204 58 ls (.int k :: st) h Q) := g_ald rfl
theorem s204_58 : XE d 204 58 ls st h Q ↔ XE d 204 60 ls (.int 14 :: st) h Q := g_const rfl
theorem s204_60 : XE d 204 60 ls (.int y :: .int x :: st) h Q ↔ (if x = y then XE d 204 63 ls st h Q else XE d 204 66 ls st h Q) := g_cne rfl
theorem s204_63 : XE d 204 63 ls st h Q ↔ XE d 204 65 ls (.int (-1000000003) :: st) h Q := g_const rfl
theorem s204_65 : XE d 204 65 ls [.int x] h Q ↔ Q (some (.int x)) h := g_iret rfl
theorem s204_66 : XE d 204 66 (.val (.ref a) :: l) st h Q ↔ XE d 204 67 (.val (.ref a) :: l) (.ref a :: st) h Q := g_aload rfl rfl
theorem s204_67 : XE d 204 67 ls (.ref a :: st) h Q ↔ XG [12] 0 (h.2.2.1 a) (fun v => XE d 204 70 ls (v :: st) h Q) := g_getf rfl
theorem s204_70 : XE d 204 70 ls st h Q ↔ XE d 204 72 ls (.int 7 :: st) h Q := g_const rfl
theorem s204_72 : XE d 204 72 ls (.int x :: .ref a :: st) h Q ↔ XA [0, 7] (h.2.2.1 a) x (fun k => XE d 204 73 ls (.int k :: st) h Q) := g_ald rfl
theorem s204_73 : XE d 204 73 (c0 :: c1 :: c2 :: l) (.int x :: st) h Q ↔ XE d 204 74 (c0 :: c1 :: .val (.int x) :: l) st h Q := g_istore (Nat.lt_of_lt_of_le (show 2 < 3 by decide) (Nat.le_add_left 3 _)) rfl rfl
theorem s204_74 : XE d 204 74 (.val (.ref a) :: l) st h Q ↔ XE d 204 75 (.val (.ref a) :: l) (.ref a :: st) h Q := g_aload rfl rfl
theorem s204_75 : XE d 204 75 ls (.ref a :: st) h Q ↔ XG [12] 0 (h.2.2.1 a) (fun v => XE d 204 78 ls (v :: st) h Q) := g_getf rfl
theorem s204_78 : XE d 204 78 ls st h Q ↔ XE d 204 80 ls (.int 110 :: st) h Q := g_const rfl
theorem s204_80 : XE d 204 80 ls st h Q ↔ XE d 204 81 ls (.int 2 :: st) h Q := g_const rfl
theorem s204_81 : XE d 204 81 (c0 :: c1 :: .val (.int x) :: l) st h Q ↔ XE d 204 82 (c0 :: c1 :: .val (.int x) :: l) (.int x :: st) h Q := g_iload rfl rfl
theorem s204_82 : XE d 204 82 ls (.int y :: .int x :: st) h Q ↔ XE d 204 83 ls (.int (x * y) :: st) h Q := g_mul rfl
theorem s204_83 : XE d 204 83 ls (.int y :: .int x :: st) h Q ↔ XE d 204 84 ls (.int (x + y) :: st) h Q := g_add rfl
theorem s204_84 : XE d 204 84 ls st h Q ↔ XE d 204 87 ls (.int 1000 :: st) h Q := g_const rfl
theorem s204_87 : XE d 204 87 (.val (.ref a) :: l) st h Q ↔ XE d 204 88 (.val (.ref a) :: l) (.ref a :: st) h Q := g_aload rfl rfl
theorem s204_88 : XE d 204 88 ls (.ref a :: st) h Q ↔ XG [12] 11 (h.2.2.1 a) (fun v => XE d 204 91 ls (v :: st) h Q) := g_getf rfl
theorem s204_91 : XE d 204 91 ls (.int y :: .int x :: st) h Q ↔ XE d 204 92 ls (.int (x * y) :: st) h Q := g_mul rfl
theorem s204_92 : XE d 204 92 (.val (.ref a) :: l) st h Q ↔ XE d 204 93 (.val (.ref a) :: l) (.ref a :: st) h Q := g_aload rfl rfl
theorem s204_93 : XE d 204 93 ls (.ref a :: st) h Q ↔ XG [12] 15 (h.2.2.1 a) (fun v => XE d 204 96 ls (v :: st) h Q) := g_getf rfl
theorem s204_96 : XE d 204 96 ls (.int y :: .int x :: st) h Q ↔ XE d 204 97 ls (.int (x + y) :: st) h Q := g_add rfl
theorem s204_97 : XE d 204 97 ls (.int y :: .int x :: .ref a :: st) h Q ↔ XS 0 (h.2.2.1 a) x y (fun e => XE d 204 98 ls st (xset h a e) Q) := g_iast rfl
theorem s204_98 : XE d 204 98 (.val (.ref a) :: l) st h Q ↔ XE d 204 99 (.val (.ref a) :: l) (.ref a :: st) h Q := g_aload rfl rfl
theorem s204_99 : XE d 204 99 ls (.ref a :: st) h Q ↔ XG [12] 0 (h.2.2.1 a) (fun v => XE d 204 102 ls (v :: st) h Q) := g_getf rfl
theorem s204_102 : XE d 204 102 ls st h Q ↔ XE d 204 104 ls (.int 110 :: st) h Q := g_const rfl
theorem s204_104 : XE d 204 104 ls st h Q ↔ XE d 204 105 ls (.int 2 :: st) h Q := g_const rfl
theorem s204_105 : XE d 204 105 (c0 :: c1 :: .val (.int x) :: l) st h Q ↔ XE d 204 106 (c0 :: c1 :: .val (.int x) :: l) (.int x :: st) h Q := g_iload rfl rfl
theorem s204_106 : XE d 204 106 ls (.int y :: .int x :: st) h Q ↔ XE d 204 107 ls (.int (x * y) :: st) h Q := g_mul rfl
theorem s204_107 : XE d 204 107 ls (.int y :: .int x :: st) h Q ↔ XE d 204 108 ls (.int (x + y) :: st) h Q := g_add rfl
theorem s204_108 : XE d 204 108 ls st h Q ↔ XE d 204 109 ls (.int 1 :: st) h Q := g_const rfl
theorem s204_109 : XE d 204 109 ls (.int y :: .int x :: st) h Q ↔ XE d 204 110 ls (.int (x + y) :: st) h Q := g_add rfl
theorem s204_110 : XE d 204 110 (.val (.ref a) :: l) st h Q ↔ XE d 204 111 (.val (.ref a) :: l) (.ref a :: st) h Q := g_aload rfl rfl
theorem s204_111 : XE d 204 111 ls (.ref a :: st) h Q ↔ XG [12] 16 (h.2.2.1 a) (fun v => XE d 204 114 ls (v :: st) h Q) := g_getf rfl
theorem s204_114 : XE d 204 114 ls (.int y :: .int x :: .ref a :: st) h Q ↔ XS 0 (h.2.2.1 a) x y (fun e => XE d 204 115 ls st (xset h a e) Q) := g_iast rfl
theorem s204_115 : XE d 204 115 ls st h Q ↔ XE d 204 116 ls (.int 0 :: st) h Q := g_const rfl
theorem s204_116 : XE d 204 116 (c0 :: c1 :: c2 :: c3 :: l) (.int x :: st) h Q ↔ XE d 204 117 (c0 :: c1 :: c2 :: .val (.int x) :: l) st h Q := g_istore (Nat.lt_of_lt_of_le (show 3 < 4 by decide) (Nat.le_add_left 4 _)) rfl rfl
theorem s204_117 : XE d 204 117 (c0 :: c1 :: c2 :: .val (.int x) :: l) st h Q ↔ XE d 204 118 (c0 :: c1 :: c2 :: .val (.int x) :: l) (.int x :: st) h Q := g_iload rfl rfl
theorem s204_118 : XE d 204 118 (.val (.ref a) :: l) st h Q ↔ XE d 204 119 (.val (.ref a) :: l) (.ref a :: st) h Q := g_aload rfl rfl
theorem s204_119 : XE d 204 119 ls (.ref a :: st) h Q ↔ XG [12] 15 (h.2.2.1 a) (fun v => XE d 204 122 ls (v :: st) h Q) := g_getf rfl
theorem s204_122 : XE d 204 122 ls (.int y :: .int x :: st) h Q ↔ (if x < y then XE d 204 125 ls st h Q else XE d 204 152 ls st h Q) := g_cge rfl
theorem s204_125 : XE d 204 125 (.val (.ref a) :: l) st h Q ↔ XE d 204 126 (.val (.ref a) :: l) (.ref a :: st) h Q := g_aload rfl rfl
theorem s204_126 : XE d 204 126 ls (.ref a :: st) h Q ↔ XG [12] 0 (h.2.2.1 a) (fun v => XE d 204 129 ls (v :: st) h Q) := g_getf rfl
theorem s204_129 : XE d 204 129 ls st h Q ↔ XE d 204 132 ls (.int 138 :: st) h Q := g_const rfl
theorem s204_132 : XE d 204 132 ls st h Q ↔ XE d 204 134 ls (.int 96 :: st) h Q := g_const rfl
theorem s204_134 : XE d 204 134 (c0 :: c1 :: .val (.int x) :: l) st h Q ↔ XE d 204 135 (c0 :: c1 :: .val (.int x) :: l) (.int x :: st) h Q := g_iload rfl rfl
theorem s204_135 : XE d 204 135 ls (.int y :: .int x :: st) h Q ↔ XE d 204 136 ls (.int (x * y) :: st) h Q := g_mul rfl
theorem s204_136 : XE d 204 136 ls (.int y :: .int x :: st) h Q ↔ XE d 204 137 ls (.int (x + y) :: st) h Q := g_add rfl
theorem s204_137 : XE d 204 137 (c0 :: c1 :: c2 :: .val (.int x) :: l) st h Q ↔ XE d 204 138 (c0 :: c1 :: c2 :: .val (.int x) :: l) (.int x :: st) h Q := g_iload rfl rfl
theorem s204_138 : XE d 204 138 ls (.int y :: .int x :: st) h Q ↔ XE d 204 139 ls (.int (x + y) :: st) h Q := g_add rfl
theorem s204_139 : XE d 204 139 (.val (.ref a) :: l) st h Q ↔ XE d 204 140 (.val (.ref a) :: l) (.ref a :: st) h Q := g_aload rfl rfl
theorem s204_140 : XE d 204 140 ls (.ref a :: st) h Q ↔ XG [12] 14 (h.2.2.1 a) (fun v => XE d 204 143 ls (v :: st) h Q) := g_getf rfl
theorem s204_143 : XE d 204 143 (c0 :: c1 :: c2 :: .val (.int x) :: l) st h Q ↔ XE d 204 144 (c0 :: c1 :: c2 :: .val (.int x) :: l) (.int x :: st) h Q := g_iload rfl rfl
theorem s204_144 : XE d 204 144 ls (.int x :: .ref a :: st) h Q ↔ XA [0, 7] (h.2.2.1 a) x (fun k => XE d 204 145 ls (.int k :: st) h Q) := g_ald rfl
theorem s204_145 : XE d 204 145 ls (.int y :: .int x :: .ref a :: st) h Q ↔ XS 0 (h.2.2.1 a) x y (fun e => XE d 204 146 ls st (xset h a e) Q) := g_iast rfl
theorem s204_146 : XE d 204 146 (c0 :: c1 :: c2 :: .val (.int x) :: l) st h Q ↔ XE d 204 149 (c0 :: c1 :: c2 :: .val (.int (x + 1)) :: l) st h Q := g_iinc rfl rfl rfl
theorem s204_149 : XE d 204 149 ls st h Q ↔ XE d 204 117 ls st h Q := g_goto rfl
theorem s204_152 : XE d 204 152 (.val (.ref a) :: l) st h Q ↔ XE d 204 153 (.val (.ref a) :: l) (.ref a :: st) h Q := g_aload rfl rfl
theorem s204_153 : XE d 204 153 ls (.ref a :: st) h Q ↔ XG [12] 0 (h.2.2.1 a) (fun v => XE d 204 156 ls (v :: st) h Q) := g_getf rfl
theorem s204_156 : XE d 204 156 ls st h Q ↔ XE d 204 158 ls (.int 7 :: st) h Q := g_const rfl
theorem s204_158 : XE d 204 158 ls (.int x :: .ref a :: st) h Q ↔ XE d 204 159 ls (.int x :: .ref a :: .int x :: .ref a :: st) h Q := g_dup2 rfl
theorem s204_159 : XE d 204 159 ls (.int x :: .ref a :: st) h Q ↔ XA [0, 7] (h.2.2.1 a) x (fun k => XE d 204 160 ls (.int k :: st) h Q) := g_ald rfl
theorem s204_160 : XE d 204 160 ls st h Q ↔ XE d 204 161 ls (.int 1 :: st) h Q := g_const rfl
theorem s204_161 : XE d 204 161 ls (.int y :: .int x :: st) h Q ↔ XE d 204 162 ls (.int (x + y) :: st) h Q := g_add rfl
theorem s204_162 : XE d 204 162 ls (.int y :: .int x :: .ref a :: st) h Q ↔ XS 0 (h.2.2.1 a) x y (fun e => XE d 204 163 ls st (xset h a e) Q) := g_iast rfl
theorem s204_163 : XE d 204 163 (c0 :: c1 :: .val (.int x) :: l) st h Q ↔ XE d 204 164 (c0 :: c1 :: .val (.int x) :: l) (.int x :: st) h Q := g_iload rfl rfl
theorem s204_164 : XE d 204 164 ls [.int x] h Q ↔ Q (some (.int x)) h := g_iret rfl
-- 205: TwoBellsModel.textTold(II)I
theorem e205 : XC (d + 1) 205 [.ref a, .int x, .int y] h Q ↔ XE d 205 0 [.val (.ref a), .val (.int x), .val (.int y)] [] h Q := XC_in rfl
theorem s205_0 : XE d 205 0 (c0 :: .val (.int x) :: l) st h Q ↔ XE d 205 1 (c0 :: .val (.int x) :: l) (.int x :: st) h Q := g_iload rfl rfl
theorem s205_1 : XE d 205 1 ls st h Q ↔ XE d 205 2 ls (.int 0 :: st) h Q := g_const rfl
theorem s205_2 : XE d 205 2 (.val (.ref a) :: l) st h Q ↔ XE d 205 3 (.val (.ref a) :: l) (.ref a :: st) h Q := g_aload rfl rfl
theorem s205_3 : XE d 205 3 ls (.ref a :: st) h Q ↔ XG [12] 0 (h.2.2.1 a) (fun v => XE d 205 6 ls (v :: st) h Q) := g_getf rfl
theorem s205_6 : XE d 205 6 ls st h Q ↔ XE d 205 8 ls (.int 7 :: st) h Q := g_const rfl
theorem s205_8 : XE d 205 8 ls (.int x :: .ref a :: st) h Q ↔ XA [0, 7] (h.2.2.1 a) x (fun k => XE d 205 9 ls (.int k :: st) h Q) := g_ald rfl
theorem s205_9 : XE d 205 9 ls st h Q ↔ XE d 205 10 ls (.int 1 :: st) h Q := g_const rfl
theorem s205_10 : XE d 205 10 ls (.int y :: .int x :: st) h Q ↔ XE d 205 11 ls (.int (x - y) :: st) h Q := g_sub rfl
theorem s205_11 : XE d 205 11 ls (.int z :: .int y :: .int x :: st) h Q ↔ (xvo 8 st = true ∧ XC d 132 [.int x, .int y, .int z] h (fun v h' => XE d 205 14 ls (v.toList ++ st) h' Q)) := h_s3 rfl rfl
theorem s205_14 : XE d 205 14 ls (.int x :: st) h Q ↔ (if x = 0 then XE d 205 26 ls st h Q else XE d 205 17 ls st h Q) := g_ifeq rfl
theorem s205_17 : XE d 205 17 (c0 :: c1 :: .val (.int x) :: l) st h Q ↔ XE d 205 18 (c0 :: c1 :: .val (.int x) :: l) (.int x :: st) h Q := g_iload rfl rfl
theorem s205_18 : XE d 205 18 ls st h Q ↔ XE d 205 19 ls (.int 0 :: st) h Q := g_const rfl
theorem s205_19 : XE d 205 19 ls st h Q ↔ XE d 205 20 ls (.int 1 :: st) h Q := g_const rfl
theorem s205_20 : XE d 205 20 ls (.int z :: .int y :: .int x :: st) h Q ↔ (xvo 8 st = true ∧ XC d 132 [.int x, .int y, .int z] h (fun v h' => XE d 205 23 ls (v.toList ++ st) h' Q)) := h_s3 rfl rfl
theorem s205_23 : XE d 205 23 ls (.int x :: st) h Q ↔ (if x = 0 then XE d 205 26 ls st h Q else XE d 205 29 ls st h Q) := g_ifne rfl
theorem s205_26 : XE d 205 26 ls st h Q ↔ XE d 205 28 ls (.int (-1000000001) :: st) h Q := g_const rfl
theorem s205_28 : XE d 205 28 ls [.int x] h Q ↔ Q (some (.int x)) h := g_iret rfl
theorem s205_29 : XE d 205 29 (c0 :: c1 :: .val (.int x) :: l) st h Q ↔ XE d 205 30 (c0 :: c1 :: .val (.int x) :: l) (.int x :: st) h Q := g_iload rfl rfl
theorem s205_30 : XE d 205 30 ls (.int x :: st) h Q ↔ (if x = 0 then XE d 205 33 ls st h Q else XE d 205 51 ls st h Q) := g_ifne rfl
theorem s205_33 : XE d 205 33 (.val (.ref a) :: l) st h Q ↔ XE d 205 34 (.val (.ref a) :: l) (.ref a :: st) h Q := g_aload rfl rfl
theorem s205_34 : XE d 205 34 ls (.ref a :: st) h Q ↔ XG [12] 0 (h.2.2.1 a) (fun v => XE d 205 37 ls (v :: st) h Q) := g_getf rfl
theorem s205_37 : XE d 205 37 ls st h Q ↔ XE d 205 39 ls (.int 110 :: st) h Q := g_const rfl
theorem s205_39 : XE d 205 39 ls st h Q ↔ XE d 205 40 ls (.int 2 :: st) h Q := g_const rfl
theorem s205_40 : XE d 205 40 (c0 :: .val (.int x) :: l) st h Q ↔ XE d 205 41 (c0 :: .val (.int x) :: l) (.int x :: st) h Q := g_iload rfl rfl
theorem s205_41 : XE d 205 41 ls (.int y :: .int x :: st) h Q ↔ XE d 205 42 ls (.int (x * y) :: st) h Q := g_mul rfl
theorem s205_42 : XE d 205 42 ls (.int y :: .int x :: st) h Q ↔ XE d 205 43 ls (.int (x + y) :: st) h Q := g_add rfl
theorem s205_43 : XE d 205 43 ls (.int x :: .ref a :: st) h Q ↔ XA [0, 7] (h.2.2.1 a) x (fun k => XE d 205 44 ls (.int k :: st) h Q) := g_ald rfl
theorem s205_44 : XE d 205 44 ls st h Q ↔ XE d 205 47 ls (.int 1000 :: st) h Q := g_const rfl
theorem s205_47 : XE d 205 47 ls (.int y :: .int x :: st) h Q ↔ (y ≠ 0 ∧ XE d 205 48 ls (.int (x / y) :: st) h Q) := g_div rfl
theorem s205_48 : XE d 205 48 ls st h Q ↔ XE d 205 64 ls st h Q := g_goto rfl
theorem s205_51 : XE d 205 51 (.val (.ref a) :: l) st h Q ↔ XE d 205 52 (.val (.ref a) :: l) (.ref a :: st) h Q := g_aload rfl rfl
theorem s205_52 : XE d 205 52 ls (.ref a :: st) h Q ↔ XG [12] 0 (h.2.2.1 a) (fun v => XE d 205 55 ls (v :: st) h Q) := g_getf rfl
theorem s205_55 : XE d 205 55 ls st h Q ↔ XE d 205 57 ls (.int 110 :: st) h Q := g_const rfl
theorem s205_57 : XE d 205 57 ls st h Q ↔ XE d 205 58 ls (.int 2 :: st) h Q := g_const rfl
theorem s205_58 : XE d 205 58 (c0 :: .val (.int x) :: l) st h Q ↔ XE d 205 59 (c0 :: .val (.int x) :: l) (.int x :: st) h Q := g_iload rfl rfl
theorem s205_59 : XE d 205 59 ls (.int y :: .int x :: st) h Q ↔ XE d 205 60 ls (.int (x * y) :: st) h Q := g_mul rfl
theorem s205_60 : XE d 205 60 ls (.int y :: .int x :: st) h Q ↔ XE d 205 61 ls (.int (x + y) :: st) h Q := g_add rfl
theorem s205_61 : XE d 205 61 ls st h Q ↔ XE d 205 62 ls (.int 1 :: st) h Q := g_const rfl
theorem s205_62 : XE d 205 62 ls (.int y :: .int x :: st) h Q ↔ XE d 205 63 ls (.int (x + y) :: st) h Q := g_add rfl
theorem s205_63 : XE d 205 63 ls (.int x :: .ref a :: st) h Q ↔ XA [0, 7] (h.2.2.1 a) x (fun k => XE d 205 64 ls (.int k :: st) h Q) := g_ald rfl
theorem s205_64 : XE d 205 64 ls [.int x] h Q ↔ Q (some (.int x)) h := g_iret rfl
-- 206: TwoBellsModel.counts(I)I
theorem e206 : XC (d + 1) 206 [.ref a, .int x] h Q ↔ XE d 206 0 [.val (.ref a), .val (.int x), .unset] [] h Q := XC_in rfl
theorem s206_0 : XE d 206 0 (.val (.ref a) :: l) st h Q ↔ XE d 206 1 (.val (.ref a) :: l) (.ref a :: st) h Q := g_aload rfl rfl
theorem s206_1 : XE d 206 1 ls (.ref a :: st) h Q ↔ XG [12] 0 (h.2.2.1 a) (fun v => XE d 206 4 ls (v :: st) h Q) := g_getf rfl
theorem s206_4 : XE d 206 4 ls st h Q ↔ XE d 206 6 ls (.int 7 :: st) h Q := g_const rfl
theorem s206_6 : XE d 206 6 ls (.int x :: .ref a :: st) h Q ↔ XA [0, 7] (h.2.2.1 a) x (fun k => XE d 206 7 ls (.int k :: st) h Q) := g_ald rfl
theorem s206_7 : XE d 206 7 ls st h Q ↔ XE d 206 8 ls (.int 1 :: st) h Q := g_const rfl
theorem s206_8 : XE d 206 8 ls (.int y :: .int x :: st) h Q ↔ XE d 206 9 ls (.int (x - y) :: st) h Q := g_sub rfl
theorem s206_9 : XE d 206 9 (c0 :: c1 :: c2 :: l) (.int x :: st) h Q ↔ XE d 206 10 (c0 :: c1 :: .val (.int x) :: l) st h Q := g_istore (Nat.lt_of_lt_of_le (show 2 < 3 by decide) (Nat.le_add_left 3 _)) rfl rfl
theorem s206_10 : XE d 206 10 (c0 :: c1 :: .val (.int x) :: l) st h Q ↔ XE d 206 11 (c0 :: c1 :: .val (.int x) :: l) (.int x :: st) h Q := g_iload rfl rfl
theorem s206_11 : XE d 206 11 ls (.int x :: st) h Q ↔ (if x < 0 then XE d 206 41 ls st h Q else XE d 206 14 ls st h Q) := g_iflt rfl
theorem s206_14 : XE d 206 14 (.val (.ref a) :: l) st h Q ↔ XE d 206 15 (.val (.ref a) :: l) (.ref a :: st) h Q := g_aload rfl rfl
theorem s206_15 : XE d 206 15 ls (.ref a :: st) h Q ↔ XG [12] 0 (h.2.2.1 a) (fun v => XE d 206 18 ls (v :: st) h Q) := g_getf rfl
theorem s206_18 : XE d 206 18 ls st h Q ↔ XE d 206 20 ls (.int 110 :: st) h Q := g_const rfl
theorem s206_20 : XE d 206 20 ls st h Q ↔ XE d 206 21 ls (.int 2 :: st) h Q := g_const rfl
theorem s206_21 : XE d 206 21 (c0 :: c1 :: .val (.int x) :: l) st h Q ↔ XE d 206 22 (c0 :: c1 :: .val (.int x) :: l) (.int x :: st) h Q := g_iload rfl rfl
theorem s206_22 : XE d 206 22 ls (.int y :: .int x :: st) h Q ↔ XE d 206 23 ls (.int (x * y) :: st) h Q := g_mul rfl
theorem s206_23 : XE d 206 23 ls (.int y :: .int x :: st) h Q ↔ XE d 206 24 ls (.int (x + y) :: st) h Q := g_add rfl
theorem s206_24 : XE d 206 24 ls (.int x :: .ref a :: st) h Q ↔ XA [0, 7] (h.2.2.1 a) x (fun k => XE d 206 25 ls (.int k :: st) h Q) := g_ald rfl
theorem s206_25 : XE d 206 25 ls st h Q ↔ XE d 206 28 ls (.int 1000 :: st) h Q := g_const rfl
theorem s206_28 : XE d 206 28 ls (.int y :: .int x :: st) h Q ↔ (y ≠ 0 ∧ XE d 206 29 ls (.int (x / y) :: st) h Q) := g_div rfl
theorem s206_29 : XE d 206 29 (c0 :: .val (.int x) :: l) st h Q ↔ XE d 206 30 (c0 :: .val (.int x) :: l) (.int x :: st) h Q := g_iload rfl rfl
theorem s206_30 : XE d 206 30 ls (.int y :: .int x :: st) h Q ↔ (if x = y then XE d 206 33 ls st h Q else XE d 206 35 ls st h Q) := g_cne rfl
theorem s206_33 : XE d 206 33 (c0 :: c1 :: .val (.int x) :: l) st h Q ↔ XE d 206 34 (c0 :: c1 :: .val (.int x) :: l) (.int x :: st) h Q := g_iload rfl rfl
theorem s206_34 : XE d 206 34 ls [.int x] h Q ↔ Q (some (.int x)) h := g_iret rfl
theorem s206_35 : XE d 206 35 (c0 :: c1 :: .val (.int x) :: l) st h Q ↔ XE d 206 38 (c0 :: c1 :: .val (.int (x + (-1))) :: l) st h Q := g_iinc rfl rfl rfl
theorem s206_38 : XE d 206 38 ls st h Q ↔ XE d 206 10 ls st h Q := g_goto rfl
theorem s206_41 : XE d 206 41 ls st h Q ↔ XE d 206 42 ls (.int (-1) :: st) h Q := g_const rfl
theorem s206_42 : XE d 206 42 ls [.int x] h Q ↔ Q (some (.int x)) h := g_iret rfl
-- 207: TwoBellsModel.why(I)I
theorem e207 : XC (d + 1) 207 [.ref a, .int x] h Q ↔ XE d 207 0 [.val (.ref a), .val (.int x), .unset] [] h Q := XC_in rfl
theorem s207_0 : XE d 207 0 (c0 :: .val (.int x) :: l) st h Q ↔ XE d 207 1 (c0 :: .val (.int x) :: l) (.int x :: st) h Q := g_iload rfl rfl
theorem s207_1 : XE d 207 1 ls st h Q ↔ XE d 207 2 ls (.int 0 :: st) h Q := g_const rfl
theorem s207_2 : XE d 207 2 ls st h Q ↔ XE d 207 3 ls (.int 2 :: st) h Q := g_const rfl
theorem s207_3 : XE d 207 3 ls (.int z :: .int y :: .int x :: st) h Q ↔ (xvo 8 st = true ∧ XC d 132 [.int x, .int y, .int z] h (fun v h' => XE d 207 6 ls (v.toList ++ st) h' Q)) := h_s3 rfl rfl
theorem s207_6 : XE d 207 6 ls (.int x :: st) h Q ↔ (if x = 0 then XE d 207 9 ls st h Q else XE d 207 12 ls st h Q) := g_ifne rfl
theorem s207_9 : XE d 207 9 ls st h Q ↔ XE d 207 11 ls (.int (-1000000001) :: st) h Q := g_const rfl
theorem s207_11 : XE d 207 11 ls [.int x] h Q ↔ Q (some (.int x)) h := g_iret rfl
theorem s207_12 : XE d 207 12 (.val (.ref a) :: l) st h Q ↔ XE d 207 13 (.val (.ref a) :: l) (.ref a :: st) h Q := g_aload rfl rfl
theorem s207_13 : XE d 207 13 (c0 :: .val (.int x) :: l) st h Q ↔ XE d 207 14 (c0 :: .val (.int x) :: l) (.int x :: st) h Q := g_iload rfl rfl
theorem s207_14 : XE d 207 14 ls (.int x :: .ref a :: st) h Q ↔ (xvo 8 st = true ∧ XV [(12, 206)] (h.2.2.1 a) (fun m' => XC d m' [.ref a, .int x] h (fun v h' => XE d 207 17 ls (v.toList ++ st) h' Q))) := h_v1 rfl rfl
theorem s207_17 : XE d 207 17 (c0 :: c1 :: c2 :: l) (.int x :: st) h Q ↔ XE d 207 18 (c0 :: c1 :: .val (.int x) :: l) st h Q := g_istore (Nat.lt_of_lt_of_le (show 2 < 3 by decide) (Nat.le_add_left 3 _)) rfl rfl
theorem s207_18 : XE d 207 18 (c0 :: c1 :: .val (.int x) :: l) st h Q ↔ XE d 207 19 (c0 :: c1 :: .val (.int x) :: l) (.int x :: st) h Q := g_iload rfl rfl
theorem s207_19 : XE d 207 19 ls (.int x :: st) h Q ↔ (if x < 0 then XE d 207 22 ls st h Q else XE d 207 27 ls st h Q) := g_ifge rfl
theorem s207_22 : XE d 207 22 ls st h Q ↔ XE d 207 24 ls (.int (-1000000005) :: st) h Q := g_const rfl
theorem s207_24 : XE d 207 24 ls st h Q ↔ XE d 207 28 ls st h Q := g_goto rfl
theorem s207_27 : XE d 207 27 (c0 :: c1 :: .val (.int x) :: l) st h Q ↔ XE d 207 28 (c0 :: c1 :: .val (.int x) :: l) (.int x :: st) h Q := g_iload rfl rfl
theorem s207_28 : XE d 207 28 ls [.int x] h Q ↔ Q (some (.int x)) h := g_iret rfl
-- 208: TwoBellsModel.two(III)I
theorem e208 : XC (d + 1) 208 [.int x, .int y, .int z] h Q ↔ XE d 208 0 [.val (.int x), .val (.int y), .val (.int z)] [] h Q := XC_in rfl
theorem s208_0 : XE d 208 0 (.val (.int x) :: l) st h Q ↔ XE d 208 1 (.val (.int x) :: l) (.int x :: st) h Q := g_iload rfl rfl
theorem s208_1 : XE d 208 1 ls (.int x :: st) h Q ↔ xswi d 208 x 121 ls st h Q [(-8, 117), (-7, 113), (-6, 109), (-5, 98), (-4, 87), (-3, 76), (-2, 62), (-1, 48)] := g_switch rfl
theorem s208_48 : XE d 208 48 (c0 :: .val (.int x) :: l) st h Q ↔ XE d 208 49 (c0 :: .val (.int x) :: l) (.int x :: st) h Q := g_iload rfl rfl
theorem s208_49 : XE d 208 49 ls (.int x :: st) h Q ↔ (if x = 0 then XE d 208 52 ls st h Q else XE d 208 56 ls st h Q) := g_ifne rfl
theorem s208_52 : XE d 208 52 (c0 :: c1 :: .val (.int x) :: l) st h Q ↔ XE d 208 53 (c0 :: c1 :: .val (.int x) :: l) (.int x :: st) h Q := g_iload rfl rfl
theorem s208_53 : XE d 208 53 ls (.int x :: st) h Q ↔ (if x = 0 then XE d 208 60 ls st h Q else XE d 208 56 ls st h Q) := g_ifeq rfl
theorem s208_56 : XE d 208 56 ls st h Q ↔ XE d 208 57 ls (.int 1 :: st) h Q := g_const rfl
theorem s208_57 : XE d 208 57 ls st h Q ↔ XE d 208 61 ls st h Q := g_goto rfl
theorem s208_60 : XE d 208 60 ls st h Q ↔ XE d 208 61 ls (.int 0 :: st) h Q := g_const rfl
theorem s208_61 : XE d 208 61 ls [.int x] h Q ↔ Q (some (.int x)) h := g_iret rfl
theorem s208_62 : XE d 208 62 (c0 :: .val (.int x) :: l) st h Q ↔ XE d 208 63 (c0 :: .val (.int x) :: l) (.int x :: st) h Q := g_iload rfl rfl
theorem s208_63 : XE d 208 63 ls (.int x :: st) h Q ↔ (if x = 0 then XE d 208 74 ls st h Q else XE d 208 66 ls st h Q) := g_ifeq rfl
theorem s208_66 : XE d 208 66 (c0 :: c1 :: .val (.int x) :: l) st h Q ↔ XE d 208 67 (c0 :: c1 :: .val (.int x) :: l) (.int x :: st) h Q := g_iload rfl rfl
theorem s208_67 : XE d 208 67 ls (.int x :: st) h Q ↔ (if x = 0 then XE d 208 74 ls st h Q else XE d 208 70 ls st h Q) := g_ifeq rfl
theorem s208_70 : XE d 208 70 ls st h Q ↔ XE d 208 71 ls (.int 1 :: st) h Q := g_const rfl
theorem s208_71 : XE d 208 71 ls st h Q ↔ XE d 208 75 ls st h Q := g_goto rfl
theorem s208_74 : XE d 208 74 ls st h Q ↔ XE d 208 75 ls (.int 0 :: st) h Q := g_const rfl
theorem s208_75 : XE d 208 75 ls [.int x] h Q ↔ Q (some (.int x)) h := g_iret rfl
theorem s208_76 : XE d 208 76 (c0 :: .val (.int x) :: l) st h Q ↔ XE d 208 77 (c0 :: .val (.int x) :: l) (.int x :: st) h Q := g_iload rfl rfl
theorem s208_77 : XE d 208 77 (c0 :: c1 :: .val (.int x) :: l) st h Q ↔ XE d 208 78 (c0 :: c1 :: .val (.int x) :: l) (.int x :: st) h Q := g_iload rfl rfl
theorem s208_78 : XE d 208 78 ls (.int y :: .int x :: st) h Q ↔ (if x < y then XE d 208 81 ls st h Q else XE d 208 85 ls st h Q) := g_cge rfl
theorem s208_81 : XE d 208 81 ls st h Q ↔ XE d 208 82 ls (.int 1 :: st) h Q := g_const rfl
theorem s208_82 : XE d 208 82 ls st h Q ↔ XE d 208 86 ls st h Q := g_goto rfl
theorem s208_85 : XE d 208 85 ls st h Q ↔ XE d 208 86 ls (.int 0 :: st) h Q := g_const rfl
theorem s208_86 : XE d 208 86 ls [.int x] h Q ↔ Q (some (.int x)) h := g_iret rfl
theorem s208_87 : XE d 208 87 (c0 :: .val (.int x) :: l) st h Q ↔ XE d 208 88 (c0 :: .val (.int x) :: l) (.int x :: st) h Q := g_iload rfl rfl
theorem s208_88 : XE d 208 88 (c0 :: c1 :: .val (.int x) :: l) st h Q ↔ XE d 208 89 (c0 :: c1 :: .val (.int x) :: l) (.int x :: st) h Q := g_iload rfl rfl
theorem s208_89 : XE d 208 89 ls (.int y :: .int x :: st) h Q ↔ (if x = y then XE d 208 92 ls st h Q else XE d 208 96 ls st h Q) := g_cne rfl
theorem s208_92 : XE d 208 92 ls st h Q ↔ XE d 208 93 ls (.int 1 :: st) h Q := g_const rfl
theorem s208_93 : XE d 208 93 ls st h Q ↔ XE d 208 97 ls st h Q := g_goto rfl
theorem s208_96 : XE d 208 96 ls st h Q ↔ XE d 208 97 ls (.int 0 :: st) h Q := g_const rfl
theorem s208_97 : XE d 208 97 ls [.int x] h Q ↔ Q (some (.int x)) h := g_iret rfl
theorem s208_98 : XE d 208 98 (c0 :: .val (.int x) :: l) st h Q ↔ XE d 208 99 (c0 :: .val (.int x) :: l) (.int x :: st) h Q := g_iload rfl rfl
theorem s208_99 : XE d 208 99 (c0 :: c1 :: .val (.int x) :: l) st h Q ↔ XE d 208 100 (c0 :: c1 :: .val (.int x) :: l) (.int x :: st) h Q := g_iload rfl rfl
theorem s208_100 : XE d 208 100 ls (.int y :: .int x :: st) h Q ↔ (if y < x then XE d 208 103 ls st h Q else XE d 208 107 ls st h Q) := g_cle rfl
theorem s208_103 : XE d 208 103 ls st h Q ↔ XE d 208 104 ls (.int 1 :: st) h Q := g_const rfl
theorem s208_104 : XE d 208 104 ls st h Q ↔ XE d 208 108 ls st h Q := g_goto rfl
theorem s208_107 : XE d 208 107 ls st h Q ↔ XE d 208 108 ls (.int 0 :: st) h Q := g_const rfl
theorem s208_108 : XE d 208 108 ls [.int x] h Q ↔ Q (some (.int x)) h := g_iret rfl
theorem s208_109 : XE d 208 109 (c0 :: .val (.int x) :: l) st h Q ↔ XE d 208 110 (c0 :: .val (.int x) :: l) (.int x :: st) h Q := g_iload rfl rfl
theorem s208_110 : XE d 208 110 (c0 :: c1 :: .val (.int x) :: l) st h Q ↔ XE d 208 111 (c0 :: c1 :: .val (.int x) :: l) (.int x :: st) h Q := g_iload rfl rfl
theorem s208_111 : XE d 208 111 ls (.int y :: .int x :: st) h Q ↔ XE d 208 112 ls (.int (x + y) :: st) h Q := g_add rfl
theorem s208_112 : XE d 208 112 ls [.int x] h Q ↔ Q (some (.int x)) h := g_iret rfl
theorem s208_113 : XE d 208 113 (c0 :: .val (.int x) :: l) st h Q ↔ XE d 208 114 (c0 :: .val (.int x) :: l) (.int x :: st) h Q := g_iload rfl rfl
theorem s208_114 : XE d 208 114 (c0 :: c1 :: .val (.int x) :: l) st h Q ↔ XE d 208 115 (c0 :: c1 :: .val (.int x) :: l) (.int x :: st) h Q := g_iload rfl rfl
theorem s208_115 : XE d 208 115 ls (.int y :: .int x :: st) h Q ↔ XE d 208 116 ls (.int (x - y) :: st) h Q := g_sub rfl
theorem s208_116 : XE d 208 116 ls [.int x] h Q ↔ Q (some (.int x)) h := g_iret rfl
theorem s208_117 : XE d 208 117 (c0 :: .val (.int x) :: l) st h Q ↔ XE d 208 118 (c0 :: .val (.int x) :: l) (.int x :: st) h Q := g_iload rfl rfl
theorem s208_118 : XE d 208 118 (c0 :: c1 :: .val (.int x) :: l) st h Q ↔ XE d 208 119 (c0 :: c1 :: .val (.int x) :: l) (.int x :: st) h Q := g_iload rfl rfl
theorem s208_119 : XE d 208 119 ls (.int y :: .int x :: st) h Q ↔ XE d 208 120 ls (.int (x * y) :: st) h Q := g_mul rfl
theorem s208_120 : XE d 208 120 ls [.int x] h Q ↔ Q (some (.int x)) h := g_iret rfl
theorem s208_121 : XE d 208 121 (c0 :: c1 :: .val (.int x) :: l) st h Q ↔ XE d 208 122 (c0 :: c1 :: .val (.int x) :: l) (.int x :: st) h Q := g_iload rfl rfl
theorem s208_122 : XE d 208 122 ls (.int x :: st) h Q ↔ (if x = 0 then XE d 208 125 ls st h Q else XE d 208 129 ls st h Q) := g_ifne rfl
theorem s208_125 : XE d 208 125 ls st h Q ↔ XE d 208 126 ls (.int 0 :: st) h Q := g_const rfl
theorem s208_126 : XE d 208 126 ls st h Q ↔ XE d 208 132 ls st h Q := g_goto rfl
theorem s208_129 : XE d 208 129 (c0 :: .val (.int x) :: l) st h Q ↔ XE d 208 130 (c0 :: .val (.int x) :: l) (.int x :: st) h Q := g_iload rfl rfl
theorem s208_130 : XE d 208 130 (c0 :: c1 :: .val (.int x) :: l) st h Q ↔ XE d 208 131 (c0 :: c1 :: .val (.int x) :: l) (.int x :: st) h Q := g_iload rfl rfl
theorem s208_131 : XE d 208 131 ls (.int y :: .int x :: st) h Q ↔ (y ≠ 0 ∧ XE d 208 132 ls (.int (x / y) :: st) h Q) := g_div rfl
theorem s208_132 : XE d 208 132 ls [.int x] h Q ↔ Q (some (.int x)) h := g_iret rfl
-- 209: TwoBellsModel.worksOut(I)I
theorem e209 : XC (d + 1) 209 [.ref a, .int x] h Q ↔ XE d 209 0 [.val (.ref a), .val (.int x), .unset, .unset, .unset, .unset] [] h Q := XC_in rfl
theorem s209_0 : XE d 209 0 ls st h Q ↔ XE d 209 1 ls (.int 0 :: st) h Q := g_const rfl
theorem s209_1 : XE d 209 1 (c0 :: c1 :: c2 :: l) (.int x :: st) h Q ↔ XE d 209 2 (c0 :: c1 :: .val (.int x) :: l) st h Q := g_istore (Nat.lt_of_lt_of_le (show 2 < 3 by decide) (Nat.le_add_left 3 _)) rfl rfl
theorem s209_2 : XE d 209 2 (.val (.ref a) :: l) st h Q ↔ XE d 209 3 (.val (.ref a) :: l) (.ref a :: st) h Q := g_aload rfl rfl
theorem s209_3 : XE d 209 3 ls (.ref a :: st) h Q ↔ XG [12] 0 (h.2.2.1 a) (fun v => XE d 209 6 ls (v :: st) h Q) := g_getf rfl
theorem s209_6 : XE d 209 6 ls st h Q ↔ XE d 209 8 ls (.int 110 :: st) h Q := g_const rfl
theorem s209_8 : XE d 209 8 ls st h Q ↔ XE d 209 9 ls (.int 2 :: st) h Q := g_const rfl
theorem s209_9 : XE d 209 9 (c0 :: .val (.int x) :: l) st h Q ↔ XE d 209 10 (c0 :: .val (.int x) :: l) (.int x :: st) h Q := g_iload rfl rfl
theorem s209_10 : XE d 209 10 ls (.int y :: .int x :: st) h Q ↔ XE d 209 11 ls (.int (x * y) :: st) h Q := g_mul rfl
theorem s209_11 : XE d 209 11 ls (.int y :: .int x :: st) h Q ↔ XE d 209 12 ls (.int (x + y) :: st) h Q := g_add rfl
theorem s209_12 : XE d 209 12 ls (.int x :: .ref a :: st) h Q ↔ XA [0, 7] (h.2.2.1 a) x (fun k => XE d 209 13 ls (.int k :: st) h Q) := g_ald rfl
theorem s209_13 : XE d 209 13 ls st h Q ↔ XE d 209 16 ls (.int 1000 :: st) h Q := g_const rfl
theorem s209_16 : XE d 209 16 ls (.int y :: .int x :: st) h Q ↔ (y ≠ 0 ∧ XE d 209 17 ls (.int (x % y) :: st) h Q) := g_rem rfl
theorem s209_17 : XE d 209 17 (c0 :: c1 :: c2 :: c3 :: l) (.int x :: st) h Q ↔ XE d 209 18 (c0 :: c1 :: c2 :: .val (.int x) :: l) st h Q := g_istore (Nat.lt_of_lt_of_le (show 3 < 4 by decide) (Nat.le_add_left 4 _)) rfl rfl
theorem s209_18 : XE d 209 18 ls st h Q ↔ XE d 209 19 ls (.int 0 :: st) h Q := g_const rfl
theorem s209_19 : XE d 209 19 (c0 :: c1 :: c2 :: c3 :: c4 :: l) (.int x :: st) h Q ↔ XE d 209 21 (c0 :: c1 :: c2 :: c3 :: .val (.int x) :: l) st h Q := g_istore (Nat.lt_of_lt_of_le (show 4 < 5 by decide) (Nat.le_add_left 5 _)) rfl rfl
theorem s209_21 : XE d 209 21 (c0 :: c1 :: c2 :: c3 :: .val (.int x) :: l) st h Q ↔ XE d 209 23 (c0 :: c1 :: c2 :: c3 :: .val (.int x) :: l) (.int x :: st) h Q := g_iload rfl rfl
theorem s209_23 : XE d 209 23 (c0 :: c1 :: c2 :: .val (.int x) :: l) st h Q ↔ XE d 209 24 (c0 :: c1 :: c2 :: .val (.int x) :: l) (.int x :: st) h Q := g_iload rfl rfl
theorem s209_24 : XE d 209 24 ls (.int y :: .int x :: st) h Q ↔ (if x < y then XE d 209 27 ls st h Q else XE d 209 156 ls st h Q) := g_cge rfl
theorem s209_27 : XE d 209 27 (.val (.ref a) :: l) st h Q ↔ XE d 209 28 (.val (.ref a) :: l) (.ref a :: st) h Q := g_aload rfl rfl
theorem s209_28 : XE d 209 28 ls (.ref a :: st) h Q ↔ XG [12] 0 (h.2.2.1 a) (fun v => XE d 209 31 ls (v :: st) h Q) := g_getf rfl
theorem s209_31 : XE d 209 31 ls st h Q ↔ XE d 209 34 ls (.int 138 :: st) h Q := g_const rfl
theorem s209_34 : XE d 209 34 ls st h Q ↔ XE d 209 36 ls (.int 96 :: st) h Q := g_const rfl
theorem s209_36 : XE d 209 36 (c0 :: .val (.int x) :: l) st h Q ↔ XE d 209 37 (c0 :: .val (.int x) :: l) (.int x :: st) h Q := g_iload rfl rfl
theorem s209_37 : XE d 209 37 ls (.int y :: .int x :: st) h Q ↔ XE d 209 38 ls (.int (x * y) :: st) h Q := g_mul rfl
theorem s209_38 : XE d 209 38 ls (.int y :: .int x :: st) h Q ↔ XE d 209 39 ls (.int (x + y) :: st) h Q := g_add rfl
theorem s209_39 : XE d 209 39 (c0 :: c1 :: c2 :: c3 :: .val (.int x) :: l) st h Q ↔ XE d 209 41 (c0 :: c1 :: c2 :: c3 :: .val (.int x) :: l) (.int x :: st) h Q := g_iload rfl rfl
theorem s209_41 : XE d 209 41 ls (.int y :: .int x :: st) h Q ↔ XE d 209 42 ls (.int (x + y) :: st) h Q := g_add rfl
theorem s209_42 : XE d 209 42 ls (.int x :: .ref a :: st) h Q ↔ XA [0, 7] (h.2.2.1 a) x (fun k => XE d 209 43 ls (.int k :: st) h Q) := g_ald rfl
theorem s209_43 : XE d 209 43 (c0 :: c1 :: c2 :: c3 :: c4 :: c5 :: l) (.int x :: st) h Q ↔ XE d 209 45 (c0 :: c1 :: c2 :: c3 :: c4 :: .val (.int x) :: l) st h Q := g_istore (Nat.lt_of_lt_of_le (show 5 < 6 by decide) (Nat.le_add_left 6 _)) rfl rfl
theorem s209_45 : XE d 209 45 (c0 :: c1 :: c2 :: c3 :: c4 :: .val (.int x) :: l) st h Q ↔ XE d 209 47 (c0 :: c1 :: c2 :: c3 :: c4 :: .val (.int x) :: l) (.int x :: st) h Q := g_iload rfl rfl
theorem s209_47 : XE d 209 47 ls (.int x :: st) h Q ↔ (if x < 0 then XE d 209 86 ls st h Q else XE d 209 50 ls st h Q) := g_iflt rfl
theorem s209_50 : XE d 209 50 (.val (.ref a) :: l) st h Q ↔ XE d 209 51 (.val (.ref a) :: l) (.ref a :: st) h Q := g_aload rfl rfl
theorem s209_51 : XE d 209 51 ls (.ref a :: st) h Q ↔ XG [12] 20 (h.2.2.1 a) (fun v => XE d 209 54 ls (v :: st) h Q) := g_getf rfl
theorem s209_54 : XE d 209 54 (c0 :: c1 :: .val (.int x) :: l) st h Q ↔ XE d 209 55 (c0 :: c1 :: .val (.int x) :: l) (.int x :: st) h Q := g_iload rfl rfl
theorem s209_55 : XE d 209 55 (c0 :: c1 :: c2 :: c3 :: c4 :: .val (.int x) :: l) st h Q ↔ XE d 209 57 (c0 :: c1 :: c2 :: c3 :: c4 :: .val (.int x) :: l) (.int x :: st) h Q := g_iload rfl rfl
theorem s209_57 : XE d 209 57 ls st h Q ↔ XE d 209 60 ls (.int 10000 :: st) h Q := g_const rfl
theorem s209_60 : XE d 209 60 ls (.int y :: .int x :: st) h Q ↔ (if x < y then XE d 209 63 ls st h Q else XE d 209 68 ls st h Q) := g_cge rfl
theorem s209_63 : XE d 209 63 (c0 :: c1 :: c2 :: c3 :: c4 :: .val (.int x) :: l) st h Q ↔ XE d 209 65 (c0 :: c1 :: c2 :: c3 :: c4 :: .val (.int x) :: l) (.int x :: st) h Q := g_iload rfl rfl
theorem s209_65 : XE d 209 65 ls st h Q ↔ XE d 209 79 ls st h Q := g_goto rfl
theorem s209_68 : XE d 209 68 (.val (.ref a) :: l) st h Q ↔ XE d 209 69 (.val (.ref a) :: l) (.ref a :: st) h Q := g_aload rfl rfl
theorem s209_69 : XE d 209 69 ls (.ref a :: st) h Q ↔ XG [12] 21 (h.2.2.1 a) (fun v => XE d 209 72 ls (v :: st) h Q) := g_getf rfl
theorem s209_72 : XE d 209 72 (c0 :: c1 :: c2 :: c3 :: c4 :: .val (.int x) :: l) st h Q ↔ XE d 209 74 (c0 :: c1 :: c2 :: c3 :: c4 :: .val (.int x) :: l) (.int x :: st) h Q := g_iload rfl rfl
theorem s209_74 : XE d 209 74 ls st h Q ↔ XE d 209 77 ls (.int 10000 :: st) h Q := g_const rfl
theorem s209_77 : XE d 209 77 ls (.int y :: .int x :: st) h Q ↔ XE d 209 78 ls (.int (x - y) :: st) h Q := g_sub rfl
theorem s209_78 : XE d 209 78 ls (.int x :: .ref a :: st) h Q ↔ XA [0, 7] (h.2.2.1 a) x (fun k => XE d 209 79 ls (.int k :: st) h Q) := g_ald rfl
theorem s209_79 : XE d 209 79 ls (.int y :: .int x :: .ref a :: st) h Q ↔ XS 0 (h.2.2.1 a) x y (fun e => XE d 209 80 ls st (xset h a e) Q) := g_iast rfl
theorem s209_80 : XE d 209 80 (c0 :: c1 :: .val (.int x) :: l) st h Q ↔ XE d 209 83 (c0 :: c1 :: .val (.int (x + 1)) :: l) st h Q := g_iinc rfl rfl rfl
theorem s209_83 : XE d 209 83 ls st h Q ↔ XE d 209 150 ls st h Q := g_goto rfl
theorem s209_86 : XE d 209 86 (c0 :: c1 :: c2 :: c3 :: c4 :: .val (.int x) :: l) st h Q ↔ XE d 209 88 (c0 :: c1 :: c2 :: c3 :: c4 :: .val (.int x) :: l) (.int x :: st) h Q := g_iload rfl rfl
theorem s209_88 : XE d 209 88 ls st h Q ↔ XE d 209 90 ls (.int (-10) :: st) h Q := g_const rfl
theorem s209_90 : XE d 209 90 ls (.int y :: .int x :: st) h Q ↔ (if x = y then XE d 209 93 ls st h Q else XE d 209 120 ls st h Q) := g_cne rfl
theorem s209_93 : XE d 209 93 (.val (.ref a) :: l) st h Q ↔ XE d 209 94 (.val (.ref a) :: l) (.ref a :: st) h Q := g_aload rfl rfl
theorem s209_94 : XE d 209 94 ls (.ref a :: st) h Q ↔ XG [12] 20 (h.2.2.1 a) (fun v => XE d 209 97 ls (v :: st) h Q) := g_getf rfl
theorem s209_97 : XE d 209 97 (c0 :: c1 :: .val (.int x) :: l) st h Q ↔ XE d 209 98 (c0 :: c1 :: .val (.int x) :: l) (.int x :: st) h Q := g_iload rfl rfl
theorem s209_98 : XE d 209 98 ls st h Q ↔ XE d 209 99 ls (.int 1 :: st) h Q := g_const rfl
theorem s209_99 : XE d 209 99 ls (.int y :: .int x :: st) h Q ↔ XE d 209 100 ls (.int (x - y) :: st) h Q := g_sub rfl
theorem s209_100 : XE d 209 100 (.val (.ref a) :: l) st h Q ↔ XE d 209 101 (.val (.ref a) :: l) (.ref a :: st) h Q := g_aload rfl rfl
theorem s209_101 : XE d 209 101 ls (.ref a :: st) h Q ↔ XG [12] 20 (h.2.2.1 a) (fun v => XE d 209 104 ls (v :: st) h Q) := g_getf rfl
theorem s209_104 : XE d 209 104 (c0 :: c1 :: .val (.int x) :: l) st h Q ↔ XE d 209 105 (c0 :: c1 :: .val (.int x) :: l) (.int x :: st) h Q := g_iload rfl rfl
theorem s209_105 : XE d 209 105 ls st h Q ↔ XE d 209 106 ls (.int 1 :: st) h Q := g_const rfl
theorem s209_106 : XE d 209 106 ls (.int y :: .int x :: st) h Q ↔ XE d 209 107 ls (.int (x - y) :: st) h Q := g_sub rfl
theorem s209_107 : XE d 209 107 ls (.int x :: .ref a :: st) h Q ↔ XA [0, 7] (h.2.2.1 a) x (fun k => XE d 209 108 ls (.int k :: st) h Q) := g_ald rfl
theorem s209_108 : XE d 209 108 ls (.int x :: st) h Q ↔ (if x = 0 then XE d 209 111 ls st h Q else XE d 209 115 ls st h Q) := g_ifne rfl
theorem s209_111 : XE d 209 111 ls st h Q ↔ XE d 209 112 ls (.int 1 :: st) h Q := g_const rfl
theorem s209_112 : XE d 209 112 ls st h Q ↔ XE d 209 116 ls st h Q := g_goto rfl
theorem s209_115 : XE d 209 115 ls st h Q ↔ XE d 209 116 ls (.int 0 :: st) h Q := g_const rfl
theorem s209_116 : XE d 209 116 ls (.int y :: .int x :: .ref a :: st) h Q ↔ XS 0 (h.2.2.1 a) x y (fun e => XE d 209 117 ls st (xset h a e) Q) := g_iast rfl
theorem s209_117 : XE d 209 117 ls st h Q ↔ XE d 209 150 ls st h Q := g_goto rfl
theorem s209_120 : XE d 209 120 (c0 :: c1 :: .val (.int x) :: l) st h Q ↔ XE d 209 123 (c0 :: c1 :: .val (.int (x + (-1))) :: l) st h Q := g_iinc rfl rfl rfl
theorem s209_123 : XE d 209 123 (.val (.ref a) :: l) st h Q ↔ XE d 209 124 (.val (.ref a) :: l) (.ref a :: st) h Q := g_aload rfl rfl
theorem s209_124 : XE d 209 124 ls (.ref a :: st) h Q ↔ XG [12] 20 (h.2.2.1 a) (fun v => XE d 209 127 ls (v :: st) h Q) := g_getf rfl
theorem s209_127 : XE d 209 127 (c0 :: c1 :: .val (.int x) :: l) st h Q ↔ XE d 209 128 (c0 :: c1 :: .val (.int x) :: l) (.int x :: st) h Q := g_iload rfl rfl
theorem s209_128 : XE d 209 128 ls st h Q ↔ XE d 209 129 ls (.int 1 :: st) h Q := g_const rfl
theorem s209_129 : XE d 209 129 ls (.int y :: .int x :: st) h Q ↔ XE d 209 130 ls (.int (x - y) :: st) h Q := g_sub rfl
theorem s209_130 : XE d 209 130 (c0 :: c1 :: c2 :: c3 :: c4 :: .val (.int x) :: l) st h Q ↔ XE d 209 132 (c0 :: c1 :: c2 :: c3 :: c4 :: .val (.int x) :: l) (.int x :: st) h Q := g_iload rfl rfl
theorem s209_132 : XE d 209 132 (.val (.ref a) :: l) st h Q ↔ XE d 209 133 (.val (.ref a) :: l) (.ref a :: st) h Q := g_aload rfl rfl
theorem s209_133 : XE d 209 133 ls (.ref a :: st) h Q ↔ XG [12] 20 (h.2.2.1 a) (fun v => XE d 209 136 ls (v :: st) h Q) := g_getf rfl
theorem s209_136 : XE d 209 136 (c0 :: c1 :: .val (.int x) :: l) st h Q ↔ XE d 209 137 (c0 :: c1 :: .val (.int x) :: l) (.int x :: st) h Q := g_iload rfl rfl
theorem s209_137 : XE d 209 137 ls st h Q ↔ XE d 209 138 ls (.int 1 :: st) h Q := g_const rfl
theorem s209_138 : XE d 209 138 ls (.int y :: .int x :: st) h Q ↔ XE d 209 139 ls (.int (x - y) :: st) h Q := g_sub rfl
theorem s209_139 : XE d 209 139 ls (.int x :: .ref a :: st) h Q ↔ XA [0, 7] (h.2.2.1 a) x (fun k => XE d 209 140 ls (.int k :: st) h Q) := g_ald rfl
theorem s209_140 : XE d 209 140 (.val (.ref a) :: l) st h Q ↔ XE d 209 141 (.val (.ref a) :: l) (.ref a :: st) h Q := g_aload rfl rfl
theorem s209_141 : XE d 209 141 ls (.ref a :: st) h Q ↔ XG [12] 20 (h.2.2.1 a) (fun v => XE d 209 144 ls (v :: st) h Q) := g_getf rfl
theorem s209_144 : XE d 209 144 (c0 :: c1 :: .val (.int x) :: l) st h Q ↔ XE d 209 145 (c0 :: c1 :: .val (.int x) :: l) (.int x :: st) h Q := g_iload rfl rfl
theorem s209_145 : XE d 209 145 ls (.int x :: .ref a :: st) h Q ↔ XA [0, 7] (h.2.2.1 a) x (fun k => XE d 209 146 ls (.int k :: st) h Q) := g_ald rfl
theorem s209_146 : XE d 209 146 ls (.int z :: .int y :: .int x :: st) h Q ↔ (xvo 8 st = true ∧ XC d 208 [.int x, .int y, .int z] h (fun v h' => XE d 209 149 ls (v.toList ++ st) h' Q)) := h_s3 rfl rfl
theorem s209_149 : XE d 209 149 ls (.int y :: .int x :: .ref a :: st) h Q ↔ XS 0 (h.2.2.1 a) x y (fun e => XE d 209 150 ls st (xset h a e) Q) := g_iast rfl
theorem s209_150 : XE d 209 150 (c0 :: c1 :: c2 :: c3 :: .val (.int x) :: l) st h Q ↔ XE d 209 153 (c0 :: c1 :: c2 :: c3 :: .val (.int (x + 1)) :: l) st h Q := g_iinc rfl rfl rfl
theorem s209_153 : XE d 209 153 ls st h Q ↔ XE d 209 21 ls st h Q := g_goto rfl
theorem s209_156 : XE d 209 156 (.val (.ref a) :: l) st h Q ↔ XE d 209 157 (.val (.ref a) :: l) (.ref a :: st) h Q := g_aload rfl rfl
theorem s209_157 : XE d 209 157 ls (.ref a :: st) h Q ↔ XG [12] 20 (h.2.2.1 a) (fun v => XE d 209 160 ls (v :: st) h Q) := g_getf rfl
theorem s209_160 : XE d 209 160 ls st h Q ↔ XE d 209 161 ls (.int 0 :: st) h Q := g_const rfl
theorem s209_161 : XE d 209 161 ls (.int x :: .ref a :: st) h Q ↔ XA [0, 7] (h.2.2.1 a) x (fun k => XE d 209 162 ls (.int k :: st) h Q) := g_ald rfl
theorem s209_162 : XE d 209 162 ls [.int x] h Q ↔ Q (some (.int x)) h := g_iret rfl
-- 210: TwoBellsModel.isSheet(I)Z
theorem e210 : XC (d + 1) 210 [.int x] h Q ↔ XE d 210 0 [.val (.int x)] [] h Q := XC_in rfl
theorem s210_0 : XE d 210 0 (.val (.int x) :: l) st h Q ↔ XE d 210 1 (.val (.int x) :: l) (.int x :: st) h Q := g_iload rfl rfl
theorem s210_1 : XE d 210 1 ls st h Q ↔ XE d 210 2 ls (.int 0 :: st) h Q := g_const rfl
theorem s210_2 : XE d 210 2 ls st h Q ↔ XE d 210 3 ls (.int 3 :: st) h Q := g_const rfl
theorem s210_3 : XE d 210 3 ls (.int z :: .int y :: .int x :: st) h Q ↔ (xvo 8 st = true ∧ XC d 132 [.int x, .int y, .int z] h (fun v h' => XE d 210 6 ls (v.toList ++ st) h' Q)) := h_s3 rfl rfl
theorem s210_6 : XE d 210 6 ls [.int 0] h Q ↔ Q (some (.int 0)) h := g_zret rfl rfl
theorem s210_6t : XE d 210 6 ls [.int 1] h Q ↔ Q (some (.int 1)) h := g_zret rfl rfl
theorem s210_6b : XE d 210 6 ls [.int (bI q)] h Q ↔ Q (some (.int (bI q))) h := g_zret (bI_nar q) rfl
-- 211: TwoBellsModel.isSlot(I)Z
theorem e211 : XC (d + 1) 211 [.int x] h Q ↔ XE d 211 0 [.val (.int x)] [] h Q := XC_in rfl
theorem s211_0 : XE d 211 0 (.val (.int x) :: l) st h Q ↔ XE d 211 1 (.val (.int x) :: l) (.int x :: st) h Q := g_iload rfl rfl
theorem s211_1 : XE d 211 1 ls st h Q ↔ XE d 211 2 ls (.int 0 :: st) h Q := g_const rfl
theorem s211_2 : XE d 211 2 ls st h Q ↔ XE d 211 3 ls (.int 4 :: st) h Q := g_const rfl
theorem s211_3 : XE d 211 3 ls (.int z :: .int y :: .int x :: st) h Q ↔ (xvo 8 st = true ∧ XC d 132 [.int x, .int y, .int z] h (fun v h' => XE d 211 6 ls (v.toList ++ st) h' Q)) := h_s3 rfl rfl
theorem s211_6 : XE d 211 6 ls [.int 0] h Q ↔ Q (some (.int 0)) h := g_zret rfl rfl
theorem s211_6t : XE d 211 6 ls [.int 1] h Q ↔ Q (some (.int 1)) h := g_zret rfl rfl
theorem s211_6b : XE d 211 6 ls [.int (bI q)] h Q ↔ Q (some (.int (bI q))) h := g_zret (bI_nar q) rfl
-- 212: TwoBellsModel.sheet(III)I
theorem e212 : XC (d + 1) 212 [.ref a, .int x, .int y, .int z] h Q ↔ XE d 212 0 [.val (.ref a), .val (.int x), .val (.int y), .val (.int z), .unset] [] h Q := XC_in rfl
theorem s212_0 : XE d 212 0 (c0 :: .val (.int x) :: l) st h Q ↔ XE d 212 1 (c0 :: .val (.int x) :: l) (.int x :: st) h Q := g_iload rfl rfl
theorem s212_1 : XE d 212 1 ls (.int x :: st) h Q ↔ (xvo 8 st = true ∧ XC d 210 [.int x] h (fun v h' => XE d 212 4 ls (v.toList ++ st) h' Q)) := h_s1 rfl rfl
theorem s212_4 : XE d 212 4 ls (.int x :: st) h Q ↔ (if x = 0 then XE d 212 26 ls st h Q else XE d 212 7 ls st h Q) := g_ifeq rfl
theorem s212_7 : XE d 212 7 (c0 :: c1 :: .val (.int x) :: l) st h Q ↔ XE d 212 8 (c0 :: c1 :: .val (.int x) :: l) (.int x :: st) h Q := g_iload rfl rfl
theorem s212_8 : XE d 212 8 ls st h Q ↔ XE d 212 9 ls (.int (-1) :: st) h Q := g_const rfl
theorem s212_9 : XE d 212 9 ls st h Q ↔ XE d 212 10 ls (.int 1 :: st) h Q := g_const rfl
theorem s212_10 : XE d 212 10 ls (.int z :: .int y :: .int x :: st) h Q ↔ (xvo 8 st = true ∧ XC d 132 [.int x, .int y, .int z] h (fun v h' => XE d 212 13 ls (v.toList ++ st) h' Q)) := h_s3 rfl rfl
theorem s212_13 : XE d 212 13 ls (.int x :: st) h Q ↔ (if x = 0 then XE d 212 26 ls st h Q else XE d 212 16 ls st h Q) := g_ifeq rfl
theorem s212_16 : XE d 212 16 (c0 :: c1 :: .val (.int x) :: l) st h Q ↔ XE d 212 17 (c0 :: c1 :: .val (.int x) :: l) (.int x :: st) h Q := g_iload rfl rfl
theorem s212_17 : XE d 212 17 ls (.int x :: st) h Q ↔ (if x < 0 then XE d 212 29 ls st h Q else XE d 212 20 ls st h Q) := g_iflt rfl
theorem s212_20 : XE d 212 20 (c0 :: c1 :: c2 :: .val (.int x) :: l) st h Q ↔ XE d 212 21 (c0 :: c1 :: c2 :: .val (.int x) :: l) (.int x :: st) h Q := g_iload rfl rfl
theorem s212_21 : XE d 212 21 ls st h Q ↔ XE d 212 23 ls (.int 24 :: st) h Q := g_const rfl
theorem s212_23 : XE d 212 23 ls (.int y :: .int x :: st) h Q ↔ (if y < x then XE d 212 26 ls st h Q else XE d 212 29 ls st h Q) := g_cle rfl
theorem s212_26 : XE d 212 26 ls st h Q ↔ XE d 212 28 ls (.int (-1000000001) :: st) h Q := g_const rfl
theorem s212_28 : XE d 212 28 ls [.int x] h Q ↔ Q (some (.int x)) h := g_iret rfl
theorem s212_29 : XE d 212 29 (c0 :: c1 :: .val (.int x) :: l) st h Q ↔ XE d 212 30 (c0 :: c1 :: .val (.int x) :: l) (.int x :: st) h Q := g_iload rfl rfl
theorem s212_30 : XE d 212 30 ls (.int x :: st) h Q ↔ (if x < 0 then XE d 212 41 ls st h Q else XE d 212 33 ls st h Q) := g_iflt rfl
theorem s212_33 : XE d 212 33 (c0 :: c1 :: c2 :: .val (.int x) :: l) st h Q ↔ XE d 212 34 (c0 :: c1 :: c2 :: .val (.int x) :: l) (.int x :: st) h Q := g_iload rfl rfl
theorem s212_34 : XE d 212 34 ls (.int x :: st) h Q ↔ (if x < 0 then XE d 212 37 ls st h Q else XE d 212 41 ls st h Q) := g_ifge rfl
theorem s212_37 : XE d 212 37 ls st h Q ↔ XE d 212 40 ls (.int (-1000000014) :: st) h Q := g_const rfl
theorem s212_40 : XE d 212 40 ls [.int x] h Q ↔ Q (some (.int x)) h := g_iret rfl
theorem s212_41 : XE d 212 41 (.val (.ref a) :: l) st h Q ↔ XE d 212 42 (.val (.ref a) :: l) (.ref a :: st) h Q := g_aload rfl rfl
theorem s212_42 : XE d 212 42 ls (.ref a :: st) h Q ↔ XG [12] 22 (h.2.2.1 a) (fun v => XE d 212 45 ls (v :: st) h Q) := g_getf rfl
theorem s212_45 : XE d 212 45 (c0 :: .val (.int x) :: l) st h Q ↔ XE d 212 46 (c0 :: .val (.int x) :: l) (.int x :: st) h Q := g_iload rfl rfl
theorem s212_46 : XE d 212 46 (c0 :: c1 :: .val (.int x) :: l) st h Q ↔ XE d 212 47 (c0 :: c1 :: .val (.int x) :: l) (.int x :: st) h Q := g_iload rfl rfl
theorem s212_47 : XE d 212 47 ls (.int y :: .int x :: .ref a :: st) h Q ↔ XS 0 (h.2.2.1 a) x y (fun e => XE d 212 48 ls st (xset h a e) Q) := g_iast rfl
theorem s212_48 : XE d 212 48 (.val (.ref a) :: l) st h Q ↔ XE d 212 49 (.val (.ref a) :: l) (.ref a :: st) h Q := g_aload rfl rfl
theorem s212_49 : XE d 212 49 ls (.ref a :: st) h Q ↔ XG [12] 23 (h.2.2.1 a) (fun v => XE d 212 52 ls (v :: st) h Q) := g_getf rfl
theorem s212_52 : XE d 212 52 (c0 :: .val (.int x) :: l) st h Q ↔ XE d 212 53 (c0 :: .val (.int x) :: l) (.int x :: st) h Q := g_iload rfl rfl
theorem s212_53 : XE d 212 53 (c0 :: c1 :: .val (.int x) :: l) st h Q ↔ XE d 212 54 (c0 :: c1 :: .val (.int x) :: l) (.int x :: st) h Q := g_iload rfl rfl
theorem s212_54 : XE d 212 54 ls (.int x :: st) h Q ↔ (if x < 0 then XE d 212 57 ls st h Q else XE d 212 61 ls st h Q) := g_ifge rfl
theorem s212_57 : XE d 212 57 ls st h Q ↔ XE d 212 58 ls (.int 0 :: st) h Q := g_const rfl
theorem s212_58 : XE d 212 58 ls st h Q ↔ XE d 212 62 ls st h Q := g_goto rfl
theorem s212_61 : XE d 212 61 (c0 :: c1 :: c2 :: .val (.int x) :: l) st h Q ↔ XE d 212 62 (c0 :: c1 :: c2 :: .val (.int x) :: l) (.int x :: st) h Q := g_iload rfl rfl
theorem s212_62 : XE d 212 62 ls (.int y :: .int x :: .ref a :: st) h Q ↔ XS 0 (h.2.2.1 a) x y (fun e => XE d 212 63 ls st (xset h a e) Q) := g_iast rfl
theorem s212_63 : XE d 212 63 ls st h Q ↔ XE d 212 64 ls (.int 0 :: st) h Q := g_const rfl
theorem s212_64 : XE d 212 64 (c0 :: c1 :: c2 :: c3 :: c4 :: l) (.int x :: st) h Q ↔ XE d 212 66 (c0 :: c1 :: c2 :: c3 :: .val (.int x) :: l) st h Q := g_istore (Nat.lt_of_lt_of_le (show 4 < 5 by decide) (Nat.le_add_left 5 _)) rfl rfl
theorem s212_66 : XE d 212 66 (c0 :: c1 :: c2 :: c3 :: .val (.int x) :: l) st h Q ↔ XE d 212 68 (c0 :: c1 :: c2 :: c3 :: .val (.int x) :: l) (.int x :: st) h Q := g_iload rfl rfl
theorem s212_68 : XE d 212 68 ls st h Q ↔ XE d 212 70 ls (.int 24 :: st) h Q := g_const rfl
theorem s212_70 : XE d 212 70 ls (.int y :: .int x :: st) h Q ↔ (if x < y then XE d 212 73 ls st h Q else XE d 212 92 ls st h Q) := g_cge rfl
theorem s212_73 : XE d 212 73 (.val (.ref a) :: l) st h Q ↔ XE d 212 74 (.val (.ref a) :: l) (.ref a :: st) h Q := g_aload rfl rfl
theorem s212_74 : XE d 212 74 ls (.ref a :: st) h Q ↔ XG [12] 24 (h.2.2.1 a) (fun v => XE d 212 77 ls (v :: st) h Q) := g_getf rfl
theorem s212_77 : XE d 212 77 ls st h Q ↔ XE d 212 79 ls (.int 24 :: st) h Q := g_const rfl
theorem s212_79 : XE d 212 79 (c0 :: .val (.int x) :: l) st h Q ↔ XE d 212 80 (c0 :: .val (.int x) :: l) (.int x :: st) h Q := g_iload rfl rfl
theorem s212_80 : XE d 212 80 ls (.int y :: .int x :: st) h Q ↔ XE d 212 81 ls (.int (x * y) :: st) h Q := g_mul rfl
theorem s212_81 : XE d 212 81 (c0 :: c1 :: c2 :: c3 :: .val (.int x) :: l) st h Q ↔ XE d 212 83 (c0 :: c1 :: c2 :: c3 :: .val (.int x) :: l) (.int x :: st) h Q := g_iload rfl rfl
theorem s212_83 : XE d 212 83 ls (.int y :: .int x :: st) h Q ↔ XE d 212 84 ls (.int (x + y) :: st) h Q := g_add rfl
theorem s212_84 : XE d 212 84 ls st h Q ↔ XE d 212 85 ls (.int 0 :: st) h Q := g_const rfl
theorem s212_85 : XE d 212 85 ls (.int y :: .int x :: .ref a :: st) h Q ↔ XS 0 (h.2.2.1 a) x y (fun e => XE d 212 86 ls st (xset h a e) Q) := g_iast rfl
theorem s212_86 : XE d 212 86 (c0 :: c1 :: c2 :: c3 :: .val (.int x) :: l) st h Q ↔ XE d 212 89 (c0 :: c1 :: c2 :: c3 :: .val (.int (x + 1)) :: l) st h Q := g_iinc rfl rfl rfl
theorem s212_89 : XE d 212 89 ls st h Q ↔ XE d 212 66 ls st h Q := g_goto rfl
theorem s212_92 : XE d 212 92 (.val (.ref a) :: l) st h Q ↔ XE d 212 93 (.val (.ref a) :: l) (.ref a :: st) h Q := g_aload rfl rfl
theorem s212_93 : XE d 212 93 ls (.ref a :: st) h Q ↔ XG [12] 23 (h.2.2.1 a) (fun v => XE d 212 96 ls (v :: st) h Q) := g_getf rfl
theorem s212_96 : XE d 212 96 (c0 :: .val (.int x) :: l) st h Q ↔ XE d 212 97 (c0 :: .val (.int x) :: l) (.int x :: st) h Q := g_iload rfl rfl
theorem s212_97 : XE d 212 97 ls (.int x :: .ref a :: st) h Q ↔ XA [0, 7] (h.2.2.1 a) x (fun k => XE d 212 98 ls (.int k :: st) h Q) := g_ald rfl
theorem s212_98 : XE d 212 98 ls [.int x] h Q ↔ Q (some (.int x)) h := g_iret rfl
-- 213: TwoBellsModel.mark(III)I
theorem e213 : XC (d + 1) 213 [.ref a, .int x, .int y, .int z] h Q ↔ XE d 213 0 [.val (.ref a), .val (.int x), .val (.int y), .val (.int z)] [] h Q := XC_in rfl
theorem s213_0 : XE d 213 0 (c0 :: .val (.int x) :: l) st h Q ↔ XE d 213 1 (c0 :: .val (.int x) :: l) (.int x :: st) h Q := g_iload rfl rfl
theorem s213_1 : XE d 213 1 ls (.int x :: st) h Q ↔ (xvo 8 st = true ∧ XC d 210 [.int x] h (fun v h' => XE d 213 4 ls (v.toList ++ st) h' Q)) := h_s1 rfl rfl
theorem s213_4 : XE d 213 4 ls (.int x :: st) h Q ↔ (if x = 0 then XE d 213 7 ls st h Q else XE d 213 10 ls st h Q) := g_ifne rfl
theorem s213_7 : XE d 213 7 ls st h Q ↔ XE d 213 9 ls (.int (-1000000001) :: st) h Q := g_const rfl
theorem s213_9 : XE d 213 9 ls [.int x] h Q ↔ Q (some (.int x)) h := g_iret rfl
theorem s213_10 : XE d 213 10 (.val (.ref a) :: l) st h Q ↔ XE d 213 11 (.val (.ref a) :: l) (.ref a :: st) h Q := g_aload rfl rfl
theorem s213_11 : XE d 213 11 ls (.ref a :: st) h Q ↔ XG [12] 22 (h.2.2.1 a) (fun v => XE d 213 14 ls (v :: st) h Q) := g_getf rfl
theorem s213_14 : XE d 213 14 (c0 :: .val (.int x) :: l) st h Q ↔ XE d 213 15 (c0 :: .val (.int x) :: l) (.int x :: st) h Q := g_iload rfl rfl
theorem s213_15 : XE d 213 15 ls (.int x :: .ref a :: st) h Q ↔ XA [0, 7] (h.2.2.1 a) x (fun k => XE d 213 16 ls (.int k :: st) h Q) := g_ald rfl
theorem s213_16 : XE d 213 16 ls (.int x :: st) h Q ↔ (if x < 0 then XE d 213 19 ls st h Q else XE d 213 23 ls st h Q) := g_ifge rfl
theorem s213_19 : XE d 213 19 ls st h Q ↔ XE d 213 22 ls (.int (-1000000011) :: st) h Q := g_const rfl
theorem s213_22 : XE d 213 22 ls [.int x] h Q ↔ Q (some (.int x)) h := g_iret rfl
theorem s213_23 : XE d 213 23 (c0 :: c1 :: .val (.int x) :: l) st h Q ↔ XE d 213 24 (c0 :: c1 :: .val (.int x) :: l) (.int x :: st) h Q := g_iload rfl rfl
theorem s213_24 : XE d 213 24 ls st h Q ↔ XE d 213 25 ls (.int 0 :: st) h Q := g_const rfl
theorem s213_25 : XE d 213 25 (.val (.ref a) :: l) st h Q ↔ XE d 213 26 (.val (.ref a) :: l) (.ref a :: st) h Q := g_aload rfl rfl
theorem s213_26 : XE d 213 26 ls (.ref a :: st) h Q ↔ XG [12] 23 (h.2.2.1 a) (fun v => XE d 213 29 ls (v :: st) h Q) := g_getf rfl
theorem s213_29 : XE d 213 29 (c0 :: .val (.int x) :: l) st h Q ↔ XE d 213 30 (c0 :: .val (.int x) :: l) (.int x :: st) h Q := g_iload rfl rfl
theorem s213_30 : XE d 213 30 ls (.int x :: .ref a :: st) h Q ↔ XA [0, 7] (h.2.2.1 a) x (fun k => XE d 213 31 ls (.int k :: st) h Q) := g_ald rfl
theorem s213_31 : XE d 213 31 ls st h Q ↔ XE d 213 32 ls (.int 1 :: st) h Q := g_const rfl
theorem s213_32 : XE d 213 32 ls (.int y :: .int x :: st) h Q ↔ XE d 213 33 ls (.int (x - y) :: st) h Q := g_sub rfl
theorem s213_33 : XE d 213 33 ls (.int z :: .int y :: .int x :: st) h Q ↔ (xvo 8 st = true ∧ XC d 132 [.int x, .int y, .int z] h (fun v h' => XE d 213 36 ls (v.toList ++ st) h' Q)) := h_s3 rfl rfl
theorem s213_36 : XE d 213 36 ls (.int x :: st) h Q ↔ (if x = 0 then XE d 213 39 ls st h Q else XE d 213 43 ls st h Q) := g_ifne rfl
theorem s213_39 : XE d 213 39 ls st h Q ↔ XE d 213 42 ls (.int (-1000000013) :: st) h Q := g_const rfl
theorem s213_42 : XE d 213 42 ls [.int x] h Q ↔ Q (some (.int x)) h := g_iret rfl
theorem s213_43 : XE d 213 43 (.val (.ref a) :: l) st h Q ↔ XE d 213 44 (.val (.ref a) :: l) (.ref a :: st) h Q := g_aload rfl rfl
theorem s213_44 : XE d 213 44 ls (.ref a :: st) h Q ↔ XG [12] 22 (h.2.2.1 a) (fun v => XE d 213 47 ls (v :: st) h Q) := g_getf rfl
theorem s213_47 : XE d 213 47 (c0 :: .val (.int x) :: l) st h Q ↔ XE d 213 48 (c0 :: .val (.int x) :: l) (.int x :: st) h Q := g_iload rfl rfl
theorem s213_48 : XE d 213 48 ls (.int x :: .ref a :: st) h Q ↔ XA [0, 7] (h.2.2.1 a) x (fun k => XE d 213 49 ls (.int k :: st) h Q) := g_ald rfl
theorem s213_49 : XE d 213 49 ls (.int x :: st) h Q ↔ (if x = 0 then XE d 213 52 ls st h Q else XE d 213 61 ls st h Q) := g_ifne rfl
theorem s213_52 : XE d 213 52 (c0 :: c1 :: c2 :: .val (.int x) :: l) st h Q ↔ XE d 213 53 (c0 :: c1 :: c2 :: .val (.int x) :: l) (.int x :: st) h Q := g_iload rfl rfl
theorem s213_53 : XE d 213 53 ls st h Q ↔ XE d 213 55 ls (.int (-1000000005) :: st) h Q := g_const rfl
theorem s213_55 : XE d 213 55 ls (.int y :: .int x :: st) h Q ↔ (if x = y then XE d 213 58 ls st h Q else XE d 213 61 ls st h Q) := g_cne rfl
theorem s213_58 : XE d 213 58 ls st h Q ↔ XE d 213 60 ls (.int (-1000000012) :: st) h Q := g_const rfl
theorem s213_60 : XE d 213 60 ls [.int x] h Q ↔ Q (some (.int x)) h := g_iret rfl
theorem s213_61 : XE d 213 61 (.val (.ref a) :: l) st h Q ↔ XE d 213 62 (.val (.ref a) :: l) (.ref a :: st) h Q := g_aload rfl rfl
theorem s213_62 : XE d 213 62 ls (.ref a :: st) h Q ↔ XG [12] 22 (h.2.2.1 a) (fun v => XE d 213 65 ls (v :: st) h Q) := g_getf rfl
theorem s213_65 : XE d 213 65 (c0 :: .val (.int x) :: l) st h Q ↔ XE d 213 66 (c0 :: .val (.int x) :: l) (.int x :: st) h Q := g_iload rfl rfl
theorem s213_66 : XE d 213 66 ls (.int x :: .ref a :: st) h Q ↔ XA [0, 7] (h.2.2.1 a) x (fun k => XE d 213 67 ls (.int k :: st) h Q) := g_ald rfl
theorem s213_67 : XE d 213 67 ls st h Q ↔ XE d 213 68 ls (.int 1 :: st) h Q := g_const rfl
theorem s213_68 : XE d 213 68 ls (.int y :: .int x :: st) h Q ↔ (if x = y then XE d 213 71 ls st h Q else XE d 213 92 ls st h Q) := g_cne rfl
theorem s213_71 : XE d 213 71 (c0 :: c1 :: c2 :: .val (.int x) :: l) st h Q ↔ XE d 213 72 (c0 :: c1 :: c2 :: .val (.int x) :: l) (.int x :: st) h Q := g_iload rfl rfl
theorem s213_72 : XE d 213 72 ls st h Q ↔ XE d 213 74 ls (.int (-1000000005) :: st) h Q := g_const rfl
theorem s213_74 : XE d 213 74 ls (.int y :: .int x :: st) h Q ↔ (if x = y then XE d 213 92 ls st h Q else XE d 213 77 ls st h Q) := g_ceq rfl
theorem s213_77 : XE d 213 77 (c0 :: c1 :: c2 :: .val (.int x) :: l) st h Q ↔ XE d 213 78 (c0 :: c1 :: c2 :: .val (.int x) :: l) (.int x :: st) h Q := g_iload rfl rfl
theorem s213_78 : XE d 213 78 ls st h Q ↔ XE d 213 81 ls (.int (-99999) :: st) h Q := g_const rfl
theorem s213_81 : XE d 213 81 ls st h Q ↔ XE d 213 83 ls (.int 99999 :: st) h Q := g_const rfl
theorem s213_83 : XE d 213 83 ls (.int z :: .int y :: .int x :: st) h Q ↔ (xvo 8 st = true ∧ XC d 132 [.int x, .int y, .int z] h (fun v h' => XE d 213 86 ls (v.toList ++ st) h' Q)) := h_s3 rfl rfl
theorem s213_86 : XE d 213 86 ls (.int x :: st) h Q ↔ (if x = 0 then XE d 213 89 ls st h Q else XE d 213 92 ls st h Q) := g_ifne rfl
theorem s213_89 : XE d 213 89 ls st h Q ↔ XE d 213 91 ls (.int (-1000000001) :: st) h Q := g_const rfl
theorem s213_91 : XE d 213 91 ls [.int x] h Q ↔ Q (some (.int x)) h := g_iret rfl
theorem s213_92 : XE d 213 92 (.val (.ref a) :: l) st h Q ↔ XE d 213 93 (.val (.ref a) :: l) (.ref a :: st) h Q := g_aload rfl rfl
theorem s213_93 : XE d 213 93 ls (.ref a :: st) h Q ↔ XG [12] 24 (h.2.2.1 a) (fun v => XE d 213 96 ls (v :: st) h Q) := g_getf rfl
theorem s213_96 : XE d 213 96 ls st h Q ↔ XE d 213 98 ls (.int 24 :: st) h Q := g_const rfl
theorem s213_98 : XE d 213 98 (c0 :: .val (.int x) :: l) st h Q ↔ XE d 213 99 (c0 :: .val (.int x) :: l) (.int x :: st) h Q := g_iload rfl rfl
theorem s213_99 : XE d 213 99 ls (.int y :: .int x :: st) h Q ↔ XE d 213 100 ls (.int (x * y) :: st) h Q := g_mul rfl
theorem s213_100 : XE d 213 100 (c0 :: c1 :: .val (.int x) :: l) st h Q ↔ XE d 213 101 (c0 :: c1 :: .val (.int x) :: l) (.int x :: st) h Q := g_iload rfl rfl
theorem s213_101 : XE d 213 101 ls (.int y :: .int x :: st) h Q ↔ XE d 213 102 ls (.int (x + y) :: st) h Q := g_add rfl
theorem s213_102 : XE d 213 102 (.val (.ref a) :: l) st h Q ↔ XE d 213 103 (.val (.ref a) :: l) (.ref a :: st) h Q := g_aload rfl rfl
theorem s213_103 : XE d 213 103 ls (.ref a :: st) h Q ↔ XG [12] 22 (h.2.2.1 a) (fun v => XE d 213 106 ls (v :: st) h Q) := g_getf rfl
theorem s213_106 : XE d 213 106 (c0 :: .val (.int x) :: l) st h Q ↔ XE d 213 107 (c0 :: .val (.int x) :: l) (.int x :: st) h Q := g_iload rfl rfl
theorem s213_107 : XE d 213 107 ls (.int x :: .ref a :: st) h Q ↔ XA [0, 7] (h.2.2.1 a) x (fun k => XE d 213 108 ls (.int k :: st) h Q) := g_ald rfl
theorem s213_108 : XE d 213 108 ls (.int x :: st) h Q ↔ (if x = 0 then XE d 213 111 ls st h Q else XE d 213 116 ls st h Q) := g_ifne rfl
theorem s213_111 : XE d 213 111 (c0 :: c1 :: c2 :: .val (.int x) :: l) st h Q ↔ XE d 213 112 (c0 :: c1 :: c2 :: .val (.int x) :: l) (.int x :: st) h Q := g_iload rfl rfl
theorem s213_112 : XE d 213 112 ls (.int x :: st) h Q ↔ XE d 213 113 ls (.int x.toInt16.toInt32 :: st) h Q := g_i2s rfl
theorem s213_113 : XE d 213 113 ls st h Q ↔ XE d 213 117 ls st h Q := g_goto rfl
theorem s213_116 : XE d 213 116 (c0 :: c1 :: c2 :: .val (.int x) :: l) st h Q ↔ XE d 213 117 (c0 :: c1 :: c2 :: .val (.int x) :: l) (.int x :: st) h Q := g_iload rfl rfl
theorem s213_117 : XE d 213 117 ls (.int y :: .int x :: .ref a :: st) h Q ↔ XS 0 (h.2.2.1 a) x y (fun e => XE d 213 118 ls st (xset h a e) Q) := g_iast rfl
theorem s213_118 : XE d 213 118 ls st h Q ↔ XE d 213 119 ls (.int 1 :: st) h Q := g_const rfl
theorem s213_119 : XE d 213 119 ls [.int x] h Q ↔ Q (some (.int x)) h := g_iret rfl
-- 214: TwoBellsModel.pour(I)I
theorem e214 : XC (d + 1) 214 [.ref a, .int x] h Q ↔ XE d 214 0 [.val (.ref a), .val (.int x), .unset, .unset, .unset, .unset] [] h Q := XC_in rfl
theorem s214_0 : XE d 214 0 (c0 :: .val (.int x) :: l) st h Q ↔ XE d 214 1 (c0 :: .val (.int x) :: l) (.int x :: st) h Q := g_iload rfl rfl
theorem s214_1 : XE d 214 1 ls (.int x :: st) h Q ↔ (xvo 8 st = true ∧ XC d 210 [.int x] h (fun v h' => XE d 214 4 ls (v.toList ++ st) h' Q)) := h_s1 rfl rfl
theorem s214_4 : XE d 214 4 ls (.int x :: st) h Q ↔ (if x = 0 then XE d 214 7 ls st h Q else XE d 214 10 ls st h Q) := g_ifne rfl
theorem s214_7 : XE d 214 7 ls st h Q ↔ XE d 214 9 ls (.int (-1000000001) :: st) h Q := g_const rfl
theorem s214_9 : XE d 214 9 ls [.int x] h Q ↔ Q (some (.int x)) h := g_iret rfl
theorem s214_10 : XE d 214 10 (.val (.ref a) :: l) st h Q ↔ XE d 214 11 (.val (.ref a) :: l) (.ref a :: st) h Q := g_aload rfl rfl
theorem s214_11 : XE d 214 11 ls (.ref a :: st) h Q ↔ XG [12] 22 (h.2.2.1 a) (fun v => XE d 214 14 ls (v :: st) h Q) := g_getf rfl
theorem s214_14 : XE d 214 14 (c0 :: .val (.int x) :: l) st h Q ↔ XE d 214 15 (c0 :: .val (.int x) :: l) (.int x :: st) h Q := g_iload rfl rfl
theorem s214_15 : XE d 214 15 ls (.int x :: .ref a :: st) h Q ↔ XA [0, 7] (h.2.2.1 a) x (fun k => XE d 214 16 ls (.int k :: st) h Q) := g_ald rfl
theorem s214_16 : XE d 214 16 ls (.int x :: st) h Q ↔ (if x < 0 then XE d 214 19 ls st h Q else XE d 214 23 ls st h Q) := g_ifge rfl
theorem s214_19 : XE d 214 19 ls st h Q ↔ XE d 214 22 ls (.int (-1000000011) :: st) h Q := g_const rfl
theorem s214_22 : XE d 214 22 ls [.int x] h Q ↔ Q (some (.int x)) h := g_iret rfl
theorem s214_23 : XE d 214 23 ls st h Q ↔ XE d 214 24 ls (.int 0 :: st) h Q := g_const rfl
theorem s214_24 : XE d 214 24 (c0 :: c1 :: c2 :: l) (.int x :: st) h Q ↔ XE d 214 25 (c0 :: c1 :: .val (.int x) :: l) st h Q := g_istore (Nat.lt_of_lt_of_le (show 2 < 3 by decide) (Nat.le_add_left 3 _)) rfl rfl
theorem s214_25 : XE d 214 25 ls st h Q ↔ XE d 214 26 ls (.int 0 :: st) h Q := g_const rfl
theorem s214_26 : XE d 214 26 (c0 :: c1 :: c2 :: c3 :: l) (.int x :: st) h Q ↔ XE d 214 27 (c0 :: c1 :: c2 :: .val (.int x) :: l) st h Q := g_istore (Nat.lt_of_lt_of_le (show 3 < 4 by decide) (Nat.le_add_left 4 _)) rfl rfl
theorem s214_27 : XE d 214 27 (c0 :: c1 :: c2 :: .val (.int x) :: l) st h Q ↔ XE d 214 28 (c0 :: c1 :: c2 :: .val (.int x) :: l) (.int x :: st) h Q := g_iload rfl rfl
theorem s214_28 : XE d 214 28 (.val (.ref a) :: l) st h Q ↔ XE d 214 29 (.val (.ref a) :: l) (.ref a :: st) h Q := g_aload rfl rfl
theorem s214_29 : XE d 214 29 ls (.ref a :: st) h Q ↔ XG [12] 23 (h.2.2.1 a) (fun v => XE d 214 32 ls (v :: st) h Q) := g_getf rfl
theorem s214_32 : XE d 214 32 (c0 :: .val (.int x) :: l) st h Q ↔ XE d 214 33 (c0 :: .val (.int x) :: l) (.int x :: st) h Q := g_iload rfl rfl
theorem s214_33 : XE d 214 33 ls (.int x :: .ref a :: st) h Q ↔ XA [0, 7] (h.2.2.1 a) x (fun k => XE d 214 34 ls (.int k :: st) h Q) := g_ald rfl
theorem s214_34 : XE d 214 34 ls (.int y :: .int x :: st) h Q ↔ (if x < y then XE d 214 37 ls st h Q else XE d 214 125 ls st h Q) := g_cge rfl
theorem s214_37 : XE d 214 37 (c0 :: c1 :: c2 :: .val (.int x) :: l) st h Q ↔ XE d 214 38 (c0 :: c1 :: c2 :: .val (.int x) :: l) (.int x :: st) h Q := g_iload rfl rfl
theorem s214_38 : XE d 214 38 ls st h Q ↔ XE d 214 39 ls (.int 2 :: st) h Q := g_const rfl
theorem s214_39 : XE d 214 39 (.val (.ref a) :: l) st h Q ↔ XE d 214 40 (.val (.ref a) :: l) (.ref a :: st) h Q := g_aload rfl rfl
theorem s214_40 : XE d 214 40 ls (.ref a :: st) h Q ↔ XG [12] 0 (h.2.2.1 a) (fun v => XE d 214 43 ls (v :: st) h Q) := g_getf rfl
theorem s214_43 : XE d 214 43 ls st h Q ↔ XE d 214 44 ls (.int 2 :: st) h Q := g_const rfl
theorem s214_44 : XE d 214 44 ls (.int x :: .ref a :: st) h Q ↔ XA [0, 7] (h.2.2.1 a) x (fun k => XE d 214 45 ls (.int k :: st) h Q) := g_ald rfl
theorem s214_45 : XE d 214 45 ls (.int y :: .int x :: st) h Q ↔ XE d 214 46 ls (.int (x * y) :: st) h Q := g_mul rfl
theorem s214_46 : XE d 214 46 ls (.int y :: .int x :: st) h Q ↔ (if x < y then XE d 214 49 ls st h Q else XE d 214 125 ls st h Q) := g_cge rfl
theorem s214_49 : XE d 214 49 (.val (.ref a) :: l) st h Q ↔ XE d 214 50 (.val (.ref a) :: l) (.ref a :: st) h Q := g_aload rfl rfl
theorem s214_50 : XE d 214 50 ls (.ref a :: st) h Q ↔ XG [12] 24 (h.2.2.1 a) (fun v => XE d 214 53 ls (v :: st) h Q) := g_getf rfl
theorem s214_53 : XE d 214 53 ls st h Q ↔ XE d 214 55 ls (.int 24 :: st) h Q := g_const rfl
theorem s214_55 : XE d 214 55 (c0 :: .val (.int x) :: l) st h Q ↔ XE d 214 56 (c0 :: .val (.int x) :: l) (.int x :: st) h Q := g_iload rfl rfl
theorem s214_56 : XE d 214 56 ls (.int y :: .int x :: st) h Q ↔ XE d 214 57 ls (.int (x * y) :: st) h Q := g_mul rfl
theorem s214_57 : XE d 214 57 (c0 :: c1 :: c2 :: .val (.int x) :: l) st h Q ↔ XE d 214 58 (c0 :: c1 :: c2 :: .val (.int x) :: l) (.int x :: st) h Q := g_iload rfl rfl
theorem s214_58 : XE d 214 58 ls (.int y :: .int x :: st) h Q ↔ XE d 214 59 ls (.int (x + y) :: st) h Q := g_add rfl
theorem s214_59 : XE d 214 59 ls (.int x :: .ref a :: st) h Q ↔ XA [0, 7] (h.2.2.1 a) x (fun k => XE d 214 60 ls (.int k :: st) h Q) := g_ald rfl
theorem s214_60 : XE d 214 60 (c0 :: c1 :: c2 :: c3 :: c4 :: l) (.int x :: st) h Q ↔ XE d 214 62 (c0 :: c1 :: c2 :: c3 :: .val (.int x) :: l) st h Q := g_istore (Nat.lt_of_lt_of_le (show 4 < 5 by decide) (Nat.le_add_left 5 _)) rfl rfl
theorem s214_62 : XE d 214 62 (c0 :: c1 :: c2 :: c3 :: .val (.int x) :: l) st h Q ↔ XE d 214 64 (c0 :: c1 :: c2 :: c3 :: .val (.int x) :: l) (.int x :: st) h Q := g_iload rfl rfl
theorem s214_64 : XE d 214 64 ls st h Q ↔ XE d 214 66 ls (.int (-1000000005) :: st) h Q := g_const rfl
theorem s214_66 : XE d 214 66 ls (.int y :: .int x :: st) h Q ↔ (if x = y then XE d 214 83 ls st h Q else XE d 214 69 ls st h Q) := g_ceq rfl
theorem s214_69 : XE d 214 69 (.val (.ref a) :: l) st h Q ↔ XE d 214 70 (.val (.ref a) :: l) (.ref a :: st) h Q := g_aload rfl rfl
theorem s214_70 : XE d 214 70 (c0 :: c1 :: c2 :: c3 :: .val (.int x) :: l) st h Q ↔ XE d 214 72 (c0 :: c1 :: c2 :: c3 :: .val (.int x) :: l) (.int x :: st) h Q := g_iload rfl rfl
theorem s214_72 : XE d 214 72 ls (.int x :: .ref a :: st) h Q ↔ (xvo 8 st = true ∧ XV [(12, 136)] (h.2.2.1 a) (fun m' => XC d m' [.ref a, .int x] h (fun v h' => XE d 214 75 ls (v.toList ++ st) h' Q))) := h_v1 rfl rfl
theorem s214_75 : XE d 214 75 ls (.int x :: st) h Q ↔ (if x = 0 then XE d 214 83 ls st h Q else XE d 214 78 ls st h Q) := g_ifeq rfl
theorem s214_78 : XE d 214 78 (c0 :: c1 :: c2 :: c3 :: .val (.int x) :: l) st h Q ↔ XE d 214 80 (c0 :: c1 :: c2 :: c3 :: .val (.int x) :: l) (.int x :: st) h Q := g_iload rfl rfl
theorem s214_80 : XE d 214 80 ls st h Q ↔ XE d 214 84 ls st h Q := g_goto rfl
theorem s214_83 : XE d 214 83 ls st h Q ↔ XE d 214 84 ls (.int (-1) :: st) h Q := g_const rfl
theorem s214_84 : XE d 214 84 (c0 :: c1 :: c2 :: c3 :: c4 :: c5 :: l) (.int x :: st) h Q ↔ XE d 214 86 (c0 :: c1 :: c2 :: c3 :: c4 :: .val (.int x) :: l) st h Q := g_istore (Nat.lt_of_lt_of_le (show 5 < 6 by decide) (Nat.le_add_left 6 _)) rfl rfl
theorem s214_86 : XE d 214 86 (c0 :: c1 :: .val (.int x) :: l) st h Q ↔ XE d 214 87 (c0 :: c1 :: .val (.int x) :: l) (.int x :: st) h Q := g_iload rfl rfl
theorem s214_87 : XE d 214 87 (.val (.ref a) :: l) st h Q ↔ XE d 214 88 (.val (.ref a) :: l) (.ref a :: st) h Q := g_aload rfl rfl
theorem s214_88 : XE d 214 88 ls st h Q ↔ XE d 214 90 ls (.int 38 :: st) h Q := g_const rfl
theorem s214_90 : XE d 214 90 ls st h Q ↔ XE d 214 91 ls (.int 5 :: st) h Q := g_const rfl
theorem s214_91 : XE d 214 91 (c0 :: c1 :: c2 :: .val (.int x) :: l) st h Q ↔ XE d 214 92 (c0 :: c1 :: c2 :: .val (.int x) :: l) (.int x :: st) h Q := g_iload rfl rfl
theorem s214_92 : XE d 214 92 ls st h Q ↔ XE d 214 93 ls (.int 2 :: st) h Q := g_const rfl
theorem s214_93 : XE d 214 93 ls (.int y :: .int x :: st) h Q ↔ (y ≠ 0 ∧ XE d 214 94 ls (.int (x / y) :: st) h Q) := g_div rfl
theorem s214_94 : XE d 214 94 ls (.int y :: .int x :: st) h Q ↔ XE d 214 95 ls (.int (x * y) :: st) h Q := g_mul rfl
theorem s214_95 : XE d 214 95 ls (.int y :: .int x :: st) h Q ↔ XE d 214 96 ls (.int (x + y) :: st) h Q := g_add rfl
theorem s214_96 : XE d 214 96 ls st h Q ↔ XE d 214 97 ls (.int 3 :: st) h Q := g_const rfl
theorem s214_97 : XE d 214 97 ls (.int y :: .int x :: st) h Q ↔ XE d 214 98 ls (.int (x + y) :: st) h Q := g_add rfl
theorem s214_98 : XE d 214 98 (c0 :: c1 :: c2 :: .val (.int x) :: l) st h Q ↔ XE d 214 99 (c0 :: c1 :: c2 :: .val (.int x) :: l) (.int x :: st) h Q := g_iload rfl rfl
theorem s214_99 : XE d 214 99 ls st h Q ↔ XE d 214 100 ls (.int 2 :: st) h Q := g_const rfl
theorem s214_100 : XE d 214 100 ls (.int y :: .int x :: st) h Q ↔ (y ≠ 0 ∧ XE d 214 101 ls (.int (x % y) :: st) h Q) := g_rem rfl
theorem s214_101 : XE d 214 101 ls (.int y :: .int x :: st) h Q ↔ XE d 214 102 ls (.int (x + y) :: st) h Q := g_add rfl
theorem s214_102 : XE d 214 102 (c0 :: c1 :: c2 :: c3 :: c4 :: .val (.int x) :: l) st h Q ↔ XE d 214 104 (c0 :: c1 :: c2 :: c3 :: c4 :: .val (.int x) :: l) (.int x :: st) h Q := g_iload rfl rfl
theorem s214_104 : XE d 214 104 ls (.int y :: .int x :: .ref a :: st) h Q ↔ (xvo 8 st = true ∧ XV [(12, 143)] (h.2.2.1 a) (fun m' => XC d m' [.ref a, .int x, .int y] h (fun v h' => XE d 214 107 ls (v.toList ++ st) h' Q))) := h_v2 rfl rfl
theorem s214_107 : XE d 214 107 (c0 :: c1 :: c2 :: c3 :: c4 :: .val (.int x) :: l) st h Q ↔ XE d 214 109 (c0 :: c1 :: c2 :: c3 :: c4 :: .val (.int x) :: l) (.int x :: st) h Q := g_iload rfl rfl
theorem s214_109 : XE d 214 109 ls (.int y :: .int x :: st) h Q ↔ (if x = y then XE d 214 112 ls st h Q else XE d 214 116 ls st h Q) := g_cne rfl
theorem s214_112 : XE d 214 112 ls st h Q ↔ XE d 214 113 ls (.int 0 :: st) h Q := g_const rfl
theorem s214_113 : XE d 214 113 ls st h Q ↔ XE d 214 117 ls st h Q := g_goto rfl
theorem s214_116 : XE d 214 116 ls st h Q ↔ XE d 214 117 ls (.int 1 :: st) h Q := g_const rfl
theorem s214_117 : XE d 214 117 ls (.int y :: .int x :: st) h Q ↔ XE d 214 118 ls (.int (x + y) :: st) h Q := g_add rfl
theorem s214_118 : XE d 214 118 (c0 :: c1 :: c2 :: l) (.int x :: st) h Q ↔ XE d 214 119 (c0 :: c1 :: .val (.int x) :: l) st h Q := g_istore (Nat.lt_of_lt_of_le (show 2 < 3 by decide) (Nat.le_add_left 3 _)) rfl rfl
theorem s214_119 : XE d 214 119 (c0 :: c1 :: c2 :: .val (.int x) :: l) st h Q ↔ XE d 214 122 (c0 :: c1 :: c2 :: .val (.int (x + 1)) :: l) st h Q := g_iinc rfl rfl rfl
theorem s214_122 : XE d 214 122 ls st h Q ↔ XE d 214 27 ls st h Q := g_goto rfl
theorem s214_125 : XE d 214 125 (c0 :: c1 :: .val (.int x) :: l) st h Q ↔ XE d 214 126 (c0 :: c1 :: .val (.int x) :: l) (.int x :: st) h Q := g_iload rfl rfl
theorem s214_126 : XE d 214 126 ls [.int x] h Q ↔ Q (some (.int x)) h := g_iret rfl
-- 215: TwoBellsModel.reads(I)I
theorem e215 : XC (d + 1) 215 [.ref a, .int x] h Q ↔ XE d 215 0 [.val (.ref a), .val (.int x), .unset, .unset] [] h Q := XC_in rfl
theorem s215_0 : XE d 215 0 (c0 :: .val (.int x) :: l) st h Q ↔ XE d 215 1 (c0 :: .val (.int x) :: l) (.int x :: st) h Q := g_iload rfl rfl
theorem s215_1 : XE d 215 1 ls (.int x :: st) h Q ↔ (xvo 8 st = true ∧ XC d 210 [.int x] h (fun v h' => XE d 215 4 ls (v.toList ++ st) h' Q)) := h_s1 rfl rfl
theorem s215_4 : XE d 215 4 ls (.int x :: st) h Q ↔ (if x = 0 then XE d 215 7 ls st h Q else XE d 215 10 ls st h Q) := g_ifne rfl
theorem s215_7 : XE d 215 7 ls st h Q ↔ XE d 215 9 ls (.int (-1000000001) :: st) h Q := g_const rfl
theorem s215_9 : XE d 215 9 ls [.int x] h Q ↔ Q (some (.int x)) h := g_iret rfl
theorem s215_10 : XE d 215 10 (.val (.ref a) :: l) st h Q ↔ XE d 215 11 (.val (.ref a) :: l) (.ref a :: st) h Q := g_aload rfl rfl
theorem s215_11 : XE d 215 11 ls (.ref a :: st) h Q ↔ XG [12] 22 (h.2.2.1 a) (fun v => XE d 215 14 ls (v :: st) h Q) := g_getf rfl
theorem s215_14 : XE d 215 14 (c0 :: .val (.int x) :: l) st h Q ↔ XE d 215 15 (c0 :: .val (.int x) :: l) (.int x :: st) h Q := g_iload rfl rfl
theorem s215_15 : XE d 215 15 ls (.int x :: .ref a :: st) h Q ↔ XA [0, 7] (h.2.2.1 a) x (fun k => XE d 215 16 ls (.int k :: st) h Q) := g_ald rfl
theorem s215_16 : XE d 215 16 ls (.int x :: st) h Q ↔ (if x < 0 then XE d 215 19 ls st h Q else XE d 215 23 ls st h Q) := g_ifge rfl
theorem s215_19 : XE d 215 19 ls st h Q ↔ XE d 215 22 ls (.int (-1000000011) :: st) h Q := g_const rfl
theorem s215_22 : XE d 215 22 ls [.int x] h Q ↔ Q (some (.int x)) h := g_iret rfl
theorem s215_23 : XE d 215 23 ls st h Q ↔ XE d 215 24 ls (.int 0 :: st) h Q := g_const rfl
theorem s215_24 : XE d 215 24 (c0 :: c1 :: c2 :: l) (.int x :: st) h Q ↔ XE d 215 25 (c0 :: c1 :: .val (.int x) :: l) st h Q := g_istore (Nat.lt_of_lt_of_le (show 2 < 3 by decide) (Nat.le_add_left 3 _)) rfl rfl
theorem s215_25 : XE d 215 25 (c0 :: c1 :: .val (.int x) :: l) st h Q ↔ XE d 215 26 (c0 :: c1 :: .val (.int x) :: l) (.int x :: st) h Q := g_iload rfl rfl
theorem s215_26 : XE d 215 26 (.val (.ref a) :: l) st h Q ↔ XE d 215 27 (.val (.ref a) :: l) (.ref a :: st) h Q := g_aload rfl rfl
theorem s215_27 : XE d 215 27 ls (.ref a :: st) h Q ↔ XG [12] 23 (h.2.2.1 a) (fun v => XE d 215 30 ls (v :: st) h Q) := g_getf rfl
theorem s215_30 : XE d 215 30 (c0 :: .val (.int x) :: l) st h Q ↔ XE d 215 31 (c0 :: .val (.int x) :: l) (.int x :: st) h Q := g_iload rfl rfl
theorem s215_31 : XE d 215 31 ls (.int x :: .ref a :: st) h Q ↔ XA [0, 7] (h.2.2.1 a) x (fun k => XE d 215 32 ls (.int k :: st) h Q) := g_ald rfl
theorem s215_32 : XE d 215 32 ls (.int y :: .int x :: st) h Q ↔ (if x < y then XE d 215 35 ls st h Q else XE d 215 80 ls st h Q) := g_cge rfl
theorem s215_35 : XE d 215 35 (.val (.ref a) :: l) st h Q ↔ XE d 215 36 (.val (.ref a) :: l) (.ref a :: st) h Q := g_aload rfl rfl
theorem s215_36 : XE d 215 36 ls (.ref a :: st) h Q ↔ XG [12] 24 (h.2.2.1 a) (fun v => XE d 215 39 ls (v :: st) h Q) := g_getf rfl
theorem s215_39 : XE d 215 39 ls st h Q ↔ XE d 215 41 ls (.int 24 :: st) h Q := g_const rfl
theorem s215_41 : XE d 215 41 (c0 :: .val (.int x) :: l) st h Q ↔ XE d 215 42 (c0 :: .val (.int x) :: l) (.int x :: st) h Q := g_iload rfl rfl
theorem s215_42 : XE d 215 42 ls (.int y :: .int x :: st) h Q ↔ XE d 215 43 ls (.int (x * y) :: st) h Q := g_mul rfl
theorem s215_43 : XE d 215 43 (c0 :: c1 :: .val (.int x) :: l) st h Q ↔ XE d 215 44 (c0 :: c1 :: .val (.int x) :: l) (.int x :: st) h Q := g_iload rfl rfl
theorem s215_44 : XE d 215 44 ls (.int y :: .int x :: st) h Q ↔ XE d 215 45 ls (.int (x + y) :: st) h Q := g_add rfl
theorem s215_45 : XE d 215 45 ls (.int x :: .ref a :: st) h Q ↔ XA [0, 7] (h.2.2.1 a) x (fun k => XE d 215 46 ls (.int k :: st) h Q) := g_ald rfl
theorem s215_46 : XE d 215 46 (c0 :: c1 :: c2 :: c3 :: l) (.int x :: st) h Q ↔ XE d 215 47 (c0 :: c1 :: c2 :: .val (.int x) :: l) st h Q := g_istore (Nat.lt_of_lt_of_le (show 3 < 4 by decide) (Nat.le_add_left 4 _)) rfl rfl
theorem s215_47 : XE d 215 47 (c0 :: c1 :: c2 :: .val (.int x) :: l) st h Q ↔ XE d 215 48 (c0 :: c1 :: c2 :: .val (.int x) :: l) (.int x :: st) h Q := g_iload rfl rfl
theorem s215_48 : XE d 215 48 ls st h Q ↔ XE d 215 50 ls (.int (-1000000005) :: st) h Q := g_const rfl
theorem s215_50 : XE d 215 50 ls (.int y :: .int x :: st) h Q ↔ (if x = y then XE d 215 74 ls st h Q else XE d 215 53 ls st h Q) := g_ceq rfl
theorem s215_53 : XE d 215 53 (.val (.ref a) :: l) st h Q ↔ XE d 215 54 (.val (.ref a) :: l) (.ref a :: st) h Q := g_aload rfl rfl
theorem s215_54 : XE d 215 54 (c0 :: c1 :: .val (.int x) :: l) st h Q ↔ XE d 215 55 (c0 :: c1 :: .val (.int x) :: l) (.int x :: st) h Q := g_iload rfl rfl
theorem s215_55 : XE d 215 55 ls (.int x :: .ref a :: st) h Q ↔ (xvo 8 st = true ∧ XV [(12, 136)] (h.2.2.1 a) (fun m' => XC d m' [.ref a, .int x] h (fun v h' => XE d 215 58 ls (v.toList ++ st) h' Q))) := h_v1 rfl rfl
theorem s215_58 : XE d 215 58 ls (.int x :: st) h Q ↔ (if x = 0 then XE d 215 72 ls st h Q else XE d 215 61 ls st h Q) := g_ifeq rfl
theorem s215_61 : XE d 215 61 (c0 :: c1 :: c2 :: .val (.int x) :: l) st h Q ↔ XE d 215 62 (c0 :: c1 :: c2 :: .val (.int x) :: l) (.int x :: st) h Q := g_iload rfl rfl
theorem s215_62 : XE d 215 62 (.val (.ref a) :: l) st h Q ↔ XE d 215 63 (.val (.ref a) :: l) (.ref a :: st) h Q := g_aload rfl rfl
theorem s215_63 : XE d 215 63 (c0 :: c1 :: .val (.int x) :: l) st h Q ↔ XE d 215 64 (c0 :: c1 :: .val (.int x) :: l) (.int x :: st) h Q := g_iload rfl rfl
theorem s215_64 : XE d 215 64 ls st h Q ↔ XE d 215 65 ls (.int (-1) :: st) h Q := g_const rfl
theorem s215_65 : XE d 215 65 ls st h Q ↔ XE d 215 66 ls (.int 0 :: st) h Q := g_const rfl
theorem s215_66 : XE d 215 66 ls (.int z :: .int y :: .int x :: .ref a :: st) h Q ↔ (xvo 8 st = true ∧ XV [(12, 147)] (h.2.2.1 a) (fun m' => XC d m' [.ref a, .int x, .int y, .int z] h (fun v h' => XE d 215 69 ls (v.toList ++ st) h' Q))) := h_v3 rfl rfl
theorem s215_69 : XE d 215 69 ls (.int y :: .int x :: st) h Q ↔ (if x = y then XE d 215 74 ls st h Q else XE d 215 72 ls st h Q) := g_ceq rfl
theorem s215_72 : XE d 215 72 (c0 :: c1 :: .val (.int x) :: l) st h Q ↔ XE d 215 73 (c0 :: c1 :: .val (.int x) :: l) (.int x :: st) h Q := g_iload rfl rfl
theorem s215_73 : XE d 215 73 ls [.int x] h Q ↔ Q (some (.int x)) h := g_iret rfl
theorem s215_74 : XE d 215 74 (c0 :: c1 :: .val (.int x) :: l) st h Q ↔ XE d 215 77 (c0 :: c1 :: .val (.int (x + 1)) :: l) st h Q := g_iinc rfl rfl rfl
theorem s215_77 : XE d 215 77 ls st h Q ↔ XE d 215 25 ls st h Q := g_goto rfl
theorem s215_80 : XE d 215 80 ls st h Q ↔ XE d 215 82 ls (.int (-1000000005) :: st) h Q := g_const rfl
theorem s215_82 : XE d 215 82 ls [.int x] h Q ↔ Q (some (.int x)) h := g_iret rfl
-- 216: TwoBellsModel.copy(IIIII)I
theorem e216 : XC (d + 1) 216 [.ref a, .int x, .int y, .int z, .int w, .int u] h Q ↔ XE d 216 0 [.val (.ref a), .val (.int x), .val (.int y), .val (.int z), .val (.int w), .val (.int u), .unset] [] h Q := XC_in rfl
theorem s216_0 : XE d 216 0 (c0 :: .val (.int x) :: l) st h Q ↔ XE d 216 1 (c0 :: .val (.int x) :: l) (.int x :: st) h Q := g_iload rfl rfl
theorem s216_1 : XE d 216 1 ls (.int x :: st) h Q ↔ (xvo 8 st = true ∧ XC d 210 [.int x] h (fun v h' => XE d 216 4 ls (v.toList ++ st) h' Q)) := h_s1 rfl rfl
theorem s216_4 : XE d 216 4 ls (.int x :: st) h Q ↔ (if x = 0 then XE d 216 14 ls st h Q else XE d 216 7 ls st h Q) := g_ifeq rfl
theorem s216_7 : XE d 216 7 (c0 :: c1 :: c2 :: .val (.int x) :: l) st h Q ↔ XE d 216 8 (c0 :: c1 :: c2 :: .val (.int x) :: l) (.int x :: st) h Q := g_iload rfl rfl
theorem s216_8 : XE d 216 8 ls (.int x :: st) h Q ↔ (xvo 8 st = true ∧ XC d 210 [.int x] h (fun v h' => XE d 216 11 ls (v.toList ++ st) h' Q)) := h_s1 rfl rfl
theorem s216_11 : XE d 216 11 ls (.int x :: st) h Q ↔ (if x = 0 then XE d 216 14 ls st h Q else XE d 216 17 ls st h Q) := g_ifne rfl
theorem s216_14 : XE d 216 14 ls st h Q ↔ XE d 216 16 ls (.int (-1000000001) :: st) h Q := g_const rfl
theorem s216_16 : XE d 216 16 ls [.int x] h Q ↔ Q (some (.int x)) h := g_iret rfl
theorem s216_17 : XE d 216 17 (.val (.ref a) :: l) st h Q ↔ XE d 216 18 (.val (.ref a) :: l) (.ref a :: st) h Q := g_aload rfl rfl
theorem s216_18 : XE d 216 18 ls (.ref a :: st) h Q ↔ XG [12] 22 (h.2.2.1 a) (fun v => XE d 216 21 ls (v :: st) h Q) := g_getf rfl
theorem s216_21 : XE d 216 21 (c0 :: .val (.int x) :: l) st h Q ↔ XE d 216 22 (c0 :: .val (.int x) :: l) (.int x :: st) h Q := g_iload rfl rfl
theorem s216_22 : XE d 216 22 ls (.int x :: .ref a :: st) h Q ↔ XA [0, 7] (h.2.2.1 a) x (fun k => XE d 216 23 ls (.int k :: st) h Q) := g_ald rfl
theorem s216_23 : XE d 216 23 ls (.int x :: st) h Q ↔ (if x < 0 then XE d 216 35 ls st h Q else XE d 216 26 ls st h Q) := g_iflt rfl
theorem s216_26 : XE d 216 26 (.val (.ref a) :: l) st h Q ↔ XE d 216 27 (.val (.ref a) :: l) (.ref a :: st) h Q := g_aload rfl rfl
theorem s216_27 : XE d 216 27 ls (.ref a :: st) h Q ↔ XG [12] 22 (h.2.2.1 a) (fun v => XE d 216 30 ls (v :: st) h Q) := g_getf rfl
theorem s216_30 : XE d 216 30 (c0 :: c1 :: c2 :: .val (.int x) :: l) st h Q ↔ XE d 216 31 (c0 :: c1 :: c2 :: .val (.int x) :: l) (.int x :: st) h Q := g_iload rfl rfl
theorem s216_31 : XE d 216 31 ls (.int x :: .ref a :: st) h Q ↔ XA [0, 7] (h.2.2.1 a) x (fun k => XE d 216 32 ls (.int k :: st) h Q) := g_ald rfl
theorem s216_32 : XE d 216 32 ls (.int x :: st) h Q ↔ (if x < 0 then XE d 216 35 ls st h Q else XE d 216 39 ls st h Q) := g_ifge rfl
theorem s216_35 : XE d 216 35 ls st h Q ↔ XE d 216 38 ls (.int (-1000000011) :: st) h Q := g_const rfl
theorem s216_38 : XE d 216 38 ls [.int x] h Q ↔ Q (some (.int x)) h := g_iret rfl
theorem s216_39 : XE d 216 39 (.val (.ref a) :: l) st h Q ↔ XE d 216 40 (.val (.ref a) :: l) (.ref a :: st) h Q := g_aload rfl rfl
theorem s216_40 : XE d 216 40 ls (.ref a :: st) h Q ↔ XG [12] 22 (h.2.2.1 a) (fun v => XE d 216 43 ls (v :: st) h Q) := g_getf rfl
theorem s216_43 : XE d 216 43 (c0 :: .val (.int x) :: l) st h Q ↔ XE d 216 44 (c0 :: .val (.int x) :: l) (.int x :: st) h Q := g_iload rfl rfl
theorem s216_44 : XE d 216 44 ls (.int x :: .ref a :: st) h Q ↔ XA [0, 7] (h.2.2.1 a) x (fun k => XE d 216 45 ls (.int k :: st) h Q) := g_ald rfl
theorem s216_45 : XE d 216 45 (.val (.ref a) :: l) st h Q ↔ XE d 216 46 (.val (.ref a) :: l) (.ref a :: st) h Q := g_aload rfl rfl
theorem s216_46 : XE d 216 46 ls (.ref a :: st) h Q ↔ XG [12] 22 (h.2.2.1 a) (fun v => XE d 216 49 ls (v :: st) h Q) := g_getf rfl
theorem s216_49 : XE d 216 49 (c0 :: c1 :: c2 :: .val (.int x) :: l) st h Q ↔ XE d 216 50 (c0 :: c1 :: c2 :: .val (.int x) :: l) (.int x :: st) h Q := g_iload rfl rfl
theorem s216_50 : XE d 216 50 ls (.int x :: .ref a :: st) h Q ↔ XA [0, 7] (h.2.2.1 a) x (fun k => XE d 216 51 ls (.int k :: st) h Q) := g_ald rfl
theorem s216_51 : XE d 216 51 ls (.int y :: .int x :: st) h Q ↔ (if x = y then XE d 216 57 ls st h Q else XE d 216 54 ls st h Q) := g_ceq rfl
theorem s216_54 : XE d 216 54 ls st h Q ↔ XE d 216 56 ls (.int (-1000000012) :: st) h Q := g_const rfl
theorem s216_56 : XE d 216 56 ls [.int x] h Q ↔ Q (some (.int x)) h := g_iret rfl
theorem s216_57 : XE d 216 57 (c0 :: c1 :: .val (.int x) :: l) st h Q ↔ XE d 216 58 (c0 :: c1 :: .val (.int x) :: l) (.int x :: st) h Q := g_iload rfl rfl
theorem s216_58 : XE d 216 58 ls (.int x :: st) h Q ↔ (if x < 0 then XE d 216 98 ls st h Q else XE d 216 61 ls st h Q) := g_iflt rfl
theorem s216_61 : XE d 216 61 (c0 :: c1 :: c2 :: c3 :: .val (.int x) :: l) st h Q ↔ XE d 216 63 (c0 :: c1 :: c2 :: c3 :: .val (.int x) :: l) (.int x :: st) h Q := g_iload rfl rfl
theorem s216_63 : XE d 216 63 ls (.int x :: st) h Q ↔ (if x < 0 then XE d 216 98 ls st h Q else XE d 216 66 ls st h Q) := g_iflt rfl
theorem s216_66 : XE d 216 66 (c0 :: c1 :: c2 :: c3 :: c4 :: .val (.int x) :: l) st h Q ↔ XE d 216 68 (c0 :: c1 :: c2 :: c3 :: c4 :: .val (.int x) :: l) (.int x :: st) h Q := g_iload rfl rfl
theorem s216_68 : XE d 216 68 ls (.int x :: st) h Q ↔ (if x < 0 then XE d 216 98 ls st h Q else XE d 216 71 ls st h Q) := g_iflt rfl
theorem s216_71 : XE d 216 71 (c0 :: c1 :: .val (.int x) :: l) st h Q ↔ XE d 216 72 (c0 :: c1 :: .val (.int x) :: l) (.int x :: st) h Q := g_iload rfl rfl
theorem s216_72 : XE d 216 72 (.val (.ref a) :: l) st h Q ↔ XE d 216 73 (.val (.ref a) :: l) (.ref a :: st) h Q := g_aload rfl rfl
theorem s216_73 : XE d 216 73 ls (.ref a :: st) h Q ↔ XG [12] 23 (h.2.2.1 a) (fun v => XE d 216 76 ls (v :: st) h Q) := g_getf rfl
theorem s216_76 : XE d 216 76 (c0 :: .val (.int x) :: l) st h Q ↔ XE d 216 77 (c0 :: .val (.int x) :: l) (.int x :: st) h Q := g_iload rfl rfl
theorem s216_77 : XE d 216 77 ls (.int x :: .ref a :: st) h Q ↔ XA [0, 7] (h.2.2.1 a) x (fun k => XE d 216 78 ls (.int k :: st) h Q) := g_ald rfl
theorem s216_78 : XE d 216 78 (c0 :: c1 :: c2 :: c3 :: c4 :: .val (.int x) :: l) st h Q ↔ XE d 216 80 (c0 :: c1 :: c2 :: c3 :: c4 :: .val (.int x) :: l) (.int x :: st) h Q := g_iload rfl rfl
theorem s216_80 : XE d 216 80 ls (.int y :: .int x :: st) h Q ↔ XE d 216 81 ls (.int (x - y) :: st) h Q := g_sub rfl
theorem s216_81 : XE d 216 81 ls (.int y :: .int x :: st) h Q ↔ (if y < x then XE d 216 98 ls st h Q else XE d 216 84 ls st h Q) := g_cgt rfl
theorem s216_84 : XE d 216 84 (c0 :: c1 :: c2 :: c3 :: .val (.int x) :: l) st h Q ↔ XE d 216 86 (c0 :: c1 :: c2 :: c3 :: .val (.int x) :: l) (.int x :: st) h Q := g_iload rfl rfl
theorem s216_86 : XE d 216 86 (.val (.ref a) :: l) st h Q ↔ XE d 216 87 (.val (.ref a) :: l) (.ref a :: st) h Q := g_aload rfl rfl
theorem s216_87 : XE d 216 87 ls (.ref a :: st) h Q ↔ XG [12] 23 (h.2.2.1 a) (fun v => XE d 216 90 ls (v :: st) h Q) := g_getf rfl
theorem s216_90 : XE d 216 90 (c0 :: c1 :: c2 :: .val (.int x) :: l) st h Q ↔ XE d 216 91 (c0 :: c1 :: c2 :: .val (.int x) :: l) (.int x :: st) h Q := g_iload rfl rfl
theorem s216_91 : XE d 216 91 ls (.int x :: .ref a :: st) h Q ↔ XA [0, 7] (h.2.2.1 a) x (fun k => XE d 216 92 ls (.int k :: st) h Q) := g_ald rfl
theorem s216_92 : XE d 216 92 (c0 :: c1 :: c2 :: c3 :: c4 :: .val (.int x) :: l) st h Q ↔ XE d 216 94 (c0 :: c1 :: c2 :: c3 :: c4 :: .val (.int x) :: l) (.int x :: st) h Q := g_iload rfl rfl
theorem s216_94 : XE d 216 94 ls (.int y :: .int x :: st) h Q ↔ XE d 216 95 ls (.int (x - y) :: st) h Q := g_sub rfl
theorem s216_95 : XE d 216 95 ls (.int y :: .int x :: st) h Q ↔ (if y < x then XE d 216 98 ls st h Q else XE d 216 102 ls st h Q) := g_cle rfl
theorem s216_98 : XE d 216 98 ls st h Q ↔ XE d 216 101 ls (.int (-1000000013) :: st) h Q := g_const rfl
theorem s216_101 : XE d 216 101 ls [.int x] h Q ↔ Q (some (.int x)) h := g_iret rfl
theorem s216_102 : XE d 216 102 ls st h Q ↔ XE d 216 103 ls (.int 0 :: st) h Q := g_const rfl
theorem s216_103 : XE d 216 103 (c0 :: c1 :: c2 :: c3 :: c4 :: c5 :: c6 :: l) (.int x :: st) h Q ↔ XE d 216 105 (c0 :: c1 :: c2 :: c3 :: c4 :: c5 :: .val (.int x) :: l) st h Q := g_istore (Nat.lt_of_lt_of_le (show 6 < 7 by decide) (Nat.le_add_left 7 _)) rfl rfl
theorem s216_105 : XE d 216 105 (c0 :: c1 :: c2 :: c3 :: c4 :: c5 :: .val (.int x) :: l) st h Q ↔ XE d 216 107 (c0 :: c1 :: c2 :: c3 :: c4 :: c5 :: .val (.int x) :: l) (.int x :: st) h Q := g_iload rfl rfl
theorem s216_107 : XE d 216 107 (c0 :: c1 :: c2 :: c3 :: c4 :: .val (.int x) :: l) st h Q ↔ XE d 216 109 (c0 :: c1 :: c2 :: c3 :: c4 :: .val (.int x) :: l) (.int x :: st) h Q := g_iload rfl rfl
theorem s216_109 : XE d 216 109 ls (.int y :: .int x :: st) h Q ↔ (if x < y then XE d 216 112 ls st h Q else XE d 216 139 ls st h Q) := g_cge rfl
theorem s216_112 : XE d 216 112 (.val (.ref a) :: l) st h Q ↔ XE d 216 113 (.val (.ref a) :: l) (.ref a :: st) h Q := g_aload rfl rfl
theorem s216_113 : XE d 216 113 ls (.ref a :: st) h Q ↔ XG [12] 29 (h.2.2.1 a) (fun v => XE d 216 116 ls (v :: st) h Q) := g_getf rfl
theorem s216_116 : XE d 216 116 (c0 :: c1 :: c2 :: c3 :: c4 :: c5 :: .val (.int x) :: l) st h Q ↔ XE d 216 118 (c0 :: c1 :: c2 :: c3 :: c4 :: c5 :: .val (.int x) :: l) (.int x :: st) h Q := g_iload rfl rfl
theorem s216_118 : XE d 216 118 (.val (.ref a) :: l) st h Q ↔ XE d 216 119 (.val (.ref a) :: l) (.ref a :: st) h Q := g_aload rfl rfl
theorem s216_119 : XE d 216 119 ls (.ref a :: st) h Q ↔ XG [12] 24 (h.2.2.1 a) (fun v => XE d 216 122 ls (v :: st) h Q) := g_getf rfl
theorem s216_122 : XE d 216 122 ls st h Q ↔ XE d 216 124 ls (.int 24 :: st) h Q := g_const rfl
theorem s216_124 : XE d 216 124 (c0 :: .val (.int x) :: l) st h Q ↔ XE d 216 125 (c0 :: .val (.int x) :: l) (.int x :: st) h Q := g_iload rfl rfl
theorem s216_125 : XE d 216 125 ls (.int y :: .int x :: st) h Q ↔ XE d 216 126 ls (.int (x * y) :: st) h Q := g_mul rfl
theorem s216_126 : XE d 216 126 (c0 :: c1 :: .val (.int x) :: l) st h Q ↔ XE d 216 127 (c0 :: c1 :: .val (.int x) :: l) (.int x :: st) h Q := g_iload rfl rfl
theorem s216_127 : XE d 216 127 ls (.int y :: .int x :: st) h Q ↔ XE d 216 128 ls (.int (x + y) :: st) h Q := g_add rfl
theorem s216_128 : XE d 216 128 (c0 :: c1 :: c2 :: c3 :: c4 :: c5 :: .val (.int x) :: l) st h Q ↔ XE d 216 130 (c0 :: c1 :: c2 :: c3 :: c4 :: c5 :: .val (.int x) :: l) (.int x :: st) h Q := g_iload rfl rfl
theorem s216_130 : XE d 216 130 ls (.int y :: .int x :: st) h Q ↔ XE d 216 131 ls (.int (x + y) :: st) h Q := g_add rfl
theorem s216_131 : XE d 216 131 ls (.int x :: .ref a :: st) h Q ↔ XA [0, 7] (h.2.2.1 a) x (fun k => XE d 216 132 ls (.int k :: st) h Q) := g_ald rfl
theorem s216_132 : XE d 216 132 ls (.int y :: .int x :: .ref a :: st) h Q ↔ XS 0 (h.2.2.1 a) x y (fun e => XE d 216 133 ls st (xset h a e) Q) := g_iast rfl
theorem s216_133 : XE d 216 133 (c0 :: c1 :: c2 :: c3 :: c4 :: c5 :: .val (.int x) :: l) st h Q ↔ XE d 216 136 (c0 :: c1 :: c2 :: c3 :: c4 :: c5 :: .val (.int (x + 1)) :: l) st h Q := g_iinc rfl rfl rfl
theorem s216_136 : XE d 216 136 ls st h Q ↔ XE d 216 105 ls st h Q := g_goto rfl
theorem s216_139 : XE d 216 139 ls st h Q ↔ XE d 216 140 ls (.int 0 :: st) h Q := g_const rfl
theorem s216_140 : XE d 216 140 (c0 :: c1 :: c2 :: c3 :: c4 :: c5 :: c6 :: l) (.int x :: st) h Q ↔ XE d 216 142 (c0 :: c1 :: c2 :: c3 :: c4 :: c5 :: .val (.int x) :: l) st h Q := g_istore (Nat.lt_of_lt_of_le (show 6 < 7 by decide) (Nat.le_add_left 7 _)) rfl rfl
theorem s216_142 : XE d 216 142 (c0 :: c1 :: c2 :: c3 :: c4 :: c5 :: .val (.int x) :: l) st h Q ↔ XE d 216 144 (c0 :: c1 :: c2 :: c3 :: c4 :: c5 :: .val (.int x) :: l) (.int x :: st) h Q := g_iload rfl rfl
theorem s216_144 : XE d 216 144 (c0 :: c1 :: c2 :: c3 :: c4 :: .val (.int x) :: l) st h Q ↔ XE d 216 146 (c0 :: c1 :: c2 :: c3 :: c4 :: .val (.int x) :: l) (.int x :: st) h Q := g_iload rfl rfl
theorem s216_146 : XE d 216 146 ls (.int y :: .int x :: st) h Q ↔ (if x < y then XE d 216 149 ls st h Q else XE d 216 177 ls st h Q) := g_cge rfl
theorem s216_149 : XE d 216 149 (.val (.ref a) :: l) st h Q ↔ XE d 216 150 (.val (.ref a) :: l) (.ref a :: st) h Q := g_aload rfl rfl
theorem s216_150 : XE d 216 150 ls (.ref a :: st) h Q ↔ XG [12] 24 (h.2.2.1 a) (fun v => XE d 216 153 ls (v :: st) h Q) := g_getf rfl
theorem s216_153 : XE d 216 153 ls st h Q ↔ XE d 216 155 ls (.int 24 :: st) h Q := g_const rfl
theorem s216_155 : XE d 216 155 (c0 :: c1 :: c2 :: .val (.int x) :: l) st h Q ↔ XE d 216 156 (c0 :: c1 :: c2 :: .val (.int x) :: l) (.int x :: st) h Q := g_iload rfl rfl
theorem s216_156 : XE d 216 156 ls (.int y :: .int x :: st) h Q ↔ XE d 216 157 ls (.int (x * y) :: st) h Q := g_mul rfl
theorem s216_157 : XE d 216 157 (c0 :: c1 :: c2 :: c3 :: .val (.int x) :: l) st h Q ↔ XE d 216 159 (c0 :: c1 :: c2 :: c3 :: .val (.int x) :: l) (.int x :: st) h Q := g_iload rfl rfl
theorem s216_159 : XE d 216 159 ls (.int y :: .int x :: st) h Q ↔ XE d 216 160 ls (.int (x + y) :: st) h Q := g_add rfl
theorem s216_160 : XE d 216 160 (c0 :: c1 :: c2 :: c3 :: c4 :: c5 :: .val (.int x) :: l) st h Q ↔ XE d 216 162 (c0 :: c1 :: c2 :: c3 :: c4 :: c5 :: .val (.int x) :: l) (.int x :: st) h Q := g_iload rfl rfl
theorem s216_162 : XE d 216 162 ls (.int y :: .int x :: st) h Q ↔ XE d 216 163 ls (.int (x + y) :: st) h Q := g_add rfl
theorem s216_163 : XE d 216 163 (.val (.ref a) :: l) st h Q ↔ XE d 216 164 (.val (.ref a) :: l) (.ref a :: st) h Q := g_aload rfl rfl
theorem s216_164 : XE d 216 164 ls (.ref a :: st) h Q ↔ XG [12] 29 (h.2.2.1 a) (fun v => XE d 216 167 ls (v :: st) h Q) := g_getf rfl
theorem s216_167 : XE d 216 167 (c0 :: c1 :: c2 :: c3 :: c4 :: c5 :: .val (.int x) :: l) st h Q ↔ XE d 216 169 (c0 :: c1 :: c2 :: c3 :: c4 :: c5 :: .val (.int x) :: l) (.int x :: st) h Q := g_iload rfl rfl
theorem s216_169 : XE d 216 169 ls (.int x :: .ref a :: st) h Q ↔ XA [0, 7] (h.2.2.1 a) x (fun k => XE d 216 170 ls (.int k :: st) h Q) := g_ald rfl
theorem s216_170 : XE d 216 170 ls (.int y :: .int x :: .ref a :: st) h Q ↔ XS 0 (h.2.2.1 a) x y (fun e => XE d 216 171 ls st (xset h a e) Q) := g_iast rfl
theorem s216_171 : XE d 216 171 (c0 :: c1 :: c2 :: c3 :: c4 :: c5 :: .val (.int x) :: l) st h Q ↔ XE d 216 174 (c0 :: c1 :: c2 :: c3 :: c4 :: c5 :: .val (.int (x + 1)) :: l) st h Q := g_iinc rfl rfl rfl
theorem s216_174 : XE d 216 174 ls st h Q ↔ XE d 216 142 ls st h Q := g_goto rfl
theorem s216_177 : XE d 216 177 (c0 :: c1 :: c2 :: c3 :: c4 :: .val (.int x) :: l) st h Q ↔ XE d 216 179 (c0 :: c1 :: c2 :: c3 :: c4 :: .val (.int x) :: l) (.int x :: st) h Q := g_iload rfl rfl
theorem s216_179 : XE d 216 179 ls [.int x] h Q ↔ Q (some (.int x)) h := g_iret rfl
-- 217: TwoBellsModel.lay(III)I
theorem e217 : XC (d + 1) 217 [.ref a, .int x, .int y, .int z] h Q ↔ XE d 217 0 [.val (.ref a), .val (.int x), .val (.int y), .val (.int z), .unset, .unset] [] h Q := XC_in rfl
theorem s217_0 : XE d 217 0 (c0 :: .val (.int x) :: l) st h Q ↔ XE d 217 1 (c0 :: .val (.int x) :: l) (.int x :: st) h Q := g_iload rfl rfl
theorem s217_1 : XE d 217 1 ls (.int x :: st) h Q ↔ (xvo 8 st = true ∧ XC d 211 [.int x] h (fun v h' => XE d 217 4 ls (v.toList ++ st) h' Q)) := h_s1 rfl rfl
theorem s217_4 : XE d 217 4 ls (.int x :: st) h Q ↔ (if x = 0 then XE d 217 41 ls st h Q else XE d 217 7 ls st h Q) := g_ifeq rfl
theorem s217_7 : XE d 217 7 (c0 :: c1 :: .val (.int x) :: l) st h Q ↔ XE d 217 8 (c0 :: c1 :: .val (.int x) :: l) (.int x :: st) h Q := g_iload rfl rfl
theorem s217_8 : XE d 217 8 ls st h Q ↔ XE d 217 9 ls (.int 0 :: st) h Q := g_const rfl
theorem s217_9 : XE d 217 9 ls st h Q ↔ XE d 217 10 ls (.int 3 :: st) h Q := g_const rfl
theorem s217_10 : XE d 217 10 ls (.int z :: .int y :: .int x :: st) h Q ↔ (xvo 8 st = true ∧ XC d 132 [.int x, .int y, .int z] h (fun v h' => XE d 217 13 ls (v.toList ++ st) h' Q)) := h_s3 rfl rfl
theorem s217_13 : XE d 217 13 ls (.int x :: st) h Q ↔ (if x = 0 then XE d 217 41 ls st h Q else XE d 217 16 ls st h Q) := g_ifeq rfl
theorem s217_16 : XE d 217 16 (c0 :: c1 :: .val (.int x) :: l) st h Q ↔ XE d 217 17 (c0 :: c1 :: .val (.int x) :: l) (.int x :: st) h Q := g_iload rfl rfl
theorem s217_17 : XE d 217 17 ls st h Q ↔ XE d 217 18 ls (.int 1 :: st) h Q := g_const rfl
theorem s217_18 : XE d 217 18 ls (.int y :: .int x :: st) h Q ↔ (if x = y then XE d 217 21 ls st h Q else XE d 217 29 ls st h Q) := g_cne rfl
theorem s217_21 : XE d 217 21 (.val (.ref a) :: l) st h Q ↔ XE d 217 22 (.val (.ref a) :: l) (.ref a :: st) h Q := g_aload rfl rfl
theorem s217_22 : XE d 217 22 (c0 :: c1 :: c2 :: .val (.int x) :: l) st h Q ↔ XE d 217 23 (c0 :: c1 :: c2 :: .val (.int x) :: l) (.int x :: st) h Q := g_iload rfl rfl
theorem s217_23 : XE d 217 23 ls (.int x :: .ref a :: st) h Q ↔ (xvo 8 st = true ∧ XV [(12, 138)] (h.2.2.1 a) (fun m' => XC d m' [.ref a, .int x] h (fun v h' => XE d 217 26 ls (v.toList ++ st) h' Q))) := h_v1 rfl rfl
theorem s217_26 : XE d 217 26 ls (.int x :: st) h Q ↔ (if x = 0 then XE d 217 41 ls st h Q else XE d 217 29 ls st h Q) := g_ifeq rfl
theorem s217_29 : XE d 217 29 (c0 :: c1 :: .val (.int x) :: l) st h Q ↔ XE d 217 30 (c0 :: c1 :: .val (.int x) :: l) (.int x :: st) h Q := g_iload rfl rfl
theorem s217_30 : XE d 217 30 ls st h Q ↔ XE d 217 31 ls (.int 2 :: st) h Q := g_const rfl
theorem s217_31 : XE d 217 31 ls (.int y :: .int x :: st) h Q ↔ (if x = y then XE d 217 34 ls st h Q else XE d 217 44 ls st h Q) := g_cne rfl
theorem s217_34 : XE d 217 34 (c0 :: c1 :: c2 :: .val (.int x) :: l) st h Q ↔ XE d 217 35 (c0 :: c1 :: c2 :: .val (.int x) :: l) (.int x :: st) h Q := g_iload rfl rfl
theorem s217_35 : XE d 217 35 ls (.int x :: st) h Q ↔ (xvo 8 st = true ∧ XC d 210 [.int x] h (fun v h' => XE d 217 38 ls (v.toList ++ st) h' Q)) := h_s1 rfl rfl
theorem s217_38 : XE d 217 38 ls (.int x :: st) h Q ↔ (if x = 0 then XE d 217 41 ls st h Q else XE d 217 44 ls st h Q) := g_ifne rfl
theorem s217_41 : XE d 217 41 ls st h Q ↔ XE d 217 43 ls (.int (-1000000001) :: st) h Q := g_const rfl
theorem s217_43 : XE d 217 43 ls [.int x] h Q ↔ Q (some (.int x)) h := g_iret rfl
theorem s217_44 : XE d 217 44 (c0 :: c1 :: .val (.int x) :: l) st h Q ↔ XE d 217 45 (c0 :: c1 :: .val (.int x) :: l) (.int x :: st) h Q := g_iload rfl rfl
theorem s217_45 : XE d 217 45 ls st h Q ↔ XE d 217 46 ls (.int 2 :: st) h Q := g_const rfl
theorem s217_46 : XE d 217 46 ls (.int y :: .int x :: st) h Q ↔ (if x = y then XE d 217 49 ls st h Q else XE d 217 62 ls st h Q) := g_cne rfl
theorem s217_49 : XE d 217 49 (.val (.ref a) :: l) st h Q ↔ XE d 217 50 (.val (.ref a) :: l) (.ref a :: st) h Q := g_aload rfl rfl
theorem s217_50 : XE d 217 50 ls (.ref a :: st) h Q ↔ XG [12] 22 (h.2.2.1 a) (fun v => XE d 217 53 ls (v :: st) h Q) := g_getf rfl
theorem s217_53 : XE d 217 53 (c0 :: c1 :: c2 :: .val (.int x) :: l) st h Q ↔ XE d 217 54 (c0 :: c1 :: c2 :: .val (.int x) :: l) (.int x :: st) h Q := g_iload rfl rfl
theorem s217_54 : XE d 217 54 ls (.int x :: .ref a :: st) h Q ↔ XA [0, 7] (h.2.2.1 a) x (fun k => XE d 217 55 ls (.int k :: st) h Q) := g_ald rfl
theorem s217_55 : XE d 217 55 ls (.int x :: st) h Q ↔ (if x < 0 then XE d 217 58 ls st h Q else XE d 217 62 ls st h Q) := g_ifge rfl
theorem s217_58 : XE d 217 58 ls st h Q ↔ XE d 217 61 ls (.int (-1000000011) :: st) h Q := g_const rfl
theorem s217_61 : XE d 217 61 ls [.int x] h Q ↔ Q (some (.int x)) h := g_iret rfl
theorem s217_62 : XE d 217 62 (.val (.ref a) :: l) st h Q ↔ XE d 217 63 (.val (.ref a) :: l) (.ref a :: st) h Q := g_aload rfl rfl
theorem s217_63 : XE d 217 63 ls (.ref a :: st) h Q ↔ XG [12] 25 (h.2.2.1 a) (fun v => XE d 217 66 ls (v :: st) h Q) := g_getf rfl
theorem s217_66 : XE d 217 66 (c0 :: .val (.int x) :: l) st h Q ↔ XE d 217 67 (c0 :: .val (.int x) :: l) (.int x :: st) h Q := g_iload rfl rfl
theorem s217_67 : XE d 217 67 ls (.int x :: .ref a :: st) h Q ↔ XA [0, 7] (h.2.2.1 a) x (fun k => XE d 217 68 ls (.int k :: st) h Q) := g_ald rfl
theorem s217_68 : XE d 217 68 (c0 :: c1 :: c2 :: c3 :: c4 :: l) (.int x :: st) h Q ↔ XE d 217 70 (c0 :: c1 :: c2 :: c3 :: .val (.int x) :: l) st h Q := g_istore (Nat.lt_of_lt_of_le (show 4 < 5 by decide) (Nat.le_add_left 5 _)) rfl rfl
theorem s217_70 : XE d 217 70 (.val (.ref a) :: l) st h Q ↔ XE d 217 71 (.val (.ref a) :: l) (.ref a :: st) h Q := g_aload rfl rfl
theorem s217_71 : XE d 217 71 ls (.ref a :: st) h Q ↔ XG [12] 25 (h.2.2.1 a) (fun v => XE d 217 74 ls (v :: st) h Q) := g_getf rfl
theorem s217_74 : XE d 217 74 (c0 :: .val (.int x) :: l) st h Q ↔ XE d 217 75 (c0 :: .val (.int x) :: l) (.int x :: st) h Q := g_iload rfl rfl
theorem s217_75 : XE d 217 75 (c0 :: c1 :: .val (.int x) :: l) st h Q ↔ XE d 217 76 (c0 :: c1 :: .val (.int x) :: l) (.int x :: st) h Q := g_iload rfl rfl
theorem s217_76 : XE d 217 76 ls (.int y :: .int x :: .ref a :: st) h Q ↔ XS 0 (h.2.2.1 a) x y (fun e => XE d 217 77 ls st (xset h a e) Q) := g_iast rfl
theorem s217_77 : XE d 217 77 (.val (.ref a) :: l) st h Q ↔ XE d 217 78 (.val (.ref a) :: l) (.ref a :: st) h Q := g_aload rfl rfl
theorem s217_78 : XE d 217 78 ls (.ref a :: st) h Q ↔ XG [12] 26 (h.2.2.1 a) (fun v => XE d 217 81 ls (v :: st) h Q) := g_getf rfl
theorem s217_81 : XE d 217 81 (c0 :: .val (.int x) :: l) st h Q ↔ XE d 217 82 (c0 :: .val (.int x) :: l) (.int x :: st) h Q := g_iload rfl rfl
theorem s217_82 : XE d 217 82 (c0 :: c1 :: .val (.int x) :: l) st h Q ↔ XE d 217 83 (c0 :: c1 :: .val (.int x) :: l) (.int x :: st) h Q := g_iload rfl rfl
theorem s217_83 : XE d 217 83 ls st h Q ↔ XE d 217 84 ls (.int 1 :: st) h Q := g_const rfl
theorem s217_84 : XE d 217 84 ls (.int y :: .int x :: st) h Q ↔ (if x = y then XE d 217 87 ls st h Q else XE d 217 95 ls st h Q) := g_cne rfl
theorem s217_87 : XE d 217 87 (.val (.ref a) :: l) st h Q ↔ XE d 217 88 (.val (.ref a) :: l) (.ref a :: st) h Q := g_aload rfl rfl
theorem s217_88 : XE d 217 88 (c0 :: c1 :: c2 :: .val (.int x) :: l) st h Q ↔ XE d 217 89 (c0 :: c1 :: c2 :: .val (.int x) :: l) (.int x :: st) h Q := g_iload rfl rfl
theorem s217_89 : XE d 217 89 ls (.int x :: .ref a :: st) h Q ↔ (xvo 8 st = true ∧ XV [(12, 141)] (h.2.2.1 a) (fun m' => XC d m' [.ref a, .int x] h (fun v h' => XE d 217 92 ls (v.toList ++ st) h' Q))) := h_v1 rfl rfl
theorem s217_92 : XE d 217 92 ls st h Q ↔ XE d 217 110 ls st h Q := g_goto rfl
theorem s217_95 : XE d 217 95 (c0 :: c1 :: .val (.int x) :: l) st h Q ↔ XE d 217 96 (c0 :: c1 :: .val (.int x) :: l) (.int x :: st) h Q := g_iload rfl rfl
theorem s217_96 : XE d 217 96 ls st h Q ↔ XE d 217 97 ls (.int 2 :: st) h Q := g_const rfl
theorem s217_97 : XE d 217 97 ls (.int y :: .int x :: st) h Q ↔ (if x = y then XE d 217 100 ls st h Q else XE d 217 109 ls st h Q) := g_cne rfl
theorem s217_100 : XE d 217 100 (.val (.ref a) :: l) st h Q ↔ XE d 217 101 (.val (.ref a) :: l) (.ref a :: st) h Q := g_aload rfl rfl
theorem s217_101 : XE d 217 101 ls (.ref a :: st) h Q ↔ XG [12] 23 (h.2.2.1 a) (fun v => XE d 217 104 ls (v :: st) h Q) := g_getf rfl
theorem s217_104 : XE d 217 104 (c0 :: c1 :: c2 :: .val (.int x) :: l) st h Q ↔ XE d 217 105 (c0 :: c1 :: c2 :: .val (.int x) :: l) (.int x :: st) h Q := g_iload rfl rfl
theorem s217_105 : XE d 217 105 ls (.int x :: .ref a :: st) h Q ↔ XA [0, 7] (h.2.2.1 a) x (fun k => XE d 217 106 ls (.int k :: st) h Q) := g_ald rfl
theorem s217_106 : XE d 217 106 ls st h Q ↔ XE d 217 110 ls st h Q := g_goto rfl
theorem s217_109 : XE d 217 109 (c0 :: c1 :: c2 :: .val (.int x) :: l) st h Q ↔ XE d 217 110 (c0 :: c1 :: c2 :: .val (.int x) :: l) (.int x :: st) h Q := g_iload rfl rfl
theorem s217_110 : XE d 217 110 ls (.int y :: .int x :: .ref a :: st) h Q ↔ XS 0 (h.2.2.1 a) x y (fun e => XE d 217 111 ls st (xset h a e) Q) := g_iast rfl
theorem s217_111 : XE d 217 111 (.val (.ref a) :: l) st h Q ↔ XE d 217 112 (.val (.ref a) :: l) (.ref a :: st) h Q := g_aload rfl rfl
theorem s217_112 : XE d 217 112 ls (.ref a :: st) h Q ↔ XG [12] 27 (h.2.2.1 a) (fun v => XE d 217 115 ls (v :: st) h Q) := g_getf rfl
theorem s217_115 : XE d 217 115 (c0 :: .val (.int x) :: l) st h Q ↔ XE d 217 116 (c0 :: .val (.int x) :: l) (.int x :: st) h Q := g_iload rfl rfl
theorem s217_116 : XE d 217 116 (c0 :: c1 :: .val (.int x) :: l) st h Q ↔ XE d 217 117 (c0 :: c1 :: .val (.int x) :: l) (.int x :: st) h Q := g_iload rfl rfl
theorem s217_117 : XE d 217 117 ls st h Q ↔ XE d 217 118 ls (.int 1 :: st) h Q := g_const rfl
theorem s217_118 : XE d 217 118 ls (.int y :: .int x :: st) h Q ↔ (if x = y then XE d 217 121 ls st h Q else XE d 217 129 ls st h Q) := g_cne rfl
theorem s217_121 : XE d 217 121 (.val (.ref a) :: l) st h Q ↔ XE d 217 122 (.val (.ref a) :: l) (.ref a :: st) h Q := g_aload rfl rfl
theorem s217_122 : XE d 217 122 (c0 :: c1 :: c2 :: .val (.int x) :: l) st h Q ↔ XE d 217 123 (c0 :: c1 :: c2 :: .val (.int x) :: l) (.int x :: st) h Q := g_iload rfl rfl
theorem s217_123 : XE d 217 123 ls (.int x :: .ref a :: st) h Q ↔ (xvo 8 st = true ∧ XV [(12, 162)] (h.2.2.1 a) (fun m' => XC d m' [.ref a, .int x] h (fun v h' => XE d 217 126 ls (v.toList ++ st) h' Q))) := h_v1 rfl rfl
theorem s217_126 : XE d 217 126 ls st h Q ↔ XE d 217 130 ls st h Q := g_goto rfl
theorem s217_129 : XE d 217 129 ls st h Q ↔ XE d 217 130 ls (.int 0 :: st) h Q := g_const rfl
theorem s217_130 : XE d 217 130 ls (.int y :: .int x :: .ref a :: st) h Q ↔ XS 0 (h.2.2.1 a) x y (fun e => XE d 217 131 ls st (xset h a e) Q) := g_iast rfl
theorem s217_131 : XE d 217 131 ls st h Q ↔ XE d 217 132 ls (.int 0 :: st) h Q := g_const rfl
theorem s217_132 : XE d 217 132 (c0 :: c1 :: c2 :: c3 :: c4 :: c5 :: l) (.int x :: st) h Q ↔ XE d 217 134 (c0 :: c1 :: c2 :: c3 :: c4 :: .val (.int x) :: l) st h Q := g_istore (Nat.lt_of_lt_of_le (show 5 < 6 by decide) (Nat.le_add_left 6 _)) rfl rfl
theorem s217_134 : XE d 217 134 (c0 :: c1 :: c2 :: c3 :: c4 :: .val (.int x) :: l) st h Q ↔ XE d 217 136 (c0 :: c1 :: c2 :: c3 :: c4 :: .val (.int x) :: l) (.int x :: st) h Q := g_iload rfl rfl
theorem s217_136 : XE d 217 136 ls st h Q ↔ XE d 217 138 ls (.int 24 :: st) h Q := g_const rfl
theorem s217_138 : XE d 217 138 ls (.int y :: .int x :: st) h Q ↔ (if x < y then XE d 217 141 ls st h Q else XE d 217 176 ls st h Q) := g_cge rfl
theorem s217_141 : XE d 217 141 (c0 :: c1 :: .val (.int x) :: l) st h Q ↔ XE d 217 142 (c0 :: c1 :: .val (.int x) :: l) (.int x :: st) h Q := g_iload rfl rfl
theorem s217_142 : XE d 217 142 ls st h Q ↔ XE d 217 143 ls (.int 2 :: st) h Q := g_const rfl
theorem s217_143 : XE d 217 143 ls (.int y :: .int x :: st) h Q ↔ (if x = y then XE d 217 146 ls st h Q else XE d 217 176 ls st h Q) := g_cne rfl
theorem s217_146 : XE d 217 146 (.val (.ref a) :: l) st h Q ↔ XE d 217 147 (.val (.ref a) :: l) (.ref a :: st) h Q := g_aload rfl rfl
theorem s217_147 : XE d 217 147 ls (.ref a :: st) h Q ↔ XG [12] 28 (h.2.2.1 a) (fun v => XE d 217 150 ls (v :: st) h Q) := g_getf rfl
theorem s217_150 : XE d 217 150 ls st h Q ↔ XE d 217 152 ls (.int 24 :: st) h Q := g_const rfl
theorem s217_152 : XE d 217 152 (c0 :: .val (.int x) :: l) st h Q ↔ XE d 217 153 (c0 :: .val (.int x) :: l) (.int x :: st) h Q := g_iload rfl rfl
theorem s217_153 : XE d 217 153 ls (.int y :: .int x :: st) h Q ↔ XE d 217 154 ls (.int (x * y) :: st) h Q := g_mul rfl
theorem s217_154 : XE d 217 154 (c0 :: c1 :: c2 :: c3 :: c4 :: .val (.int x) :: l) st h Q ↔ XE d 217 156 (c0 :: c1 :: c2 :: c3 :: c4 :: .val (.int x) :: l) (.int x :: st) h Q := g_iload rfl rfl
theorem s217_156 : XE d 217 156 ls (.int y :: .int x :: st) h Q ↔ XE d 217 157 ls (.int (x + y) :: st) h Q := g_add rfl
theorem s217_157 : XE d 217 157 (.val (.ref a) :: l) st h Q ↔ XE d 217 158 (.val (.ref a) :: l) (.ref a :: st) h Q := g_aload rfl rfl
theorem s217_158 : XE d 217 158 ls (.ref a :: st) h Q ↔ XG [12] 24 (h.2.2.1 a) (fun v => XE d 217 161 ls (v :: st) h Q) := g_getf rfl
theorem s217_161 : XE d 217 161 ls st h Q ↔ XE d 217 163 ls (.int 24 :: st) h Q := g_const rfl
theorem s217_163 : XE d 217 163 (c0 :: c1 :: c2 :: .val (.int x) :: l) st h Q ↔ XE d 217 164 (c0 :: c1 :: c2 :: .val (.int x) :: l) (.int x :: st) h Q := g_iload rfl rfl
theorem s217_164 : XE d 217 164 ls (.int y :: .int x :: st) h Q ↔ XE d 217 165 ls (.int (x * y) :: st) h Q := g_mul rfl
theorem s217_165 : XE d 217 165 (c0 :: c1 :: c2 :: c3 :: c4 :: .val (.int x) :: l) st h Q ↔ XE d 217 167 (c0 :: c1 :: c2 :: c3 :: c4 :: .val (.int x) :: l) (.int x :: st) h Q := g_iload rfl rfl
theorem s217_167 : XE d 217 167 ls (.int y :: .int x :: st) h Q ↔ XE d 217 168 ls (.int (x + y) :: st) h Q := g_add rfl
theorem s217_168 : XE d 217 168 ls (.int x :: .ref a :: st) h Q ↔ XA [0, 7] (h.2.2.1 a) x (fun k => XE d 217 169 ls (.int k :: st) h Q) := g_ald rfl
theorem s217_169 : XE d 217 169 ls (.int y :: .int x :: .ref a :: st) h Q ↔ XS 0 (h.2.2.1 a) x y (fun e => XE d 217 170 ls st (xset h a e) Q) := g_iast rfl
theorem s217_170 : XE d 217 170 (c0 :: c1 :: c2 :: c3 :: c4 :: .val (.int x) :: l) st h Q ↔ XE d 217 173 (c0 :: c1 :: c2 :: c3 :: c4 :: .val (.int (x + 1)) :: l) st h Q := g_iinc rfl rfl rfl
theorem s217_173 : XE d 217 173 ls st h Q ↔ XE d 217 134 ls st h Q := g_goto rfl
theorem s217_176 : XE d 217 176 (c0 :: c1 :: c2 :: c3 :: .val (.int x) :: l) st h Q ↔ XE d 217 178 (c0 :: c1 :: c2 :: c3 :: .val (.int x) :: l) (.int x :: st) h Q := g_iload rfl rfl
theorem s217_178 : XE d 217 178 ls [.int x] h Q ↔ Q (some (.int x)) h := g_iret rfl
-- 218: TwoBellsModel.ask(II)I
theorem e218 : XC (d + 1) 218 [.ref a, .int x, .int y] h Q ↔ XE d 218 0 [.val (.ref a), .val (.int x), .val (.int y)] [] h Q := XC_in rfl
theorem s218_0 : XE d 218 0 (c0 :: .val (.int x) :: l) st h Q ↔ XE d 218 1 (c0 :: .val (.int x) :: l) (.int x :: st) h Q := g_iload rfl rfl
theorem s218_1 : XE d 218 1 ls (.int x :: st) h Q ↔ (xvo 8 st = true ∧ XC d 211 [.int x] h (fun v h' => XE d 218 4 ls (v.toList ++ st) h' Q)) := h_s1 rfl rfl
theorem s218_4 : XE d 218 4 ls (.int x :: st) h Q ↔ (if x = 0 then XE d 218 16 ls st h Q else XE d 218 7 ls st h Q) := g_ifeq rfl
theorem s218_7 : XE d 218 7 (c0 :: c1 :: .val (.int x) :: l) st h Q ↔ XE d 218 8 (c0 :: c1 :: .val (.int x) :: l) (.int x :: st) h Q := g_iload rfl rfl
theorem s218_8 : XE d 218 8 ls st h Q ↔ XE d 218 9 ls (.int 0 :: st) h Q := g_const rfl
theorem s218_9 : XE d 218 9 ls st h Q ↔ XE d 218 10 ls (.int 5 :: st) h Q := g_const rfl
theorem s218_10 : XE d 218 10 ls (.int z :: .int y :: .int x :: st) h Q ↔ (xvo 8 st = true ∧ XC d 132 [.int x, .int y, .int z] h (fun v h' => XE d 218 13 ls (v.toList ++ st) h' Q)) := h_s3 rfl rfl
theorem s218_13 : XE d 218 13 ls (.int x :: st) h Q ↔ (if x = 0 then XE d 218 16 ls st h Q else XE d 218 19 ls st h Q) := g_ifne rfl
theorem s218_16 : XE d 218 16 ls st h Q ↔ XE d 218 18 ls (.int (-1000000001) :: st) h Q := g_const rfl
theorem s218_18 : XE d 218 18 ls [.int x] h Q ↔ Q (some (.int x)) h := g_iret rfl
theorem s218_19 : XE d 218 19 (.val (.ref a) :: l) st h Q ↔ XE d 218 20 (.val (.ref a) :: l) (.ref a :: st) h Q := g_aload rfl rfl
theorem s218_20 : XE d 218 20 ls (.ref a :: st) h Q ↔ XG [12] 25 (h.2.2.1 a) (fun v => XE d 218 23 ls (v :: st) h Q) := g_getf rfl
theorem s218_23 : XE d 218 23 (c0 :: .val (.int x) :: l) st h Q ↔ XE d 218 24 (c0 :: .val (.int x) :: l) (.int x :: st) h Q := g_iload rfl rfl
theorem s218_24 : XE d 218 24 ls (.int x :: .ref a :: st) h Q ↔ XA [0, 7] (h.2.2.1 a) x (fun k => XE d 218 25 ls (.int k :: st) h Q) := g_ald rfl
theorem s218_25 : XE d 218 25 ls (.int x :: st) h Q ↔ (if x = 0 then XE d 218 28 ls st h Q else XE d 218 32 ls st h Q) := g_ifne rfl
theorem s218_28 : XE d 218 28 ls st h Q ↔ XE d 218 31 ls (.int (-1000000011) :: st) h Q := g_const rfl
theorem s218_31 : XE d 218 31 ls [.int x] h Q ↔ Q (some (.int x)) h := g_iret rfl
theorem s218_32 : XE d 218 32 (.val (.ref a) :: l) st h Q ↔ XE d 218 33 (.val (.ref a) :: l) (.ref a :: st) h Q := g_aload rfl rfl
theorem s218_33 : XE d 218 33 ls (.ref a :: st) h Q ↔ XG [12] 25 (h.2.2.1 a) (fun v => XE d 218 36 ls (v :: st) h Q) := g_getf rfl
theorem s218_36 : XE d 218 36 (c0 :: .val (.int x) :: l) st h Q ↔ XE d 218 37 (c0 :: .val (.int x) :: l) (.int x :: st) h Q := g_iload rfl rfl
theorem s218_37 : XE d 218 37 ls (.int x :: .ref a :: st) h Q ↔ XA [0, 7] (h.2.2.1 a) x (fun k => XE d 218 38 ls (.int k :: st) h Q) := g_ald rfl
theorem s218_38 : XE d 218 38 ls st h Q ↔ XE d 218 39 ls (.int 1 :: st) h Q := g_const rfl
theorem s218_39 : XE d 218 39 ls (.int y :: .int x :: st) h Q ↔ (if x = y then XE d 218 42 ls st h Q else XE d 218 64 ls st h Q) := g_cne rfl
theorem s218_42 : XE d 218 42 (.val (.ref a) :: l) st h Q ↔ XE d 218 43 (.val (.ref a) :: l) (.ref a :: st) h Q := g_aload rfl rfl
theorem s218_43 : XE d 218 43 ls (.ref a :: st) h Q ↔ XG [12] 26 (h.2.2.1 a) (fun v => XE d 218 46 ls (v :: st) h Q) := g_getf rfl
theorem s218_46 : XE d 218 46 (c0 :: .val (.int x) :: l) st h Q ↔ XE d 218 47 (c0 :: .val (.int x) :: l) (.int x :: st) h Q := g_iload rfl rfl
theorem s218_47 : XE d 218 47 ls (.int x :: .ref a :: st) h Q ↔ XA [0, 7] (h.2.2.1 a) x (fun k => XE d 218 48 ls (.int k :: st) h Q) := g_ald rfl
theorem s218_48 : XE d 218 48 (c0 :: c1 :: .val (.int x) :: l) st h Q ↔ XE d 218 49 (c0 :: c1 :: .val (.int x) :: l) (.int x :: st) h Q := g_iload rfl rfl
theorem s218_49 : XE d 218 49 ls (.int y :: .int x :: st) h Q ↔ (xvo 8 st = true ∧ XC d 164 [.int x, .int y] h (fun v h' => XE d 218 52 ls (v.toList ++ st) h' Q)) := h_s2 rfl rfl
theorem s218_52 : XE d 218 52 ls (.int x :: st) h Q ↔ (if x = 0 then XE d 218 64 ls st h Q else XE d 218 55 ls st h Q) := g_ifeq rfl
theorem s218_55 : XE d 218 55 (.val (.ref a) :: l) st h Q ↔ XE d 218 56 (.val (.ref a) :: l) (.ref a :: st) h Q := g_aload rfl rfl
theorem s218_56 : XE d 218 56 ls (.ref a :: st) h Q ↔ XG [12] 27 (h.2.2.1 a) (fun v => XE d 218 59 ls (v :: st) h Q) := g_getf rfl
theorem s218_59 : XE d 218 59 (c0 :: .val (.int x) :: l) st h Q ↔ XE d 218 60 (c0 :: .val (.int x) :: l) (.int x :: st) h Q := g_iload rfl rfl
theorem s218_60 : XE d 218 60 ls (.int x :: .ref a :: st) h Q ↔ XA [0, 7] (h.2.2.1 a) x (fun k => XE d 218 61 ls (.int k :: st) h Q) := g_ald rfl
theorem s218_61 : XE d 218 61 ls st h Q ↔ XE d 218 66 ls st h Q := g_goto rfl
theorem s218_64 : XE d 218 64 ls st h Q ↔ XE d 218 66 ls (.int (-1000000012) :: st) h Q := g_const rfl
theorem s218_66 : XE d 218 66 ls [.int x] h Q ↔ Q (some (.int x)) h := g_iret rfl
-- 219: TwoBellsModel.item(II)I
theorem e219 : XC (d + 1) 219 [.ref a, .int x, .int y] h Q ↔ XE d 219 0 [.val (.ref a), .val (.int x), .val (.int y), .unset] [] h Q := XC_in rfl
theorem s219_0 : XE d 219 0 (c0 :: .val (.int x) :: l) st h Q ↔ XE d 219 1 (c0 :: .val (.int x) :: l) (.int x :: st) h Q := g_iload rfl rfl
theorem s219_1 : XE d 219 1 ls (.int x :: st) h Q ↔ (xvo 8 st = true ∧ XC d 211 [.int x] h (fun v h' => XE d 219 4 ls (v.toList ++ st) h' Q)) := h_s1 rfl rfl
theorem s219_4 : XE d 219 4 ls (.int x :: st) h Q ↔ (if x = 0 then XE d 219 7 ls st h Q else XE d 219 10 ls st h Q) := g_ifne rfl
theorem s219_7 : XE d 219 7 ls st h Q ↔ XE d 219 9 ls (.int (-1000000001) :: st) h Q := g_const rfl
theorem s219_9 : XE d 219 9 ls [.int x] h Q ↔ Q (some (.int x)) h := g_iret rfl
theorem s219_10 : XE d 219 10 (.val (.ref a) :: l) st h Q ↔ XE d 219 11 (.val (.ref a) :: l) (.ref a :: st) h Q := g_aload rfl rfl
theorem s219_11 : XE d 219 11 ls (.ref a :: st) h Q ↔ XG [12] 25 (h.2.2.1 a) (fun v => XE d 219 14 ls (v :: st) h Q) := g_getf rfl
theorem s219_14 : XE d 219 14 (c0 :: .val (.int x) :: l) st h Q ↔ XE d 219 15 (c0 :: .val (.int x) :: l) (.int x :: st) h Q := g_iload rfl rfl
theorem s219_15 : XE d 219 15 ls (.int x :: .ref a :: st) h Q ↔ XA [0, 7] (h.2.2.1 a) x (fun k => XE d 219 16 ls (.int k :: st) h Q) := g_ald rfl
theorem s219_16 : XE d 219 16 ls (.int x :: st) h Q ↔ (if x = 0 then XE d 219 19 ls st h Q else XE d 219 23 ls st h Q) := g_ifne rfl
theorem s219_19 : XE d 219 19 ls st h Q ↔ XE d 219 22 ls (.int (-1000000011) :: st) h Q := g_const rfl
theorem s219_22 : XE d 219 22 ls [.int x] h Q ↔ Q (some (.int x)) h := g_iret rfl
theorem s219_23 : XE d 219 23 (.val (.ref a) :: l) st h Q ↔ XE d 219 24 (.val (.ref a) :: l) (.ref a :: st) h Q := g_aload rfl rfl
theorem s219_24 : XE d 219 24 ls (.ref a :: st) h Q ↔ XG [12] 25 (h.2.2.1 a) (fun v => XE d 219 27 ls (v :: st) h Q) := g_getf rfl
theorem s219_27 : XE d 219 27 (c0 :: .val (.int x) :: l) st h Q ↔ XE d 219 28 (c0 :: .val (.int x) :: l) (.int x :: st) h Q := g_iload rfl rfl
theorem s219_28 : XE d 219 28 ls (.int x :: .ref a :: st) h Q ↔ XA [0, 7] (h.2.2.1 a) x (fun k => XE d 219 29 ls (.int k :: st) h Q) := g_ald rfl
theorem s219_29 : XE d 219 29 ls st h Q ↔ XE d 219 30 ls (.int 2 :: st) h Q := g_const rfl
theorem s219_30 : XE d 219 30 ls (.int y :: .int x :: st) h Q ↔ (if x = y then XE d 219 36 ls st h Q else XE d 219 33 ls st h Q) := g_ceq rfl
theorem s219_33 : XE d 219 33 ls st h Q ↔ XE d 219 35 ls (.int (-1000000012) :: st) h Q := g_const rfl
theorem s219_35 : XE d 219 35 ls [.int x] h Q ↔ Q (some (.int x)) h := g_iret rfl
theorem s219_36 : XE d 219 36 (c0 :: c1 :: .val (.int x) :: l) st h Q ↔ XE d 219 37 (c0 :: c1 :: .val (.int x) :: l) (.int x :: st) h Q := g_iload rfl rfl
theorem s219_37 : XE d 219 37 ls st h Q ↔ XE d 219 38 ls (.int 0 :: st) h Q := g_const rfl
theorem s219_38 : XE d 219 38 (.val (.ref a) :: l) st h Q ↔ XE d 219 39 (.val (.ref a) :: l) (.ref a :: st) h Q := g_aload rfl rfl
theorem s219_39 : XE d 219 39 ls (.ref a :: st) h Q ↔ XG [12] 26 (h.2.2.1 a) (fun v => XE d 219 42 ls (v :: st) h Q) := g_getf rfl
theorem s219_42 : XE d 219 42 (c0 :: .val (.int x) :: l) st h Q ↔ XE d 219 43 (c0 :: .val (.int x) :: l) (.int x :: st) h Q := g_iload rfl rfl
theorem s219_43 : XE d 219 43 ls (.int x :: .ref a :: st) h Q ↔ XA [0, 7] (h.2.2.1 a) x (fun k => XE d 219 44 ls (.int k :: st) h Q) := g_ald rfl
theorem s219_44 : XE d 219 44 ls st h Q ↔ XE d 219 45 ls (.int 1 :: st) h Q := g_const rfl
theorem s219_45 : XE d 219 45 ls (.int y :: .int x :: st) h Q ↔ XE d 219 46 ls (.int (x - y) :: st) h Q := g_sub rfl
theorem s219_46 : XE d 219 46 ls (.int z :: .int y :: .int x :: st) h Q ↔ (xvo 8 st = true ∧ XC d 132 [.int x, .int y, .int z] h (fun v h' => XE d 219 49 ls (v.toList ++ st) h' Q)) := h_s3 rfl rfl
theorem s219_49 : XE d 219 49 ls (.int x :: st) h Q ↔ (if x = 0 then XE d 219 52 ls st h Q else XE d 219 56 ls st h Q) := g_ifne rfl
theorem s219_52 : XE d 219 52 ls st h Q ↔ XE d 219 55 ls (.int (-1000000013) :: st) h Q := g_const rfl
theorem s219_55 : XE d 219 55 ls [.int x] h Q ↔ Q (some (.int x)) h := g_iret rfl
theorem s219_56 : XE d 219 56 (.val (.ref a) :: l) st h Q ↔ XE d 219 57 (.val (.ref a) :: l) (.ref a :: st) h Q := g_aload rfl rfl
theorem s219_57 : XE d 219 57 ls (.ref a :: st) h Q ↔ XG [12] 28 (h.2.2.1 a) (fun v => XE d 219 60 ls (v :: st) h Q) := g_getf rfl
theorem s219_60 : XE d 219 60 ls st h Q ↔ XE d 219 62 ls (.int 24 :: st) h Q := g_const rfl
theorem s219_62 : XE d 219 62 (c0 :: .val (.int x) :: l) st h Q ↔ XE d 219 63 (c0 :: .val (.int x) :: l) (.int x :: st) h Q := g_iload rfl rfl
theorem s219_63 : XE d 219 63 ls (.int y :: .int x :: st) h Q ↔ XE d 219 64 ls (.int (x * y) :: st) h Q := g_mul rfl
theorem s219_64 : XE d 219 64 (c0 :: c1 :: .val (.int x) :: l) st h Q ↔ XE d 219 65 (c0 :: c1 :: .val (.int x) :: l) (.int x :: st) h Q := g_iload rfl rfl
theorem s219_65 : XE d 219 65 ls (.int y :: .int x :: st) h Q ↔ XE d 219 66 ls (.int (x + y) :: st) h Q := g_add rfl
theorem s219_66 : XE d 219 66 ls (.int x :: .ref a :: st) h Q ↔ XA [0, 7] (h.2.2.1 a) x (fun k => XE d 219 67 ls (.int k :: st) h Q) := g_ald rfl
theorem s219_67 : XE d 219 67 (c0 :: c1 :: c2 :: c3 :: l) (.int x :: st) h Q ↔ XE d 219 68 (c0 :: c1 :: c2 :: .val (.int x) :: l) st h Q := g_istore (Nat.lt_of_lt_of_le (show 3 < 4 by decide) (Nat.le_add_left 4 _)) rfl rfl
theorem s219_68 : XE d 219 68 (c0 :: c1 :: c2 :: .val (.int x) :: l) st h Q ↔ XE d 219 69 (c0 :: c1 :: c2 :: .val (.int x) :: l) (.int x :: st) h Q := g_iload rfl rfl
theorem s219_69 : XE d 219 69 ls st h Q ↔ XE d 219 71 ls (.int (-1000000005) :: st) h Q := g_const rfl
theorem s219_71 : XE d 219 71 ls (.int y :: .int x :: st) h Q ↔ (if x = y then XE d 219 74 ls st h Q else XE d 219 79 ls st h Q) := g_cne rfl
theorem s219_74 : XE d 219 74 ls st h Q ↔ XE d 219 76 ls (.int (-1000000012) :: st) h Q := g_const rfl
theorem s219_76 : XE d 219 76 ls st h Q ↔ XE d 219 80 ls st h Q := g_goto rfl
theorem s219_79 : XE d 219 79 (c0 :: c1 :: c2 :: .val (.int x) :: l) st h Q ↔ XE d 219 80 (c0 :: c1 :: c2 :: .val (.int x) :: l) (.int x :: st) h Q := g_iload rfl rfl
theorem s219_80 : XE d 219 80 ls [.int x] h Q ↔ Q (some (.int x)) h := g_iret rfl
-- 220: TwoBellsModel.rest(II)I
theorem e220 : XC (d + 1) 220 [.ref a, .int x, .int y] h Q ↔ XE d 220 0 [.val (.ref a), .val (.int x), .val (.int y)] [] h Q := XC_in rfl
theorem s220_0 : XE d 220 0 (c0 :: .val (.int x) :: l) st h Q ↔ XE d 220 1 (c0 :: .val (.int x) :: l) (.int x :: st) h Q := g_iload rfl rfl
theorem s220_1 : XE d 220 1 ls (.int x :: st) h Q ↔ (xvo 8 st = true ∧ XC d 211 [.int x] h (fun v h' => XE d 220 4 ls (v.toList ++ st) h' Q)) := h_s1 rfl rfl
theorem s220_4 : XE d 220 4 ls (.int x :: st) h Q ↔ (if x = 0 then XE d 220 7 ls st h Q else XE d 220 10 ls st h Q) := g_ifne rfl
theorem s220_7 : XE d 220 7 ls st h Q ↔ XE d 220 9 ls (.int (-1000000001) :: st) h Q := g_const rfl
theorem s220_9 : XE d 220 9 ls [.int x] h Q ↔ Q (some (.int x)) h := g_iret rfl
theorem s220_10 : XE d 220 10 (.val (.ref a) :: l) st h Q ↔ XE d 220 11 (.val (.ref a) :: l) (.ref a :: st) h Q := g_aload rfl rfl
theorem s220_11 : XE d 220 11 ls (.ref a :: st) h Q ↔ XG [12] 25 (h.2.2.1 a) (fun v => XE d 220 14 ls (v :: st) h Q) := g_getf rfl
theorem s220_14 : XE d 220 14 (c0 :: .val (.int x) :: l) st h Q ↔ XE d 220 15 (c0 :: .val (.int x) :: l) (.int x :: st) h Q := g_iload rfl rfl
theorem s220_15 : XE d 220 15 ls (.int x :: .ref a :: st) h Q ↔ XA [0, 7] (h.2.2.1 a) x (fun k => XE d 220 16 ls (.int k :: st) h Q) := g_ald rfl
theorem s220_16 : XE d 220 16 ls (.int x :: st) h Q ↔ (if x = 0 then XE d 220 19 ls st h Q else XE d 220 23 ls st h Q) := g_ifne rfl
theorem s220_19 : XE d 220 19 ls st h Q ↔ XE d 220 22 ls (.int (-1000000011) :: st) h Q := g_const rfl
theorem s220_22 : XE d 220 22 ls [.int x] h Q ↔ Q (some (.int x)) h := g_iret rfl
theorem s220_23 : XE d 220 23 (.val (.ref a) :: l) st h Q ↔ XE d 220 24 (.val (.ref a) :: l) (.ref a :: st) h Q := g_aload rfl rfl
theorem s220_24 : XE d 220 24 ls (.ref a :: st) h Q ↔ XG [12] 25 (h.2.2.1 a) (fun v => XE d 220 27 ls (v :: st) h Q) := g_getf rfl
theorem s220_27 : XE d 220 27 (c0 :: .val (.int x) :: l) st h Q ↔ XE d 220 28 (c0 :: .val (.int x) :: l) (.int x :: st) h Q := g_iload rfl rfl
theorem s220_28 : XE d 220 28 ls (.int x :: .ref a :: st) h Q ↔ XA [0, 7] (h.2.2.1 a) x (fun k => XE d 220 29 ls (.int k :: st) h Q) := g_ald rfl
theorem s220_29 : XE d 220 29 ls st h Q ↔ XE d 220 30 ls (.int 3 :: st) h Q := g_const rfl
theorem s220_30 : XE d 220 30 ls (.int y :: .int x :: st) h Q ↔ (if x = y then XE d 220 36 ls st h Q else XE d 220 33 ls st h Q) := g_ceq rfl
theorem s220_33 : XE d 220 33 ls st h Q ↔ XE d 220 35 ls (.int (-1000000012) :: st) h Q := g_const rfl
theorem s220_35 : XE d 220 35 ls [.int x] h Q ↔ Q (some (.int x)) h := g_iret rfl
theorem s220_36 : XE d 220 36 (c0 :: c1 :: .val (.int x) :: l) st h Q ↔ XE d 220 37 (c0 :: c1 :: .val (.int x) :: l) (.int x :: st) h Q := g_iload rfl rfl
theorem s220_37 : XE d 220 37 ls (.int x :: st) h Q ↔ (if x = 0 then XE d 220 40 ls st h Q else XE d 220 46 ls st h Q) := g_ifne rfl
theorem s220_40 : XE d 220 40 ls st h Q ↔ XE d 220 43 ls (.int (-1000000002) :: st) h Q := g_const rfl
theorem s220_43 : XE d 220 43 ls st h Q ↔ XE d 220 63 ls st h Q := g_goto rfl
theorem s220_46 : XE d 220 46 (c0 :: c1 :: .val (.int x) :: l) st h Q ↔ XE d 220 47 (c0 :: c1 :: .val (.int x) :: l) (.int x :: st) h Q := g_iload rfl rfl
theorem s220_47 : XE d 220 47 ls st h Q ↔ XE d 220 48 ls (.int (-1) :: st) h Q := g_const rfl
theorem s220_48 : XE d 220 48 ls (.int y :: .int x :: st) h Q ↔ (if x = y then XE d 220 51 ls st h Q else XE d 220 55 ls st h Q) := g_cne rfl
theorem s220_51 : XE d 220 51 ls st h Q ↔ XE d 220 52 ls (.int 0 :: st) h Q := g_const rfl
theorem s220_52 : XE d 220 52 ls st h Q ↔ XE d 220 63 ls st h Q := g_goto rfl
theorem s220_55 : XE d 220 55 (.val (.ref a) :: l) st h Q ↔ XE d 220 56 (.val (.ref a) :: l) (.ref a :: st) h Q := g_aload rfl rfl
theorem s220_56 : XE d 220 56 ls (.ref a :: st) h Q ↔ XG [12] 26 (h.2.2.1 a) (fun v => XE d 220 59 ls (v :: st) h Q) := g_getf rfl
theorem s220_59 : XE d 220 59 (c0 :: .val (.int x) :: l) st h Q ↔ XE d 220 60 (c0 :: .val (.int x) :: l) (.int x :: st) h Q := g_iload rfl rfl
theorem s220_60 : XE d 220 60 ls (.int x :: .ref a :: st) h Q ↔ XA [0, 7] (h.2.2.1 a) x (fun k => XE d 220 61 ls (.int k :: st) h Q) := g_ald rfl
theorem s220_61 : XE d 220 61 (c0 :: c1 :: .val (.int x) :: l) st h Q ↔ XE d 220 62 (c0 :: c1 :: .val (.int x) :: l) (.int x :: st) h Q := g_iload rfl rfl
theorem s220_62 : XE d 220 62 ls (.int y :: .int x :: st) h Q ↔ (y ≠ 0 ∧ XE d 220 63 ls (.int (x % y) :: st) h Q) := g_rem rfl
theorem s220_63 : XE d 220 63 ls [.int x] h Q ↔ Q (some (.int x)) h := g_iret rfl
-- 221: TwoBellsModel.tell(I)I
theorem e221 : XC (d + 1) 221 [.ref a, .int x] h Q ↔ XE d 221 0 [.val (.ref a), .val (.int x)] [] h Q := XC_in rfl
theorem s221_0 : XE d 221 0 (.val (.ref a) :: l) st h Q ↔ XE d 221 1 (.val (.ref a) :: l) (.ref a :: st) h Q := g_aload rfl rfl
theorem s221_1 : XE d 221 1 ls (.ref a :: st) h Q ↔ XG [12] 31 (h.2.2.1 a) (fun v => XE d 221 4 ls (v :: st) h Q) := g_getf rfl
theorem s221_4 : XE d 221 4 ls st h Q ↔ XE d 221 6 ls (.int 60 :: st) h Q := g_const rfl
theorem s221_6 : XE d 221 6 ls (.int y :: .int x :: st) h Q ↔ (if x = y then XE d 221 9 ls st h Q else XE d 221 12 ls st h Q) := g_cne rfl
theorem s221_9 : XE d 221 9 ls st h Q ↔ XE d 221 11 ls (.int (-1000000003) :: st) h Q := g_const rfl
theorem s221_11 : XE d 221 11 ls [.int x] h Q ↔ Q (some (.int x)) h := g_iret rfl
theorem s221_12 : XE d 221 12 (.val (.ref a) :: l) st h Q ↔ XE d 221 13 (.val (.ref a) :: l) (.ref a :: st) h Q := g_aload rfl rfl
theorem s221_13 : XE d 221 13 ls (.ref a :: st) h Q ↔ XG [12] 30 (h.2.2.1 a) (fun v => XE d 221 16 ls (v :: st) h Q) := g_getf rfl
theorem s221_16 : XE d 221 16 (.val (.ref a) :: l) st h Q ↔ XE d 221 17 (.val (.ref a) :: l) (.ref a :: st) h Q := g_aload rfl rfl
theorem s221_17 : XE d 221 17 ls (.ref a :: st) h Q ↔ XG [12] 31 (h.2.2.1 a) (fun v => XE d 221 20 ls (v :: st) h Q) := g_getf rfl
theorem s221_20 : XE d 221 20 (c0 :: .val (.int x) :: l) st h Q ↔ XE d 221 21 (c0 :: .val (.int x) :: l) (.int x :: st) h Q := g_iload rfl rfl
theorem s221_21 : XE d 221 21 ls (.int y :: .int x :: .ref a :: st) h Q ↔ XS 0 (h.2.2.1 a) x y (fun e => XE d 221 22 ls st (xset h a e) Q) := g_iast rfl
theorem s221_22 : XE d 221 22 (.val (.ref a) :: l) st h Q ↔ XE d 221 23 (.val (.ref a) :: l) (.ref a :: st) h Q := g_aload rfl rfl
theorem s221_23 : XE d 221 23 ls (.int x :: st) h Q ↔ XE d 221 24 ls (.int x :: .int x :: st) h Q := g_dupI rfl
theorem s221_23r : XE d 221 23 ls (.ref a :: st) h Q ↔ XE d 221 24 ls (.ref a :: .ref a :: st) h Q := g_dupR rfl
theorem s221_24 : XE d 221 24 ls (.ref a :: st) h Q ↔ XG [12] 31 (h.2.2.1 a) (fun v => XE d 221 27 ls (v :: st) h Q) := g_getf rfl
theorem s221_27 : XE d 221 27 ls st h Q ↔ XE d 221 28 ls (.int 1 :: st) h Q := g_const rfl
theorem s221_28 : XE d 221 28 ls (.int y :: .int x :: st) h Q ↔ XE d 221 29 ls (.int (x + y) :: st) h Q := g_add rfl
theorem s221_29 : XE d 221 29 ls (.int x :: .ref a :: st) h Q ↔ XP [12] 31 (.int x) (h.2.2.1 a) (fun e => XE d 221 32 ls st (xset h a e) Q) := g_puti rfl
theorem s221_32 : XE d 221 32 (.val (.ref a) :: l) st h Q ↔ XE d 221 33 (.val (.ref a) :: l) (.ref a :: st) h Q := g_aload rfl rfl
theorem s221_33 : XE d 221 33 ls (.ref a :: st) h Q ↔ XG [12] 31 (h.2.2.1 a) (fun v => XE d 221 36 ls (v :: st) h Q) := g_getf rfl
theorem s221_36 : XE d 221 36 ls [.int x] h Q ↔ Q (some (.int x)) h := g_iret rfl
-- 222: TwoBellsModel.check(I)I
theorem e222 : XC (d + 1) 222 [.ref a, .int x] h Q ↔ XE d 222 0 [.val (.ref a), .val (.int x), .unset, .unset, .unset] [] h Q := XC_in rfl
theorem s222_0 : XE d 222 0 (.val (.ref a) :: l) st h Q ↔ XE d 222 1 (.val (.ref a) :: l) (.ref a :: st) h Q := g_aload rfl rfl
theorem s222_1 : XE d 222 1 ls (.ref a :: st) h Q ↔ XG [12] 31 (h.2.2.1 a) (fun v => XE d 222 4 ls (v :: st) h Q) := g_getf rfl
theorem s222_4 : XE d 222 4 (c0 :: c1 :: c2 :: l) (.int x :: st) h Q ↔ XE d 222 5 (c0 :: c1 :: .val (.int x) :: l) st h Q := g_istore (Nat.lt_of_lt_of_le (show 2 < 3 by decide) (Nat.le_add_left 3 _)) rfl rfl
theorem s222_5 : XE d 222 5 (.val (.ref a) :: l) st h Q ↔ XE d 222 6 (.val (.ref a) :: l) (.ref a :: st) h Q := g_aload rfl rfl
theorem s222_6 : XE d 222 6 ls st h Q ↔ XE d 222 7 ls (.int 0 :: st) h Q := g_const rfl
theorem s222_7 : XE d 222 7 ls (.int x :: .ref a :: st) h Q ↔ XP [12] 31 (.int x) (h.2.2.1 a) (fun e => XE d 222 10 ls st (xset h a e) Q) := g_puti rfl
theorem s222_10 : XE d 222 10 (c0 :: .val (.int x) :: l) st h Q ↔ XE d 222 11 (c0 :: .val (.int x) :: l) (.int x :: st) h Q := g_iload rfl rfl
theorem s222_11 : XE d 222 11 ls st h Q ↔ XE d 222 12 ls (.int 1 :: st) h Q := g_const rfl
theorem s222_12 : XE d 222 12 ls st h Q ↔ XE d 222 14 ls (.int 30 :: st) h Q := g_const rfl
theorem s222_14 : XE d 222 14 ls (.int z :: .int y :: .int x :: st) h Q ↔ (xvo 8 st = true ∧ XC d 132 [.int x, .int y, .int z] h (fun v h' => XE d 222 17 ls (v.toList ++ st) h' Q)) := h_s3 rfl rfl
theorem s222_17 : XE d 222 17 ls (.int x :: st) h Q ↔ (if x = 0 then XE d 222 20 ls st h Q else XE d 222 23 ls st h Q) := g_ifne rfl
theorem s222_20 : XE d 222 20 ls st h Q ↔ XE d 222 22 ls (.int (-1000000001) :: st) h Q := g_const rfl
theorem s222_22 : XE d 222 22 ls [.int x] h Q ↔ Q (some (.int x)) h := g_iret rfl
theorem s222_23 : XE d 222 23 (.val (.ref a) :: l) st h Q ↔ XE d 222 24 (.val (.ref a) :: l) (.ref a :: st) h Q := g_aload rfl rfl
theorem s222_24 : XE d 222 24 ls (.ref a :: st) h Q ↔ XG [12] 3 (h.2.2.1 a) (fun v => XE d 222 27 ls (v :: st) h Q) := g_getf rfl
theorem s222_27 : XE d 222 27 ls (.int x :: st) h Q ↔ (if x = 0 then XE d 222 30 ls st h Q else XE d 222 34 ls st h Q) := g_ifne rfl
theorem s222_30 : XE d 222 30 ls st h Q ↔ XE d 222 33 ls (.int (-1000000002) :: st) h Q := g_const rfl
theorem s222_33 : XE d 222 33 ls [.int x] h Q ↔ Q (some (.int x)) h := g_iret rfl
theorem s222_34 : XE d 222 34 (.val (.ref a) :: l) st h Q ↔ XE d 222 35 (.val (.ref a) :: l) (.ref a :: st) h Q := g_aload rfl rfl
theorem s222_35 : XE d 222 35 ls (.ref a :: st) h Q ↔ XG [12] 0 (h.2.2.1 a) (fun v => XE d 222 38 ls (v :: st) h Q) := g_getf rfl
theorem s222_38 : XE d 222 38 (.val (.ref a) :: l) st h Q ↔ XE d 222 39 (.val (.ref a) :: l) (.ref a :: st) h Q := g_aload rfl rfl
theorem s222_39 : XE d 222 39 ls (.ref a :: st) h Q ↔ XG [12] 2 (h.2.2.1 a) (fun v => XE d 222 42 ls (v :: st) h Q) := g_getf rfl
theorem s222_42 : XE d 222 42 ls (.ref b :: .ref b :: st) h Q ↔ (xvo 8 st = true ∧ XC d 134 [.ref b, .ref b] h (fun v h' => XE d 222 45 ls (v.toList ++ st) h' Q)) := h_s2 rfl rfl
theorem s222_45 : XE d 222 45 (.val (.ref a) :: l) st h Q ↔ XE d 222 46 (.val (.ref a) :: l) (.ref a :: st) h Q := g_aload rfl rfl
theorem s222_46 : XE d 222 46 ls (.ref a :: st) h Q ↔ XG [12] 1 (h.2.2.1 a) (fun v => XE d 222 49 ls (v :: st) h Q) := g_getf rfl
theorem s222_49 : XE d 222 49 (.val (.ref a) :: l) st h Q ↔ XE d 222 50 (.val (.ref a) :: l) (.ref a :: st) h Q := g_aload rfl rfl
theorem s222_50 : XE d 222 50 ls (.ref a :: st) h Q ↔ XG [12] 0 (h.2.2.1 a) (fun v => XE d 222 53 ls (v :: st) h Q) := g_getf rfl
theorem s222_53 : XE d 222 53 ls (.ref b :: .ref b :: st) h Q ↔ (xvo 8 st = true ∧ XC d 134 [.ref b, .ref b] h (fun v h' => XE d 222 56 ls (v.toList ++ st) h' Q)) := h_s2 rfl rfl
theorem s222_56 : XE d 222 56 ls st h Q ↔ XE d 222 57 ls (.int 0 :: st) h Q := g_const rfl
theorem s222_57 : XE d 222 57 (c0 :: c1 :: c2 :: c3 :: l) (.int x :: st) h Q ↔ XE d 222 58 (c0 :: c1 :: c2 :: .val (.int x) :: l) st h Q := g_istore (Nat.lt_of_lt_of_le (show 3 < 4 by decide) (Nat.le_add_left 4 _)) rfl rfl
theorem s222_58 : XE d 222 58 ls st h Q ↔ XE d 222 59 ls (.int 0 :: st) h Q := g_const rfl
theorem s222_59 : XE d 222 59 (c0 :: c1 :: c2 :: c3 :: c4 :: l) (.int x :: st) h Q ↔ XE d 222 61 (c0 :: c1 :: c2 :: c3 :: .val (.int x) :: l) st h Q := g_istore (Nat.lt_of_lt_of_le (show 4 < 5 by decide) (Nat.le_add_left 5 _)) rfl rfl
theorem s222_61 : XE d 222 61 (c0 :: c1 :: c2 :: c3 :: .val (.int x) :: l) st h Q ↔ XE d 222 63 (c0 :: c1 :: c2 :: c3 :: .val (.int x) :: l) (.int x :: st) h Q := g_iload rfl rfl
theorem s222_63 : XE d 222 63 (c0 :: .val (.int x) :: l) st h Q ↔ XE d 222 64 (c0 :: .val (.int x) :: l) (.int x :: st) h Q := g_iload rfl rfl
theorem s222_64 : XE d 222 64 ls (.int y :: .int x :: st) h Q ↔ (if x < y then XE d 222 67 ls st h Q else XE d 222 151 ls st h Q) := g_cge rfl
theorem s222_67 : XE d 222 67 (c0 :: c1 :: c2 :: .val (.int x) :: l) st h Q ↔ XE d 222 68 (c0 :: c1 :: c2 :: .val (.int x) :: l) (.int x :: st) h Q := g_iload rfl rfl
theorem s222_68 : XE d 222 68 ls st h Q ↔ XE d 222 69 ls (.int 2 :: st) h Q := g_const rfl
theorem s222_69 : XE d 222 69 (c0 :: c1 :: c2 :: c3 :: .val (.int x) :: l) st h Q ↔ XE d 222 71 (c0 :: c1 :: c2 :: c3 :: .val (.int x) :: l) (.int x :: st) h Q := g_iload rfl rfl
theorem s222_71 : XE d 222 71 ls (.int y :: .int x :: st) h Q ↔ XE d 222 72 ls (.int (x * y) :: st) h Q := g_mul rfl
theorem s222_72 : XE d 222 72 ls (.int y :: .int x :: st) h Q ↔ (if x = y then XE d 222 75 ls st h Q else XE d 222 151 ls st h Q) := g_cne rfl
theorem s222_75 : XE d 222 75 (.val (.ref a) :: l) st h Q ↔ XE d 222 76 (.val (.ref a) :: l) (.ref a :: st) h Q := g_aload rfl rfl
theorem s222_76 : XE d 222 76 ls (.ref a :: st) h Q ↔ (xvo 8 st = true ∧ XV [(12, 176)] (h.2.2.1 a) (fun m' => XC d m' [.ref a] h (fun v h' => XE d 222 79 ls (v.toList ++ st) h' Q))) := h_v0 rfl
theorem s222_79 : XE d 222 79 (c0 :: c1 :: c2 :: .val (.int x) :: l) st h Q ↔ XE d 222 80 (c0 :: c1 :: c2 :: .val (.int x) :: l) (.int x :: st) h Q := g_iload rfl rfl
theorem s222_80 : XE d 222 80 (c0 :: c1 :: c2 :: .val (.int x) :: l) st h Q ↔ XE d 222 81 (c0 :: c1 :: c2 :: .val (.int x) :: l) (.int x :: st) h Q := g_iload rfl rfl
theorem s222_81 : XE d 222 81 (c0 :: c1 :: .val (.int x) :: l) st h Q ↔ XE d 222 82 (c0 :: c1 :: .val (.int x) :: l) (.int x :: st) h Q := g_iload rfl rfl
theorem s222_82 : XE d 222 82 ls (.int y :: .int x :: st) h Q ↔ (if x < y then XE d 222 85 ls st h Q else XE d 222 104 ls st h Q) := g_cge rfl
theorem s222_85 : XE d 222 85 (.val (.ref a) :: l) st h Q ↔ XE d 222 86 (.val (.ref a) :: l) (.ref a :: st) h Q := g_aload rfl rfl
theorem s222_86 : XE d 222 86 ls (.ref a :: st) h Q ↔ XG [12] 30 (h.2.2.1 a) (fun v => XE d 222 89 ls (v :: st) h Q) := g_getf rfl
theorem s222_89 : XE d 222 89 (c0 :: c1 :: c2 :: .val (.int x) :: l) st h Q ↔ XE d 222 90 (c0 :: c1 :: c2 :: .val (.int x) :: l) (.int x :: st) h Q := g_iload rfl rfl
theorem s222_90 : XE d 222 90 ls (.int x :: .ref a :: st) h Q ↔ XA [0, 7] (h.2.2.1 a) x (fun k => XE d 222 91 ls (.int k :: st) h Q) := g_ald rfl
theorem s222_91 : XE d 222 91 (.val (.ref a) :: l) st h Q ↔ XE d 222 92 (.val (.ref a) :: l) (.ref a :: st) h Q := g_aload rfl rfl
theorem s222_92 : XE d 222 92 ls (.ref a :: st) h Q ↔ XG [12] 0 (h.2.2.1 a) (fun v => XE d 222 95 ls (v :: st) h Q) := g_getf rfl
theorem s222_95 : XE d 222 95 ls st h Q ↔ XE d 222 96 ls (.int 4 :: st) h Q := g_const rfl
theorem s222_96 : XE d 222 96 ls (.int x :: .ref a :: st) h Q ↔ XA [0, 7] (h.2.2.1 a) x (fun k => XE d 222 97 ls (.int k :: st) h Q) := g_ald rfl
theorem s222_97 : XE d 222 97 ls (.int y :: .int x :: st) h Q ↔ (if x = y then XE d 222 100 ls st h Q else XE d 222 104 ls st h Q) := g_cne rfl
theorem s222_100 : XE d 222 100 ls st h Q ↔ XE d 222 101 ls (.int 1 :: st) h Q := g_const rfl
theorem s222_101 : XE d 222 101 ls st h Q ↔ XE d 222 105 ls st h Q := g_goto rfl
theorem s222_104 : XE d 222 104 ls st h Q ↔ XE d 222 105 ls (.int 0 :: st) h Q := g_const rfl
theorem s222_105 : XE d 222 105 ls (.int y :: .int x :: st) h Q ↔ XE d 222 106 ls (.int (x + y) :: st) h Q := g_add rfl
theorem s222_106 : XE d 222 106 (c0 :: c1 :: c2 :: c3 :: l) (.int x :: st) h Q ↔ XE d 222 107 (c0 :: c1 :: c2 :: .val (.int x) :: l) st h Q := g_istore (Nat.lt_of_lt_of_le (show 3 < 4 by decide) (Nat.le_add_left 4 _)) rfl rfl
theorem s222_107 : XE d 222 107 (c0 :: c1 :: c2 :: .val (.int x) :: l) st h Q ↔ XE d 222 108 (c0 :: c1 :: c2 :: .val (.int x) :: l) (.int x :: st) h Q := g_iload rfl rfl
theorem s222_108 : XE d 222 108 (c0 :: c1 :: c2 :: .val (.int x) :: l) st h Q ↔ XE d 222 109 (c0 :: c1 :: c2 :: .val (.int x) :: l) (.int x :: st) h Q := g_iload rfl rfl
theorem s222_109 : XE d 222 109 ls st h Q ↔ XE d 222 110 ls (.int 2 :: st) h Q := g_const rfl
theorem s222_110 : XE d 222 110 (c0 :: c1 :: c2 :: c3 :: .val (.int x) :: l) st h Q ↔ XE d 222 112 (c0 :: c1 :: c2 :: c3 :: .val (.int x) :: l) (.int x :: st) h Q := g_iload rfl rfl
theorem s222_112 : XE d 222 112 ls (.int y :: .int x :: st) h Q ↔ XE d 222 113 ls (.int (x * y) :: st) h Q := g_mul rfl
theorem s222_113 : XE d 222 113 ls st h Q ↔ XE d 222 114 ls (.int 1 :: st) h Q := g_const rfl
theorem s222_114 : XE d 222 114 ls (.int y :: .int x :: st) h Q ↔ XE d 222 115 ls (.int (x + y) :: st) h Q := g_add rfl
theorem s222_115 : XE d 222 115 ls (.int y :: .int x :: st) h Q ↔ (if x = y then XE d 222 118 ls st h Q else XE d 222 142 ls st h Q) := g_cne rfl
theorem s222_118 : XE d 222 118 (c0 :: c1 :: c2 :: .val (.int x) :: l) st h Q ↔ XE d 222 119 (c0 :: c1 :: c2 :: .val (.int x) :: l) (.int x :: st) h Q := g_iload rfl rfl
theorem s222_119 : XE d 222 119 (c0 :: c1 :: .val (.int x) :: l) st h Q ↔ XE d 222 120 (c0 :: c1 :: .val (.int x) :: l) (.int x :: st) h Q := g_iload rfl rfl
theorem s222_120 : XE d 222 120 ls (.int y :: .int x :: st) h Q ↔ (if x < y then XE d 222 123 ls st h Q else XE d 222 142 ls st h Q) := g_cge rfl
theorem s222_123 : XE d 222 123 (.val (.ref a) :: l) st h Q ↔ XE d 222 124 (.val (.ref a) :: l) (.ref a :: st) h Q := g_aload rfl rfl
theorem s222_124 : XE d 222 124 ls (.ref a :: st) h Q ↔ XG [12] 30 (h.2.2.1 a) (fun v => XE d 222 127 ls (v :: st) h Q) := g_getf rfl
theorem s222_127 : XE d 222 127 (c0 :: c1 :: c2 :: .val (.int x) :: l) st h Q ↔ XE d 222 128 (c0 :: c1 :: c2 :: .val (.int x) :: l) (.int x :: st) h Q := g_iload rfl rfl
theorem s222_128 : XE d 222 128 ls (.int x :: .ref a :: st) h Q ↔ XA [0, 7] (h.2.2.1 a) x (fun k => XE d 222 129 ls (.int k :: st) h Q) := g_ald rfl
theorem s222_129 : XE d 222 129 (.val (.ref a) :: l) st h Q ↔ XE d 222 130 (.val (.ref a) :: l) (.ref a :: st) h Q := g_aload rfl rfl
theorem s222_130 : XE d 222 130 ls (.ref a :: st) h Q ↔ XG [12] 0 (h.2.2.1 a) (fun v => XE d 222 133 ls (v :: st) h Q) := g_getf rfl
theorem s222_133 : XE d 222 133 ls st h Q ↔ XE d 222 134 ls (.int 5 :: st) h Q := g_const rfl
theorem s222_134 : XE d 222 134 ls (.int x :: .ref a :: st) h Q ↔ XA [0, 7] (h.2.2.1 a) x (fun k => XE d 222 135 ls (.int k :: st) h Q) := g_ald rfl
theorem s222_135 : XE d 222 135 ls (.int y :: .int x :: st) h Q ↔ (if x = y then XE d 222 138 ls st h Q else XE d 222 142 ls st h Q) := g_cne rfl
theorem s222_138 : XE d 222 138 ls st h Q ↔ XE d 222 139 ls (.int 1 :: st) h Q := g_const rfl
theorem s222_139 : XE d 222 139 ls st h Q ↔ XE d 222 143 ls st h Q := g_goto rfl
theorem s222_142 : XE d 222 142 ls st h Q ↔ XE d 222 143 ls (.int 0 :: st) h Q := g_const rfl
theorem s222_143 : XE d 222 143 ls (.int y :: .int x :: st) h Q ↔ XE d 222 144 ls (.int (x + y) :: st) h Q := g_add rfl
theorem s222_144 : XE d 222 144 (c0 :: c1 :: c2 :: c3 :: l) (.int x :: st) h Q ↔ XE d 222 145 (c0 :: c1 :: c2 :: .val (.int x) :: l) st h Q := g_istore (Nat.lt_of_lt_of_le (show 3 < 4 by decide) (Nat.le_add_left 4 _)) rfl rfl
theorem s222_145 : XE d 222 145 (c0 :: c1 :: c2 :: c3 :: .val (.int x) :: l) st h Q ↔ XE d 222 148 (c0 :: c1 :: c2 :: c3 :: .val (.int (x + 1)) :: l) st h Q := g_iinc rfl rfl rfl
theorem s222_148 : XE d 222 148 ls st h Q ↔ XE d 222 61 ls st h Q := g_goto rfl
theorem s222_151 : XE d 222 151 (.val (.ref a) :: l) st h Q ↔ XE d 222 152 (.val (.ref a) :: l) (.ref a :: st) h Q := g_aload rfl rfl
theorem s222_152 : XE d 222 152 ls (.ref a :: st) h Q ↔ XG [12] 2 (h.2.2.1 a) (fun v => XE d 222 155 ls (v :: st) h Q) := g_getf rfl
theorem s222_155 : XE d 222 155 (.val (.ref a) :: l) st h Q ↔ XE d 222 156 (.val (.ref a) :: l) (.ref a :: st) h Q := g_aload rfl rfl
theorem s222_156 : XE d 222 156 ls (.ref a :: st) h Q ↔ XG [12] 0 (h.2.2.1 a) (fun v => XE d 222 159 ls (v :: st) h Q) := g_getf rfl
theorem s222_159 : XE d 222 159 ls (.ref b :: .ref b :: st) h Q ↔ (xvo 8 st = true ∧ XC d 134 [.ref b, .ref b] h (fun v h' => XE d 222 162 ls (v.toList ++ st) h' Q)) := h_s2 rfl rfl
theorem s222_162 : XE d 222 162 (c0 :: c1 :: c2 :: .val (.int x) :: l) st h Q ↔ XE d 222 163 (c0 :: c1 :: c2 :: .val (.int x) :: l) (.int x :: st) h Q := g_iload rfl rfl
theorem s222_163 : XE d 222 163 (c0 :: c1 :: .val (.int x) :: l) st h Q ↔ XE d 222 164 (c0 :: c1 :: .val (.int x) :: l) (.int x :: st) h Q := g_iload rfl rfl
theorem s222_164 : XE d 222 164 ls (.int y :: .int x :: st) h Q ↔ (if x = y then XE d 222 167 ls st h Q else XE d 222 178 ls st h Q) := g_cne rfl
theorem s222_167 : XE d 222 167 (c0 :: c1 :: c2 :: .val (.int x) :: l) st h Q ↔ XE d 222 168 (c0 :: c1 :: c2 :: .val (.int x) :: l) (.int x :: st) h Q := g_iload rfl rfl
theorem s222_168 : XE d 222 168 ls st h Q ↔ XE d 222 169 ls (.int 2 :: st) h Q := g_const rfl
theorem s222_169 : XE d 222 169 (c0 :: .val (.int x) :: l) st h Q ↔ XE d 222 170 (c0 :: .val (.int x) :: l) (.int x :: st) h Q := g_iload rfl rfl
theorem s222_170 : XE d 222 170 ls (.int y :: .int x :: st) h Q ↔ XE d 222 171 ls (.int (x * y) :: st) h Q := g_mul rfl
theorem s222_171 : XE d 222 171 ls (.int y :: .int x :: st) h Q ↔ (if x = y then XE d 222 174 ls st h Q else XE d 222 178 ls st h Q) := g_cne rfl
theorem s222_174 : XE d 222 174 ls st h Q ↔ XE d 222 175 ls (.int 0 :: st) h Q := g_const rfl
theorem s222_175 : XE d 222 175 ls st h Q ↔ XE d 222 181 ls st h Q := g_goto rfl
theorem s222_178 : XE d 222 178 ls st h Q ↔ XE d 222 179 ls (.int 1 :: st) h Q := g_const rfl
theorem s222_179 : XE d 222 179 (c0 :: c1 :: c2 :: .val (.int x) :: l) st h Q ↔ XE d 222 180 (c0 :: c1 :: c2 :: .val (.int x) :: l) (.int x :: st) h Q := g_iload rfl rfl
theorem s222_180 : XE d 222 180 ls (.int y :: .int x :: st) h Q ↔ XE d 222 181 ls (.int (x + y) :: st) h Q := g_add rfl
theorem s222_181 : XE d 222 181 ls [.int x] h Q ↔ Q (some (.int x)) h := g_iret rfl
-- 223: TwoBellsModel.keep()I
theorem e223 : XC (d + 1) 223 [.ref a] h Q ↔ XE d 223 0 [.val (.ref a)] [] h Q := XC_in rfl
theorem s223_0 : XE d 223 0 (.val (.ref a) :: l) st h Q ↔ XE d 223 1 (.val (.ref a) :: l) (.ref a :: st) h Q := g_aload rfl rfl
theorem s223_1 : XE d 223 1 ls (.ref a :: st) h Q ↔ XG [12] 0 (h.2.2.1 a) (fun v => XE d 223 4 ls (v :: st) h Q) := g_getf rfl
theorem s223_4 : XE d 223 4 (.val (.ref a) :: l) st h Q ↔ XE d 223 5 (.val (.ref a) :: l) (.ref a :: st) h Q := g_aload rfl rfl
theorem s223_5 : XE d 223 5 ls (.ref a :: st) h Q ↔ XG [12] 1 (h.2.2.1 a) (fun v => XE d 223 8 ls (v :: st) h Q) := g_getf rfl
theorem s223_8 : XE d 223 8 ls (.ref b :: .ref b :: st) h Q ↔ (xvo 8 st = true ∧ XC d 134 [.ref b, .ref b] h (fun v h' => XE d 223 11 ls (v.toList ++ st) h' Q)) := h_s2 rfl rfl
theorem s223_11 : XE d 223 11 (.val (.ref a) :: l) st h Q ↔ XE d 223 12 (.val (.ref a) :: l) (.ref a :: st) h Q := g_aload rfl rfl
theorem s223_12 : XE d 223 12 ls st h Q ↔ XE d 223 13 ls (.int 1 :: st) h Q := g_const rfl
theorem s223_13 : XE d 223 13 ls (.int x :: .ref a :: st) h Q ↔ ((x = 0 ∨ x = 1) ∧ XP [12] 3 (.int x) (h.2.2.1 a) (fun e => XE d 223 16 ls st (xset h a e) Q)) := g_putz rfl
theorem s223_16 : XE d 223 16 (.val (.ref a) :: l) st h Q ↔ XE d 223 17 (.val (.ref a) :: l) (.ref a :: st) h Q := g_aload rfl rfl
theorem s223_17 : XE d 223 17 ls (.ref a :: st) h Q ↔ XG [12] 0 (h.2.2.1 a) (fun v => XE d 223 20 ls (v :: st) h Q) := g_getf rfl
theorem s223_20 : XE d 223 20 ls st h Q ↔ XE d 223 21 ls (.int 2 :: st) h Q := g_const rfl
theorem s223_21 : XE d 223 21 ls (.int x :: .ref a :: st) h Q ↔ XA [0, 7] (h.2.2.1 a) x (fun k => XE d 223 22 ls (.int k :: st) h Q) := g_ald rfl
theorem s223_22 : XE d 223 22 ls [.int x] h Q ↔ Q (some (.int x)) h := g_iret rfl
-- 224: TwoBellsModel.back()I
theorem e224 : XC (d + 1) 224 [.ref a] h Q ↔ XE d 224 0 [.val (.ref a)] [] h Q := XC_in rfl
theorem s224_0 : XE d 224 0 (.val (.ref a) :: l) st h Q ↔ XE d 224 1 (.val (.ref a) :: l) (.ref a :: st) h Q := g_aload rfl rfl
theorem s224_1 : XE d 224 1 ls (.ref a :: st) h Q ↔ XG [12] 3 (h.2.2.1 a) (fun v => XE d 224 4 ls (v :: st) h Q) := g_getf rfl
theorem s224_4 : XE d 224 4 ls (.int x :: st) h Q ↔ (if x = 0 then XE d 224 7 ls st h Q else XE d 224 11 ls st h Q) := g_ifne rfl
theorem s224_7 : XE d 224 7 ls st h Q ↔ XE d 224 10 ls (.int (-1000000002) :: st) h Q := g_const rfl
theorem s224_10 : XE d 224 10 ls [.int x] h Q ↔ Q (some (.int x)) h := g_iret rfl
theorem s224_11 : XE d 224 11 (.val (.ref a) :: l) st h Q ↔ XE d 224 12 (.val (.ref a) :: l) (.ref a :: st) h Q := g_aload rfl rfl
theorem s224_12 : XE d 224 12 ls (.ref a :: st) h Q ↔ XG [12] 1 (h.2.2.1 a) (fun v => XE d 224 15 ls (v :: st) h Q) := g_getf rfl
theorem s224_15 : XE d 224 15 (.val (.ref a) :: l) st h Q ↔ XE d 224 16 (.val (.ref a) :: l) (.ref a :: st) h Q := g_aload rfl rfl
theorem s224_16 : XE d 224 16 ls (.ref a :: st) h Q ↔ XG [12] 0 (h.2.2.1 a) (fun v => XE d 224 19 ls (v :: st) h Q) := g_getf rfl
theorem s224_19 : XE d 224 19 ls (.ref b :: .ref b :: st) h Q ↔ (xvo 8 st = true ∧ XC d 134 [.ref b, .ref b] h (fun v h' => XE d 224 22 ls (v.toList ++ st) h' Q)) := h_s2 rfl rfl
theorem s224_22 : XE d 224 22 (.val (.ref a) :: l) st h Q ↔ XE d 224 23 (.val (.ref a) :: l) (.ref a :: st) h Q := g_aload rfl rfl
theorem s224_23 : XE d 224 23 ls (.ref a :: st) h Q ↔ XG [12] 0 (h.2.2.1 a) (fun v => XE d 224 26 ls (v :: st) h Q) := g_getf rfl
theorem s224_26 : XE d 224 26 ls st h Q ↔ XE d 224 27 ls (.int 2 :: st) h Q := g_const rfl
theorem s224_27 : XE d 224 27 ls (.int x :: .ref a :: st) h Q ↔ XA [0, 7] (h.2.2.1 a) x (fun k => XE d 224 28 ls (.int k :: st) h Q) := g_ald rfl
theorem s224_28 : XE d 224 28 ls [.int x] h Q ↔ Q (some (.int x)) h := g_iret rfl
-- 225: TwoBellsModel.count(I)I
theorem e225 : XC (d + 1) 225 [.ref a, .int x] h Q ↔ XE d 225 0 [.val (.ref a), .val (.int x)] [] h Q := XC_in rfl
theorem s225_0 : XE d 225 0 (c0 :: .val (.int x) :: l) st h Q ↔ XE d 225 1 (c0 :: .val (.int x) :: l) (.int x :: st) h Q := g_iload rfl rfl
theorem s225_1 : XE d 225 1 ls (.int x :: st) h Q ↔ xswi d 225 x 124 ls st h Q [(0, 56), (1, 63), (2, 70), (3, 77), (4, 84), (5, 91), (6, 99), (7, 107), (8, 112), (9, 117)] := g_switch rfl
theorem s225_56 : XE d 225 56 (.val (.ref a) :: l) st h Q ↔ XE d 225 57 (.val (.ref a) :: l) (.ref a :: st) h Q := g_aload rfl rfl
theorem s225_57 : XE d 225 57 ls (.ref a :: st) h Q ↔ XG [12] 0 (h.2.2.1 a) (fun v => XE d 225 60 ls (v :: st) h Q) := g_getf rfl
theorem s225_60 : XE d 225 60 ls st h Q ↔ XE d 225 61 ls (.int 1 :: st) h Q := g_const rfl
theorem s225_61 : XE d 225 61 ls (.int x :: .ref a :: st) h Q ↔ XA [0, 7] (h.2.2.1 a) x (fun k => XE d 225 62 ls (.int k :: st) h Q) := g_ald rfl
theorem s225_62 : XE d 225 62 ls [.int x] h Q ↔ Q (some (.int x)) h := g_iret rfl
theorem s225_63 : XE d 225 63 (.val (.ref a) :: l) st h Q ↔ XE d 225 64 (.val (.ref a) :: l) (.ref a :: st) h Q := g_aload rfl rfl
theorem s225_64 : XE d 225 64 ls (.ref a :: st) h Q ↔ XG [12] 0 (h.2.2.1 a) (fun v => XE d 225 67 ls (v :: st) h Q) := g_getf rfl
theorem s225_67 : XE d 225 67 ls st h Q ↔ XE d 225 68 ls (.int 2 :: st) h Q := g_const rfl
theorem s225_68 : XE d 225 68 ls (.int x :: .ref a :: st) h Q ↔ XA [0, 7] (h.2.2.1 a) x (fun k => XE d 225 69 ls (.int k :: st) h Q) := g_ald rfl
theorem s225_69 : XE d 225 69 ls [.int x] h Q ↔ Q (some (.int x)) h := g_iret rfl
theorem s225_70 : XE d 225 70 (.val (.ref a) :: l) st h Q ↔ XE d 225 71 (.val (.ref a) :: l) (.ref a :: st) h Q := g_aload rfl rfl
theorem s225_71 : XE d 225 71 ls (.ref a :: st) h Q ↔ XG [12] 0 (h.2.2.1 a) (fun v => XE d 225 74 ls (v :: st) h Q) := g_getf rfl
theorem s225_74 : XE d 225 74 ls st h Q ↔ XE d 225 75 ls (.int 3 :: st) h Q := g_const rfl
theorem s225_75 : XE d 225 75 ls (.int x :: .ref a :: st) h Q ↔ XA [0, 7] (h.2.2.1 a) x (fun k => XE d 225 76 ls (.int k :: st) h Q) := g_ald rfl
theorem s225_76 : XE d 225 76 ls [.int x] h Q ↔ Q (some (.int x)) h := g_iret rfl
theorem s225_77 : XE d 225 77 (.val (.ref a) :: l) st h Q ↔ XE d 225 78 (.val (.ref a) :: l) (.ref a :: st) h Q := g_aload rfl rfl
theorem s225_78 : XE d 225 78 ls (.ref a :: st) h Q ↔ XG [12] 0 (h.2.2.1 a) (fun v => XE d 225 81 ls (v :: st) h Q) := g_getf rfl
theorem s225_81 : XE d 225 81 ls st h Q ↔ XE d 225 82 ls (.int 4 :: st) h Q := g_const rfl
theorem s225_82 : XE d 225 82 ls (.int x :: .ref a :: st) h Q ↔ XA [0, 7] (h.2.2.1 a) x (fun k => XE d 225 83 ls (.int k :: st) h Q) := g_ald rfl
theorem s225_83 : XE d 225 83 ls [.int x] h Q ↔ Q (some (.int x)) h := g_iret rfl
theorem s225_84 : XE d 225 84 (.val (.ref a) :: l) st h Q ↔ XE d 225 85 (.val (.ref a) :: l) (.ref a :: st) h Q := g_aload rfl rfl
theorem s225_85 : XE d 225 85 ls (.ref a :: st) h Q ↔ XG [12] 0 (h.2.2.1 a) (fun v => XE d 225 88 ls (v :: st) h Q) := g_getf rfl
theorem s225_88 : XE d 225 88 ls st h Q ↔ XE d 225 89 ls (.int 5 :: st) h Q := g_const rfl
theorem s225_89 : XE d 225 89 ls (.int x :: .ref a :: st) h Q ↔ XA [0, 7] (h.2.2.1 a) x (fun k => XE d 225 90 ls (.int k :: st) h Q) := g_ald rfl
theorem s225_90 : XE d 225 90 ls [.int x] h Q ↔ Q (some (.int x)) h := g_iret rfl
theorem s225_91 : XE d 225 91 (.val (.ref a) :: l) st h Q ↔ XE d 225 92 (.val (.ref a) :: l) (.ref a :: st) h Q := g_aload rfl rfl
theorem s225_92 : XE d 225 92 ls (.ref a :: st) h Q ↔ XG [12] 0 (h.2.2.1 a) (fun v => XE d 225 95 ls (v :: st) h Q) := g_getf rfl
theorem s225_95 : XE d 225 95 ls st h Q ↔ XE d 225 97 ls (.int 6 :: st) h Q := g_const rfl
theorem s225_97 : XE d 225 97 ls (.int x :: .ref a :: st) h Q ↔ XA [0, 7] (h.2.2.1 a) x (fun k => XE d 225 98 ls (.int k :: st) h Q) := g_ald rfl
theorem s225_98 : XE d 225 98 ls [.int x] h Q ↔ Q (some (.int x)) h := g_iret rfl
theorem s225_99 : XE d 225 99 (.val (.ref a) :: l) st h Q ↔ XE d 225 100 (.val (.ref a) :: l) (.ref a :: st) h Q := g_aload rfl rfl
theorem s225_100 : XE d 225 100 ls (.ref a :: st) h Q ↔ XG [12] 0 (h.2.2.1 a) (fun v => XE d 225 103 ls (v :: st) h Q) := g_getf rfl
theorem s225_103 : XE d 225 103 ls st h Q ↔ XE d 225 105 ls (.int 7 :: st) h Q := g_const rfl
theorem s225_105 : XE d 225 105 ls (.int x :: .ref a :: st) h Q ↔ XA [0, 7] (h.2.2.1 a) x (fun k => XE d 225 106 ls (.int k :: st) h Q) := g_ald rfl
theorem s225_106 : XE d 225 106 ls [.int x] h Q ↔ Q (some (.int x)) h := g_iret rfl
theorem s225_107 : XE d 225 107 (.val (.ref a) :: l) st h Q ↔ XE d 225 108 (.val (.ref a) :: l) (.ref a :: st) h Q := g_aload rfl rfl
theorem s225_108 : XE d 225 108 ls (.ref a :: st) h Q ↔ XG [12] 31 (h.2.2.1 a) (fun v => XE d 225 111 ls (v :: st) h Q) := g_getf rfl
theorem s225_111 : XE d 225 111 ls [.int x] h Q ↔ Q (some (.int x)) h := g_iret rfl
theorem s225_112 : XE d 225 112 (.val (.ref a) :: l) st h Q ↔ XE d 225 113 (.val (.ref a) :: l) (.ref a :: st) h Q := g_aload rfl rfl
theorem s225_113 : XE d 225 113 ls (.ref a :: st) h Q ↔ XG [12] 5 (h.2.2.1 a) (fun v => XE d 225 116 ls (v :: st) h Q) := g_getf rfl
theorem s225_116 : XE d 225 116 ls [.int x] h Q ↔ Q (some (.int x)) h := g_iret rfl
theorem s225_117 : XE d 225 117 (.val (.ref a) :: l) st h Q ↔ XE d 225 118 (.val (.ref a) :: l) (.ref a :: st) h Q := g_aload rfl rfl
theorem s225_118 : XE d 225 118 ls (.ref a :: st) h Q ↔ XG [12] 0 (h.2.2.1 a) (fun v => XE d 225 121 ls (v :: st) h Q) := g_getf rfl
theorem s225_121 : XE d 225 121 ls st h Q ↔ XE d 225 122 ls (.int 0 :: st) h Q := g_const rfl
theorem s225_122 : XE d 225 122 ls (.int x :: .ref a :: st) h Q ↔ XA [0, 7] (h.2.2.1 a) x (fun k => XE d 225 123 ls (.int k :: st) h Q) := g_ald rfl
theorem s225_123 : XE d 225 123 ls [.int x] h Q ↔ Q (some (.int x)) h := g_iret rfl
theorem s225_124 : XE d 225 124 ls st h Q ↔ XE d 225 126 ls (.int (-1000000001) :: st) h Q := g_const rfl
theorem s225_126 : XE d 225 126 ls [.int x] h Q ↔ Q (some (.int x)) h := g_iret rfl
-- 226: java/lang/Integer.bitCount(I)I
theorem e226 : XC (d + 1) 226 [.int x] h Q ↔ XE d 226 0 [.val (.int x)] [] h Q := XC_in rfl
theorem s226_0 : XE d 226 0 (.val (.int x) :: l) st h Q ↔ XE d 226 1 (.val (.int x) :: l) (.int x :: st) h Q := g_iload rfl rfl
theorem s226_1 : XE d 226 1 (.val (.int x) :: l) st h Q ↔ XE d 226 2 (.val (.int x) :: l) (.int x :: st) h Q := g_iload rfl rfl
theorem s226_2 : XE d 226 2 ls st h Q ↔ XE d 226 3 ls (.int 1 :: st) h Q := g_const rfl
theorem s226_3 : XE d 226 3 ls (.int y :: .int x :: st) h Q ↔ XE d 226 4 ls (.int (xushr x y) :: st) h Q := g_ushr rfl
theorem s226_4 : XE d 226 4 ls st h Q ↔ XE d 226 7 ls (.int 1431655765 :: st) h Q := g_const rfl
theorem s226_7 : XE d 226 7 ls (.int y :: .int x :: st) h Q ↔ XE d 226 8 ls (.int (x &&& y) :: st) h Q := g_and rfl
theorem s226_8 : XE d 226 8 ls (.int y :: .int x :: st) h Q ↔ XE d 226 9 ls (.int (x - y) :: st) h Q := g_sub rfl
theorem s226_9 : XE d 226 9 (c0 :: l) (.int x :: st) h Q ↔ XE d 226 10 (.val (.int x) :: l) st h Q := g_istore (Nat.lt_of_lt_of_le (show 0 < 1 by decide) (Nat.le_add_left 1 _)) rfl rfl
theorem s226_10 : XE d 226 10 (.val (.int x) :: l) st h Q ↔ XE d 226 11 (.val (.int x) :: l) (.int x :: st) h Q := g_iload rfl rfl
theorem s226_11 : XE d 226 11 ls st h Q ↔ XE d 226 14 ls (.int 858993459 :: st) h Q := g_const rfl
theorem s226_14 : XE d 226 14 ls (.int y :: .int x :: st) h Q ↔ XE d 226 15 ls (.int (x &&& y) :: st) h Q := g_and rfl
theorem s226_15 : XE d 226 15 (.val (.int x) :: l) st h Q ↔ XE d 226 16 (.val (.int x) :: l) (.int x :: st) h Q := g_iload rfl rfl
theorem s226_16 : XE d 226 16 ls st h Q ↔ XE d 226 17 ls (.int 2 :: st) h Q := g_const rfl
theorem s226_17 : XE d 226 17 ls (.int y :: .int x :: st) h Q ↔ XE d 226 18 ls (.int (xushr x y) :: st) h Q := g_ushr rfl
theorem s226_18 : XE d 226 18 ls st h Q ↔ XE d 226 21 ls (.int 858993459 :: st) h Q := g_const rfl
theorem s226_21 : XE d 226 21 ls (.int y :: .int x :: st) h Q ↔ XE d 226 22 ls (.int (x &&& y) :: st) h Q := g_and rfl
theorem s226_22 : XE d 226 22 ls (.int y :: .int x :: st) h Q ↔ XE d 226 23 ls (.int (x + y) :: st) h Q := g_add rfl
theorem s226_23 : XE d 226 23 (c0 :: l) (.int x :: st) h Q ↔ XE d 226 24 (.val (.int x) :: l) st h Q := g_istore (Nat.lt_of_lt_of_le (show 0 < 1 by decide) (Nat.le_add_left 1 _)) rfl rfl
theorem s226_24 : XE d 226 24 (.val (.int x) :: l) st h Q ↔ XE d 226 25 (.val (.int x) :: l) (.int x :: st) h Q := g_iload rfl rfl
theorem s226_25 : XE d 226 25 (.val (.int x) :: l) st h Q ↔ XE d 226 26 (.val (.int x) :: l) (.int x :: st) h Q := g_iload rfl rfl
theorem s226_26 : XE d 226 26 ls st h Q ↔ XE d 226 27 ls (.int 4 :: st) h Q := g_const rfl
theorem s226_27 : XE d 226 27 ls (.int y :: .int x :: st) h Q ↔ XE d 226 28 ls (.int (xushr x y) :: st) h Q := g_ushr rfl
theorem s226_28 : XE d 226 28 ls (.int y :: .int x :: st) h Q ↔ XE d 226 29 ls (.int (x + y) :: st) h Q := g_add rfl
theorem s226_29 : XE d 226 29 ls st h Q ↔ XE d 226 32 ls (.int 252645135 :: st) h Q := g_const rfl
theorem s226_32 : XE d 226 32 ls (.int y :: .int x :: st) h Q ↔ XE d 226 33 ls (.int (x &&& y) :: st) h Q := g_and rfl
theorem s226_33 : XE d 226 33 (c0 :: l) (.int x :: st) h Q ↔ XE d 226 34 (.val (.int x) :: l) st h Q := g_istore (Nat.lt_of_lt_of_le (show 0 < 1 by decide) (Nat.le_add_left 1 _)) rfl rfl
theorem s226_34 : XE d 226 34 (.val (.int x) :: l) st h Q ↔ XE d 226 35 (.val (.int x) :: l) (.int x :: st) h Q := g_iload rfl rfl
theorem s226_35 : XE d 226 35 (.val (.int x) :: l) st h Q ↔ XE d 226 36 (.val (.int x) :: l) (.int x :: st) h Q := g_iload rfl rfl
theorem s226_36 : XE d 226 36 ls st h Q ↔ XE d 226 38 ls (.int 8 :: st) h Q := g_const rfl
theorem s226_38 : XE d 226 38 ls (.int y :: .int x :: st) h Q ↔ XE d 226 39 ls (.int (xushr x y) :: st) h Q := g_ushr rfl
theorem s226_39 : XE d 226 39 ls (.int y :: .int x :: st) h Q ↔ XE d 226 40 ls (.int (x + y) :: st) h Q := g_add rfl
theorem s226_40 : XE d 226 40 (c0 :: l) (.int x :: st) h Q ↔ XE d 226 41 (.val (.int x) :: l) st h Q := g_istore (Nat.lt_of_lt_of_le (show 0 < 1 by decide) (Nat.le_add_left 1 _)) rfl rfl
theorem s226_41 : XE d 226 41 (.val (.int x) :: l) st h Q ↔ XE d 226 42 (.val (.int x) :: l) (.int x :: st) h Q := g_iload rfl rfl
theorem s226_42 : XE d 226 42 (.val (.int x) :: l) st h Q ↔ XE d 226 43 (.val (.int x) :: l) (.int x :: st) h Q := g_iload rfl rfl
theorem s226_43 : XE d 226 43 ls st h Q ↔ XE d 226 45 ls (.int 16 :: st) h Q := g_const rfl
theorem s226_45 : XE d 226 45 ls (.int y :: .int x :: st) h Q ↔ XE d 226 46 ls (.int (xushr x y) :: st) h Q := g_ushr rfl
theorem s226_46 : XE d 226 46 ls (.int y :: .int x :: st) h Q ↔ XE d 226 47 ls (.int (x + y) :: st) h Q := g_add rfl
theorem s226_47 : XE d 226 47 (c0 :: l) (.int x :: st) h Q ↔ XE d 226 48 (.val (.int x) :: l) st h Q := g_istore (Nat.lt_of_lt_of_le (show 0 < 1 by decide) (Nat.le_add_left 1 _)) rfl rfl
theorem s226_48 : XE d 226 48 (.val (.int x) :: l) st h Q ↔ XE d 226 49 (.val (.int x) :: l) (.int x :: st) h Q := g_iload rfl rfl
theorem s226_49 : XE d 226 49 ls st h Q ↔ XE d 226 51 ls (.int 63 :: st) h Q := g_const rfl
theorem s226_51 : XE d 226 51 ls (.int y :: .int x :: st) h Q ↔ XE d 226 52 ls (.int (x &&& y) :: st) h Q := g_and rfl
theorem s226_52 : XE d 226 52 ls [.int x] h Q ↔ Q (some (.int x)) h := g_iret rfl
-- 229: java/lang/String.length()I
theorem e229 : XC (d + 1) 229 [.ref a] h Q ↔ XE d 229 0 [.val (.ref a)] [] h Q := XC_in rfl
theorem s229_0 : XE d 229 0 (.val (.ref a) :: l) st h Q ↔ XE d 229 1 (.val (.ref a) :: l) (.ref a :: st) h Q := g_aload rfl rfl
theorem s229_1 : XE d 229 1 ls (.ref a :: st) h Q ↔ (h.2.2.2 (100 + 3 * a) = .int 20 ∧ XE d 229 4 ls (h.2.2.2 (101 + 3 * a) :: st) h Q) := g_getS rfl
theorem s229_4 : XE d 229 4 ls (.ref a :: st) h Q ↔ XL (h.2.2.1 a) (fun k => XE d 229 5 ls (.int k :: st) h Q) := g_alen rfl
theorem s229_5 : XE d 229 5 (.val (.ref a) :: l) st h Q ↔ XE d 229 6 (.val (.ref a) :: l) (.ref a :: st) h Q := g_aload rfl rfl
theorem s229_6 : XE d 229 6 ls (.ref a :: st) h Q ↔ (xvo 8 st = true ∧ h.2.2.2 (100 + 3 * a) = .int 20 ∧ XC d 233 [.ref a] h (fun v h' => XE d 229 9 ls (v.toList ++ st) h' Q)) := h_w0 rfl
theorem s229_9 : XE d 229 9 ls (.int y :: .int x :: st) h Q ↔ XE d 229 10 ls (.int (xshr x y) :: st) h Q := g_shr rfl
theorem s229_10 : XE d 229 10 ls [.int x] h Q ↔ Q (some (.int x)) h := g_iret rfl
-- 230: java/lang/String.charAt(I)C
theorem e230 : XC (d + 1) 230 [.ref a, .int x] h Q ↔ XE d 230 0 [.val (.ref a), .val (.int x)] [] h Q := XC_in rfl
theorem s230_0 : XE d 230 0 (.val (.ref a) :: l) st h Q ↔ XE d 230 1 (.val (.ref a) :: l) (.ref a :: st) h Q := g_aload rfl rfl
theorem s230_1 : XE d 230 1 ls (.ref a :: st) h Q ↔ (xvo 8 st = true ∧ h.2.2.2 (100 + 3 * a) = .int 20 ∧ XC d 234 [.ref a] h (fun v h' => XE d 230 4 ls (v.toList ++ st) h' Q)) := h_w0 rfl
theorem s230_4 : XE d 230 4 ls (.int x :: st) h Q ↔ (if x = 0 then XE d 230 16 ls st h Q else XE d 230 7 ls st h Q) := g_ifeq rfl
theorem s230_7 : XE d 230 7 (.val (.ref a) :: l) st h Q ↔ XE d 230 8 (.val (.ref a) :: l) (.ref a :: st) h Q := g_aload rfl rfl
theorem s230_8 : XE d 230 8 ls (.ref a :: st) h Q ↔ (h.2.2.2 (100 + 3 * a) = .int 20 ∧ XE d 230 11 ls (h.2.2.2 (101 + 3 * a) :: st) h Q) := g_getS rfl
theorem s230_11 : XE d 230 11 (c0 :: .val (.int x) :: l) st h Q ↔ XE d 230 12 (c0 :: .val (.int x) :: l) (.int x :: st) h Q := g_iload rfl rfl
theorem s230_12 : XE d 230 12 ls (.int x :: .ref b :: st) h Q ↔ (xvo 8 st = true ∧ XC d 236 [.ref b, .int x] h (fun v h' => XE d 230 15 ls (v.toList ++ st) h' Q)) := h_s2 rfl rfl
theorem s230_15 (hn : narrow .char (.int x) = .int x) : XE d 230 15 ls [.int x] h Q ↔ Q (some (.int x)) h := g_zret hn rfl
theorem s230_16 : XE d 230 16 (.val (.ref a) :: l) st h Q ↔ XE d 230 17 (.val (.ref a) :: l) (.ref a :: st) h Q := g_aload rfl rfl
theorem s230_17 : XE d 230 17 ls (.ref a :: st) h Q ↔ (h.2.2.2 (100 + 3 * a) = .int 20 ∧ XE d 230 20 ls (h.2.2.2 (101 + 3 * a) :: st) h Q) := g_getS rfl
theorem s230_20 : XE d 230 20 (c0 :: .val (.int x) :: l) st h Q ↔ XE d 230 21 (c0 :: .val (.int x) :: l) (.int x :: st) h Q := g_iload rfl rfl
theorem s230_24 (hn : narrow .char (.int x) = .int x) : XE d 230 24 ls [.int x] h Q ↔ Q (some (.int x)) h := g_zret hn rfl
-- 231: java/lang/String.indexOf(I)I
theorem e231 : XC (d + 1) 231 [.ref a, .int x] h Q ↔ XE d 231 0 [.val (.ref a), .val (.int x)] [] h Q := XC_in rfl
theorem s231_0 : XE d 231 0 (.val (.ref a) :: l) st h Q ↔ XE d 231 1 (.val (.ref a) :: l) (.ref a :: st) h Q := g_aload rfl rfl
theorem s231_1 : XE d 231 1 (c0 :: .val (.int x) :: l) st h Q ↔ XE d 231 2 (c0 :: .val (.int x) :: l) (.int x :: st) h Q := g_iload rfl rfl
theorem s231_2 : XE d 231 2 ls st h Q ↔ XE d 231 3 ls (.int 0 :: st) h Q := g_const rfl
theorem s231_3 : XE d 231 3 ls (.int y :: .int x :: .ref a :: st) h Q ↔ (xvo 8 st = true ∧ h.2.2.2 (100 + 3 * a) = .int 20 ∧ XC d 232 [.ref a, .int x, .int y] h (fun v h' => XE d 231 6 ls (v.toList ++ st) h' Q)) := h_w2 rfl rfl
theorem s231_6 : XE d 231 6 ls [.int x] h Q ↔ Q (some (.int x)) h := g_iret rfl
-- 232: java/lang/String.indexOf(II)I
theorem e232 : XC (d + 1) 232 [.ref a, .int x, .int y] h Q ↔ XE d 232 0 [.val (.ref a), .val (.int x), .val (.int y)] [] h Q := XC_in rfl
theorem s232_0 : XE d 232 0 (.val (.ref a) :: l) st h Q ↔ XE d 232 1 (.val (.ref a) :: l) (.ref a :: st) h Q := g_aload rfl rfl
theorem s232_1 : XE d 232 1 ls (.ref a :: st) h Q ↔ (xvo 8 st = true ∧ h.2.2.2 (100 + 3 * a) = .int 20 ∧ XC d 234 [.ref a] h (fun v h' => XE d 232 4 ls (v.toList ++ st) h' Q)) := h_w0 rfl
theorem s232_4 : XE d 232 4 ls (.int x :: st) h Q ↔ (if x = 0 then XE d 232 23 ls st h Q else XE d 232 7 ls st h Q) := g_ifeq rfl
theorem s232_7 : XE d 232 7 (.val (.ref a) :: l) st h Q ↔ XE d 232 8 (.val (.ref a) :: l) (.ref a :: st) h Q := g_aload rfl rfl
theorem s232_8 : XE d 232 8 ls (.ref a :: st) h Q ↔ (h.2.2.2 (100 + 3 * a) = .int 20 ∧ XE d 232 11 ls (h.2.2.2 (101 + 3 * a) :: st) h Q) := g_getS rfl
theorem s232_11 : XE d 232 11 (c0 :: .val (.int x) :: l) st h Q ↔ XE d 232 12 (c0 :: .val (.int x) :: l) (.int x :: st) h Q := g_iload rfl rfl
theorem s232_12 : XE d 232 12 (c0 :: c1 :: .val (.int x) :: l) st h Q ↔ XE d 232 13 (c0 :: c1 :: .val (.int x) :: l) (.int x :: st) h Q := g_iload rfl rfl
theorem s232_13 : XE d 232 13 (.val (.ref a) :: l) st h Q ↔ XE d 232 14 (.val (.ref a) :: l) (.ref a :: st) h Q := g_aload rfl rfl
theorem s232_14 : XE d 232 14 ls (.ref a :: st) h Q ↔ (xvo 8 st = true ∧ h.2.2.2 (100 + 3 * a) = .int 20 ∧ XC d 229 [.ref a] h (fun v h' => XE d 232 17 ls (v.toList ++ st) h' Q)) := h_w0 rfl
theorem s232_17 : XE d 232 17 ls (.int z :: .int y :: .int x :: .ref b :: st) h Q ↔ (xvo 8 st = true ∧ XC d 238 [.ref b, .int x, .int y, .int z] h (fun v h' => XE d 232 20 ls (v.toList ++ st) h' Q)) := h_s4 rfl rfl
theorem s232_20 : XE d 232 20 ls st h Q ↔ XE d 232 36 ls st h Q := g_goto rfl
theorem s232_23 : XE d 232 23 (.val (.ref a) :: l) st h Q ↔ XE d 232 24 (.val (.ref a) :: l) (.ref a :: st) h Q := g_aload rfl rfl
theorem s232_24 : XE d 232 24 ls (.ref a :: st) h Q ↔ (h.2.2.2 (100 + 3 * a) = .int 20 ∧ XE d 232 27 ls (h.2.2.2 (101 + 3 * a) :: st) h Q) := g_getS rfl
theorem s232_27 : XE d 232 27 (c0 :: .val (.int x) :: l) st h Q ↔ XE d 232 28 (c0 :: .val (.int x) :: l) (.int x :: st) h Q := g_iload rfl rfl
theorem s232_28 : XE d 232 28 (c0 :: c1 :: .val (.int x) :: l) st h Q ↔ XE d 232 29 (c0 :: c1 :: .val (.int x) :: l) (.int x :: st) h Q := g_iload rfl rfl
theorem s232_29 : XE d 232 29 (.val (.ref a) :: l) st h Q ↔ XE d 232 30 (.val (.ref a) :: l) (.ref a :: st) h Q := g_aload rfl rfl
theorem s232_30 : XE d 232 30 ls (.ref a :: st) h Q ↔ (xvo 8 st = true ∧ h.2.2.2 (100 + 3 * a) = .int 20 ∧ XC d 229 [.ref a] h (fun v h' => XE d 232 33 ls (v.toList ++ st) h' Q)) := h_w0 rfl
theorem s232_36 : XE d 232 36 ls [.int x] h Q ↔ Q (some (.int x)) h := g_iret rfl
-- 233: java/lang/String.coder()B
theorem e233 : XC (d + 1) 233 [.ref a] h Q ↔ XE d 233 0 [.val (.ref a)] [] h Q := XC_in rfl
theorem s233_0 : XE d 233 0 ls st h Q ↔ XE d 233 3 ls (h.2.2.2 7 :: st) h Q := g_gets rfl
theorem s233_3 : XE d 233 3 ls (.int x :: st) h Q ↔ (if x = 0 then XE d 233 13 ls st h Q else XE d 233 6 ls st h Q) := g_ifeq rfl
theorem s233_6 : XE d 233 6 (.val (.ref a) :: l) st h Q ↔ XE d 233 7 (.val (.ref a) :: l) (.ref a :: st) h Q := g_aload rfl rfl
theorem s233_7 : XE d 233 7 ls (.ref a :: st) h Q ↔ (h.2.2.2 (100 + 3 * a) = .int 20 ∧ XE d 233 10 ls (h.2.2.2 (102 + 3 * a) :: st) h Q) := g_getS rfl
theorem s233_10 : XE d 233 10 ls st h Q ↔ XE d 233 14 ls st h Q := g_goto rfl
theorem s233_13 : XE d 233 13 ls st h Q ↔ XE d 233 14 ls (.int 1 :: st) h Q := g_const rfl
theorem s233_14 (hn : narrow .byte (.int x) = .int x) : XE d 233 14 ls [.int x] h Q ↔ Q (some (.int x)) h := g_zret hn rfl
-- 234: java/lang/String.isLatin1()Z
theorem e234 : XC (d + 1) 234 [.ref a] h Q ↔ XE d 234 0 [.val (.ref a)] [] h Q := XC_in rfl
theorem s234_0 : XE d 234 0 ls st h Q ↔ XE d 234 3 ls (h.2.2.2 7 :: st) h Q := g_gets rfl
theorem s234_3 : XE d 234 3 ls (.int x :: st) h Q ↔ (if x = 0 then XE d 234 17 ls st h Q else XE d 234 6 ls st h Q) := g_ifeq rfl
theorem s234_6 : XE d 234 6 (.val (.ref a) :: l) st h Q ↔ XE d 234 7 (.val (.ref a) :: l) (.ref a :: st) h Q := g_aload rfl rfl
theorem s234_7 : XE d 234 7 ls (.ref a :: st) h Q ↔ (h.2.2.2 (100 + 3 * a) = .int 20 ∧ XE d 234 10 ls (h.2.2.2 (102 + 3 * a) :: st) h Q) := g_getS rfl
theorem s234_10 : XE d 234 10 ls (.int x :: st) h Q ↔ (if x = 0 then XE d 234 13 ls st h Q else XE d 234 17 ls st h Q) := g_ifne rfl
theorem s234_13 : XE d 234 13 ls st h Q ↔ XE d 234 14 ls (.int 1 :: st) h Q := g_const rfl
theorem s234_14 : XE d 234 14 ls st h Q ↔ XE d 234 18 ls st h Q := g_goto rfl
theorem s234_17 : XE d 234 17 ls st h Q ↔ XE d 234 18 ls (.int 0 :: st) h Q := g_const rfl
theorem s234_18 : XE d 234 18 ls [.int 0] h Q ↔ Q (some (.int 0)) h := g_zret rfl rfl
theorem s234_18t : XE d 234 18 ls [.int 1] h Q ↔ Q (some (.int 1)) h := g_zret rfl rfl
theorem s234_18b : XE d 234 18 ls [.int (bI q)] h Q ↔ Q (some (.int (bI q))) h := g_zret (bI_nar q) rfl
-- 235: java/lang/String.checkIndex(II)V
theorem e235 : XC (d + 1) 235 [.int x, .int y] h Q ↔ XE d 235 0 [.val (.int x), .val (.int y)] [] h Q := XC_in rfl
theorem s235_0 : XE d 235 0 (.val (.int x) :: l) st h Q ↔ XE d 235 1 (.val (.int x) :: l) (.int x :: st) h Q := g_iload rfl rfl
theorem s235_1 : XE d 235 1 (c0 :: .val (.int x) :: l) st h Q ↔ XE d 235 2 (c0 :: .val (.int x) :: l) (.int x :: st) h Q := g_iload rfl rfl
theorem s235_2 : XE d 235 2 ls st h Q ↔ XE d 235 5 ls (h.2.2.2 0 :: st) h Q := g_gets rfl
theorem s235_5 (hv : xv1 v = true) : XE d 235 5 ls (v :: .int y :: .int x :: st) h Q ↔ (xvo 8 st = true ∧ XC d 242 [.int x, .int y, v] h (fun v h' => XE d 235 8 ls (v.toList ++ st) h' Q)) := h_s3 (by show (true && (true && (xv1 v && true))) = true; rw [hv]; rfl) rfl
theorem s235_8 : XE d 235 8 ls (.int x :: st) h Q ↔ XE d 235 9 ls st h Q := g_popI rfl
theorem s235_9 : XE d 235 9 ls [] h Q ↔ Q none h := g_ret rfl
-- 236: java/lang/StringLatin1.charAt([BI)C
theorem e236 : XC (d + 1) 236 [.ref b, .int x] h Q ↔ XE d 236 0 [.val (.ref b), .val (.int x)] [] h Q := XC_in rfl
theorem s236_0 : XE d 236 0 (c0 :: .val (.int x) :: l) st h Q ↔ XE d 236 1 (c0 :: .val (.int x) :: l) (.int x :: st) h Q := g_iload rfl rfl
theorem s236_1 : XE d 236 1 (.val (.ref a) :: l) st h Q ↔ XE d 236 2 (.val (.ref a) :: l) (.ref a :: st) h Q := g_aload rfl rfl
theorem s236_2 : XE d 236 2 ls (.ref a :: st) h Q ↔ XL (h.2.2.1 a) (fun k => XE d 236 3 ls (.int k :: st) h Q) := g_alen rfl
theorem s236_3 : XE d 236 3 ls (.int y :: .int x :: st) h Q ↔ (xvo 8 st = true ∧ XC d 235 [.int x, .int y] h (fun v h' => XE d 236 6 ls (v.toList ++ st) h' Q)) := h_s2 rfl rfl
theorem s236_6 : XE d 236 6 (.val (.ref a) :: l) st h Q ↔ XE d 236 7 (.val (.ref a) :: l) (.ref a :: st) h Q := g_aload rfl rfl
theorem s236_7 : XE d 236 7 (c0 :: .val (.int x) :: l) st h Q ↔ XE d 236 8 (c0 :: .val (.int x) :: l) (.int x :: st) h Q := g_iload rfl rfl
theorem s236_8 : XE d 236 8 ls (.int x :: .ref a :: st) h Q ↔ XA [1, 8] (h.2.2.1 a) x (fun k => XE d 236 9 ls (.int k :: st) h Q) := g_ald rfl
theorem s236_9 : XE d 236 9 ls st h Q ↔ XE d 236 12 ls (.int 255 :: st) h Q := g_const rfl
theorem s236_12 : XE d 236 12 ls (.int y :: .int x :: st) h Q ↔ XE d 236 13 ls (.int (x &&& y) :: st) h Q := g_and rfl
theorem s236_13 : XE d 236 13 ls (.int x :: st) h Q ↔ XE d 236 14 ls (.int (x.toUInt32 % 65536).toInt32 :: st) h Q := g_i2c rfl
theorem s236_14 (hn : narrow .char (.int x) = .int x) : XE d 236 14 ls [.int x] h Q ↔ Q (some (.int x)) h := g_zret hn rfl
-- 237: java/lang/StringLatin1.canEncode(I)Z
theorem e237 : XC (d + 1) 237 [.int x] h Q ↔ XE d 237 0 [.val (.int x)] [] h Q := XC_in rfl
theorem s237_0 : XE d 237 0 (.val (.int x) :: l) st h Q ↔ XE d 237 1 (.val (.int x) :: l) (.int x :: st) h Q := g_iload rfl rfl
theorem s237_1 : XE d 237 1 ls (.int x :: st) h Q ↔ (if x < 0 then XE d 237 15 ls st h Q else XE d 237 4 ls st h Q) := g_iflt rfl
theorem s237_4 : XE d 237 4 (.val (.int x) :: l) st h Q ↔ XE d 237 5 (.val (.int x) :: l) (.int x :: st) h Q := g_iload rfl rfl
theorem s237_5 : XE d 237 5 ls st h Q ↔ XE d 237 8 ls (.int 255 :: st) h Q := g_const rfl
theorem s237_8 : XE d 237 8 ls (.int y :: .int x :: st) h Q ↔ (if y < x then XE d 237 15 ls st h Q else XE d 237 11 ls st h Q) := g_cgt rfl
theorem s237_11 : XE d 237 11 ls st h Q ↔ XE d 237 12 ls (.int 1 :: st) h Q := g_const rfl
theorem s237_12 : XE d 237 12 ls st h Q ↔ XE d 237 16 ls st h Q := g_goto rfl
theorem s237_15 : XE d 237 15 ls st h Q ↔ XE d 237 16 ls (.int 0 :: st) h Q := g_const rfl
theorem s237_16 : XE d 237 16 ls [.int 0] h Q ↔ Q (some (.int 0)) h := g_zret rfl rfl
theorem s237_16t : XE d 237 16 ls [.int 1] h Q ↔ Q (some (.int 1)) h := g_zret rfl rfl
theorem s237_16b : XE d 237 16 ls [.int (bI q)] h Q ↔ Q (some (.int (bI q))) h := g_zret (bI_nar q) rfl
-- 238: java/lang/StringLatin1.indexOf([BIII)I
theorem e238 : XC (d + 1) 238 [.ref b, .int x, .int y, .int z] h Q ↔ XE d 238 0 [.val (.ref b), .val (.int x), .val (.int y), .val (.int z)] [] h Q := XC_in rfl
theorem s238_0 : XE d 238 0 (c0 :: .val (.int x) :: l) st h Q ↔ XE d 238 1 (c0 :: .val (.int x) :: l) (.int x :: st) h Q := g_iload rfl rfl
theorem s238_1 : XE d 238 1 ls (.int x :: st) h Q ↔ (xvo 8 st = true ∧ XC d 237 [.int x] h (fun v h' => XE d 238 4 ls (v.toList ++ st) h' Q)) := h_s1 rfl rfl
theorem s238_4 : XE d 238 4 ls (.int x :: st) h Q ↔ (if x = 0 then XE d 238 7 ls st h Q else XE d 238 9 ls st h Q) := g_ifne rfl
theorem s238_7 : XE d 238 7 ls st h Q ↔ XE d 238 8 ls (.int (-1) :: st) h Q := g_const rfl
theorem s238_8 : XE d 238 8 ls [.int x] h Q ↔ Q (some (.int x)) h := g_iret rfl
theorem s238_9 : XE d 238 9 (c0 :: c1 :: .val (.int x) :: l) st h Q ↔ XE d 238 10 (c0 :: c1 :: .val (.int x) :: l) (.int x :: st) h Q := g_iload rfl rfl
theorem s238_10 : XE d 238 10 ls st h Q ↔ XE d 238 11 ls (.int 0 :: st) h Q := g_const rfl
theorem s238_11 : XE d 238 11 ls (.int y :: .int x :: st) h Q ↔ (xvo 8 st = true ∧ XE d 238 14 ls (.int (if x < y then y else x) :: st) h Q) := h_max rfl
theorem s238_14 : XE d 238 14 (c0 :: c1 :: c2 :: l) (.int x :: st) h Q ↔ XE d 238 15 (c0 :: c1 :: .val (.int x) :: l) st h Q := g_istore (Nat.lt_of_lt_of_le (show 2 < 3 by decide) (Nat.le_add_left 3 _)) rfl rfl
theorem s238_15 : XE d 238 15 (c0 :: c1 :: c2 :: .val (.int x) :: l) st h Q ↔ XE d 238 16 (c0 :: c1 :: c2 :: .val (.int x) :: l) (.int x :: st) h Q := g_iload rfl rfl
theorem s238_16 : XE d 238 16 (.val (.ref a) :: l) st h Q ↔ XE d 238 17 (.val (.ref a) :: l) (.ref a :: st) h Q := g_aload rfl rfl
theorem s238_17 : XE d 238 17 ls (.ref a :: st) h Q ↔ XL (h.2.2.1 a) (fun k => XE d 238 18 ls (.int k :: st) h Q) := g_alen rfl
theorem s238_18 : XE d 238 18 ls (.int y :: .int x :: st) h Q ↔ (xvo 8 st = true ∧ XE d 238 21 ls (.int (if y < x then y else x) :: st) h Q) := h_min rfl
theorem s238_21 : XE d 238 21 (c0 :: c1 :: c2 :: c3 :: l) (.int x :: st) h Q ↔ XE d 238 22 (c0 :: c1 :: c2 :: .val (.int x) :: l) st h Q := g_istore (Nat.lt_of_lt_of_le (show 3 < 4 by decide) (Nat.le_add_left 4 _)) rfl rfl
theorem s238_22 : XE d 238 22 (c0 :: c1 :: .val (.int x) :: l) st h Q ↔ XE d 238 23 (c0 :: c1 :: .val (.int x) :: l) (.int x :: st) h Q := g_iload rfl rfl
theorem s238_23 : XE d 238 23 (c0 :: c1 :: c2 :: .val (.int x) :: l) st h Q ↔ XE d 238 24 (c0 :: c1 :: c2 :: .val (.int x) :: l) (.int x :: st) h Q := g_iload rfl rfl
theorem s238_24 : XE d 238 24 ls (.int y :: .int x :: st) h Q ↔ (if x < y then XE d 238 29 ls st h Q else XE d 238 27 ls st h Q) := g_clt rfl
theorem s238_27 : XE d 238 27 ls st h Q ↔ XE d 238 28 ls (.int (-1) :: st) h Q := g_const rfl
theorem s238_28 : XE d 238 28 ls [.int x] h Q ↔ Q (some (.int x)) h := g_iret rfl
theorem s238_29 : XE d 238 29 (.val (.ref a) :: l) st h Q ↔ XE d 238 30 (.val (.ref a) :: l) (.ref a :: st) h Q := g_aload rfl rfl
theorem s238_30 : XE d 238 30 (c0 :: .val (.int x) :: l) st h Q ↔ XE d 238 31 (c0 :: .val (.int x) :: l) (.int x :: st) h Q := g_iload rfl rfl
theorem s238_31 : XE d 238 31 (c0 :: c1 :: .val (.int x) :: l) st h Q ↔ XE d 238 32 (c0 :: c1 :: .val (.int x) :: l) (.int x :: st) h Q := g_iload rfl rfl
theorem s238_32 : XE d 238 32 (c0 :: c1 :: c2 :: .val (.int x) :: l) st h Q ↔ XE d 238 33 (c0 :: c1 :: c2 :: .val (.int x) :: l) (.int x :: st) h Q := g_iload rfl rfl
theorem s238_33 : XE d 238 33 ls (.int z :: .int y :: .int x :: .ref b :: st) h Q ↔ (xvo 8 st = true ∧ XC d 239 [.ref b, .int x, .int y, .int z] h (fun v h' => XE d 238 36 ls (v.toList ++ st) h' Q)) := h_s4 rfl rfl
theorem s238_36 : XE d 238 36 ls [.int x] h Q ↔ Q (some (.int x)) h := g_iret rfl
-- 239: java/lang/StringLatin1.indexOfChar([BIII)I
theorem e239 : XC (d + 1) 239 [.ref b, .int x, .int y, .int z] h Q ↔ XE d 239 0 [.val (.ref b), .val (.int x), .val (.int y), .val (.int z), .unset, .unset] [] h Q := XC_in rfl
theorem s239_0 : XE d 239 0 (c0 :: .val (.int x) :: l) st h Q ↔ XE d 239 1 (c0 :: .val (.int x) :: l) (.int x :: st) h Q := g_iload rfl rfl
theorem s239_1 : XE d 239 1 ls (.int x :: st) h Q ↔ XE d 239 2 ls (.int x.toInt8.toInt32 :: st) h Q := g_i2b rfl
theorem s239_2 : XE d 239 2 (c0 :: c1 :: c2 :: c3 :: c4 :: l) (.int x :: st) h Q ↔ XE d 239 4 (c0 :: c1 :: c2 :: c3 :: .val (.int x) :: l) st h Q := g_istore (Nat.lt_of_lt_of_le (show 4 < 5 by decide) (Nat.le_add_left 5 _)) rfl rfl
theorem s239_4 : XE d 239 4 (c0 :: c1 :: .val (.int x) :: l) st h Q ↔ XE d 239 5 (c0 :: c1 :: .val (.int x) :: l) (.int x :: st) h Q := g_iload rfl rfl
theorem s239_5 : XE d 239 5 (c0 :: c1 :: c2 :: c3 :: c4 :: c5 :: l) (.int x :: st) h Q ↔ XE d 239 7 (c0 :: c1 :: c2 :: c3 :: c4 :: .val (.int x) :: l) st h Q := g_istore (Nat.lt_of_lt_of_le (show 5 < 6 by decide) (Nat.le_add_left 6 _)) rfl rfl
theorem s239_7 : XE d 239 7 (c0 :: c1 :: c2 :: c3 :: c4 :: .val (.int x) :: l) st h Q ↔ XE d 239 9 (c0 :: c1 :: c2 :: c3 :: c4 :: .val (.int x) :: l) (.int x :: st) h Q := g_iload rfl rfl
theorem s239_9 : XE d 239 9 (c0 :: c1 :: c2 :: .val (.int x) :: l) st h Q ↔ XE d 239 10 (c0 :: c1 :: c2 :: .val (.int x) :: l) (.int x :: st) h Q := g_iload rfl rfl
theorem s239_10 : XE d 239 10 ls (.int y :: .int x :: st) h Q ↔ (if x < y then XE d 239 13 ls st h Q else XE d 239 31 ls st h Q) := g_cge rfl
theorem s239_13 : XE d 239 13 (.val (.ref a) :: l) st h Q ↔ XE d 239 14 (.val (.ref a) :: l) (.ref a :: st) h Q := g_aload rfl rfl
theorem s239_14 : XE d 239 14 (c0 :: c1 :: c2 :: c3 :: c4 :: .val (.int x) :: l) st h Q ↔ XE d 239 16 (c0 :: c1 :: c2 :: c3 :: c4 :: .val (.int x) :: l) (.int x :: st) h Q := g_iload rfl rfl
theorem s239_16 : XE d 239 16 ls (.int x :: .ref a :: st) h Q ↔ XA [1, 8] (h.2.2.1 a) x (fun k => XE d 239 17 ls (.int k :: st) h Q) := g_ald rfl
theorem s239_17 : XE d 239 17 (c0 :: c1 :: c2 :: c3 :: .val (.int x) :: l) st h Q ↔ XE d 239 19 (c0 :: c1 :: c2 :: c3 :: .val (.int x) :: l) (.int x :: st) h Q := g_iload rfl rfl
theorem s239_19 : XE d 239 19 ls (.int y :: .int x :: st) h Q ↔ (if x = y then XE d 239 22 ls st h Q else XE d 239 25 ls st h Q) := g_cne rfl
theorem s239_22 : XE d 239 22 (c0 :: c1 :: c2 :: c3 :: c4 :: .val (.int x) :: l) st h Q ↔ XE d 239 24 (c0 :: c1 :: c2 :: c3 :: c4 :: .val (.int x) :: l) (.int x :: st) h Q := g_iload rfl rfl
theorem s239_24 : XE d 239 24 ls [.int x] h Q ↔ Q (some (.int x)) h := g_iret rfl
theorem s239_25 : XE d 239 25 (c0 :: c1 :: c2 :: c3 :: c4 :: .val (.int x) :: l) st h Q ↔ XE d 239 28 (c0 :: c1 :: c2 :: c3 :: c4 :: .val (.int (x + 1)) :: l) st h Q := g_iinc rfl rfl rfl
theorem s239_28 : XE d 239 28 ls st h Q ↔ XE d 239 7 ls st h Q := g_goto rfl
theorem s239_31 : XE d 239 31 ls st h Q ↔ XE d 239 32 ls (.int (-1) :: st) h Q := g_const rfl
theorem s239_32 : XE d 239 32 ls [.int x] h Q ↔ Q (some (.int x)) h := g_iret rfl
-- 240: java/util/Arrays.fill([II)V
theorem e240 : XC (d + 1) 240 [.ref b, .int x] h Q ↔ XE d 240 0 [.val (.ref b), .val (.int x), .unset, .unset] [] h Q := XC_in rfl
theorem s240_0 : XE d 240 0 ls st h Q ↔ XE d 240 1 ls (.int 0 :: st) h Q := g_const rfl
theorem s240_1 : XE d 240 1 (c0 :: c1 :: c2 :: l) (.int x :: st) h Q ↔ XE d 240 2 (c0 :: c1 :: .val (.int x) :: l) st h Q := g_istore (Nat.lt_of_lt_of_le (show 2 < 3 by decide) (Nat.le_add_left 3 _)) rfl rfl
theorem s240_2 : XE d 240 2 (.val (.ref a) :: l) st h Q ↔ XE d 240 3 (.val (.ref a) :: l) (.ref a :: st) h Q := g_aload rfl rfl
theorem s240_3 : XE d 240 3 ls (.ref a :: st) h Q ↔ XL (h.2.2.1 a) (fun k => XE d 240 4 ls (.int k :: st) h Q) := g_alen rfl
theorem s240_4 : XE d 240 4 (c0 :: c1 :: c2 :: c3 :: l) (.int x :: st) h Q ↔ XE d 240 5 (c0 :: c1 :: c2 :: .val (.int x) :: l) st h Q := g_istore (Nat.lt_of_lt_of_le (show 3 < 4 by decide) (Nat.le_add_left 4 _)) rfl rfl
theorem s240_5 : XE d 240 5 (c0 :: c1 :: .val (.int x) :: l) st h Q ↔ XE d 240 6 (c0 :: c1 :: .val (.int x) :: l) (.int x :: st) h Q := g_iload rfl rfl
theorem s240_6 : XE d 240 6 (c0 :: c1 :: c2 :: .val (.int x) :: l) st h Q ↔ XE d 240 7 (c0 :: c1 :: c2 :: .val (.int x) :: l) (.int x :: st) h Q := g_iload rfl rfl
theorem s240_7 : XE d 240 7 ls (.int y :: .int x :: st) h Q ↔ (if x < y then XE d 240 10 ls st h Q else XE d 240 20 ls st h Q) := g_cge rfl
theorem s240_10 : XE d 240 10 (.val (.ref a) :: l) st h Q ↔ XE d 240 11 (.val (.ref a) :: l) (.ref a :: st) h Q := g_aload rfl rfl
theorem s240_11 : XE d 240 11 (c0 :: c1 :: .val (.int x) :: l) st h Q ↔ XE d 240 12 (c0 :: c1 :: .val (.int x) :: l) (.int x :: st) h Q := g_iload rfl rfl
theorem s240_12 : XE d 240 12 (c0 :: .val (.int x) :: l) st h Q ↔ XE d 240 13 (c0 :: .val (.int x) :: l) (.int x :: st) h Q := g_iload rfl rfl
theorem s240_13 : XE d 240 13 ls (.int y :: .int x :: .ref a :: st) h Q ↔ XS 0 (h.2.2.1 a) x y (fun e => XE d 240 14 ls st (xset h a e) Q) := g_iast rfl
theorem s240_14 : XE d 240 14 (c0 :: c1 :: .val (.int x) :: l) st h Q ↔ XE d 240 17 (c0 :: c1 :: .val (.int (x + 1)) :: l) st h Q := g_iinc rfl rfl rfl
theorem s240_17 : XE d 240 17 ls st h Q ↔ XE d 240 5 ls st h Q := g_goto rfl
theorem s240_20 : XE d 240 20 ls [] h Q ↔ Q none h := g_ret rfl
-- 241: java/util/Arrays.copyOf([II)[I
theorem e241 : XC (d + 1) 241 [.ref b, .int x] h Q ↔ XE d 241 0 [.val (.ref b), .val (.int x), .unset] [] h Q := XC_in rfl
theorem s241_0 : XE d 241 0 (c0 :: .val (.int x) :: l) st h Q ↔ XE d 241 1 (c0 :: .val (.int x) :: l) (.int x :: st) h Q := g_iload rfl rfl
theorem s241_1 : XE d 241 1 (.val (.ref a) :: l) st h Q ↔ XE d 241 2 (.val (.ref a) :: l) (.ref a :: st) h Q := g_aload rfl rfl
theorem s241_2 : XE d 241 2 ls (.ref a :: st) h Q ↔ XL (h.2.2.1 a) (fun k => XE d 241 3 ls (.int k :: st) h Q) := g_alen rfl
theorem s241_3 : XE d 241 3 ls (.int y :: .int x :: st) h Q ↔ (if x = y then XE d 241 6 ls st h Q else XE d 241 14 ls st h Q) := g_cne rfl
theorem s241_6 : XE d 241 6 (.val (.ref a) :: l) st h Q ↔ XE d 241 7 (.val (.ref a) :: l) (.ref a :: st) h Q := g_aload rfl rfl
theorem s241_13 : XE d 241 13 ls [.ref a] h Q ↔ Q (some (.ref a)) h := g_aretR rfl
theorem s241_13n : XE d 241 13 ls [.null] h Q ↔ Q (some .null) h := g_aretN rfl
theorem s241_14 : XE d 241 14 (c0 :: .val (.int x) :: l) st h Q ↔ XE d 241 15 (c0 :: .val (.int x) :: l) (.int x :: st) h Q := g_iload rfl rfl
theorem s241_15 : XE d 241 15 ls (.int x :: st) h Q ↔ ((0 ≤ x ∧ x.toNatClampNeg ≤ 100000) ∧ XE d 241 17 ls (.ref h.1 :: st) (xnew h x.toNatClampNeg (.inl (0, xis x.toNatClampNeg (fun _ => 0)))) Q) := g_newa rfl
theorem s241_17 : XE d 241 17 (c0 :: c1 :: c2 :: l) (.ref a :: st) h Q ↔ XE d 241 18 (c0 :: c1 :: .val (.ref a) :: l) st h Q := g_astore (Nat.lt_of_lt_of_le (show 2 < 3 by decide) (Nat.le_add_left 3 _)) rfl rfl
theorem s241_17n : XE d 241 17 (c0 :: c1 :: c2 :: l) (.null :: st) h Q ↔ XE d 241 18 (c0 :: c1 :: .val .null :: l) st h Q := g_astoreN (Nat.lt_of_lt_of_le (show 2 < 3 by decide) (Nat.le_add_left 3 _)) rfl rfl
theorem s241_18 : XE d 241 18 (.val (.ref a) :: l) st h Q ↔ XE d 241 19 (.val (.ref a) :: l) (.ref a :: st) h Q := g_aload rfl rfl
theorem s241_19 : XE d 241 19 ls st h Q ↔ XE d 241 20 ls (.int 0 :: st) h Q := g_const rfl
theorem s241_20 : XE d 241 20 (c0 :: c1 :: .val (.ref a) :: l) st h Q ↔ XE d 241 21 (c0 :: c1 :: .val (.ref a) :: l) (.ref a :: st) h Q := g_aload rfl rfl
theorem s241_20n : XE d 241 20 (c0 :: c1 :: .val .null :: l) st h Q ↔ XE d 241 21 (c0 :: c1 :: .val .null :: l) (.null :: st) h Q := g_aloadN rfl rfl
theorem s241_21 : XE d 241 21 ls st h Q ↔ XE d 241 22 ls (.int 0 :: st) h Q := g_const rfl
theorem s241_22 : XE d 241 22 (.val (.ref a) :: l) st h Q ↔ XE d 241 23 (.val (.ref a) :: l) (.ref a :: st) h Q := g_aload rfl rfl
theorem s241_23 : XE d 241 23 ls (.ref a :: st) h Q ↔ XL (h.2.2.1 a) (fun k => XE d 241 24 ls (.int k :: st) h Q) := g_alen rfl
theorem s241_24 : XE d 241 24 (c0 :: .val (.int x) :: l) st h Q ↔ XE d 241 25 (c0 :: .val (.int x) :: l) (.int x :: st) h Q := g_iload rfl rfl
theorem s241_25 : XE d 241 25 ls (.int y :: .int x :: st) h Q ↔ (xvo 8 st = true ∧ XE d 241 28 ls (.int (if y < x then y else x) :: st) h Q) := h_min rfl
theorem s241_28 (hr : xvo 8 st = true) : XE d 241 28 ls (.int z :: .int y :: .ref a :: .int x :: .ref b :: st) h Q ↔ XCp (h.2.2.1 a) (h.2.2.1 b) z y x (fun e => XE d 241 31 ls st (xset h a e) Q) := g_acopy hr rfl
theorem s241_31 : XE d 241 31 (c0 :: c1 :: .val (.ref a) :: l) st h Q ↔ XE d 241 32 (c0 :: c1 :: .val (.ref a) :: l) (.ref a :: st) h Q := g_aload rfl rfl
theorem s241_31n : XE d 241 31 (c0 :: c1 :: .val .null :: l) st h Q ↔ XE d 241 32 (c0 :: c1 :: .val .null :: l) (.null :: st) h Q := g_aloadN rfl rfl
theorem s241_32 : XE d 241 32 ls [.ref a] h Q ↔ Q (some (.ref a)) h := g_aretR rfl
theorem s241_32n : XE d 241 32 ls [.null] h Q ↔ Q (some .null) h := g_aretN rfl
-- 242: jdk/internal/util/Preconditions.checkIndex(IILjava/util/function/BiFunction;)I
theorem e242 : XC (d + 1) 242 [.int x, .int y, v] h Q ↔ XE d 242 0 [.val (.int x), .val (.int y), .val v] [] h Q := XC_in rfl
theorem s242_0 : XE d 242 0 (.val (.int x) :: l) st h Q ↔ XE d 242 1 (.val (.int x) :: l) (.int x :: st) h Q := g_iload rfl rfl
theorem s242_1 : XE d 242 1 ls (.int x :: st) h Q ↔ (if x < 0 then XE d 242 9 ls st h Q else XE d 242 4 ls st h Q) := g_iflt rfl
theorem s242_4 : XE d 242 4 (.val (.int x) :: l) st h Q ↔ XE d 242 5 (.val (.int x) :: l) (.int x :: st) h Q := g_iload rfl rfl
theorem s242_5 : XE d 242 5 (c0 :: .val (.int x) :: l) st h Q ↔ XE d 242 6 (c0 :: .val (.int x) :: l) (.int x :: st) h Q := g_iload rfl rfl
theorem s242_6 : XE d 242 6 ls (.int y :: .int x :: st) h Q ↔ (if x < y then XE d 242 16 ls st h Q else XE d 242 9 ls st h Q) := g_clt rfl
theorem s242_9 : XE d 242 9 (c0 :: c1 :: .val (.ref a) :: l) st h Q ↔ XE d 242 10 (c0 :: c1 :: .val (.ref a) :: l) (.ref a :: st) h Q := g_aload rfl rfl
theorem s242_9n : XE d 242 9 (c0 :: c1 :: .val .null :: l) st h Q ↔ XE d 242 10 (c0 :: c1 :: .val .null :: l) (.null :: st) h Q := g_aloadN rfl rfl
theorem s242_10 : XE d 242 10 (.val (.int x) :: l) st h Q ↔ XE d 242 11 (.val (.int x) :: l) (.int x :: st) h Q := g_iload rfl rfl
theorem s242_11 : XE d 242 11 (c0 :: .val (.int x) :: l) st h Q ↔ XE d 242 12 (c0 :: .val (.int x) :: l) (.int x :: st) h Q := g_iload rfl rfl
theorem s242_16 : XE d 242 16 (.val (.int x) :: l) st h Q ↔ XE d 242 17 (.val (.int x) :: l) (.int x :: st) h Q := g_iload rfl rfl
theorem s242_17 : XE d 242 17 ls [.int x] h Q ↔ Q (some (.int x)) h := g_iret rfl
-- 243: TwoBellsLaw.law([I)Z
theorem e243 : XC (d + 1) 243 [.ref b] h Q ↔ XE d 243 0 [.val (.ref b), .unset, .unset, .unset] [] h Q := XC_in rfl
theorem s243_0 : XE d 243 0 ls st h Q ↔ XE d 243 3 ls (.ref h.1 :: st) (xnew h 9 (.inr (11, [.null, .null, .int 0, .null, .null, .int 0, .null, .null, .null]))) Q := g_new rfl
theorem s243_3 : XE d 243 3 ls (.int x :: st) h Q ↔ XE d 243 4 ls (.int x :: .int x :: st) h Q := g_dupI rfl
theorem s243_3r : XE d 243 3 ls (.ref a :: st) h Q ↔ XE d 243 4 ls (.ref a :: .ref a :: st) h Q := g_dupR rfl
theorem s243_4 : XE d 243 4 ls (.ref a :: st) h Q ↔ (xvo 8 st = true ∧ XV [(11, 77)] (h.2.2.1 a) (fun m' => XC d m' [.ref a] h (fun v h' => XE d 243 7 ls (v.toList ++ st) h' Q))) := h_v0 rfl
theorem s243_7 : XE d 243 7 (c0 :: c1 :: l) (.ref a :: st) h Q ↔ XE d 243 8 (c0 :: .val (.ref a) :: l) st h Q := g_astore (Nat.lt_of_lt_of_le (show 1 < 2 by decide) (Nat.le_add_left 2 _)) rfl rfl
theorem s243_7n : XE d 243 7 (c0 :: c1 :: l) (.null :: st) h Q ↔ XE d 243 8 (c0 :: .val .null :: l) st h Q := g_astoreN (Nat.lt_of_lt_of_le (show 1 < 2 by decide) (Nat.le_add_left 2 _)) rfl rfl
theorem s243_8 : XE d 243 8 ls st h Q ↔ XE d 243 11 ls (.ref h.1 :: st) (xnew h 32 (.inr (12, [.null, .null, .null, .int 0, .null, .int 0, .int 0, .int 0, .int 0, .int 0, .int 0, .int 0, .null, .null, .null, .int 0, .int 0, .null, .int 0, .null, .null, .null, .null, .null, .null, .null, .null, .null, .null, .null, .null, .int 0]))) Q := g_new rfl
theorem s243_11 : XE d 243 11 ls (.int x :: st) h Q ↔ XE d 243 12 ls (.int x :: .int x :: st) h Q := g_dupI rfl
theorem s243_11r : XE d 243 11 ls (.ref a :: st) h Q ↔ XE d 243 12 ls (.ref a :: .ref a :: st) h Q := g_dupR rfl
theorem s243_12 : XE d 243 12 ls (.ref a :: st) h Q ↔ (xvo 8 st = true ∧ XV [(12, 131)] (h.2.2.1 a) (fun m' => XC d m' [.ref a] h (fun v h' => XE d 243 15 ls (v.toList ++ st) h' Q))) := h_v0 rfl
theorem s243_15 : XE d 243 15 (c0 :: c1 :: c2 :: l) (.ref a :: st) h Q ↔ XE d 243 16 (c0 :: c1 :: .val (.ref a) :: l) st h Q := g_astore (Nat.lt_of_lt_of_le (show 2 < 3 by decide) (Nat.le_add_left 3 _)) rfl rfl
theorem s243_15n : XE d 243 15 (c0 :: c1 :: c2 :: l) (.null :: st) h Q ↔ XE d 243 16 (c0 :: c1 :: .val .null :: l) st h Q := g_astoreN (Nat.lt_of_lt_of_le (show 2 < 3 by decide) (Nat.le_add_left 3 _)) rfl rfl
theorem s243_16 : XE d 243 16 ls st h Q ↔ XE d 243 17 ls (.int 0 :: st) h Q := g_const rfl
theorem s243_17 : XE d 243 17 (c0 :: c1 :: c2 :: c3 :: l) (.int x :: st) h Q ↔ XE d 243 18 (c0 :: c1 :: c2 :: .val (.int x) :: l) st h Q := g_istore (Nat.lt_of_lt_of_le (show 3 < 4 by decide) (Nat.le_add_left 4 _)) rfl rfl
theorem s243_18 : XE d 243 18 (c0 :: c1 :: c2 :: .val (.int x) :: l) st h Q ↔ XE d 243 19 (c0 :: c1 :: c2 :: .val (.int x) :: l) (.int x :: st) h Q := g_iload rfl rfl
theorem s243_19 : XE d 243 19 (.val (.ref a) :: l) st h Q ↔ XE d 243 20 (.val (.ref a) :: l) (.ref a :: st) h Q := g_aload rfl rfl
theorem s243_20 : XE d 243 20 ls (.ref a :: st) h Q ↔ XL (h.2.2.1 a) (fun k => XE d 243 21 ls (.int k :: st) h Q) := g_alen rfl
theorem s243_21 : XE d 243 21 ls st h Q ↔ XE d 243 23 ls (.int 6 :: st) h Q := g_const rfl
theorem s243_23 : XE d 243 23 ls (.int y :: .int x :: st) h Q ↔ XE d 243 24 ls (.int (x - y) :: st) h Q := g_sub rfl
theorem s243_24 : XE d 243 24 ls (.int y :: .int x :: st) h Q ↔ (if y < x then XE d 243 1559 ls st h Q else XE d 243 27 ls st h Q) := g_cgt rfl
theorem s243_27 : XE d 243 27 (.val (.ref a) :: l) st h Q ↔ XE d 243 28 (.val (.ref a) :: l) (.ref a :: st) h Q := g_aload rfl rfl
theorem s243_28 : XE d 243 28 (c0 :: c1 :: c2 :: .val (.int x) :: l) st h Q ↔ XE d 243 29 (c0 :: c1 :: c2 :: .val (.int x) :: l) (.int x :: st) h Q := g_iload rfl rfl
theorem s243_29 : XE d 243 29 ls (.int x :: .ref a :: st) h Q ↔ XA [0, 7] (h.2.2.1 a) x (fun k => XE d 243 30 ls (.int k :: st) h Q) := g_ald rfl
theorem s243_30 : XE d 243 30 ls st h Q ↔ XE d 243 32 ls (.int 63 :: st) h Q := g_const rfl
theorem s243_32 : XE d 243 32 ls (.int y :: .int x :: st) h Q ↔ XE d 243 33 ls (.int (x &&& y) :: st) h Q := g_and rfl
theorem s243_33 : XE d 243 33 ls (.int x :: st) h Q ↔ xswi d 243 x 1553 ls st h Q [(0, 228), (1, 261), (2, 294), (3, 337), (4, 380), (5, 403), (6, 426), (7, 459), (8, 492), (9, 535), (10, 578), (11, 611), (12, 644), (13, 677), (14, 710), (15, 753), (16, 786), (17, 809), (18, 832), (19, 855), (20, 878), (21, 891), (22, 914), (23, 937), (24, 960), (25, 973), (26, 986), (27, 1029), (28, 1052), (29, 1065), (30, 1098), (31, 1121), (32, 1164), (33, 1207), (34, 1230), (35, 1253), (36, 1316), (37, 1359), (38, 1392), (39, 1425), (40, 1458), (41, 1481), (42, 1504), (43, 1517), (44, 1530)] := g_switch rfl
theorem s243_228 : XE d 243 228 (c0 :: .val (.ref a) :: l) st h Q ↔ XE d 243 229 (c0 :: .val (.ref a) :: l) (.ref a :: st) h Q := g_aload rfl rfl
theorem s243_228n : XE d 243 228 (c0 :: .val .null :: l) st h Q ↔ XE d 243 229 (c0 :: .val .null :: l) (.null :: st) h Q := g_aloadN rfl rfl
theorem s243_229 : XE d 243 229 (.val (.ref a) :: l) st h Q ↔ XE d 243 230 (.val (.ref a) :: l) (.ref a :: st) h Q := g_aload rfl rfl
theorem s243_230 : XE d 243 230 (c0 :: c1 :: c2 :: .val (.int x) :: l) st h Q ↔ XE d 243 231 (c0 :: c1 :: c2 :: .val (.int x) :: l) (.int x :: st) h Q := g_iload rfl rfl
theorem s243_231 : XE d 243 231 ls st h Q ↔ XE d 243 232 ls (.int 1 :: st) h Q := g_const rfl
theorem s243_232 : XE d 243 232 ls (.int y :: .int x :: st) h Q ↔ XE d 243 233 ls (.int (x + y) :: st) h Q := g_add rfl
theorem s243_233 : XE d 243 233 ls (.int x :: .ref a :: st) h Q ↔ XA [0, 7] (h.2.2.1 a) x (fun k => XE d 243 234 ls (.int k :: st) h Q) := g_ald rfl
theorem s243_234 : XE d 243 234 (.val (.ref a) :: l) st h Q ↔ XE d 243 235 (.val (.ref a) :: l) (.ref a :: st) h Q := g_aload rfl rfl
theorem s243_235 : XE d 243 235 (c0 :: c1 :: c2 :: .val (.int x) :: l) st h Q ↔ XE d 243 236 (c0 :: c1 :: c2 :: .val (.int x) :: l) (.int x :: st) h Q := g_iload rfl rfl
theorem s243_236 : XE d 243 236 ls st h Q ↔ XE d 243 237 ls (.int 2 :: st) h Q := g_const rfl
theorem s243_237 : XE d 243 237 ls (.int y :: .int x :: st) h Q ↔ XE d 243 238 ls (.int (x + y) :: st) h Q := g_add rfl
theorem s243_238 : XE d 243 238 ls (.int x :: .ref a :: st) h Q ↔ XA [0, 7] (h.2.2.1 a) x (fun k => XE d 243 239 ls (.int k :: st) h Q) := g_ald rfl
theorem s243_239 : XE d 243 239 ls (.int y :: .int x :: .ref a :: st) h Q ↔ (xvo 8 st = true ∧ XV [(11, 78)] (h.2.2.1 a) (fun m' => XC d m' [.ref a, .int x, .int y] h (fun v h' => XE d 243 242 ls (v.toList ++ st) h' Q))) := h_v2 rfl rfl
theorem s243_242 : XE d 243 242 (c0 :: c1 :: .val (.ref a) :: l) st h Q ↔ XE d 243 243 (c0 :: c1 :: .val (.ref a) :: l) (.ref a :: st) h Q := g_aload rfl rfl
theorem s243_242n : XE d 243 242 (c0 :: c1 :: .val .null :: l) st h Q ↔ XE d 243 243 (c0 :: c1 :: .val .null :: l) (.null :: st) h Q := g_aloadN rfl rfl
theorem s243_243 : XE d 243 243 (.val (.ref a) :: l) st h Q ↔ XE d 243 244 (.val (.ref a) :: l) (.ref a :: st) h Q := g_aload rfl rfl
theorem s243_244 : XE d 243 244 (c0 :: c1 :: c2 :: .val (.int x) :: l) st h Q ↔ XE d 243 245 (c0 :: c1 :: c2 :: .val (.int x) :: l) (.int x :: st) h Q := g_iload rfl rfl
theorem s243_245 : XE d 243 245 ls st h Q ↔ XE d 243 246 ls (.int 1 :: st) h Q := g_const rfl
theorem s243_246 : XE d 243 246 ls (.int y :: .int x :: st) h Q ↔ XE d 243 247 ls (.int (x + y) :: st) h Q := g_add rfl
theorem s243_247 : XE d 243 247 ls (.int x :: .ref a :: st) h Q ↔ XA [0, 7] (h.2.2.1 a) x (fun k => XE d 243 248 ls (.int k :: st) h Q) := g_ald rfl
theorem s243_248 : XE d 243 248 (.val (.ref a) :: l) st h Q ↔ XE d 243 249 (.val (.ref a) :: l) (.ref a :: st) h Q := g_aload rfl rfl
theorem s243_249 : XE d 243 249 (c0 :: c1 :: c2 :: .val (.int x) :: l) st h Q ↔ XE d 243 250 (c0 :: c1 :: c2 :: .val (.int x) :: l) (.int x :: st) h Q := g_iload rfl rfl
theorem s243_250 : XE d 243 250 ls st h Q ↔ XE d 243 251 ls (.int 2 :: st) h Q := g_const rfl
theorem s243_251 : XE d 243 251 ls (.int y :: .int x :: st) h Q ↔ XE d 243 252 ls (.int (x + y) :: st) h Q := g_add rfl
theorem s243_252 : XE d 243 252 ls (.int x :: .ref a :: st) h Q ↔ XA [0, 7] (h.2.2.1 a) x (fun k => XE d 243 253 ls (.int k :: st) h Q) := g_ald rfl
theorem s243_253 : XE d 243 253 ls (.int y :: .int x :: .ref a :: st) h Q ↔ (xvo 8 st = true ∧ XV [(12, 146)] (h.2.2.1 a) (fun m' => XC d m' [.ref a, .int x, .int y] h (fun v h' => XE d 243 256 ls (v.toList ++ st) h' Q))) := h_v2 rfl rfl
theorem s243_256 : XE d 243 256 ls (.int y :: .int x :: st) h Q ↔ (if x = y then XE d 243 1553 ls st h Q else XE d 243 259 ls st h Q) := g_ceq rfl
theorem s243_259 : XE d 243 259 ls st h Q ↔ XE d 243 260 ls (.int 0 :: st) h Q := g_const rfl
theorem s243_260 : XE d 243 260 ls [.int 0] h Q ↔ Q (some (.int 0)) h := g_zret rfl rfl
theorem s243_260t : XE d 243 260 ls [.int 1] h Q ↔ Q (some (.int 1)) h := g_zret rfl rfl
theorem s243_260b : XE d 243 260 ls [.int (bI q)] h Q ↔ Q (some (.int (bI q))) h := g_zret (bI_nar q) rfl
theorem s243_261 : XE d 243 261 (c0 :: .val (.ref a) :: l) st h Q ↔ XE d 243 262 (c0 :: .val (.ref a) :: l) (.ref a :: st) h Q := g_aload rfl rfl
theorem s243_261n : XE d 243 261 (c0 :: .val .null :: l) st h Q ↔ XE d 243 262 (c0 :: .val .null :: l) (.null :: st) h Q := g_aloadN rfl rfl
theorem s243_262 : XE d 243 262 (.val (.ref a) :: l) st h Q ↔ XE d 243 263 (.val (.ref a) :: l) (.ref a :: st) h Q := g_aload rfl rfl
theorem s243_263 : XE d 243 263 (c0 :: c1 :: c2 :: .val (.int x) :: l) st h Q ↔ XE d 243 264 (c0 :: c1 :: c2 :: .val (.int x) :: l) (.int x :: st) h Q := g_iload rfl rfl
theorem s243_264 : XE d 243 264 ls st h Q ↔ XE d 243 265 ls (.int 1 :: st) h Q := g_const rfl
theorem s243_265 : XE d 243 265 ls (.int y :: .int x :: st) h Q ↔ XE d 243 266 ls (.int (x + y) :: st) h Q := g_add rfl
theorem s243_266 : XE d 243 266 ls (.int x :: .ref a :: st) h Q ↔ XA [0, 7] (h.2.2.1 a) x (fun k => XE d 243 267 ls (.int k :: st) h Q) := g_ald rfl
theorem s243_267 : XE d 243 267 (.val (.ref a) :: l) st h Q ↔ XE d 243 268 (.val (.ref a) :: l) (.ref a :: st) h Q := g_aload rfl rfl
theorem s243_268 : XE d 243 268 (c0 :: c1 :: c2 :: .val (.int x) :: l) st h Q ↔ XE d 243 269 (c0 :: c1 :: c2 :: .val (.int x) :: l) (.int x :: st) h Q := g_iload rfl rfl
theorem s243_269 : XE d 243 269 ls st h Q ↔ XE d 243 270 ls (.int 2 :: st) h Q := g_const rfl
theorem s243_270 : XE d 243 270 ls (.int y :: .int x :: st) h Q ↔ XE d 243 271 ls (.int (x + y) :: st) h Q := g_add rfl
theorem s243_271 : XE d 243 271 ls (.int x :: .ref a :: st) h Q ↔ XA [0, 7] (h.2.2.1 a) x (fun k => XE d 243 272 ls (.int k :: st) h Q) := g_ald rfl
theorem s243_272 : XE d 243 272 ls (.int y :: .int x :: .ref a :: st) h Q ↔ (xvo 8 st = true ∧ XV [(11, 79)] (h.2.2.1 a) (fun m' => XC d m' [.ref a, .int x, .int y] h (fun v h' => XE d 243 275 ls (v.toList ++ st) h' Q))) := h_v2 rfl rfl
theorem s243_275 : XE d 243 275 (c0 :: c1 :: .val (.ref a) :: l) st h Q ↔ XE d 243 276 (c0 :: c1 :: .val (.ref a) :: l) (.ref a :: st) h Q := g_aload rfl rfl
theorem s243_275n : XE d 243 275 (c0 :: c1 :: .val .null :: l) st h Q ↔ XE d 243 276 (c0 :: c1 :: .val .null :: l) (.null :: st) h Q := g_aloadN rfl rfl
theorem s243_276 : XE d 243 276 (.val (.ref a) :: l) st h Q ↔ XE d 243 277 (.val (.ref a) :: l) (.ref a :: st) h Q := g_aload rfl rfl
theorem s243_277 : XE d 243 277 (c0 :: c1 :: c2 :: .val (.int x) :: l) st h Q ↔ XE d 243 278 (c0 :: c1 :: c2 :: .val (.int x) :: l) (.int x :: st) h Q := g_iload rfl rfl
theorem s243_278 : XE d 243 278 ls st h Q ↔ XE d 243 279 ls (.int 1 :: st) h Q := g_const rfl
theorem s243_279 : XE d 243 279 ls (.int y :: .int x :: st) h Q ↔ XE d 243 280 ls (.int (x + y) :: st) h Q := g_add rfl
theorem s243_280 : XE d 243 280 ls (.int x :: .ref a :: st) h Q ↔ XA [0, 7] (h.2.2.1 a) x (fun k => XE d 243 281 ls (.int k :: st) h Q) := g_ald rfl
theorem s243_281 : XE d 243 281 (.val (.ref a) :: l) st h Q ↔ XE d 243 282 (.val (.ref a) :: l) (.ref a :: st) h Q := g_aload rfl rfl
theorem s243_282 : XE d 243 282 (c0 :: c1 :: c2 :: .val (.int x) :: l) st h Q ↔ XE d 243 283 (c0 :: c1 :: c2 :: .val (.int x) :: l) (.int x :: st) h Q := g_iload rfl rfl
theorem s243_283 : XE d 243 283 ls st h Q ↔ XE d 243 284 ls (.int 2 :: st) h Q := g_const rfl
theorem s243_284 : XE d 243 284 ls (.int y :: .int x :: st) h Q ↔ XE d 243 285 ls (.int (x + y) :: st) h Q := g_add rfl
theorem s243_285 : XE d 243 285 ls (.int x :: .ref a :: st) h Q ↔ XA [0, 7] (h.2.2.1 a) x (fun k => XE d 243 286 ls (.int k :: st) h Q) := g_ald rfl
theorem s243_286 : XE d 243 286 ls (.int y :: .int x :: .ref a :: st) h Q ↔ (xvo 8 st = true ∧ XV [(12, 149)] (h.2.2.1 a) (fun m' => XC d m' [.ref a, .int x, .int y] h (fun v h' => XE d 243 289 ls (v.toList ++ st) h' Q))) := h_v2 rfl rfl
theorem s243_289 : XE d 243 289 ls (.int y :: .int x :: st) h Q ↔ (if x = y then XE d 243 1553 ls st h Q else XE d 243 292 ls st h Q) := g_ceq rfl
theorem s243_292 : XE d 243 292 ls st h Q ↔ XE d 243 293 ls (.int 0 :: st) h Q := g_const rfl
theorem s243_293 : XE d 243 293 ls [.int 0] h Q ↔ Q (some (.int 0)) h := g_zret rfl rfl
theorem s243_293t : XE d 243 293 ls [.int 1] h Q ↔ Q (some (.int 1)) h := g_zret rfl rfl
theorem s243_293b : XE d 243 293 ls [.int (bI q)] h Q ↔ Q (some (.int (bI q))) h := g_zret (bI_nar q) rfl
theorem s243_294 : XE d 243 294 (c0 :: .val (.ref a) :: l) st h Q ↔ XE d 243 295 (c0 :: .val (.ref a) :: l) (.ref a :: st) h Q := g_aload rfl rfl
theorem s243_294n : XE d 243 294 (c0 :: .val .null :: l) st h Q ↔ XE d 243 295 (c0 :: .val .null :: l) (.null :: st) h Q := g_aloadN rfl rfl
theorem s243_295 : XE d 243 295 (.val (.ref a) :: l) st h Q ↔ XE d 243 296 (.val (.ref a) :: l) (.ref a :: st) h Q := g_aload rfl rfl
theorem s243_296 : XE d 243 296 (c0 :: c1 :: c2 :: .val (.int x) :: l) st h Q ↔ XE d 243 297 (c0 :: c1 :: c2 :: .val (.int x) :: l) (.int x :: st) h Q := g_iload rfl rfl
theorem s243_297 : XE d 243 297 ls st h Q ↔ XE d 243 298 ls (.int 1 :: st) h Q := g_const rfl
theorem s243_298 : XE d 243 298 ls (.int y :: .int x :: st) h Q ↔ XE d 243 299 ls (.int (x + y) :: st) h Q := g_add rfl
theorem s243_299 : XE d 243 299 ls (.int x :: .ref a :: st) h Q ↔ XA [0, 7] (h.2.2.1 a) x (fun k => XE d 243 300 ls (.int k :: st) h Q) := g_ald rfl
theorem s243_300 : XE d 243 300 (.val (.ref a) :: l) st h Q ↔ XE d 243 301 (.val (.ref a) :: l) (.ref a :: st) h Q := g_aload rfl rfl
theorem s243_301 : XE d 243 301 (c0 :: c1 :: c2 :: .val (.int x) :: l) st h Q ↔ XE d 243 302 (c0 :: c1 :: c2 :: .val (.int x) :: l) (.int x :: st) h Q := g_iload rfl rfl
theorem s243_302 : XE d 243 302 ls st h Q ↔ XE d 243 303 ls (.int 2 :: st) h Q := g_const rfl
theorem s243_303 : XE d 243 303 ls (.int y :: .int x :: st) h Q ↔ XE d 243 304 ls (.int (x + y) :: st) h Q := g_add rfl
theorem s243_304 : XE d 243 304 ls (.int x :: .ref a :: st) h Q ↔ XA [0, 7] (h.2.2.1 a) x (fun k => XE d 243 305 ls (.int k :: st) h Q) := g_ald rfl
theorem s243_305 : XE d 243 305 (.val (.ref a) :: l) st h Q ↔ XE d 243 306 (.val (.ref a) :: l) (.ref a :: st) h Q := g_aload rfl rfl
theorem s243_306 : XE d 243 306 (c0 :: c1 :: c2 :: .val (.int x) :: l) st h Q ↔ XE d 243 307 (c0 :: c1 :: c2 :: .val (.int x) :: l) (.int x :: st) h Q := g_iload rfl rfl
theorem s243_307 : XE d 243 307 ls st h Q ↔ XE d 243 308 ls (.int 3 :: st) h Q := g_const rfl
theorem s243_308 : XE d 243 308 ls (.int y :: .int x :: st) h Q ↔ XE d 243 309 ls (.int (x + y) :: st) h Q := g_add rfl
theorem s243_309 : XE d 243 309 ls (.int x :: .ref a :: st) h Q ↔ XA [0, 7] (h.2.2.1 a) x (fun k => XE d 243 310 ls (.int k :: st) h Q) := g_ald rfl
theorem s243_310 : XE d 243 310 ls (.int z :: .int y :: .int x :: .ref a :: st) h Q ↔ (xvo 8 st = true ∧ XV [(11, 80)] (h.2.2.1 a) (fun m' => XC d m' [.ref a, .int x, .int y, .int z] h (fun v h' => XE d 243 313 ls (v.toList ++ st) h' Q))) := h_v3 rfl rfl
theorem s243_313 : XE d 243 313 (c0 :: c1 :: .val (.ref a) :: l) st h Q ↔ XE d 243 314 (c0 :: c1 :: .val (.ref a) :: l) (.ref a :: st) h Q := g_aload rfl rfl
theorem s243_313n : XE d 243 313 (c0 :: c1 :: .val .null :: l) st h Q ↔ XE d 243 314 (c0 :: c1 :: .val .null :: l) (.null :: st) h Q := g_aloadN rfl rfl
theorem s243_314 : XE d 243 314 (.val (.ref a) :: l) st h Q ↔ XE d 243 315 (.val (.ref a) :: l) (.ref a :: st) h Q := g_aload rfl rfl
theorem s243_315 : XE d 243 315 (c0 :: c1 :: c2 :: .val (.int x) :: l) st h Q ↔ XE d 243 316 (c0 :: c1 :: c2 :: .val (.int x) :: l) (.int x :: st) h Q := g_iload rfl rfl
theorem s243_316 : XE d 243 316 ls st h Q ↔ XE d 243 317 ls (.int 1 :: st) h Q := g_const rfl
theorem s243_317 : XE d 243 317 ls (.int y :: .int x :: st) h Q ↔ XE d 243 318 ls (.int (x + y) :: st) h Q := g_add rfl
theorem s243_318 : XE d 243 318 ls (.int x :: .ref a :: st) h Q ↔ XA [0, 7] (h.2.2.1 a) x (fun k => XE d 243 319 ls (.int k :: st) h Q) := g_ald rfl
theorem s243_319 : XE d 243 319 (.val (.ref a) :: l) st h Q ↔ XE d 243 320 (.val (.ref a) :: l) (.ref a :: st) h Q := g_aload rfl rfl
theorem s243_320 : XE d 243 320 (c0 :: c1 :: c2 :: .val (.int x) :: l) st h Q ↔ XE d 243 321 (c0 :: c1 :: c2 :: .val (.int x) :: l) (.int x :: st) h Q := g_iload rfl rfl
theorem s243_321 : XE d 243 321 ls st h Q ↔ XE d 243 322 ls (.int 2 :: st) h Q := g_const rfl
theorem s243_322 : XE d 243 322 ls (.int y :: .int x :: st) h Q ↔ XE d 243 323 ls (.int (x + y) :: st) h Q := g_add rfl
theorem s243_323 : XE d 243 323 ls (.int x :: .ref a :: st) h Q ↔ XA [0, 7] (h.2.2.1 a) x (fun k => XE d 243 324 ls (.int k :: st) h Q) := g_ald rfl
theorem s243_324 : XE d 243 324 (.val (.ref a) :: l) st h Q ↔ XE d 243 325 (.val (.ref a) :: l) (.ref a :: st) h Q := g_aload rfl rfl
theorem s243_325 : XE d 243 325 (c0 :: c1 :: c2 :: .val (.int x) :: l) st h Q ↔ XE d 243 326 (c0 :: c1 :: c2 :: .val (.int x) :: l) (.int x :: st) h Q := g_iload rfl rfl
theorem s243_326 : XE d 243 326 ls st h Q ↔ XE d 243 327 ls (.int 3 :: st) h Q := g_const rfl
theorem s243_327 : XE d 243 327 ls (.int y :: .int x :: st) h Q ↔ XE d 243 328 ls (.int (x + y) :: st) h Q := g_add rfl
theorem s243_328 : XE d 243 328 ls (.int x :: .ref a :: st) h Q ↔ XA [0, 7] (h.2.2.1 a) x (fun k => XE d 243 329 ls (.int k :: st) h Q) := g_ald rfl
theorem s243_329 : XE d 243 329 ls (.int z :: .int y :: .int x :: .ref a :: st) h Q ↔ (xvo 8 st = true ∧ XV [(12, 150)] (h.2.2.1 a) (fun m' => XC d m' [.ref a, .int x, .int y, .int z] h (fun v h' => XE d 243 332 ls (v.toList ++ st) h' Q))) := h_v3 rfl rfl
theorem s243_332 : XE d 243 332 ls (.int y :: .int x :: st) h Q ↔ (if x = y then XE d 243 1553 ls st h Q else XE d 243 335 ls st h Q) := g_ceq rfl
theorem s243_335 : XE d 243 335 ls st h Q ↔ XE d 243 336 ls (.int 0 :: st) h Q := g_const rfl
theorem s243_336 : XE d 243 336 ls [.int 0] h Q ↔ Q (some (.int 0)) h := g_zret rfl rfl
theorem s243_336t : XE d 243 336 ls [.int 1] h Q ↔ Q (some (.int 1)) h := g_zret rfl rfl
theorem s243_336b : XE d 243 336 ls [.int (bI q)] h Q ↔ Q (some (.int (bI q))) h := g_zret (bI_nar q) rfl
theorem s243_337 : XE d 243 337 (c0 :: .val (.ref a) :: l) st h Q ↔ XE d 243 338 (c0 :: .val (.ref a) :: l) (.ref a :: st) h Q := g_aload rfl rfl
theorem s243_337n : XE d 243 337 (c0 :: .val .null :: l) st h Q ↔ XE d 243 338 (c0 :: .val .null :: l) (.null :: st) h Q := g_aloadN rfl rfl
theorem s243_338 : XE d 243 338 (.val (.ref a) :: l) st h Q ↔ XE d 243 339 (.val (.ref a) :: l) (.ref a :: st) h Q := g_aload rfl rfl
theorem s243_339 : XE d 243 339 (c0 :: c1 :: c2 :: .val (.int x) :: l) st h Q ↔ XE d 243 340 (c0 :: c1 :: c2 :: .val (.int x) :: l) (.int x :: st) h Q := g_iload rfl rfl
theorem s243_340 : XE d 243 340 ls st h Q ↔ XE d 243 341 ls (.int 1 :: st) h Q := g_const rfl
theorem s243_341 : XE d 243 341 ls (.int y :: .int x :: st) h Q ↔ XE d 243 342 ls (.int (x + y) :: st) h Q := g_add rfl
theorem s243_342 : XE d 243 342 ls (.int x :: .ref a :: st) h Q ↔ XA [0, 7] (h.2.2.1 a) x (fun k => XE d 243 343 ls (.int k :: st) h Q) := g_ald rfl
theorem s243_343 : XE d 243 343 (.val (.ref a) :: l) st h Q ↔ XE d 243 344 (.val (.ref a) :: l) (.ref a :: st) h Q := g_aload rfl rfl
theorem s243_344 : XE d 243 344 (c0 :: c1 :: c2 :: .val (.int x) :: l) st h Q ↔ XE d 243 345 (c0 :: c1 :: c2 :: .val (.int x) :: l) (.int x :: st) h Q := g_iload rfl rfl
theorem s243_345 : XE d 243 345 ls st h Q ↔ XE d 243 346 ls (.int 2 :: st) h Q := g_const rfl
theorem s243_346 : XE d 243 346 ls (.int y :: .int x :: st) h Q ↔ XE d 243 347 ls (.int (x + y) :: st) h Q := g_add rfl
theorem s243_347 : XE d 243 347 ls (.int x :: .ref a :: st) h Q ↔ XA [0, 7] (h.2.2.1 a) x (fun k => XE d 243 348 ls (.int k :: st) h Q) := g_ald rfl
theorem s243_348 : XE d 243 348 (.val (.ref a) :: l) st h Q ↔ XE d 243 349 (.val (.ref a) :: l) (.ref a :: st) h Q := g_aload rfl rfl
theorem s243_349 : XE d 243 349 (c0 :: c1 :: c2 :: .val (.int x) :: l) st h Q ↔ XE d 243 350 (c0 :: c1 :: c2 :: .val (.int x) :: l) (.int x :: st) h Q := g_iload rfl rfl
theorem s243_350 : XE d 243 350 ls st h Q ↔ XE d 243 351 ls (.int 3 :: st) h Q := g_const rfl
theorem s243_351 : XE d 243 351 ls (.int y :: .int x :: st) h Q ↔ XE d 243 352 ls (.int (x + y) :: st) h Q := g_add rfl
theorem s243_352 : XE d 243 352 ls (.int x :: .ref a :: st) h Q ↔ XA [0, 7] (h.2.2.1 a) x (fun k => XE d 243 353 ls (.int k :: st) h Q) := g_ald rfl
theorem s243_353 : XE d 243 353 ls (.int z :: .int y :: .int x :: .ref a :: st) h Q ↔ (xvo 8 st = true ∧ XV [(11, 81)] (h.2.2.1 a) (fun m' => XC d m' [.ref a, .int x, .int y, .int z] h (fun v h' => XE d 243 356 ls (v.toList ++ st) h' Q))) := h_v3 rfl rfl
theorem s243_356 : XE d 243 356 (c0 :: c1 :: .val (.ref a) :: l) st h Q ↔ XE d 243 357 (c0 :: c1 :: .val (.ref a) :: l) (.ref a :: st) h Q := g_aload rfl rfl
theorem s243_356n : XE d 243 356 (c0 :: c1 :: .val .null :: l) st h Q ↔ XE d 243 357 (c0 :: c1 :: .val .null :: l) (.null :: st) h Q := g_aloadN rfl rfl
theorem s243_357 : XE d 243 357 (.val (.ref a) :: l) st h Q ↔ XE d 243 358 (.val (.ref a) :: l) (.ref a :: st) h Q := g_aload rfl rfl
theorem s243_358 : XE d 243 358 (c0 :: c1 :: c2 :: .val (.int x) :: l) st h Q ↔ XE d 243 359 (c0 :: c1 :: c2 :: .val (.int x) :: l) (.int x :: st) h Q := g_iload rfl rfl
theorem s243_359 : XE d 243 359 ls st h Q ↔ XE d 243 360 ls (.int 1 :: st) h Q := g_const rfl
theorem s243_360 : XE d 243 360 ls (.int y :: .int x :: st) h Q ↔ XE d 243 361 ls (.int (x + y) :: st) h Q := g_add rfl
theorem s243_361 : XE d 243 361 ls (.int x :: .ref a :: st) h Q ↔ XA [0, 7] (h.2.2.1 a) x (fun k => XE d 243 362 ls (.int k :: st) h Q) := g_ald rfl
theorem s243_362 : XE d 243 362 (.val (.ref a) :: l) st h Q ↔ XE d 243 363 (.val (.ref a) :: l) (.ref a :: st) h Q := g_aload rfl rfl
theorem s243_363 : XE d 243 363 (c0 :: c1 :: c2 :: .val (.int x) :: l) st h Q ↔ XE d 243 364 (c0 :: c1 :: c2 :: .val (.int x) :: l) (.int x :: st) h Q := g_iload rfl rfl
theorem s243_364 : XE d 243 364 ls st h Q ↔ XE d 243 365 ls (.int 2 :: st) h Q := g_const rfl
theorem s243_365 : XE d 243 365 ls (.int y :: .int x :: st) h Q ↔ XE d 243 366 ls (.int (x + y) :: st) h Q := g_add rfl
theorem s243_366 : XE d 243 366 ls (.int x :: .ref a :: st) h Q ↔ XA [0, 7] (h.2.2.1 a) x (fun k => XE d 243 367 ls (.int k :: st) h Q) := g_ald rfl
theorem s243_367 : XE d 243 367 (.val (.ref a) :: l) st h Q ↔ XE d 243 368 (.val (.ref a) :: l) (.ref a :: st) h Q := g_aload rfl rfl
theorem s243_368 : XE d 243 368 (c0 :: c1 :: c2 :: .val (.int x) :: l) st h Q ↔ XE d 243 369 (c0 :: c1 :: c2 :: .val (.int x) :: l) (.int x :: st) h Q := g_iload rfl rfl
theorem s243_369 : XE d 243 369 ls st h Q ↔ XE d 243 370 ls (.int 3 :: st) h Q := g_const rfl
theorem s243_370 : XE d 243 370 ls (.int y :: .int x :: st) h Q ↔ XE d 243 371 ls (.int (x + y) :: st) h Q := g_add rfl
theorem s243_371 : XE d 243 371 ls (.int x :: .ref a :: st) h Q ↔ XA [0, 7] (h.2.2.1 a) x (fun k => XE d 243 372 ls (.int k :: st) h Q) := g_ald rfl
theorem s243_372 : XE d 243 372 ls (.int z :: .int y :: .int x :: .ref a :: st) h Q ↔ (xvo 8 st = true ∧ XV [(12, 152)] (h.2.2.1 a) (fun m' => XC d m' [.ref a, .int x, .int y, .int z] h (fun v h' => XE d 243 375 ls (v.toList ++ st) h' Q))) := h_v3 rfl rfl
theorem s243_375 : XE d 243 375 ls (.int y :: .int x :: st) h Q ↔ (if x = y then XE d 243 1553 ls st h Q else XE d 243 378 ls st h Q) := g_ceq rfl
theorem s243_378 : XE d 243 378 ls st h Q ↔ XE d 243 379 ls (.int 0 :: st) h Q := g_const rfl
theorem s243_379 : XE d 243 379 ls [.int 0] h Q ↔ Q (some (.int 0)) h := g_zret rfl rfl
theorem s243_379t : XE d 243 379 ls [.int 1] h Q ↔ Q (some (.int 1)) h := g_zret rfl rfl
theorem s243_379b : XE d 243 379 ls [.int (bI q)] h Q ↔ Q (some (.int (bI q))) h := g_zret (bI_nar q) rfl
theorem s243_380 : XE d 243 380 (c0 :: .val (.ref a) :: l) st h Q ↔ XE d 243 381 (c0 :: .val (.ref a) :: l) (.ref a :: st) h Q := g_aload rfl rfl
theorem s243_380n : XE d 243 380 (c0 :: .val .null :: l) st h Q ↔ XE d 243 381 (c0 :: .val .null :: l) (.null :: st) h Q := g_aloadN rfl rfl
theorem s243_381 : XE d 243 381 (.val (.ref a) :: l) st h Q ↔ XE d 243 382 (.val (.ref a) :: l) (.ref a :: st) h Q := g_aload rfl rfl
theorem s243_382 : XE d 243 382 (c0 :: c1 :: c2 :: .val (.int x) :: l) st h Q ↔ XE d 243 383 (c0 :: c1 :: c2 :: .val (.int x) :: l) (.int x :: st) h Q := g_iload rfl rfl
theorem s243_383 : XE d 243 383 ls st h Q ↔ XE d 243 384 ls (.int 1 :: st) h Q := g_const rfl
theorem s243_384 : XE d 243 384 ls (.int y :: .int x :: st) h Q ↔ XE d 243 385 ls (.int (x + y) :: st) h Q := g_add rfl
theorem s243_385 : XE d 243 385 ls (.int x :: .ref a :: st) h Q ↔ XA [0, 7] (h.2.2.1 a) x (fun k => XE d 243 386 ls (.int k :: st) h Q) := g_ald rfl
theorem s243_386 : XE d 243 386 ls (.int x :: .ref a :: st) h Q ↔ (xvo 8 st = true ∧ XV [(11, 82)] (h.2.2.1 a) (fun m' => XC d m' [.ref a, .int x] h (fun v h' => XE d 243 389 ls (v.toList ++ st) h' Q))) := h_v1 rfl rfl
theorem s243_389 : XE d 243 389 (c0 :: c1 :: .val (.ref a) :: l) st h Q ↔ XE d 243 390 (c0 :: c1 :: .val (.ref a) :: l) (.ref a :: st) h Q := g_aload rfl rfl
theorem s243_389n : XE d 243 389 (c0 :: c1 :: .val .null :: l) st h Q ↔ XE d 243 390 (c0 :: c1 :: .val .null :: l) (.null :: st) h Q := g_aloadN rfl rfl
theorem s243_390 : XE d 243 390 (.val (.ref a) :: l) st h Q ↔ XE d 243 391 (.val (.ref a) :: l) (.ref a :: st) h Q := g_aload rfl rfl
theorem s243_391 : XE d 243 391 (c0 :: c1 :: c2 :: .val (.int x) :: l) st h Q ↔ XE d 243 392 (c0 :: c1 :: c2 :: .val (.int x) :: l) (.int x :: st) h Q := g_iload rfl rfl
theorem s243_392 : XE d 243 392 ls st h Q ↔ XE d 243 393 ls (.int 1 :: st) h Q := g_const rfl
theorem s243_393 : XE d 243 393 ls (.int y :: .int x :: st) h Q ↔ XE d 243 394 ls (.int (x + y) :: st) h Q := g_add rfl
theorem s243_394 : XE d 243 394 ls (.int x :: .ref a :: st) h Q ↔ XA [0, 7] (h.2.2.1 a) x (fun k => XE d 243 395 ls (.int k :: st) h Q) := g_ald rfl
theorem s243_395 : XE d 243 395 ls (.int x :: .ref a :: st) h Q ↔ (xvo 8 st = true ∧ XV [(12, 153)] (h.2.2.1 a) (fun m' => XC d m' [.ref a, .int x] h (fun v h' => XE d 243 398 ls (v.toList ++ st) h' Q))) := h_v1 rfl rfl
theorem s243_398 : XE d 243 398 ls (.int y :: .int x :: st) h Q ↔ (if x = y then XE d 243 1553 ls st h Q else XE d 243 401 ls st h Q) := g_ceq rfl
theorem s243_401 : XE d 243 401 ls st h Q ↔ XE d 243 402 ls (.int 0 :: st) h Q := g_const rfl
theorem s243_402 : XE d 243 402 ls [.int 0] h Q ↔ Q (some (.int 0)) h := g_zret rfl rfl
theorem s243_402t : XE d 243 402 ls [.int 1] h Q ↔ Q (some (.int 1)) h := g_zret rfl rfl
theorem s243_402b : XE d 243 402 ls [.int (bI q)] h Q ↔ Q (some (.int (bI q))) h := g_zret (bI_nar q) rfl
theorem s243_403 : XE d 243 403 (c0 :: .val (.ref a) :: l) st h Q ↔ XE d 243 404 (c0 :: .val (.ref a) :: l) (.ref a :: st) h Q := g_aload rfl rfl
theorem s243_403n : XE d 243 403 (c0 :: .val .null :: l) st h Q ↔ XE d 243 404 (c0 :: .val .null :: l) (.null :: st) h Q := g_aloadN rfl rfl
theorem s243_404 : XE d 243 404 (.val (.ref a) :: l) st h Q ↔ XE d 243 405 (.val (.ref a) :: l) (.ref a :: st) h Q := g_aload rfl rfl
theorem s243_405 : XE d 243 405 (c0 :: c1 :: c2 :: .val (.int x) :: l) st h Q ↔ XE d 243 406 (c0 :: c1 :: c2 :: .val (.int x) :: l) (.int x :: st) h Q := g_iload rfl rfl
theorem s243_406 : XE d 243 406 ls st h Q ↔ XE d 243 407 ls (.int 1 :: st) h Q := g_const rfl
theorem s243_407 : XE d 243 407 ls (.int y :: .int x :: st) h Q ↔ XE d 243 408 ls (.int (x + y) :: st) h Q := g_add rfl
theorem s243_408 : XE d 243 408 ls (.int x :: .ref a :: st) h Q ↔ XA [0, 7] (h.2.2.1 a) x (fun k => XE d 243 409 ls (.int k :: st) h Q) := g_ald rfl
theorem s243_409 : XE d 243 409 ls (.int x :: .ref a :: st) h Q ↔ (xvo 8 st = true ∧ XV [(11, 83)] (h.2.2.1 a) (fun m' => XC d m' [.ref a, .int x] h (fun v h' => XE d 243 412 ls (v.toList ++ st) h' Q))) := h_v1 rfl rfl
theorem s243_412 : XE d 243 412 (c0 :: c1 :: .val (.ref a) :: l) st h Q ↔ XE d 243 413 (c0 :: c1 :: .val (.ref a) :: l) (.ref a :: st) h Q := g_aload rfl rfl
theorem s243_412n : XE d 243 412 (c0 :: c1 :: .val .null :: l) st h Q ↔ XE d 243 413 (c0 :: c1 :: .val .null :: l) (.null :: st) h Q := g_aloadN rfl rfl
theorem s243_413 : XE d 243 413 (.val (.ref a) :: l) st h Q ↔ XE d 243 414 (.val (.ref a) :: l) (.ref a :: st) h Q := g_aload rfl rfl
theorem s243_414 : XE d 243 414 (c0 :: c1 :: c2 :: .val (.int x) :: l) st h Q ↔ XE d 243 415 (c0 :: c1 :: c2 :: .val (.int x) :: l) (.int x :: st) h Q := g_iload rfl rfl
theorem s243_415 : XE d 243 415 ls st h Q ↔ XE d 243 416 ls (.int 1 :: st) h Q := g_const rfl
theorem s243_416 : XE d 243 416 ls (.int y :: .int x :: st) h Q ↔ XE d 243 417 ls (.int (x + y) :: st) h Q := g_add rfl
theorem s243_417 : XE d 243 417 ls (.int x :: .ref a :: st) h Q ↔ XA [0, 7] (h.2.2.1 a) x (fun k => XE d 243 418 ls (.int k :: st) h Q) := g_ald rfl
theorem s243_418 : XE d 243 418 ls (.int x :: .ref a :: st) h Q ↔ (xvo 8 st = true ∧ XV [(12, 154)] (h.2.2.1 a) (fun m' => XC d m' [.ref a, .int x] h (fun v h' => XE d 243 421 ls (v.toList ++ st) h' Q))) := h_v1 rfl rfl
theorem s243_421 : XE d 243 421 ls (.int y :: .int x :: st) h Q ↔ (if x = y then XE d 243 1553 ls st h Q else XE d 243 424 ls st h Q) := g_ceq rfl
theorem s243_424 : XE d 243 424 ls st h Q ↔ XE d 243 425 ls (.int 0 :: st) h Q := g_const rfl
theorem s243_425 : XE d 243 425 ls [.int 0] h Q ↔ Q (some (.int 0)) h := g_zret rfl rfl
theorem s243_425t : XE d 243 425 ls [.int 1] h Q ↔ Q (some (.int 1)) h := g_zret rfl rfl
theorem s243_425b : XE d 243 425 ls [.int (bI q)] h Q ↔ Q (some (.int (bI q))) h := g_zret (bI_nar q) rfl
theorem s243_426 : XE d 243 426 (c0 :: .val (.ref a) :: l) st h Q ↔ XE d 243 427 (c0 :: .val (.ref a) :: l) (.ref a :: st) h Q := g_aload rfl rfl
theorem s243_426n : XE d 243 426 (c0 :: .val .null :: l) st h Q ↔ XE d 243 427 (c0 :: .val .null :: l) (.null :: st) h Q := g_aloadN rfl rfl
theorem s243_427 : XE d 243 427 (.val (.ref a) :: l) st h Q ↔ XE d 243 428 (.val (.ref a) :: l) (.ref a :: st) h Q := g_aload rfl rfl
theorem s243_428 : XE d 243 428 (c0 :: c1 :: c2 :: .val (.int x) :: l) st h Q ↔ XE d 243 429 (c0 :: c1 :: c2 :: .val (.int x) :: l) (.int x :: st) h Q := g_iload rfl rfl
theorem s243_429 : XE d 243 429 ls st h Q ↔ XE d 243 430 ls (.int 1 :: st) h Q := g_const rfl
theorem s243_430 : XE d 243 430 ls (.int y :: .int x :: st) h Q ↔ XE d 243 431 ls (.int (x + y) :: st) h Q := g_add rfl
theorem s243_431 : XE d 243 431 ls (.int x :: .ref a :: st) h Q ↔ XA [0, 7] (h.2.2.1 a) x (fun k => XE d 243 432 ls (.int k :: st) h Q) := g_ald rfl
theorem s243_432 : XE d 243 432 (.val (.ref a) :: l) st h Q ↔ XE d 243 433 (.val (.ref a) :: l) (.ref a :: st) h Q := g_aload rfl rfl
theorem s243_433 : XE d 243 433 (c0 :: c1 :: c2 :: .val (.int x) :: l) st h Q ↔ XE d 243 434 (c0 :: c1 :: c2 :: .val (.int x) :: l) (.int x :: st) h Q := g_iload rfl rfl
theorem s243_434 : XE d 243 434 ls st h Q ↔ XE d 243 435 ls (.int 2 :: st) h Q := g_const rfl
theorem s243_435 : XE d 243 435 ls (.int y :: .int x :: st) h Q ↔ XE d 243 436 ls (.int (x + y) :: st) h Q := g_add rfl
theorem s243_436 : XE d 243 436 ls (.int x :: .ref a :: st) h Q ↔ XA [0, 7] (h.2.2.1 a) x (fun k => XE d 243 437 ls (.int k :: st) h Q) := g_ald rfl
theorem s243_437 : XE d 243 437 ls (.int y :: .int x :: .ref a :: st) h Q ↔ (xvo 8 st = true ∧ XV [(11, 84)] (h.2.2.1 a) (fun m' => XC d m' [.ref a, .int x, .int y] h (fun v h' => XE d 243 440 ls (v.toList ++ st) h' Q))) := h_v2 rfl rfl
theorem s243_440 : XE d 243 440 (c0 :: c1 :: .val (.ref a) :: l) st h Q ↔ XE d 243 441 (c0 :: c1 :: .val (.ref a) :: l) (.ref a :: st) h Q := g_aload rfl rfl
theorem s243_440n : XE d 243 440 (c0 :: c1 :: .val .null :: l) st h Q ↔ XE d 243 441 (c0 :: c1 :: .val .null :: l) (.null :: st) h Q := g_aloadN rfl rfl
theorem s243_441 : XE d 243 441 (.val (.ref a) :: l) st h Q ↔ XE d 243 442 (.val (.ref a) :: l) (.ref a :: st) h Q := g_aload rfl rfl
theorem s243_442 : XE d 243 442 (c0 :: c1 :: c2 :: .val (.int x) :: l) st h Q ↔ XE d 243 443 (c0 :: c1 :: c2 :: .val (.int x) :: l) (.int x :: st) h Q := g_iload rfl rfl
theorem s243_443 : XE d 243 443 ls st h Q ↔ XE d 243 444 ls (.int 1 :: st) h Q := g_const rfl
theorem s243_444 : XE d 243 444 ls (.int y :: .int x :: st) h Q ↔ XE d 243 445 ls (.int (x + y) :: st) h Q := g_add rfl
theorem s243_445 : XE d 243 445 ls (.int x :: .ref a :: st) h Q ↔ XA [0, 7] (h.2.2.1 a) x (fun k => XE d 243 446 ls (.int k :: st) h Q) := g_ald rfl
theorem s243_446 : XE d 243 446 (.val (.ref a) :: l) st h Q ↔ XE d 243 447 (.val (.ref a) :: l) (.ref a :: st) h Q := g_aload rfl rfl
theorem s243_447 : XE d 243 447 (c0 :: c1 :: c2 :: .val (.int x) :: l) st h Q ↔ XE d 243 448 (c0 :: c1 :: c2 :: .val (.int x) :: l) (.int x :: st) h Q := g_iload rfl rfl
theorem s243_448 : XE d 243 448 ls st h Q ↔ XE d 243 449 ls (.int 2 :: st) h Q := g_const rfl
theorem s243_449 : XE d 243 449 ls (.int y :: .int x :: st) h Q ↔ XE d 243 450 ls (.int (x + y) :: st) h Q := g_add rfl
theorem s243_450 : XE d 243 450 ls (.int x :: .ref a :: st) h Q ↔ XA [0, 7] (h.2.2.1 a) x (fun k => XE d 243 451 ls (.int k :: st) h Q) := g_ald rfl
theorem s243_451 : XE d 243 451 ls (.int y :: .int x :: .ref a :: st) h Q ↔ (xvo 8 st = true ∧ XV [(12, 155)] (h.2.2.1 a) (fun m' => XC d m' [.ref a, .int x, .int y] h (fun v h' => XE d 243 454 ls (v.toList ++ st) h' Q))) := h_v2 rfl rfl
theorem s243_454 : XE d 243 454 ls (.int y :: .int x :: st) h Q ↔ (if x = y then XE d 243 1553 ls st h Q else XE d 243 457 ls st h Q) := g_ceq rfl
theorem s243_457 : XE d 243 457 ls st h Q ↔ XE d 243 458 ls (.int 0 :: st) h Q := g_const rfl
theorem s243_458 : XE d 243 458 ls [.int 0] h Q ↔ Q (some (.int 0)) h := g_zret rfl rfl
theorem s243_458t : XE d 243 458 ls [.int 1] h Q ↔ Q (some (.int 1)) h := g_zret rfl rfl
theorem s243_458b : XE d 243 458 ls [.int (bI q)] h Q ↔ Q (some (.int (bI q))) h := g_zret (bI_nar q) rfl
theorem s243_459 : XE d 243 459 (c0 :: .val (.ref a) :: l) st h Q ↔ XE d 243 460 (c0 :: .val (.ref a) :: l) (.ref a :: st) h Q := g_aload rfl rfl
theorem s243_459n : XE d 243 459 (c0 :: .val .null :: l) st h Q ↔ XE d 243 460 (c0 :: .val .null :: l) (.null :: st) h Q := g_aloadN rfl rfl
theorem s243_460 : XE d 243 460 (.val (.ref a) :: l) st h Q ↔ XE d 243 461 (.val (.ref a) :: l) (.ref a :: st) h Q := g_aload rfl rfl
theorem s243_461 : XE d 243 461 (c0 :: c1 :: c2 :: .val (.int x) :: l) st h Q ↔ XE d 243 462 (c0 :: c1 :: c2 :: .val (.int x) :: l) (.int x :: st) h Q := g_iload rfl rfl
theorem s243_462 : XE d 243 462 ls st h Q ↔ XE d 243 463 ls (.int 1 :: st) h Q := g_const rfl
theorem s243_463 : XE d 243 463 ls (.int y :: .int x :: st) h Q ↔ XE d 243 464 ls (.int (x + y) :: st) h Q := g_add rfl
theorem s243_464 : XE d 243 464 ls (.int x :: .ref a :: st) h Q ↔ XA [0, 7] (h.2.2.1 a) x (fun k => XE d 243 465 ls (.int k :: st) h Q) := g_ald rfl
theorem s243_465 : XE d 243 465 (.val (.ref a) :: l) st h Q ↔ XE d 243 466 (.val (.ref a) :: l) (.ref a :: st) h Q := g_aload rfl rfl
theorem s243_466 : XE d 243 466 (c0 :: c1 :: c2 :: .val (.int x) :: l) st h Q ↔ XE d 243 467 (c0 :: c1 :: c2 :: .val (.int x) :: l) (.int x :: st) h Q := g_iload rfl rfl
theorem s243_467 : XE d 243 467 ls st h Q ↔ XE d 243 468 ls (.int 2 :: st) h Q := g_const rfl
theorem s243_468 : XE d 243 468 ls (.int y :: .int x :: st) h Q ↔ XE d 243 469 ls (.int (x + y) :: st) h Q := g_add rfl
theorem s243_469 : XE d 243 469 ls (.int x :: .ref a :: st) h Q ↔ XA [0, 7] (h.2.2.1 a) x (fun k => XE d 243 470 ls (.int k :: st) h Q) := g_ald rfl
theorem s243_470 : XE d 243 470 ls (.int y :: .int x :: .ref a :: st) h Q ↔ (xvo 8 st = true ∧ XV [(11, 85)] (h.2.2.1 a) (fun m' => XC d m' [.ref a, .int x, .int y] h (fun v h' => XE d 243 473 ls (v.toList ++ st) h' Q))) := h_v2 rfl rfl
theorem s243_473 : XE d 243 473 (c0 :: c1 :: .val (.ref a) :: l) st h Q ↔ XE d 243 474 (c0 :: c1 :: .val (.ref a) :: l) (.ref a :: st) h Q := g_aload rfl rfl
theorem s243_473n : XE d 243 473 (c0 :: c1 :: .val .null :: l) st h Q ↔ XE d 243 474 (c0 :: c1 :: .val .null :: l) (.null :: st) h Q := g_aloadN rfl rfl
theorem s243_474 : XE d 243 474 (.val (.ref a) :: l) st h Q ↔ XE d 243 475 (.val (.ref a) :: l) (.ref a :: st) h Q := g_aload rfl rfl
theorem s243_475 : XE d 243 475 (c0 :: c1 :: c2 :: .val (.int x) :: l) st h Q ↔ XE d 243 476 (c0 :: c1 :: c2 :: .val (.int x) :: l) (.int x :: st) h Q := g_iload rfl rfl
theorem s243_476 : XE d 243 476 ls st h Q ↔ XE d 243 477 ls (.int 1 :: st) h Q := g_const rfl
theorem s243_477 : XE d 243 477 ls (.int y :: .int x :: st) h Q ↔ XE d 243 478 ls (.int (x + y) :: st) h Q := g_add rfl
theorem s243_478 : XE d 243 478 ls (.int x :: .ref a :: st) h Q ↔ XA [0, 7] (h.2.2.1 a) x (fun k => XE d 243 479 ls (.int k :: st) h Q) := g_ald rfl
theorem s243_479 : XE d 243 479 (.val (.ref a) :: l) st h Q ↔ XE d 243 480 (.val (.ref a) :: l) (.ref a :: st) h Q := g_aload rfl rfl
theorem s243_480 : XE d 243 480 (c0 :: c1 :: c2 :: .val (.int x) :: l) st h Q ↔ XE d 243 481 (c0 :: c1 :: c2 :: .val (.int x) :: l) (.int x :: st) h Q := g_iload rfl rfl
theorem s243_481 : XE d 243 481 ls st h Q ↔ XE d 243 482 ls (.int 2 :: st) h Q := g_const rfl
theorem s243_482 : XE d 243 482 ls (.int y :: .int x :: st) h Q ↔ XE d 243 483 ls (.int (x + y) :: st) h Q := g_add rfl
theorem s243_483 : XE d 243 483 ls (.int x :: .ref a :: st) h Q ↔ XA [0, 7] (h.2.2.1 a) x (fun k => XE d 243 484 ls (.int k :: st) h Q) := g_ald rfl
theorem s243_484 : XE d 243 484 ls (.int y :: .int x :: .ref a :: st) h Q ↔ (xvo 8 st = true ∧ XV [(12, 158)] (h.2.2.1 a) (fun m' => XC d m' [.ref a, .int x, .int y] h (fun v h' => XE d 243 487 ls (v.toList ++ st) h' Q))) := h_v2 rfl rfl
theorem s243_487 : XE d 243 487 ls (.int y :: .int x :: st) h Q ↔ (if x = y then XE d 243 1553 ls st h Q else XE d 243 490 ls st h Q) := g_ceq rfl
theorem s243_490 : XE d 243 490 ls st h Q ↔ XE d 243 491 ls (.int 0 :: st) h Q := g_const rfl
theorem s243_491 : XE d 243 491 ls [.int 0] h Q ↔ Q (some (.int 0)) h := g_zret rfl rfl
theorem s243_491t : XE d 243 491 ls [.int 1] h Q ↔ Q (some (.int 1)) h := g_zret rfl rfl
theorem s243_491b : XE d 243 491 ls [.int (bI q)] h Q ↔ Q (some (.int (bI q))) h := g_zret (bI_nar q) rfl
theorem s243_492 : XE d 243 492 (c0 :: .val (.ref a) :: l) st h Q ↔ XE d 243 493 (c0 :: .val (.ref a) :: l) (.ref a :: st) h Q := g_aload rfl rfl
theorem s243_492n : XE d 243 492 (c0 :: .val .null :: l) st h Q ↔ XE d 243 493 (c0 :: .val .null :: l) (.null :: st) h Q := g_aloadN rfl rfl
theorem s243_493 : XE d 243 493 (.val (.ref a) :: l) st h Q ↔ XE d 243 494 (.val (.ref a) :: l) (.ref a :: st) h Q := g_aload rfl rfl
theorem s243_494 : XE d 243 494 (c0 :: c1 :: c2 :: .val (.int x) :: l) st h Q ↔ XE d 243 495 (c0 :: c1 :: c2 :: .val (.int x) :: l) (.int x :: st) h Q := g_iload rfl rfl
theorem s243_495 : XE d 243 495 ls st h Q ↔ XE d 243 496 ls (.int 1 :: st) h Q := g_const rfl
theorem s243_496 : XE d 243 496 ls (.int y :: .int x :: st) h Q ↔ XE d 243 497 ls (.int (x + y) :: st) h Q := g_add rfl
theorem s243_497 : XE d 243 497 ls (.int x :: .ref a :: st) h Q ↔ XA [0, 7] (h.2.2.1 a) x (fun k => XE d 243 498 ls (.int k :: st) h Q) := g_ald rfl
theorem s243_498 : XE d 243 498 (.val (.ref a) :: l) st h Q ↔ XE d 243 499 (.val (.ref a) :: l) (.ref a :: st) h Q := g_aload rfl rfl
theorem s243_499 : XE d 243 499 (c0 :: c1 :: c2 :: .val (.int x) :: l) st h Q ↔ XE d 243 500 (c0 :: c1 :: c2 :: .val (.int x) :: l) (.int x :: st) h Q := g_iload rfl rfl
theorem s243_500 : XE d 243 500 ls st h Q ↔ XE d 243 501 ls (.int 2 :: st) h Q := g_const rfl
theorem s243_501 : XE d 243 501 ls (.int y :: .int x :: st) h Q ↔ XE d 243 502 ls (.int (x + y) :: st) h Q := g_add rfl
theorem s243_502 : XE d 243 502 ls (.int x :: .ref a :: st) h Q ↔ XA [0, 7] (h.2.2.1 a) x (fun k => XE d 243 503 ls (.int k :: st) h Q) := g_ald rfl
theorem s243_503 : XE d 243 503 (.val (.ref a) :: l) st h Q ↔ XE d 243 504 (.val (.ref a) :: l) (.ref a :: st) h Q := g_aload rfl rfl
theorem s243_504 : XE d 243 504 (c0 :: c1 :: c2 :: .val (.int x) :: l) st h Q ↔ XE d 243 505 (c0 :: c1 :: c2 :: .val (.int x) :: l) (.int x :: st) h Q := g_iload rfl rfl
theorem s243_505 : XE d 243 505 ls st h Q ↔ XE d 243 506 ls (.int 3 :: st) h Q := g_const rfl
theorem s243_506 : XE d 243 506 ls (.int y :: .int x :: st) h Q ↔ XE d 243 507 ls (.int (x + y) :: st) h Q := g_add rfl
theorem s243_507 : XE d 243 507 ls (.int x :: .ref a :: st) h Q ↔ XA [0, 7] (h.2.2.1 a) x (fun k => XE d 243 508 ls (.int k :: st) h Q) := g_ald rfl
theorem s243_508 : XE d 243 508 ls (.int z :: .int y :: .int x :: .ref a :: st) h Q ↔ (xvo 8 st = true ∧ XV [(11, 86)] (h.2.2.1 a) (fun m' => XC d m' [.ref a, .int x, .int y, .int z] h (fun v h' => XE d 243 511 ls (v.toList ++ st) h' Q))) := h_v3 rfl rfl
theorem s243_511 : XE d 243 511 (c0 :: c1 :: .val (.ref a) :: l) st h Q ↔ XE d 243 512 (c0 :: c1 :: .val (.ref a) :: l) (.ref a :: st) h Q := g_aload rfl rfl
theorem s243_511n : XE d 243 511 (c0 :: c1 :: .val .null :: l) st h Q ↔ XE d 243 512 (c0 :: c1 :: .val .null :: l) (.null :: st) h Q := g_aloadN rfl rfl
theorem s243_512 : XE d 243 512 (.val (.ref a) :: l) st h Q ↔ XE d 243 513 (.val (.ref a) :: l) (.ref a :: st) h Q := g_aload rfl rfl
theorem s243_513 : XE d 243 513 (c0 :: c1 :: c2 :: .val (.int x) :: l) st h Q ↔ XE d 243 514 (c0 :: c1 :: c2 :: .val (.int x) :: l) (.int x :: st) h Q := g_iload rfl rfl
theorem s243_514 : XE d 243 514 ls st h Q ↔ XE d 243 515 ls (.int 1 :: st) h Q := g_const rfl
theorem s243_515 : XE d 243 515 ls (.int y :: .int x :: st) h Q ↔ XE d 243 516 ls (.int (x + y) :: st) h Q := g_add rfl
theorem s243_516 : XE d 243 516 ls (.int x :: .ref a :: st) h Q ↔ XA [0, 7] (h.2.2.1 a) x (fun k => XE d 243 517 ls (.int k :: st) h Q) := g_ald rfl
theorem s243_517 : XE d 243 517 (.val (.ref a) :: l) st h Q ↔ XE d 243 518 (.val (.ref a) :: l) (.ref a :: st) h Q := g_aload rfl rfl
theorem s243_518 : XE d 243 518 (c0 :: c1 :: c2 :: .val (.int x) :: l) st h Q ↔ XE d 243 519 (c0 :: c1 :: c2 :: .val (.int x) :: l) (.int x :: st) h Q := g_iload rfl rfl
theorem s243_519 : XE d 243 519 ls st h Q ↔ XE d 243 520 ls (.int 2 :: st) h Q := g_const rfl
theorem s243_520 : XE d 243 520 ls (.int y :: .int x :: st) h Q ↔ XE d 243 521 ls (.int (x + y) :: st) h Q := g_add rfl
theorem s243_521 : XE d 243 521 ls (.int x :: .ref a :: st) h Q ↔ XA [0, 7] (h.2.2.1 a) x (fun k => XE d 243 522 ls (.int k :: st) h Q) := g_ald rfl
theorem s243_522 : XE d 243 522 (.val (.ref a) :: l) st h Q ↔ XE d 243 523 (.val (.ref a) :: l) (.ref a :: st) h Q := g_aload rfl rfl
theorem s243_523 : XE d 243 523 (c0 :: c1 :: c2 :: .val (.int x) :: l) st h Q ↔ XE d 243 524 (c0 :: c1 :: c2 :: .val (.int x) :: l) (.int x :: st) h Q := g_iload rfl rfl
theorem s243_524 : XE d 243 524 ls st h Q ↔ XE d 243 525 ls (.int 3 :: st) h Q := g_const rfl
theorem s243_525 : XE d 243 525 ls (.int y :: .int x :: st) h Q ↔ XE d 243 526 ls (.int (x + y) :: st) h Q := g_add rfl
theorem s243_526 : XE d 243 526 ls (.int x :: .ref a :: st) h Q ↔ XA [0, 7] (h.2.2.1 a) x (fun k => XE d 243 527 ls (.int k :: st) h Q) := g_ald rfl
theorem s243_527 : XE d 243 527 ls (.int z :: .int y :: .int x :: .ref a :: st) h Q ↔ (xvo 8 st = true ∧ XV [(12, 159)] (h.2.2.1 a) (fun m' => XC d m' [.ref a, .int x, .int y, .int z] h (fun v h' => XE d 243 530 ls (v.toList ++ st) h' Q))) := h_v3 rfl rfl
theorem s243_530 : XE d 243 530 ls (.int y :: .int x :: st) h Q ↔ (if x = y then XE d 243 1553 ls st h Q else XE d 243 533 ls st h Q) := g_ceq rfl
theorem s243_533 : XE d 243 533 ls st h Q ↔ XE d 243 534 ls (.int 0 :: st) h Q := g_const rfl
theorem s243_534 : XE d 243 534 ls [.int 0] h Q ↔ Q (some (.int 0)) h := g_zret rfl rfl
theorem s243_534t : XE d 243 534 ls [.int 1] h Q ↔ Q (some (.int 1)) h := g_zret rfl rfl
theorem s243_534b : XE d 243 534 ls [.int (bI q)] h Q ↔ Q (some (.int (bI q))) h := g_zret (bI_nar q) rfl
theorem s243_535 : XE d 243 535 (c0 :: .val (.ref a) :: l) st h Q ↔ XE d 243 536 (c0 :: .val (.ref a) :: l) (.ref a :: st) h Q := g_aload rfl rfl
theorem s243_535n : XE d 243 535 (c0 :: .val .null :: l) st h Q ↔ XE d 243 536 (c0 :: .val .null :: l) (.null :: st) h Q := g_aloadN rfl rfl
theorem s243_536 : XE d 243 536 (.val (.ref a) :: l) st h Q ↔ XE d 243 537 (.val (.ref a) :: l) (.ref a :: st) h Q := g_aload rfl rfl
theorem s243_537 : XE d 243 537 (c0 :: c1 :: c2 :: .val (.int x) :: l) st h Q ↔ XE d 243 538 (c0 :: c1 :: c2 :: .val (.int x) :: l) (.int x :: st) h Q := g_iload rfl rfl
theorem s243_538 : XE d 243 538 ls st h Q ↔ XE d 243 539 ls (.int 1 :: st) h Q := g_const rfl
theorem s243_539 : XE d 243 539 ls (.int y :: .int x :: st) h Q ↔ XE d 243 540 ls (.int (x + y) :: st) h Q := g_add rfl
theorem s243_540 : XE d 243 540 ls (.int x :: .ref a :: st) h Q ↔ XA [0, 7] (h.2.2.1 a) x (fun k => XE d 243 541 ls (.int k :: st) h Q) := g_ald rfl
theorem s243_541 : XE d 243 541 (.val (.ref a) :: l) st h Q ↔ XE d 243 542 (.val (.ref a) :: l) (.ref a :: st) h Q := g_aload rfl rfl
theorem s243_542 : XE d 243 542 (c0 :: c1 :: c2 :: .val (.int x) :: l) st h Q ↔ XE d 243 543 (c0 :: c1 :: c2 :: .val (.int x) :: l) (.int x :: st) h Q := g_iload rfl rfl
theorem s243_543 : XE d 243 543 ls st h Q ↔ XE d 243 544 ls (.int 2 :: st) h Q := g_const rfl
theorem s243_544 : XE d 243 544 ls (.int y :: .int x :: st) h Q ↔ XE d 243 545 ls (.int (x + y) :: st) h Q := g_add rfl
theorem s243_545 : XE d 243 545 ls (.int x :: .ref a :: st) h Q ↔ XA [0, 7] (h.2.2.1 a) x (fun k => XE d 243 546 ls (.int k :: st) h Q) := g_ald rfl
theorem s243_546 : XE d 243 546 (.val (.ref a) :: l) st h Q ↔ XE d 243 547 (.val (.ref a) :: l) (.ref a :: st) h Q := g_aload rfl rfl
theorem s243_547 : XE d 243 547 (c0 :: c1 :: c2 :: .val (.int x) :: l) st h Q ↔ XE d 243 548 (c0 :: c1 :: c2 :: .val (.int x) :: l) (.int x :: st) h Q := g_iload rfl rfl
theorem s243_548 : XE d 243 548 ls st h Q ↔ XE d 243 549 ls (.int 3 :: st) h Q := g_const rfl
theorem s243_549 : XE d 243 549 ls (.int y :: .int x :: st) h Q ↔ XE d 243 550 ls (.int (x + y) :: st) h Q := g_add rfl
theorem s243_550 : XE d 243 550 ls (.int x :: .ref a :: st) h Q ↔ XA [0, 7] (h.2.2.1 a) x (fun k => XE d 243 551 ls (.int k :: st) h Q) := g_ald rfl
theorem s243_551 : XE d 243 551 ls (.int z :: .int y :: .int x :: .ref a :: st) h Q ↔ (xvo 8 st = true ∧ XV [(11, 87)] (h.2.2.1 a) (fun m' => XC d m' [.ref a, .int x, .int y, .int z] h (fun v h' => XE d 243 554 ls (v.toList ++ st) h' Q))) := h_v3 rfl rfl
theorem s243_554 : XE d 243 554 (c0 :: c1 :: .val (.ref a) :: l) st h Q ↔ XE d 243 555 (c0 :: c1 :: .val (.ref a) :: l) (.ref a :: st) h Q := g_aload rfl rfl
theorem s243_554n : XE d 243 554 (c0 :: c1 :: .val .null :: l) st h Q ↔ XE d 243 555 (c0 :: c1 :: .val .null :: l) (.null :: st) h Q := g_aloadN rfl rfl
theorem s243_555 : XE d 243 555 (.val (.ref a) :: l) st h Q ↔ XE d 243 556 (.val (.ref a) :: l) (.ref a :: st) h Q := g_aload rfl rfl
theorem s243_556 : XE d 243 556 (c0 :: c1 :: c2 :: .val (.int x) :: l) st h Q ↔ XE d 243 557 (c0 :: c1 :: c2 :: .val (.int x) :: l) (.int x :: st) h Q := g_iload rfl rfl
theorem s243_557 : XE d 243 557 ls st h Q ↔ XE d 243 558 ls (.int 1 :: st) h Q := g_const rfl
theorem s243_558 : XE d 243 558 ls (.int y :: .int x :: st) h Q ↔ XE d 243 559 ls (.int (x + y) :: st) h Q := g_add rfl
theorem s243_559 : XE d 243 559 ls (.int x :: .ref a :: st) h Q ↔ XA [0, 7] (h.2.2.1 a) x (fun k => XE d 243 560 ls (.int k :: st) h Q) := g_ald rfl
theorem s243_560 : XE d 243 560 (.val (.ref a) :: l) st h Q ↔ XE d 243 561 (.val (.ref a) :: l) (.ref a :: st) h Q := g_aload rfl rfl
theorem s243_561 : XE d 243 561 (c0 :: c1 :: c2 :: .val (.int x) :: l) st h Q ↔ XE d 243 562 (c0 :: c1 :: c2 :: .val (.int x) :: l) (.int x :: st) h Q := g_iload rfl rfl
theorem s243_562 : XE d 243 562 ls st h Q ↔ XE d 243 563 ls (.int 2 :: st) h Q := g_const rfl
theorem s243_563 : XE d 243 563 ls (.int y :: .int x :: st) h Q ↔ XE d 243 564 ls (.int (x + y) :: st) h Q := g_add rfl
theorem s243_564 : XE d 243 564 ls (.int x :: .ref a :: st) h Q ↔ XA [0, 7] (h.2.2.1 a) x (fun k => XE d 243 565 ls (.int k :: st) h Q) := g_ald rfl
theorem s243_565 : XE d 243 565 (.val (.ref a) :: l) st h Q ↔ XE d 243 566 (.val (.ref a) :: l) (.ref a :: st) h Q := g_aload rfl rfl
theorem s243_566 : XE d 243 566 (c0 :: c1 :: c2 :: .val (.int x) :: l) st h Q ↔ XE d 243 567 (c0 :: c1 :: c2 :: .val (.int x) :: l) (.int x :: st) h Q := g_iload rfl rfl
theorem s243_567 : XE d 243 567 ls st h Q ↔ XE d 243 568 ls (.int 3 :: st) h Q := g_const rfl
theorem s243_568 : XE d 243 568 ls (.int y :: .int x :: st) h Q ↔ XE d 243 569 ls (.int (x + y) :: st) h Q := g_add rfl
theorem s243_569 : XE d 243 569 ls (.int x :: .ref a :: st) h Q ↔ XA [0, 7] (h.2.2.1 a) x (fun k => XE d 243 570 ls (.int k :: st) h Q) := g_ald rfl
theorem s243_570 : XE d 243 570 ls (.int z :: .int y :: .int x :: .ref a :: st) h Q ↔ (xvo 8 st = true ∧ XV [(12, 160)] (h.2.2.1 a) (fun m' => XC d m' [.ref a, .int x, .int y, .int z] h (fun v h' => XE d 243 573 ls (v.toList ++ st) h' Q))) := h_v3 rfl rfl
theorem s243_573 : XE d 243 573 ls (.int y :: .int x :: st) h Q ↔ (if x = y then XE d 243 1553 ls st h Q else XE d 243 576 ls st h Q) := g_ceq rfl
theorem s243_576 : XE d 243 576 ls st h Q ↔ XE d 243 577 ls (.int 0 :: st) h Q := g_const rfl
theorem s243_577 : XE d 243 577 ls [.int 0] h Q ↔ Q (some (.int 0)) h := g_zret rfl rfl
theorem s243_577t : XE d 243 577 ls [.int 1] h Q ↔ Q (some (.int 1)) h := g_zret rfl rfl
theorem s243_577b : XE d 243 577 ls [.int (bI q)] h Q ↔ Q (some (.int (bI q))) h := g_zret (bI_nar q) rfl
theorem s243_578 : XE d 243 578 (c0 :: .val (.ref a) :: l) st h Q ↔ XE d 243 579 (c0 :: .val (.ref a) :: l) (.ref a :: st) h Q := g_aload rfl rfl
theorem s243_578n : XE d 243 578 (c0 :: .val .null :: l) st h Q ↔ XE d 243 579 (c0 :: .val .null :: l) (.null :: st) h Q := g_aloadN rfl rfl
theorem s243_579 : XE d 243 579 (.val (.ref a) :: l) st h Q ↔ XE d 243 580 (.val (.ref a) :: l) (.ref a :: st) h Q := g_aload rfl rfl
theorem s243_580 : XE d 243 580 (c0 :: c1 :: c2 :: .val (.int x) :: l) st h Q ↔ XE d 243 581 (c0 :: c1 :: c2 :: .val (.int x) :: l) (.int x :: st) h Q := g_iload rfl rfl
theorem s243_581 : XE d 243 581 ls st h Q ↔ XE d 243 582 ls (.int 1 :: st) h Q := g_const rfl
theorem s243_582 : XE d 243 582 ls (.int y :: .int x :: st) h Q ↔ XE d 243 583 ls (.int (x + y) :: st) h Q := g_add rfl
theorem s243_583 : XE d 243 583 ls (.int x :: .ref a :: st) h Q ↔ XA [0, 7] (h.2.2.1 a) x (fun k => XE d 243 584 ls (.int k :: st) h Q) := g_ald rfl
theorem s243_584 : XE d 243 584 (.val (.ref a) :: l) st h Q ↔ XE d 243 585 (.val (.ref a) :: l) (.ref a :: st) h Q := g_aload rfl rfl
theorem s243_585 : XE d 243 585 (c0 :: c1 :: c2 :: .val (.int x) :: l) st h Q ↔ XE d 243 586 (c0 :: c1 :: c2 :: .val (.int x) :: l) (.int x :: st) h Q := g_iload rfl rfl
theorem s243_586 : XE d 243 586 ls st h Q ↔ XE d 243 587 ls (.int 2 :: st) h Q := g_const rfl
theorem s243_587 : XE d 243 587 ls (.int y :: .int x :: st) h Q ↔ XE d 243 588 ls (.int (x + y) :: st) h Q := g_add rfl
theorem s243_588 : XE d 243 588 ls (.int x :: .ref a :: st) h Q ↔ XA [0, 7] (h.2.2.1 a) x (fun k => XE d 243 589 ls (.int k :: st) h Q) := g_ald rfl
theorem s243_589 : XE d 243 589 ls (.int y :: .int x :: .ref a :: st) h Q ↔ (xvo 8 st = true ∧ XV [(11, 88)] (h.2.2.1 a) (fun m' => XC d m' [.ref a, .int x, .int y] h (fun v h' => XE d 243 592 ls (v.toList ++ st) h' Q))) := h_v2 rfl rfl
theorem s243_592 : XE d 243 592 (c0 :: c1 :: .val (.ref a) :: l) st h Q ↔ XE d 243 593 (c0 :: c1 :: .val (.ref a) :: l) (.ref a :: st) h Q := g_aload rfl rfl
theorem s243_592n : XE d 243 592 (c0 :: c1 :: .val .null :: l) st h Q ↔ XE d 243 593 (c0 :: c1 :: .val .null :: l) (.null :: st) h Q := g_aloadN rfl rfl
theorem s243_593 : XE d 243 593 (.val (.ref a) :: l) st h Q ↔ XE d 243 594 (.val (.ref a) :: l) (.ref a :: st) h Q := g_aload rfl rfl
theorem s243_594 : XE d 243 594 (c0 :: c1 :: c2 :: .val (.int x) :: l) st h Q ↔ XE d 243 595 (c0 :: c1 :: c2 :: .val (.int x) :: l) (.int x :: st) h Q := g_iload rfl rfl
theorem s243_595 : XE d 243 595 ls st h Q ↔ XE d 243 596 ls (.int 1 :: st) h Q := g_const rfl
theorem s243_596 : XE d 243 596 ls (.int y :: .int x :: st) h Q ↔ XE d 243 597 ls (.int (x + y) :: st) h Q := g_add rfl
theorem s243_597 : XE d 243 597 ls (.int x :: .ref a :: st) h Q ↔ XA [0, 7] (h.2.2.1 a) x (fun k => XE d 243 598 ls (.int k :: st) h Q) := g_ald rfl
theorem s243_598 : XE d 243 598 (.val (.ref a) :: l) st h Q ↔ XE d 243 599 (.val (.ref a) :: l) (.ref a :: st) h Q := g_aload rfl rfl
theorem s243_599 : XE d 243 599 (c0 :: c1 :: c2 :: .val (.int x) :: l) st h Q ↔ XE d 243 600 (c0 :: c1 :: c2 :: .val (.int x) :: l) (.int x :: st) h Q := g_iload rfl rfl
theorem s243_600 : XE d 243 600 ls st h Q ↔ XE d 243 601 ls (.int 2 :: st) h Q := g_const rfl
theorem s243_601 : XE d 243 601 ls (.int y :: .int x :: st) h Q ↔ XE d 243 602 ls (.int (x + y) :: st) h Q := g_add rfl
theorem s243_602 : XE d 243 602 ls (.int x :: .ref a :: st) h Q ↔ XA [0, 7] (h.2.2.1 a) x (fun k => XE d 243 603 ls (.int k :: st) h Q) := g_ald rfl
theorem s243_603 : XE d 243 603 ls (.int y :: .int x :: .ref a :: st) h Q ↔ (xvo 8 st = true ∧ XV [(12, 161)] (h.2.2.1 a) (fun m' => XC d m' [.ref a, .int x, .int y] h (fun v h' => XE d 243 606 ls (v.toList ++ st) h' Q))) := h_v2 rfl rfl
theorem s243_606 : XE d 243 606 ls (.int y :: .int x :: st) h Q ↔ (if x = y then XE d 243 1553 ls st h Q else XE d 243 609 ls st h Q) := g_ceq rfl
theorem s243_609 : XE d 243 609 ls st h Q ↔ XE d 243 610 ls (.int 0 :: st) h Q := g_const rfl
theorem s243_610 : XE d 243 610 ls [.int 0] h Q ↔ Q (some (.int 0)) h := g_zret rfl rfl
theorem s243_610t : XE d 243 610 ls [.int 1] h Q ↔ Q (some (.int 1)) h := g_zret rfl rfl
theorem s243_610b : XE d 243 610 ls [.int (bI q)] h Q ↔ Q (some (.int (bI q))) h := g_zret (bI_nar q) rfl
theorem s243_611 : XE d 243 611 (c0 :: .val (.ref a) :: l) st h Q ↔ XE d 243 612 (c0 :: .val (.ref a) :: l) (.ref a :: st) h Q := g_aload rfl rfl
theorem s243_611n : XE d 243 611 (c0 :: .val .null :: l) st h Q ↔ XE d 243 612 (c0 :: .val .null :: l) (.null :: st) h Q := g_aloadN rfl rfl
theorem s243_612 : XE d 243 612 (.val (.ref a) :: l) st h Q ↔ XE d 243 613 (.val (.ref a) :: l) (.ref a :: st) h Q := g_aload rfl rfl
theorem s243_613 : XE d 243 613 (c0 :: c1 :: c2 :: .val (.int x) :: l) st h Q ↔ XE d 243 614 (c0 :: c1 :: c2 :: .val (.int x) :: l) (.int x :: st) h Q := g_iload rfl rfl
theorem s243_614 : XE d 243 614 ls st h Q ↔ XE d 243 615 ls (.int 1 :: st) h Q := g_const rfl
theorem s243_615 : XE d 243 615 ls (.int y :: .int x :: st) h Q ↔ XE d 243 616 ls (.int (x + y) :: st) h Q := g_add rfl
theorem s243_616 : XE d 243 616 ls (.int x :: .ref a :: st) h Q ↔ XA [0, 7] (h.2.2.1 a) x (fun k => XE d 243 617 ls (.int k :: st) h Q) := g_ald rfl
theorem s243_617 : XE d 243 617 (.val (.ref a) :: l) st h Q ↔ XE d 243 618 (.val (.ref a) :: l) (.ref a :: st) h Q := g_aload rfl rfl
theorem s243_618 : XE d 243 618 (c0 :: c1 :: c2 :: .val (.int x) :: l) st h Q ↔ XE d 243 619 (c0 :: c1 :: c2 :: .val (.int x) :: l) (.int x :: st) h Q := g_iload rfl rfl
theorem s243_619 : XE d 243 619 ls st h Q ↔ XE d 243 620 ls (.int 2 :: st) h Q := g_const rfl
theorem s243_620 : XE d 243 620 ls (.int y :: .int x :: st) h Q ↔ XE d 243 621 ls (.int (x + y) :: st) h Q := g_add rfl
theorem s243_621 : XE d 243 621 ls (.int x :: .ref a :: st) h Q ↔ XA [0, 7] (h.2.2.1 a) x (fun k => XE d 243 622 ls (.int k :: st) h Q) := g_ald rfl
theorem s243_622 : XE d 243 622 ls (.int y :: .int x :: .ref a :: st) h Q ↔ (xvo 8 st = true ∧ XV [(11, 89)] (h.2.2.1 a) (fun m' => XC d m' [.ref a, .int x, .int y] h (fun v h' => XE d 243 625 ls (v.toList ++ st) h' Q))) := h_v2 rfl rfl
theorem s243_625 : XE d 243 625 (c0 :: c1 :: .val (.ref a) :: l) st h Q ↔ XE d 243 626 (c0 :: c1 :: .val (.ref a) :: l) (.ref a :: st) h Q := g_aload rfl rfl
theorem s243_625n : XE d 243 625 (c0 :: c1 :: .val .null :: l) st h Q ↔ XE d 243 626 (c0 :: c1 :: .val .null :: l) (.null :: st) h Q := g_aloadN rfl rfl
theorem s243_626 : XE d 243 626 (.val (.ref a) :: l) st h Q ↔ XE d 243 627 (.val (.ref a) :: l) (.ref a :: st) h Q := g_aload rfl rfl
theorem s243_627 : XE d 243 627 (c0 :: c1 :: c2 :: .val (.int x) :: l) st h Q ↔ XE d 243 628 (c0 :: c1 :: c2 :: .val (.int x) :: l) (.int x :: st) h Q := g_iload rfl rfl
theorem s243_628 : XE d 243 628 ls st h Q ↔ XE d 243 629 ls (.int 1 :: st) h Q := g_const rfl
theorem s243_629 : XE d 243 629 ls (.int y :: .int x :: st) h Q ↔ XE d 243 630 ls (.int (x + y) :: st) h Q := g_add rfl
theorem s243_630 : XE d 243 630 ls (.int x :: .ref a :: st) h Q ↔ XA [0, 7] (h.2.2.1 a) x (fun k => XE d 243 631 ls (.int k :: st) h Q) := g_ald rfl
theorem s243_631 : XE d 243 631 (.val (.ref a) :: l) st h Q ↔ XE d 243 632 (.val (.ref a) :: l) (.ref a :: st) h Q := g_aload rfl rfl
theorem s243_632 : XE d 243 632 (c0 :: c1 :: c2 :: .val (.int x) :: l) st h Q ↔ XE d 243 633 (c0 :: c1 :: c2 :: .val (.int x) :: l) (.int x :: st) h Q := g_iload rfl rfl
theorem s243_633 : XE d 243 633 ls st h Q ↔ XE d 243 634 ls (.int 2 :: st) h Q := g_const rfl
theorem s243_634 : XE d 243 634 ls (.int y :: .int x :: st) h Q ↔ XE d 243 635 ls (.int (x + y) :: st) h Q := g_add rfl
theorem s243_635 : XE d 243 635 ls (.int x :: .ref a :: st) h Q ↔ XA [0, 7] (h.2.2.1 a) x (fun k => XE d 243 636 ls (.int k :: st) h Q) := g_ald rfl
theorem s243_636 : XE d 243 636 ls (.int y :: .int x :: .ref a :: st) h Q ↔ (xvo 8 st = true ∧ XV [(12, 163)] (h.2.2.1 a) (fun m' => XC d m' [.ref a, .int x, .int y] h (fun v h' => XE d 243 639 ls (v.toList ++ st) h' Q))) := h_v2 rfl rfl
theorem s243_639 : XE d 243 639 ls (.int y :: .int x :: st) h Q ↔ (if x = y then XE d 243 1553 ls st h Q else XE d 243 642 ls st h Q) := g_ceq rfl
theorem s243_642 : XE d 243 642 ls st h Q ↔ XE d 243 643 ls (.int 0 :: st) h Q := g_const rfl
theorem s243_643 : XE d 243 643 ls [.int 0] h Q ↔ Q (some (.int 0)) h := g_zret rfl rfl
theorem s243_643t : XE d 243 643 ls [.int 1] h Q ↔ Q (some (.int 1)) h := g_zret rfl rfl
theorem s243_643b : XE d 243 643 ls [.int (bI q)] h Q ↔ Q (some (.int (bI q))) h := g_zret (bI_nar q) rfl
theorem s243_644 : XE d 243 644 (c0 :: .val (.ref a) :: l) st h Q ↔ XE d 243 645 (c0 :: .val (.ref a) :: l) (.ref a :: st) h Q := g_aload rfl rfl
theorem s243_644n : XE d 243 644 (c0 :: .val .null :: l) st h Q ↔ XE d 243 645 (c0 :: .val .null :: l) (.null :: st) h Q := g_aloadN rfl rfl
theorem s243_645 : XE d 243 645 (.val (.ref a) :: l) st h Q ↔ XE d 243 646 (.val (.ref a) :: l) (.ref a :: st) h Q := g_aload rfl rfl
theorem s243_646 : XE d 243 646 (c0 :: c1 :: c2 :: .val (.int x) :: l) st h Q ↔ XE d 243 647 (c0 :: c1 :: c2 :: .val (.int x) :: l) (.int x :: st) h Q := g_iload rfl rfl
theorem s243_647 : XE d 243 647 ls st h Q ↔ XE d 243 648 ls (.int 1 :: st) h Q := g_const rfl
theorem s243_648 : XE d 243 648 ls (.int y :: .int x :: st) h Q ↔ XE d 243 649 ls (.int (x + y) :: st) h Q := g_add rfl
theorem s243_649 : XE d 243 649 ls (.int x :: .ref a :: st) h Q ↔ XA [0, 7] (h.2.2.1 a) x (fun k => XE d 243 650 ls (.int k :: st) h Q) := g_ald rfl
theorem s243_650 : XE d 243 650 (.val (.ref a) :: l) st h Q ↔ XE d 243 651 (.val (.ref a) :: l) (.ref a :: st) h Q := g_aload rfl rfl
theorem s243_651 : XE d 243 651 (c0 :: c1 :: c2 :: .val (.int x) :: l) st h Q ↔ XE d 243 652 (c0 :: c1 :: c2 :: .val (.int x) :: l) (.int x :: st) h Q := g_iload rfl rfl
theorem s243_652 : XE d 243 652 ls st h Q ↔ XE d 243 653 ls (.int 2 :: st) h Q := g_const rfl
theorem s243_653 : XE d 243 653 ls (.int y :: .int x :: st) h Q ↔ XE d 243 654 ls (.int (x + y) :: st) h Q := g_add rfl
theorem s243_654 : XE d 243 654 ls (.int x :: .ref a :: st) h Q ↔ XA [0, 7] (h.2.2.1 a) x (fun k => XE d 243 655 ls (.int k :: st) h Q) := g_ald rfl
theorem s243_655 : XE d 243 655 ls (.int y :: .int x :: .ref a :: st) h Q ↔ (xvo 8 st = true ∧ XV [(11, 90)] (h.2.2.1 a) (fun m' => XC d m' [.ref a, .int x, .int y] h (fun v h' => XE d 243 658 ls (v.toList ++ st) h' Q))) := h_v2 rfl rfl
theorem s243_658 : XE d 243 658 (c0 :: c1 :: .val (.ref a) :: l) st h Q ↔ XE d 243 659 (c0 :: c1 :: .val (.ref a) :: l) (.ref a :: st) h Q := g_aload rfl rfl
theorem s243_658n : XE d 243 658 (c0 :: c1 :: .val .null :: l) st h Q ↔ XE d 243 659 (c0 :: c1 :: .val .null :: l) (.null :: st) h Q := g_aloadN rfl rfl
theorem s243_659 : XE d 243 659 (.val (.ref a) :: l) st h Q ↔ XE d 243 660 (.val (.ref a) :: l) (.ref a :: st) h Q := g_aload rfl rfl
theorem s243_660 : XE d 243 660 (c0 :: c1 :: c2 :: .val (.int x) :: l) st h Q ↔ XE d 243 661 (c0 :: c1 :: c2 :: .val (.int x) :: l) (.int x :: st) h Q := g_iload rfl rfl
theorem s243_661 : XE d 243 661 ls st h Q ↔ XE d 243 662 ls (.int 1 :: st) h Q := g_const rfl
theorem s243_662 : XE d 243 662 ls (.int y :: .int x :: st) h Q ↔ XE d 243 663 ls (.int (x + y) :: st) h Q := g_add rfl
theorem s243_663 : XE d 243 663 ls (.int x :: .ref a :: st) h Q ↔ XA [0, 7] (h.2.2.1 a) x (fun k => XE d 243 664 ls (.int k :: st) h Q) := g_ald rfl
theorem s243_664 : XE d 243 664 (.val (.ref a) :: l) st h Q ↔ XE d 243 665 (.val (.ref a) :: l) (.ref a :: st) h Q := g_aload rfl rfl
theorem s243_665 : XE d 243 665 (c0 :: c1 :: c2 :: .val (.int x) :: l) st h Q ↔ XE d 243 666 (c0 :: c1 :: c2 :: .val (.int x) :: l) (.int x :: st) h Q := g_iload rfl rfl
theorem s243_666 : XE d 243 666 ls st h Q ↔ XE d 243 667 ls (.int 2 :: st) h Q := g_const rfl
theorem s243_667 : XE d 243 667 ls (.int y :: .int x :: st) h Q ↔ XE d 243 668 ls (.int (x + y) :: st) h Q := g_add rfl
theorem s243_668 : XE d 243 668 ls (.int x :: .ref a :: st) h Q ↔ XA [0, 7] (h.2.2.1 a) x (fun k => XE d 243 669 ls (.int k :: st) h Q) := g_ald rfl
theorem s243_669 : XE d 243 669 ls (.int y :: .int x :: .ref a :: st) h Q ↔ (xvo 8 st = true ∧ XV [(12, 165)] (h.2.2.1 a) (fun m' => XC d m' [.ref a, .int x, .int y] h (fun v h' => XE d 243 672 ls (v.toList ++ st) h' Q))) := h_v2 rfl rfl
theorem s243_672 : XE d 243 672 ls (.int y :: .int x :: st) h Q ↔ (if x = y then XE d 243 1553 ls st h Q else XE d 243 675 ls st h Q) := g_ceq rfl
theorem s243_675 : XE d 243 675 ls st h Q ↔ XE d 243 676 ls (.int 0 :: st) h Q := g_const rfl
theorem s243_676 : XE d 243 676 ls [.int 0] h Q ↔ Q (some (.int 0)) h := g_zret rfl rfl
theorem s243_676t : XE d 243 676 ls [.int 1] h Q ↔ Q (some (.int 1)) h := g_zret rfl rfl
theorem s243_676b : XE d 243 676 ls [.int (bI q)] h Q ↔ Q (some (.int (bI q))) h := g_zret (bI_nar q) rfl
theorem s243_677 : XE d 243 677 (c0 :: .val (.ref a) :: l) st h Q ↔ XE d 243 678 (c0 :: .val (.ref a) :: l) (.ref a :: st) h Q := g_aload rfl rfl
theorem s243_677n : XE d 243 677 (c0 :: .val .null :: l) st h Q ↔ XE d 243 678 (c0 :: .val .null :: l) (.null :: st) h Q := g_aloadN rfl rfl
theorem s243_678 : XE d 243 678 (.val (.ref a) :: l) st h Q ↔ XE d 243 679 (.val (.ref a) :: l) (.ref a :: st) h Q := g_aload rfl rfl
theorem s243_679 : XE d 243 679 (c0 :: c1 :: c2 :: .val (.int x) :: l) st h Q ↔ XE d 243 680 (c0 :: c1 :: c2 :: .val (.int x) :: l) (.int x :: st) h Q := g_iload rfl rfl
theorem s243_680 : XE d 243 680 ls st h Q ↔ XE d 243 681 ls (.int 1 :: st) h Q := g_const rfl
theorem s243_681 : XE d 243 681 ls (.int y :: .int x :: st) h Q ↔ XE d 243 682 ls (.int (x + y) :: st) h Q := g_add rfl
theorem s243_682 : XE d 243 682 ls (.int x :: .ref a :: st) h Q ↔ XA [0, 7] (h.2.2.1 a) x (fun k => XE d 243 683 ls (.int k :: st) h Q) := g_ald rfl
theorem s243_683 : XE d 243 683 (.val (.ref a) :: l) st h Q ↔ XE d 243 684 (.val (.ref a) :: l) (.ref a :: st) h Q := g_aload rfl rfl
theorem s243_684 : XE d 243 684 (c0 :: c1 :: c2 :: .val (.int x) :: l) st h Q ↔ XE d 243 685 (c0 :: c1 :: c2 :: .val (.int x) :: l) (.int x :: st) h Q := g_iload rfl rfl
theorem s243_685 : XE d 243 685 ls st h Q ↔ XE d 243 686 ls (.int 2 :: st) h Q := g_const rfl
theorem s243_686 : XE d 243 686 ls (.int y :: .int x :: st) h Q ↔ XE d 243 687 ls (.int (x + y) :: st) h Q := g_add rfl
theorem s243_687 : XE d 243 687 ls (.int x :: .ref a :: st) h Q ↔ XA [0, 7] (h.2.2.1 a) x (fun k => XE d 243 688 ls (.int k :: st) h Q) := g_ald rfl
theorem s243_688 : XE d 243 688 ls (.int y :: .int x :: .ref a :: st) h Q ↔ (xvo 8 st = true ∧ XV [(11, 91)] (h.2.2.1 a) (fun m' => XC d m' [.ref a, .int x, .int y] h (fun v h' => XE d 243 691 ls (v.toList ++ st) h' Q))) := h_v2 rfl rfl
theorem s243_691 : XE d 243 691 (c0 :: c1 :: .val (.ref a) :: l) st h Q ↔ XE d 243 692 (c0 :: c1 :: .val (.ref a) :: l) (.ref a :: st) h Q := g_aload rfl rfl
theorem s243_691n : XE d 243 691 (c0 :: c1 :: .val .null :: l) st h Q ↔ XE d 243 692 (c0 :: c1 :: .val .null :: l) (.null :: st) h Q := g_aloadN rfl rfl
theorem s243_692 : XE d 243 692 (.val (.ref a) :: l) st h Q ↔ XE d 243 693 (.val (.ref a) :: l) (.ref a :: st) h Q := g_aload rfl rfl
theorem s243_693 : XE d 243 693 (c0 :: c1 :: c2 :: .val (.int x) :: l) st h Q ↔ XE d 243 694 (c0 :: c1 :: c2 :: .val (.int x) :: l) (.int x :: st) h Q := g_iload rfl rfl
theorem s243_694 : XE d 243 694 ls st h Q ↔ XE d 243 695 ls (.int 1 :: st) h Q := g_const rfl
theorem s243_695 : XE d 243 695 ls (.int y :: .int x :: st) h Q ↔ XE d 243 696 ls (.int (x + y) :: st) h Q := g_add rfl
theorem s243_696 : XE d 243 696 ls (.int x :: .ref a :: st) h Q ↔ XA [0, 7] (h.2.2.1 a) x (fun k => XE d 243 697 ls (.int k :: st) h Q) := g_ald rfl
theorem s243_697 : XE d 243 697 (.val (.ref a) :: l) st h Q ↔ XE d 243 698 (.val (.ref a) :: l) (.ref a :: st) h Q := g_aload rfl rfl
theorem s243_698 : XE d 243 698 (c0 :: c1 :: c2 :: .val (.int x) :: l) st h Q ↔ XE d 243 699 (c0 :: c1 :: c2 :: .val (.int x) :: l) (.int x :: st) h Q := g_iload rfl rfl
theorem s243_699 : XE d 243 699 ls st h Q ↔ XE d 243 700 ls (.int 2 :: st) h Q := g_const rfl
theorem s243_700 : XE d 243 700 ls (.int y :: .int x :: st) h Q ↔ XE d 243 701 ls (.int (x + y) :: st) h Q := g_add rfl
theorem s243_701 : XE d 243 701 ls (.int x :: .ref a :: st) h Q ↔ XA [0, 7] (h.2.2.1 a) x (fun k => XE d 243 702 ls (.int k :: st) h Q) := g_ald rfl
theorem s243_702 : XE d 243 702 ls (.int y :: .int x :: .ref a :: st) h Q ↔ (xvo 8 st = true ∧ XV [(12, 166)] (h.2.2.1 a) (fun m' => XC d m' [.ref a, .int x, .int y] h (fun v h' => XE d 243 705 ls (v.toList ++ st) h' Q))) := h_v2 rfl rfl
theorem s243_705 : XE d 243 705 ls (.int y :: .int x :: st) h Q ↔ (if x = y then XE d 243 1553 ls st h Q else XE d 243 708 ls st h Q) := g_ceq rfl
theorem s243_708 : XE d 243 708 ls st h Q ↔ XE d 243 709 ls (.int 0 :: st) h Q := g_const rfl
theorem s243_709 : XE d 243 709 ls [.int 0] h Q ↔ Q (some (.int 0)) h := g_zret rfl rfl
theorem s243_709t : XE d 243 709 ls [.int 1] h Q ↔ Q (some (.int 1)) h := g_zret rfl rfl
theorem s243_709b : XE d 243 709 ls [.int (bI q)] h Q ↔ Q (some (.int (bI q))) h := g_zret (bI_nar q) rfl
theorem s243_710 : XE d 243 710 (c0 :: .val (.ref a) :: l) st h Q ↔ XE d 243 711 (c0 :: .val (.ref a) :: l) (.ref a :: st) h Q := g_aload rfl rfl
theorem s243_710n : XE d 243 710 (c0 :: .val .null :: l) st h Q ↔ XE d 243 711 (c0 :: .val .null :: l) (.null :: st) h Q := g_aloadN rfl rfl
theorem s243_711 : XE d 243 711 (.val (.ref a) :: l) st h Q ↔ XE d 243 712 (.val (.ref a) :: l) (.ref a :: st) h Q := g_aload rfl rfl
theorem s243_712 : XE d 243 712 (c0 :: c1 :: c2 :: .val (.int x) :: l) st h Q ↔ XE d 243 713 (c0 :: c1 :: c2 :: .val (.int x) :: l) (.int x :: st) h Q := g_iload rfl rfl
theorem s243_713 : XE d 243 713 ls st h Q ↔ XE d 243 714 ls (.int 1 :: st) h Q := g_const rfl
theorem s243_714 : XE d 243 714 ls (.int y :: .int x :: st) h Q ↔ XE d 243 715 ls (.int (x + y) :: st) h Q := g_add rfl
theorem s243_715 : XE d 243 715 ls (.int x :: .ref a :: st) h Q ↔ XA [0, 7] (h.2.2.1 a) x (fun k => XE d 243 716 ls (.int k :: st) h Q) := g_ald rfl
theorem s243_716 : XE d 243 716 (.val (.ref a) :: l) st h Q ↔ XE d 243 717 (.val (.ref a) :: l) (.ref a :: st) h Q := g_aload rfl rfl
theorem s243_717 : XE d 243 717 (c0 :: c1 :: c2 :: .val (.int x) :: l) st h Q ↔ XE d 243 718 (c0 :: c1 :: c2 :: .val (.int x) :: l) (.int x :: st) h Q := g_iload rfl rfl
theorem s243_718 : XE d 243 718 ls st h Q ↔ XE d 243 719 ls (.int 2 :: st) h Q := g_const rfl
theorem s243_719 : XE d 243 719 ls (.int y :: .int x :: st) h Q ↔ XE d 243 720 ls (.int (x + y) :: st) h Q := g_add rfl
theorem s243_720 : XE d 243 720 ls (.int x :: .ref a :: st) h Q ↔ XA [0, 7] (h.2.2.1 a) x (fun k => XE d 243 721 ls (.int k :: st) h Q) := g_ald rfl
theorem s243_721 : XE d 243 721 (.val (.ref a) :: l) st h Q ↔ XE d 243 722 (.val (.ref a) :: l) (.ref a :: st) h Q := g_aload rfl rfl
theorem s243_722 : XE d 243 722 (c0 :: c1 :: c2 :: .val (.int x) :: l) st h Q ↔ XE d 243 723 (c0 :: c1 :: c2 :: .val (.int x) :: l) (.int x :: st) h Q := g_iload rfl rfl
theorem s243_723 : XE d 243 723 ls st h Q ↔ XE d 243 724 ls (.int 3 :: st) h Q := g_const rfl
theorem s243_724 : XE d 243 724 ls (.int y :: .int x :: st) h Q ↔ XE d 243 725 ls (.int (x + y) :: st) h Q := g_add rfl
theorem s243_725 : XE d 243 725 ls (.int x :: .ref a :: st) h Q ↔ XA [0, 7] (h.2.2.1 a) x (fun k => XE d 243 726 ls (.int k :: st) h Q) := g_ald rfl
theorem s243_726 : XE d 243 726 ls (.int z :: .int y :: .int x :: .ref a :: st) h Q ↔ (xvo 8 st = true ∧ XV [(11, 92)] (h.2.2.1 a) (fun m' => XC d m' [.ref a, .int x, .int y, .int z] h (fun v h' => XE d 243 729 ls (v.toList ++ st) h' Q))) := h_v3 rfl rfl
theorem s243_729 : XE d 243 729 (c0 :: c1 :: .val (.ref a) :: l) st h Q ↔ XE d 243 730 (c0 :: c1 :: .val (.ref a) :: l) (.ref a :: st) h Q := g_aload rfl rfl
theorem s243_729n : XE d 243 729 (c0 :: c1 :: .val .null :: l) st h Q ↔ XE d 243 730 (c0 :: c1 :: .val .null :: l) (.null :: st) h Q := g_aloadN rfl rfl
theorem s243_730 : XE d 243 730 (.val (.ref a) :: l) st h Q ↔ XE d 243 731 (.val (.ref a) :: l) (.ref a :: st) h Q := g_aload rfl rfl
theorem s243_731 : XE d 243 731 (c0 :: c1 :: c2 :: .val (.int x) :: l) st h Q ↔ XE d 243 732 (c0 :: c1 :: c2 :: .val (.int x) :: l) (.int x :: st) h Q := g_iload rfl rfl
theorem s243_732 : XE d 243 732 ls st h Q ↔ XE d 243 733 ls (.int 1 :: st) h Q := g_const rfl
theorem s243_733 : XE d 243 733 ls (.int y :: .int x :: st) h Q ↔ XE d 243 734 ls (.int (x + y) :: st) h Q := g_add rfl
theorem s243_734 : XE d 243 734 ls (.int x :: .ref a :: st) h Q ↔ XA [0, 7] (h.2.2.1 a) x (fun k => XE d 243 735 ls (.int k :: st) h Q) := g_ald rfl
theorem s243_735 : XE d 243 735 (.val (.ref a) :: l) st h Q ↔ XE d 243 736 (.val (.ref a) :: l) (.ref a :: st) h Q := g_aload rfl rfl
theorem s243_736 : XE d 243 736 (c0 :: c1 :: c2 :: .val (.int x) :: l) st h Q ↔ XE d 243 737 (c0 :: c1 :: c2 :: .val (.int x) :: l) (.int x :: st) h Q := g_iload rfl rfl
theorem s243_737 : XE d 243 737 ls st h Q ↔ XE d 243 738 ls (.int 2 :: st) h Q := g_const rfl
theorem s243_738 : XE d 243 738 ls (.int y :: .int x :: st) h Q ↔ XE d 243 739 ls (.int (x + y) :: st) h Q := g_add rfl
theorem s243_739 : XE d 243 739 ls (.int x :: .ref a :: st) h Q ↔ XA [0, 7] (h.2.2.1 a) x (fun k => XE d 243 740 ls (.int k :: st) h Q) := g_ald rfl
theorem s243_740 : XE d 243 740 (.val (.ref a) :: l) st h Q ↔ XE d 243 741 (.val (.ref a) :: l) (.ref a :: st) h Q := g_aload rfl rfl
theorem s243_741 : XE d 243 741 (c0 :: c1 :: c2 :: .val (.int x) :: l) st h Q ↔ XE d 243 742 (c0 :: c1 :: c2 :: .val (.int x) :: l) (.int x :: st) h Q := g_iload rfl rfl
theorem s243_742 : XE d 243 742 ls st h Q ↔ XE d 243 743 ls (.int 3 :: st) h Q := g_const rfl
theorem s243_743 : XE d 243 743 ls (.int y :: .int x :: st) h Q ↔ XE d 243 744 ls (.int (x + y) :: st) h Q := g_add rfl
theorem s243_744 : XE d 243 744 ls (.int x :: .ref a :: st) h Q ↔ XA [0, 7] (h.2.2.1 a) x (fun k => XE d 243 745 ls (.int k :: st) h Q) := g_ald rfl
theorem s243_745 : XE d 243 745 ls (.int z :: .int y :: .int x :: .ref a :: st) h Q ↔ (xvo 8 st = true ∧ XV [(12, 171)] (h.2.2.1 a) (fun m' => XC d m' [.ref a, .int x, .int y, .int z] h (fun v h' => XE d 243 748 ls (v.toList ++ st) h' Q))) := h_v3 rfl rfl
theorem s243_748 : XE d 243 748 ls (.int y :: .int x :: st) h Q ↔ (if x = y then XE d 243 1553 ls st h Q else XE d 243 751 ls st h Q) := g_ceq rfl
theorem s243_751 : XE d 243 751 ls st h Q ↔ XE d 243 752 ls (.int 0 :: st) h Q := g_const rfl
theorem s243_752 : XE d 243 752 ls [.int 0] h Q ↔ Q (some (.int 0)) h := g_zret rfl rfl
theorem s243_752t : XE d 243 752 ls [.int 1] h Q ↔ Q (some (.int 1)) h := g_zret rfl rfl
theorem s243_752b : XE d 243 752 ls [.int (bI q)] h Q ↔ Q (some (.int (bI q))) h := g_zret (bI_nar q) rfl
theorem s243_753 : XE d 243 753 (c0 :: .val (.ref a) :: l) st h Q ↔ XE d 243 754 (c0 :: .val (.ref a) :: l) (.ref a :: st) h Q := g_aload rfl rfl
theorem s243_753n : XE d 243 753 (c0 :: .val .null :: l) st h Q ↔ XE d 243 754 (c0 :: .val .null :: l) (.null :: st) h Q := g_aloadN rfl rfl
theorem s243_754 : XE d 243 754 (.val (.ref a) :: l) st h Q ↔ XE d 243 755 (.val (.ref a) :: l) (.ref a :: st) h Q := g_aload rfl rfl
theorem s243_755 : XE d 243 755 (c0 :: c1 :: c2 :: .val (.int x) :: l) st h Q ↔ XE d 243 756 (c0 :: c1 :: c2 :: .val (.int x) :: l) (.int x :: st) h Q := g_iload rfl rfl
theorem s243_756 : XE d 243 756 ls st h Q ↔ XE d 243 757 ls (.int 1 :: st) h Q := g_const rfl
theorem s243_757 : XE d 243 757 ls (.int y :: .int x :: st) h Q ↔ XE d 243 758 ls (.int (x + y) :: st) h Q := g_add rfl
theorem s243_758 : XE d 243 758 ls (.int x :: .ref a :: st) h Q ↔ XA [0, 7] (h.2.2.1 a) x (fun k => XE d 243 759 ls (.int k :: st) h Q) := g_ald rfl
theorem s243_759 : XE d 243 759 (.val (.ref a) :: l) st h Q ↔ XE d 243 760 (.val (.ref a) :: l) (.ref a :: st) h Q := g_aload rfl rfl
theorem s243_760 : XE d 243 760 (c0 :: c1 :: c2 :: .val (.int x) :: l) st h Q ↔ XE d 243 761 (c0 :: c1 :: c2 :: .val (.int x) :: l) (.int x :: st) h Q := g_iload rfl rfl
theorem s243_761 : XE d 243 761 ls st h Q ↔ XE d 243 762 ls (.int 2 :: st) h Q := g_const rfl
theorem s243_762 : XE d 243 762 ls (.int y :: .int x :: st) h Q ↔ XE d 243 763 ls (.int (x + y) :: st) h Q := g_add rfl
theorem s243_763 : XE d 243 763 ls (.int x :: .ref a :: st) h Q ↔ XA [0, 7] (h.2.2.1 a) x (fun k => XE d 243 764 ls (.int k :: st) h Q) := g_ald rfl
theorem s243_764 : XE d 243 764 ls (.int y :: .int x :: .ref a :: st) h Q ↔ (xvo 8 st = true ∧ XV [(11, 93)] (h.2.2.1 a) (fun m' => XC d m' [.ref a, .int x, .int y] h (fun v h' => XE d 243 767 ls (v.toList ++ st) h' Q))) := h_v2 rfl rfl
theorem s243_767 : XE d 243 767 (c0 :: c1 :: .val (.ref a) :: l) st h Q ↔ XE d 243 768 (c0 :: c1 :: .val (.ref a) :: l) (.ref a :: st) h Q := g_aload rfl rfl
theorem s243_767n : XE d 243 767 (c0 :: c1 :: .val .null :: l) st h Q ↔ XE d 243 768 (c0 :: c1 :: .val .null :: l) (.null :: st) h Q := g_aloadN rfl rfl
theorem s243_768 : XE d 243 768 (.val (.ref a) :: l) st h Q ↔ XE d 243 769 (.val (.ref a) :: l) (.ref a :: st) h Q := g_aload rfl rfl
theorem s243_769 : XE d 243 769 (c0 :: c1 :: c2 :: .val (.int x) :: l) st h Q ↔ XE d 243 770 (c0 :: c1 :: c2 :: .val (.int x) :: l) (.int x :: st) h Q := g_iload rfl rfl
theorem s243_770 : XE d 243 770 ls st h Q ↔ XE d 243 771 ls (.int 1 :: st) h Q := g_const rfl
theorem s243_771 : XE d 243 771 ls (.int y :: .int x :: st) h Q ↔ XE d 243 772 ls (.int (x + y) :: st) h Q := g_add rfl
theorem s243_772 : XE d 243 772 ls (.int x :: .ref a :: st) h Q ↔ XA [0, 7] (h.2.2.1 a) x (fun k => XE d 243 773 ls (.int k :: st) h Q) := g_ald rfl
theorem s243_773 : XE d 243 773 (.val (.ref a) :: l) st h Q ↔ XE d 243 774 (.val (.ref a) :: l) (.ref a :: st) h Q := g_aload rfl rfl
theorem s243_774 : XE d 243 774 (c0 :: c1 :: c2 :: .val (.int x) :: l) st h Q ↔ XE d 243 775 (c0 :: c1 :: c2 :: .val (.int x) :: l) (.int x :: st) h Q := g_iload rfl rfl
theorem s243_775 : XE d 243 775 ls st h Q ↔ XE d 243 776 ls (.int 2 :: st) h Q := g_const rfl
theorem s243_776 : XE d 243 776 ls (.int y :: .int x :: st) h Q ↔ XE d 243 777 ls (.int (x + y) :: st) h Q := g_add rfl
theorem s243_777 : XE d 243 777 ls (.int x :: .ref a :: st) h Q ↔ XA [0, 7] (h.2.2.1 a) x (fun k => XE d 243 778 ls (.int k :: st) h Q) := g_ald rfl
theorem s243_778 : XE d 243 778 ls (.int y :: .int x :: .ref a :: st) h Q ↔ (xvo 8 st = true ∧ XV [(12, 172)] (h.2.2.1 a) (fun m' => XC d m' [.ref a, .int x, .int y] h (fun v h' => XE d 243 781 ls (v.toList ++ st) h' Q))) := h_v2 rfl rfl
theorem s243_781 : XE d 243 781 ls (.int y :: .int x :: st) h Q ↔ (if x = y then XE d 243 1553 ls st h Q else XE d 243 784 ls st h Q) := g_ceq rfl
theorem s243_784 : XE d 243 784 ls st h Q ↔ XE d 243 785 ls (.int 0 :: st) h Q := g_const rfl
theorem s243_785 : XE d 243 785 ls [.int 0] h Q ↔ Q (some (.int 0)) h := g_zret rfl rfl
theorem s243_785t : XE d 243 785 ls [.int 1] h Q ↔ Q (some (.int 1)) h := g_zret rfl rfl
theorem s243_785b : XE d 243 785 ls [.int (bI q)] h Q ↔ Q (some (.int (bI q))) h := g_zret (bI_nar q) rfl
theorem s243_786 : XE d 243 786 (c0 :: .val (.ref a) :: l) st h Q ↔ XE d 243 787 (c0 :: .val (.ref a) :: l) (.ref a :: st) h Q := g_aload rfl rfl
theorem s243_786n : XE d 243 786 (c0 :: .val .null :: l) st h Q ↔ XE d 243 787 (c0 :: .val .null :: l) (.null :: st) h Q := g_aloadN rfl rfl
theorem s243_787 : XE d 243 787 (.val (.ref a) :: l) st h Q ↔ XE d 243 788 (.val (.ref a) :: l) (.ref a :: st) h Q := g_aload rfl rfl
theorem s243_788 : XE d 243 788 (c0 :: c1 :: c2 :: .val (.int x) :: l) st h Q ↔ XE d 243 789 (c0 :: c1 :: c2 :: .val (.int x) :: l) (.int x :: st) h Q := g_iload rfl rfl
theorem s243_789 : XE d 243 789 ls st h Q ↔ XE d 243 790 ls (.int 1 :: st) h Q := g_const rfl
theorem s243_790 : XE d 243 790 ls (.int y :: .int x :: st) h Q ↔ XE d 243 791 ls (.int (x + y) :: st) h Q := g_add rfl
theorem s243_791 : XE d 243 791 ls (.int x :: .ref a :: st) h Q ↔ XA [0, 7] (h.2.2.1 a) x (fun k => XE d 243 792 ls (.int k :: st) h Q) := g_ald rfl
theorem s243_792 : XE d 243 792 ls (.int x :: .ref a :: st) h Q ↔ (xvo 8 st = true ∧ XV [(11, 94)] (h.2.2.1 a) (fun m' => XC d m' [.ref a, .int x] h (fun v h' => XE d 243 795 ls (v.toList ++ st) h' Q))) := h_v1 rfl rfl
theorem s243_795 : XE d 243 795 (c0 :: c1 :: .val (.ref a) :: l) st h Q ↔ XE d 243 796 (c0 :: c1 :: .val (.ref a) :: l) (.ref a :: st) h Q := g_aload rfl rfl
theorem s243_795n : XE d 243 795 (c0 :: c1 :: .val .null :: l) st h Q ↔ XE d 243 796 (c0 :: c1 :: .val .null :: l) (.null :: st) h Q := g_aloadN rfl rfl
theorem s243_796 : XE d 243 796 (.val (.ref a) :: l) st h Q ↔ XE d 243 797 (.val (.ref a) :: l) (.ref a :: st) h Q := g_aload rfl rfl
theorem s243_797 : XE d 243 797 (c0 :: c1 :: c2 :: .val (.int x) :: l) st h Q ↔ XE d 243 798 (c0 :: c1 :: c2 :: .val (.int x) :: l) (.int x :: st) h Q := g_iload rfl rfl
theorem s243_798 : XE d 243 798 ls st h Q ↔ XE d 243 799 ls (.int 1 :: st) h Q := g_const rfl
theorem s243_799 : XE d 243 799 ls (.int y :: .int x :: st) h Q ↔ XE d 243 800 ls (.int (x + y) :: st) h Q := g_add rfl
theorem s243_800 : XE d 243 800 ls (.int x :: .ref a :: st) h Q ↔ XA [0, 7] (h.2.2.1 a) x (fun k => XE d 243 801 ls (.int k :: st) h Q) := g_ald rfl
theorem s243_801 : XE d 243 801 ls (.int x :: .ref a :: st) h Q ↔ (xvo 8 st = true ∧ XV [(12, 175)] (h.2.2.1 a) (fun m' => XC d m' [.ref a, .int x] h (fun v h' => XE d 243 804 ls (v.toList ++ st) h' Q))) := h_v1 rfl rfl
theorem s243_804 : XE d 243 804 ls (.int y :: .int x :: st) h Q ↔ (if x = y then XE d 243 1553 ls st h Q else XE d 243 807 ls st h Q) := g_ceq rfl
theorem s243_807 : XE d 243 807 ls st h Q ↔ XE d 243 808 ls (.int 0 :: st) h Q := g_const rfl
theorem s243_808 : XE d 243 808 ls [.int 0] h Q ↔ Q (some (.int 0)) h := g_zret rfl rfl
theorem s243_808t : XE d 243 808 ls [.int 1] h Q ↔ Q (some (.int 1)) h := g_zret rfl rfl
theorem s243_808b : XE d 243 808 ls [.int (bI q)] h Q ↔ Q (some (.int (bI q))) h := g_zret (bI_nar q) rfl
theorem s243_809 : XE d 243 809 (c0 :: .val (.ref a) :: l) st h Q ↔ XE d 243 810 (c0 :: .val (.ref a) :: l) (.ref a :: st) h Q := g_aload rfl rfl
theorem s243_809n : XE d 243 809 (c0 :: .val .null :: l) st h Q ↔ XE d 243 810 (c0 :: .val .null :: l) (.null :: st) h Q := g_aloadN rfl rfl
theorem s243_810 : XE d 243 810 (.val (.ref a) :: l) st h Q ↔ XE d 243 811 (.val (.ref a) :: l) (.ref a :: st) h Q := g_aload rfl rfl
theorem s243_811 : XE d 243 811 (c0 :: c1 :: c2 :: .val (.int x) :: l) st h Q ↔ XE d 243 812 (c0 :: c1 :: c2 :: .val (.int x) :: l) (.int x :: st) h Q := g_iload rfl rfl
theorem s243_812 : XE d 243 812 ls st h Q ↔ XE d 243 813 ls (.int 1 :: st) h Q := g_const rfl
theorem s243_813 : XE d 243 813 ls (.int y :: .int x :: st) h Q ↔ XE d 243 814 ls (.int (x + y) :: st) h Q := g_add rfl
theorem s243_814 : XE d 243 814 ls (.int x :: .ref a :: st) h Q ↔ XA [0, 7] (h.2.2.1 a) x (fun k => XE d 243 815 ls (.int k :: st) h Q) := g_ald rfl
theorem s243_815 : XE d 243 815 ls (.int x :: .ref a :: st) h Q ↔ (xvo 8 st = true ∧ XV [(11, 95)] (h.2.2.1 a) (fun m' => XC d m' [.ref a, .int x] h (fun v h' => XE d 243 818 ls (v.toList ++ st) h' Q))) := h_v1 rfl rfl
theorem s243_818 : XE d 243 818 (c0 :: c1 :: .val (.ref a) :: l) st h Q ↔ XE d 243 819 (c0 :: c1 :: .val (.ref a) :: l) (.ref a :: st) h Q := g_aload rfl rfl
theorem s243_818n : XE d 243 818 (c0 :: c1 :: .val .null :: l) st h Q ↔ XE d 243 819 (c0 :: c1 :: .val .null :: l) (.null :: st) h Q := g_aloadN rfl rfl
theorem s243_819 : XE d 243 819 (.val (.ref a) :: l) st h Q ↔ XE d 243 820 (.val (.ref a) :: l) (.ref a :: st) h Q := g_aload rfl rfl
theorem s243_820 : XE d 243 820 (c0 :: c1 :: c2 :: .val (.int x) :: l) st h Q ↔ XE d 243 821 (c0 :: c1 :: c2 :: .val (.int x) :: l) (.int x :: st) h Q := g_iload rfl rfl
theorem s243_821 : XE d 243 821 ls st h Q ↔ XE d 243 822 ls (.int 1 :: st) h Q := g_const rfl
theorem s243_822 : XE d 243 822 ls (.int y :: .int x :: st) h Q ↔ XE d 243 823 ls (.int (x + y) :: st) h Q := g_add rfl
theorem s243_823 : XE d 243 823 ls (.int x :: .ref a :: st) h Q ↔ XA [0, 7] (h.2.2.1 a) x (fun k => XE d 243 824 ls (.int k :: st) h Q) := g_ald rfl
theorem s243_824 : XE d 243 824 ls (.int x :: .ref a :: st) h Q ↔ (xvo 8 st = true ∧ XV [(12, 177)] (h.2.2.1 a) (fun m' => XC d m' [.ref a, .int x] h (fun v h' => XE d 243 827 ls (v.toList ++ st) h' Q))) := h_v1 rfl rfl
theorem s243_827 : XE d 243 827 ls (.int y :: .int x :: st) h Q ↔ (if x = y then XE d 243 1553 ls st h Q else XE d 243 830 ls st h Q) := g_ceq rfl
theorem s243_830 : XE d 243 830 ls st h Q ↔ XE d 243 831 ls (.int 0 :: st) h Q := g_const rfl
theorem s243_831 : XE d 243 831 ls [.int 0] h Q ↔ Q (some (.int 0)) h := g_zret rfl rfl
theorem s243_831t : XE d 243 831 ls [.int 1] h Q ↔ Q (some (.int 1)) h := g_zret rfl rfl
theorem s243_831b : XE d 243 831 ls [.int (bI q)] h Q ↔ Q (some (.int (bI q))) h := g_zret (bI_nar q) rfl
theorem s243_832 : XE d 243 832 (c0 :: .val (.ref a) :: l) st h Q ↔ XE d 243 833 (c0 :: .val (.ref a) :: l) (.ref a :: st) h Q := g_aload rfl rfl
theorem s243_832n : XE d 243 832 (c0 :: .val .null :: l) st h Q ↔ XE d 243 833 (c0 :: .val .null :: l) (.null :: st) h Q := g_aloadN rfl rfl
theorem s243_833 : XE d 243 833 (.val (.ref a) :: l) st h Q ↔ XE d 243 834 (.val (.ref a) :: l) (.ref a :: st) h Q := g_aload rfl rfl
theorem s243_834 : XE d 243 834 (c0 :: c1 :: c2 :: .val (.int x) :: l) st h Q ↔ XE d 243 835 (c0 :: c1 :: c2 :: .val (.int x) :: l) (.int x :: st) h Q := g_iload rfl rfl
theorem s243_835 : XE d 243 835 ls st h Q ↔ XE d 243 836 ls (.int 1 :: st) h Q := g_const rfl
theorem s243_836 : XE d 243 836 ls (.int y :: .int x :: st) h Q ↔ XE d 243 837 ls (.int (x + y) :: st) h Q := g_add rfl
theorem s243_837 : XE d 243 837 ls (.int x :: .ref a :: st) h Q ↔ XA [0, 7] (h.2.2.1 a) x (fun k => XE d 243 838 ls (.int k :: st) h Q) := g_ald rfl
theorem s243_838 : XE d 243 838 ls (.int x :: .ref a :: st) h Q ↔ (xvo 8 st = true ∧ XV [(11, 96)] (h.2.2.1 a) (fun m' => XC d m' [.ref a, .int x] h (fun v h' => XE d 243 841 ls (v.toList ++ st) h' Q))) := h_v1 rfl rfl
theorem s243_841 : XE d 243 841 (c0 :: c1 :: .val (.ref a) :: l) st h Q ↔ XE d 243 842 (c0 :: c1 :: .val (.ref a) :: l) (.ref a :: st) h Q := g_aload rfl rfl
theorem s243_841n : XE d 243 841 (c0 :: c1 :: .val .null :: l) st h Q ↔ XE d 243 842 (c0 :: c1 :: .val .null :: l) (.null :: st) h Q := g_aloadN rfl rfl
theorem s243_842 : XE d 243 842 (.val (.ref a) :: l) st h Q ↔ XE d 243 843 (.val (.ref a) :: l) (.ref a :: st) h Q := g_aload rfl rfl
theorem s243_843 : XE d 243 843 (c0 :: c1 :: c2 :: .val (.int x) :: l) st h Q ↔ XE d 243 844 (c0 :: c1 :: c2 :: .val (.int x) :: l) (.int x :: st) h Q := g_iload rfl rfl
theorem s243_844 : XE d 243 844 ls st h Q ↔ XE d 243 845 ls (.int 1 :: st) h Q := g_const rfl
theorem s243_845 : XE d 243 845 ls (.int y :: .int x :: st) h Q ↔ XE d 243 846 ls (.int (x + y) :: st) h Q := g_add rfl
theorem s243_846 : XE d 243 846 ls (.int x :: .ref a :: st) h Q ↔ XA [0, 7] (h.2.2.1 a) x (fun k => XE d 243 847 ls (.int k :: st) h Q) := g_ald rfl
theorem s243_847 : XE d 243 847 ls (.int x :: .ref a :: st) h Q ↔ (xvo 8 st = true ∧ XV [(12, 178)] (h.2.2.1 a) (fun m' => XC d m' [.ref a, .int x] h (fun v h' => XE d 243 850 ls (v.toList ++ st) h' Q))) := h_v1 rfl rfl
theorem s243_850 : XE d 243 850 ls (.int y :: .int x :: st) h Q ↔ (if x = y then XE d 243 1553 ls st h Q else XE d 243 853 ls st h Q) := g_ceq rfl
theorem s243_853 : XE d 243 853 ls st h Q ↔ XE d 243 854 ls (.int 0 :: st) h Q := g_const rfl
theorem s243_854 : XE d 243 854 ls [.int 0] h Q ↔ Q (some (.int 0)) h := g_zret rfl rfl
theorem s243_854t : XE d 243 854 ls [.int 1] h Q ↔ Q (some (.int 1)) h := g_zret rfl rfl
theorem s243_854b : XE d 243 854 ls [.int (bI q)] h Q ↔ Q (some (.int (bI q))) h := g_zret (bI_nar q) rfl
theorem s243_855 : XE d 243 855 (c0 :: .val (.ref a) :: l) st h Q ↔ XE d 243 856 (c0 :: .val (.ref a) :: l) (.ref a :: st) h Q := g_aload rfl rfl
theorem s243_855n : XE d 243 855 (c0 :: .val .null :: l) st h Q ↔ XE d 243 856 (c0 :: .val .null :: l) (.null :: st) h Q := g_aloadN rfl rfl
theorem s243_856 : XE d 243 856 (.val (.ref a) :: l) st h Q ↔ XE d 243 857 (.val (.ref a) :: l) (.ref a :: st) h Q := g_aload rfl rfl
theorem s243_857 : XE d 243 857 (c0 :: c1 :: c2 :: .val (.int x) :: l) st h Q ↔ XE d 243 858 (c0 :: c1 :: c2 :: .val (.int x) :: l) (.int x :: st) h Q := g_iload rfl rfl
theorem s243_858 : XE d 243 858 ls st h Q ↔ XE d 243 859 ls (.int 1 :: st) h Q := g_const rfl
theorem s243_859 : XE d 243 859 ls (.int y :: .int x :: st) h Q ↔ XE d 243 860 ls (.int (x + y) :: st) h Q := g_add rfl
theorem s243_860 : XE d 243 860 ls (.int x :: .ref a :: st) h Q ↔ XA [0, 7] (h.2.2.1 a) x (fun k => XE d 243 861 ls (.int k :: st) h Q) := g_ald rfl
theorem s243_861 : XE d 243 861 ls (.int x :: .ref a :: st) h Q ↔ (xvo 8 st = true ∧ XV [(11, 97)] (h.2.2.1 a) (fun m' => XC d m' [.ref a, .int x] h (fun v h' => XE d 243 864 ls (v.toList ++ st) h' Q))) := h_v1 rfl rfl
theorem s243_864 : XE d 243 864 (c0 :: c1 :: .val (.ref a) :: l) st h Q ↔ XE d 243 865 (c0 :: c1 :: .val (.ref a) :: l) (.ref a :: st) h Q := g_aload rfl rfl
theorem s243_864n : XE d 243 864 (c0 :: c1 :: .val .null :: l) st h Q ↔ XE d 243 865 (c0 :: c1 :: .val .null :: l) (.null :: st) h Q := g_aloadN rfl rfl
theorem s243_865 : XE d 243 865 (.val (.ref a) :: l) st h Q ↔ XE d 243 866 (.val (.ref a) :: l) (.ref a :: st) h Q := g_aload rfl rfl
theorem s243_866 : XE d 243 866 (c0 :: c1 :: c2 :: .val (.int x) :: l) st h Q ↔ XE d 243 867 (c0 :: c1 :: c2 :: .val (.int x) :: l) (.int x :: st) h Q := g_iload rfl rfl
theorem s243_867 : XE d 243 867 ls st h Q ↔ XE d 243 868 ls (.int 1 :: st) h Q := g_const rfl
theorem s243_868 : XE d 243 868 ls (.int y :: .int x :: st) h Q ↔ XE d 243 869 ls (.int (x + y) :: st) h Q := g_add rfl
theorem s243_869 : XE d 243 869 ls (.int x :: .ref a :: st) h Q ↔ XA [0, 7] (h.2.2.1 a) x (fun k => XE d 243 870 ls (.int k :: st) h Q) := g_ald rfl
theorem s243_870 : XE d 243 870 ls (.int x :: .ref a :: st) h Q ↔ (xvo 8 st = true ∧ XV [(12, 180)] (h.2.2.1 a) (fun m' => XC d m' [.ref a, .int x] h (fun v h' => XE d 243 873 ls (v.toList ++ st) h' Q))) := h_v1 rfl rfl
theorem s243_873 : XE d 243 873 ls (.int y :: .int x :: st) h Q ↔ (if x = y then XE d 243 1553 ls st h Q else XE d 243 876 ls st h Q) := g_ceq rfl
theorem s243_876 : XE d 243 876 ls st h Q ↔ XE d 243 877 ls (.int 0 :: st) h Q := g_const rfl
theorem s243_877 : XE d 243 877 ls [.int 0] h Q ↔ Q (some (.int 0)) h := g_zret rfl rfl
theorem s243_877t : XE d 243 877 ls [.int 1] h Q ↔ Q (some (.int 1)) h := g_zret rfl rfl
theorem s243_877b : XE d 243 877 ls [.int (bI q)] h Q ↔ Q (some (.int (bI q))) h := g_zret (bI_nar q) rfl
theorem s243_878 : XE d 243 878 (c0 :: .val (.ref a) :: l) st h Q ↔ XE d 243 879 (c0 :: .val (.ref a) :: l) (.ref a :: st) h Q := g_aload rfl rfl
theorem s243_878n : XE d 243 878 (c0 :: .val .null :: l) st h Q ↔ XE d 243 879 (c0 :: .val .null :: l) (.null :: st) h Q := g_aloadN rfl rfl
theorem s243_879 : XE d 243 879 ls (.ref a :: st) h Q ↔ (xvo 8 st = true ∧ XV [(11, 98)] (h.2.2.1 a) (fun m' => XC d m' [.ref a] h (fun v h' => XE d 243 882 ls (v.toList ++ st) h' Q))) := h_v0 rfl
theorem s243_882 : XE d 243 882 (c0 :: c1 :: .val (.ref a) :: l) st h Q ↔ XE d 243 883 (c0 :: c1 :: .val (.ref a) :: l) (.ref a :: st) h Q := g_aload rfl rfl
theorem s243_882n : XE d 243 882 (c0 :: c1 :: .val .null :: l) st h Q ↔ XE d 243 883 (c0 :: c1 :: .val .null :: l) (.null :: st) h Q := g_aloadN rfl rfl
theorem s243_883 : XE d 243 883 ls (.ref a :: st) h Q ↔ (xvo 8 st = true ∧ XV [(12, 182)] (h.2.2.1 a) (fun m' => XC d m' [.ref a] h (fun v h' => XE d 243 886 ls (v.toList ++ st) h' Q))) := h_v0 rfl
theorem s243_886 : XE d 243 886 ls (.int y :: .int x :: st) h Q ↔ (if x = y then XE d 243 1553 ls st h Q else XE d 243 889 ls st h Q) := g_ceq rfl
theorem s243_889 : XE d 243 889 ls st h Q ↔ XE d 243 890 ls (.int 0 :: st) h Q := g_const rfl
theorem s243_890 : XE d 243 890 ls [.int 0] h Q ↔ Q (some (.int 0)) h := g_zret rfl rfl
theorem s243_890t : XE d 243 890 ls [.int 1] h Q ↔ Q (some (.int 1)) h := g_zret rfl rfl
theorem s243_890b : XE d 243 890 ls [.int (bI q)] h Q ↔ Q (some (.int (bI q))) h := g_zret (bI_nar q) rfl
theorem s243_891 : XE d 243 891 (c0 :: .val (.ref a) :: l) st h Q ↔ XE d 243 892 (c0 :: .val (.ref a) :: l) (.ref a :: st) h Q := g_aload rfl rfl
theorem s243_891n : XE d 243 891 (c0 :: .val .null :: l) st h Q ↔ XE d 243 892 (c0 :: .val .null :: l) (.null :: st) h Q := g_aloadN rfl rfl
theorem s243_892 : XE d 243 892 (.val (.ref a) :: l) st h Q ↔ XE d 243 893 (.val (.ref a) :: l) (.ref a :: st) h Q := g_aload rfl rfl
theorem s243_893 : XE d 243 893 (c0 :: c1 :: c2 :: .val (.int x) :: l) st h Q ↔ XE d 243 894 (c0 :: c1 :: c2 :: .val (.int x) :: l) (.int x :: st) h Q := g_iload rfl rfl
theorem s243_894 : XE d 243 894 ls st h Q ↔ XE d 243 895 ls (.int 1 :: st) h Q := g_const rfl
theorem s243_895 : XE d 243 895 ls (.int y :: .int x :: st) h Q ↔ XE d 243 896 ls (.int (x + y) :: st) h Q := g_add rfl
theorem s243_896 : XE d 243 896 ls (.int x :: .ref a :: st) h Q ↔ XA [0, 7] (h.2.2.1 a) x (fun k => XE d 243 897 ls (.int k :: st) h Q) := g_ald rfl
theorem s243_897 : XE d 243 897 ls (.int x :: .ref a :: st) h Q ↔ (xvo 8 st = true ∧ XV [(11, 99)] (h.2.2.1 a) (fun m' => XC d m' [.ref a, .int x] h (fun v h' => XE d 243 900 ls (v.toList ++ st) h' Q))) := h_v1 rfl rfl
theorem s243_900 : XE d 243 900 (c0 :: c1 :: .val (.ref a) :: l) st h Q ↔ XE d 243 901 (c0 :: c1 :: .val (.ref a) :: l) (.ref a :: st) h Q := g_aload rfl rfl
theorem s243_900n : XE d 243 900 (c0 :: c1 :: .val .null :: l) st h Q ↔ XE d 243 901 (c0 :: c1 :: .val .null :: l) (.null :: st) h Q := g_aloadN rfl rfl
theorem s243_901 : XE d 243 901 (.val (.ref a) :: l) st h Q ↔ XE d 243 902 (.val (.ref a) :: l) (.ref a :: st) h Q := g_aload rfl rfl
theorem s243_902 : XE d 243 902 (c0 :: c1 :: c2 :: .val (.int x) :: l) st h Q ↔ XE d 243 903 (c0 :: c1 :: c2 :: .val (.int x) :: l) (.int x :: st) h Q := g_iload rfl rfl
theorem s243_903 : XE d 243 903 ls st h Q ↔ XE d 243 904 ls (.int 1 :: st) h Q := g_const rfl
theorem s243_904 : XE d 243 904 ls (.int y :: .int x :: st) h Q ↔ XE d 243 905 ls (.int (x + y) :: st) h Q := g_add rfl
theorem s243_905 : XE d 243 905 ls (.int x :: .ref a :: st) h Q ↔ XA [0, 7] (h.2.2.1 a) x (fun k => XE d 243 906 ls (.int k :: st) h Q) := g_ald rfl
theorem s243_906 : XE d 243 906 ls (.int x :: .ref a :: st) h Q ↔ (xvo 8 st = true ∧ XV [(12, 183)] (h.2.2.1 a) (fun m' => XC d m' [.ref a, .int x] h (fun v h' => XE d 243 909 ls (v.toList ++ st) h' Q))) := h_v1 rfl rfl
theorem s243_909 : XE d 243 909 ls (.int y :: .int x :: st) h Q ↔ (if x = y then XE d 243 1553 ls st h Q else XE d 243 912 ls st h Q) := g_ceq rfl
theorem s243_912 : XE d 243 912 ls st h Q ↔ XE d 243 913 ls (.int 0 :: st) h Q := g_const rfl
theorem s243_913 : XE d 243 913 ls [.int 0] h Q ↔ Q (some (.int 0)) h := g_zret rfl rfl
theorem s243_913t : XE d 243 913 ls [.int 1] h Q ↔ Q (some (.int 1)) h := g_zret rfl rfl
theorem s243_913b : XE d 243 913 ls [.int (bI q)] h Q ↔ Q (some (.int (bI q))) h := g_zret (bI_nar q) rfl
theorem s243_914 : XE d 243 914 (c0 :: .val (.ref a) :: l) st h Q ↔ XE d 243 915 (c0 :: .val (.ref a) :: l) (.ref a :: st) h Q := g_aload rfl rfl
theorem s243_914n : XE d 243 914 (c0 :: .val .null :: l) st h Q ↔ XE d 243 915 (c0 :: .val .null :: l) (.null :: st) h Q := g_aloadN rfl rfl
theorem s243_915 : XE d 243 915 (.val (.ref a) :: l) st h Q ↔ XE d 243 916 (.val (.ref a) :: l) (.ref a :: st) h Q := g_aload rfl rfl
theorem s243_916 : XE d 243 916 (c0 :: c1 :: c2 :: .val (.int x) :: l) st h Q ↔ XE d 243 917 (c0 :: c1 :: c2 :: .val (.int x) :: l) (.int x :: st) h Q := g_iload rfl rfl
theorem s243_917 : XE d 243 917 ls st h Q ↔ XE d 243 918 ls (.int 1 :: st) h Q := g_const rfl
theorem s243_918 : XE d 243 918 ls (.int y :: .int x :: st) h Q ↔ XE d 243 919 ls (.int (x + y) :: st) h Q := g_add rfl
theorem s243_919 : XE d 243 919 ls (.int x :: .ref a :: st) h Q ↔ XA [0, 7] (h.2.2.1 a) x (fun k => XE d 243 920 ls (.int k :: st) h Q) := g_ald rfl
theorem s243_920 : XE d 243 920 ls (.int x :: .ref a :: st) h Q ↔ (xvo 8 st = true ∧ XV [(11, 100)] (h.2.2.1 a) (fun m' => XC d m' [.ref a, .int x] h (fun v h' => XE d 243 923 ls (v.toList ++ st) h' Q))) := h_v1 rfl rfl
theorem s243_923 : XE d 243 923 (c0 :: c1 :: .val (.ref a) :: l) st h Q ↔ XE d 243 924 (c0 :: c1 :: .val (.ref a) :: l) (.ref a :: st) h Q := g_aload rfl rfl
theorem s243_923n : XE d 243 923 (c0 :: c1 :: .val .null :: l) st h Q ↔ XE d 243 924 (c0 :: c1 :: .val .null :: l) (.null :: st) h Q := g_aloadN rfl rfl
theorem s243_924 : XE d 243 924 (.val (.ref a) :: l) st h Q ↔ XE d 243 925 (.val (.ref a) :: l) (.ref a :: st) h Q := g_aload rfl rfl
theorem s243_925 : XE d 243 925 (c0 :: c1 :: c2 :: .val (.int x) :: l) st h Q ↔ XE d 243 926 (c0 :: c1 :: c2 :: .val (.int x) :: l) (.int x :: st) h Q := g_iload rfl rfl
theorem s243_926 : XE d 243 926 ls st h Q ↔ XE d 243 927 ls (.int 1 :: st) h Q := g_const rfl
theorem s243_927 : XE d 243 927 ls (.int y :: .int x :: st) h Q ↔ XE d 243 928 ls (.int (x + y) :: st) h Q := g_add rfl
theorem s243_928 : XE d 243 928 ls (.int x :: .ref a :: st) h Q ↔ XA [0, 7] (h.2.2.1 a) x (fun k => XE d 243 929 ls (.int k :: st) h Q) := g_ald rfl
theorem s243_929 : XE d 243 929 ls (.int x :: .ref a :: st) h Q ↔ (xvo 8 st = true ∧ XV [(12, 184)] (h.2.2.1 a) (fun m' => XC d m' [.ref a, .int x] h (fun v h' => XE d 243 932 ls (v.toList ++ st) h' Q))) := h_v1 rfl rfl
theorem s243_932 : XE d 243 932 ls (.int y :: .int x :: st) h Q ↔ (if x = y then XE d 243 1553 ls st h Q else XE d 243 935 ls st h Q) := g_ceq rfl
theorem s243_935 : XE d 243 935 ls st h Q ↔ XE d 243 936 ls (.int 0 :: st) h Q := g_const rfl
theorem s243_936 : XE d 243 936 ls [.int 0] h Q ↔ Q (some (.int 0)) h := g_zret rfl rfl
theorem s243_936t : XE d 243 936 ls [.int 1] h Q ↔ Q (some (.int 1)) h := g_zret rfl rfl
theorem s243_936b : XE d 243 936 ls [.int (bI q)] h Q ↔ Q (some (.int (bI q))) h := g_zret (bI_nar q) rfl
theorem s243_937 : XE d 243 937 (c0 :: .val (.ref a) :: l) st h Q ↔ XE d 243 938 (c0 :: .val (.ref a) :: l) (.ref a :: st) h Q := g_aload rfl rfl
theorem s243_937n : XE d 243 937 (c0 :: .val .null :: l) st h Q ↔ XE d 243 938 (c0 :: .val .null :: l) (.null :: st) h Q := g_aloadN rfl rfl
theorem s243_938 : XE d 243 938 (.val (.ref a) :: l) st h Q ↔ XE d 243 939 (.val (.ref a) :: l) (.ref a :: st) h Q := g_aload rfl rfl
theorem s243_939 : XE d 243 939 (c0 :: c1 :: c2 :: .val (.int x) :: l) st h Q ↔ XE d 243 940 (c0 :: c1 :: c2 :: .val (.int x) :: l) (.int x :: st) h Q := g_iload rfl rfl
theorem s243_940 : XE d 243 940 ls st h Q ↔ XE d 243 941 ls (.int 1 :: st) h Q := g_const rfl
theorem s243_941 : XE d 243 941 ls (.int y :: .int x :: st) h Q ↔ XE d 243 942 ls (.int (x + y) :: st) h Q := g_add rfl
theorem s243_942 : XE d 243 942 ls (.int x :: .ref a :: st) h Q ↔ XA [0, 7] (h.2.2.1 a) x (fun k => XE d 243 943 ls (.int k :: st) h Q) := g_ald rfl
theorem s243_943 : XE d 243 943 ls (.int x :: .ref a :: st) h Q ↔ (xvo 8 st = true ∧ XV [(11, 101)] (h.2.2.1 a) (fun m' => XC d m' [.ref a, .int x] h (fun v h' => XE d 243 946 ls (v.toList ++ st) h' Q))) := h_v1 rfl rfl
theorem s243_946 : XE d 243 946 (c0 :: c1 :: .val (.ref a) :: l) st h Q ↔ XE d 243 947 (c0 :: c1 :: .val (.ref a) :: l) (.ref a :: st) h Q := g_aload rfl rfl
theorem s243_946n : XE d 243 946 (c0 :: c1 :: .val .null :: l) st h Q ↔ XE d 243 947 (c0 :: c1 :: .val .null :: l) (.null :: st) h Q := g_aloadN rfl rfl
theorem s243_947 : XE d 243 947 (.val (.ref a) :: l) st h Q ↔ XE d 243 948 (.val (.ref a) :: l) (.ref a :: st) h Q := g_aload rfl rfl
theorem s243_948 : XE d 243 948 (c0 :: c1 :: c2 :: .val (.int x) :: l) st h Q ↔ XE d 243 949 (c0 :: c1 :: c2 :: .val (.int x) :: l) (.int x :: st) h Q := g_iload rfl rfl
theorem s243_949 : XE d 243 949 ls st h Q ↔ XE d 243 950 ls (.int 1 :: st) h Q := g_const rfl
theorem s243_950 : XE d 243 950 ls (.int y :: .int x :: st) h Q ↔ XE d 243 951 ls (.int (x + y) :: st) h Q := g_add rfl
theorem s243_951 : XE d 243 951 ls (.int x :: .ref a :: st) h Q ↔ XA [0, 7] (h.2.2.1 a) x (fun k => XE d 243 952 ls (.int k :: st) h Q) := g_ald rfl
theorem s243_952 : XE d 243 952 ls (.int x :: .ref a :: st) h Q ↔ (xvo 8 st = true ∧ XV [(12, 187)] (h.2.2.1 a) (fun m' => XC d m' [.ref a, .int x] h (fun v h' => XE d 243 955 ls (v.toList ++ st) h' Q))) := h_v1 rfl rfl
theorem s243_955 : XE d 243 955 ls (.int y :: .int x :: st) h Q ↔ (if x = y then XE d 243 1553 ls st h Q else XE d 243 958 ls st h Q) := g_ceq rfl
theorem s243_958 : XE d 243 958 ls st h Q ↔ XE d 243 959 ls (.int 0 :: st) h Q := g_const rfl
theorem s243_959 : XE d 243 959 ls [.int 0] h Q ↔ Q (some (.int 0)) h := g_zret rfl rfl
theorem s243_959t : XE d 243 959 ls [.int 1] h Q ↔ Q (some (.int 1)) h := g_zret rfl rfl
theorem s243_959b : XE d 243 959 ls [.int (bI q)] h Q ↔ Q (some (.int (bI q))) h := g_zret (bI_nar q) rfl
theorem s243_960 : XE d 243 960 (c0 :: .val (.ref a) :: l) st h Q ↔ XE d 243 961 (c0 :: .val (.ref a) :: l) (.ref a :: st) h Q := g_aload rfl rfl
theorem s243_960n : XE d 243 960 (c0 :: .val .null :: l) st h Q ↔ XE d 243 961 (c0 :: .val .null :: l) (.null :: st) h Q := g_aloadN rfl rfl
theorem s243_961 : XE d 243 961 ls (.ref a :: st) h Q ↔ (xvo 8 st = true ∧ XV [(11, 102)] (h.2.2.1 a) (fun m' => XC d m' [.ref a] h (fun v h' => XE d 243 964 ls (v.toList ++ st) h' Q))) := h_v0 rfl
theorem s243_964 : XE d 243 964 (c0 :: c1 :: .val (.ref a) :: l) st h Q ↔ XE d 243 965 (c0 :: c1 :: .val (.ref a) :: l) (.ref a :: st) h Q := g_aload rfl rfl
theorem s243_964n : XE d 243 964 (c0 :: c1 :: .val .null :: l) st h Q ↔ XE d 243 965 (c0 :: c1 :: .val .null :: l) (.null :: st) h Q := g_aloadN rfl rfl
theorem s243_965 : XE d 243 965 ls (.ref a :: st) h Q ↔ (xvo 8 st = true ∧ XV [(12, 189)] (h.2.2.1 a) (fun m' => XC d m' [.ref a] h (fun v h' => XE d 243 968 ls (v.toList ++ st) h' Q))) := h_v0 rfl
theorem s243_968 : XE d 243 968 ls (.int y :: .int x :: st) h Q ↔ (if x = y then XE d 243 1553 ls st h Q else XE d 243 971 ls st h Q) := g_ceq rfl
theorem s243_971 : XE d 243 971 ls st h Q ↔ XE d 243 972 ls (.int 0 :: st) h Q := g_const rfl
theorem s243_972 : XE d 243 972 ls [.int 0] h Q ↔ Q (some (.int 0)) h := g_zret rfl rfl
theorem s243_972t : XE d 243 972 ls [.int 1] h Q ↔ Q (some (.int 1)) h := g_zret rfl rfl
theorem s243_972b : XE d 243 972 ls [.int (bI q)] h Q ↔ Q (some (.int (bI q))) h := g_zret (bI_nar q) rfl
theorem s243_973 : XE d 243 973 (c0 :: .val (.ref a) :: l) st h Q ↔ XE d 243 974 (c0 :: .val (.ref a) :: l) (.ref a :: st) h Q := g_aload rfl rfl
theorem s243_973n : XE d 243 973 (c0 :: .val .null :: l) st h Q ↔ XE d 243 974 (c0 :: .val .null :: l) (.null :: st) h Q := g_aloadN rfl rfl
theorem s243_974 : XE d 243 974 ls (.ref a :: st) h Q ↔ (xvo 8 st = true ∧ XV [(11, 103)] (h.2.2.1 a) (fun m' => XC d m' [.ref a] h (fun v h' => XE d 243 977 ls (v.toList ++ st) h' Q))) := h_v0 rfl
theorem s243_977 : XE d 243 977 (c0 :: c1 :: .val (.ref a) :: l) st h Q ↔ XE d 243 978 (c0 :: c1 :: .val (.ref a) :: l) (.ref a :: st) h Q := g_aload rfl rfl
theorem s243_977n : XE d 243 977 (c0 :: c1 :: .val .null :: l) st h Q ↔ XE d 243 978 (c0 :: c1 :: .val .null :: l) (.null :: st) h Q := g_aloadN rfl rfl
theorem s243_978 : XE d 243 978 ls (.ref a :: st) h Q ↔ (xvo 8 st = true ∧ XV [(12, 190)] (h.2.2.1 a) (fun m' => XC d m' [.ref a] h (fun v h' => XE d 243 981 ls (v.toList ++ st) h' Q))) := h_v0 rfl
theorem s243_981 : XE d 243 981 ls (.int y :: .int x :: st) h Q ↔ (if x = y then XE d 243 1553 ls st h Q else XE d 243 984 ls st h Q) := g_ceq rfl
theorem s243_984 : XE d 243 984 ls st h Q ↔ XE d 243 985 ls (.int 0 :: st) h Q := g_const rfl
theorem s243_985 : XE d 243 985 ls [.int 0] h Q ↔ Q (some (.int 0)) h := g_zret rfl rfl
theorem s243_985t : XE d 243 985 ls [.int 1] h Q ↔ Q (some (.int 1)) h := g_zret rfl rfl
theorem s243_985b : XE d 243 985 ls [.int (bI q)] h Q ↔ Q (some (.int (bI q))) h := g_zret (bI_nar q) rfl
theorem s243_986 : XE d 243 986 (c0 :: .val (.ref a) :: l) st h Q ↔ XE d 243 987 (c0 :: .val (.ref a) :: l) (.ref a :: st) h Q := g_aload rfl rfl
theorem s243_986n : XE d 243 986 (c0 :: .val .null :: l) st h Q ↔ XE d 243 987 (c0 :: .val .null :: l) (.null :: st) h Q := g_aloadN rfl rfl
theorem s243_987 : XE d 243 987 (.val (.ref a) :: l) st h Q ↔ XE d 243 988 (.val (.ref a) :: l) (.ref a :: st) h Q := g_aload rfl rfl
theorem s243_988 : XE d 243 988 (c0 :: c1 :: c2 :: .val (.int x) :: l) st h Q ↔ XE d 243 989 (c0 :: c1 :: c2 :: .val (.int x) :: l) (.int x :: st) h Q := g_iload rfl rfl
theorem s243_989 : XE d 243 989 ls st h Q ↔ XE d 243 990 ls (.int 1 :: st) h Q := g_const rfl
theorem s243_990 : XE d 243 990 ls (.int y :: .int x :: st) h Q ↔ XE d 243 991 ls (.int (x + y) :: st) h Q := g_add rfl
theorem s243_991 : XE d 243 991 ls (.int x :: .ref a :: st) h Q ↔ XA [0, 7] (h.2.2.1 a) x (fun k => XE d 243 992 ls (.int k :: st) h Q) := g_ald rfl
theorem s243_992 : XE d 243 992 (.val (.ref a) :: l) st h Q ↔ XE d 243 993 (.val (.ref a) :: l) (.ref a :: st) h Q := g_aload rfl rfl
theorem s243_993 : XE d 243 993 (c0 :: c1 :: c2 :: .val (.int x) :: l) st h Q ↔ XE d 243 994 (c0 :: c1 :: c2 :: .val (.int x) :: l) (.int x :: st) h Q := g_iload rfl rfl
theorem s243_994 : XE d 243 994 ls st h Q ↔ XE d 243 995 ls (.int 2 :: st) h Q := g_const rfl
theorem s243_995 : XE d 243 995 ls (.int y :: .int x :: st) h Q ↔ XE d 243 996 ls (.int (x + y) :: st) h Q := g_add rfl
theorem s243_996 : XE d 243 996 ls (.int x :: .ref a :: st) h Q ↔ XA [0, 7] (h.2.2.1 a) x (fun k => XE d 243 997 ls (.int k :: st) h Q) := g_ald rfl
theorem s243_997 : XE d 243 997 (.val (.ref a) :: l) st h Q ↔ XE d 243 998 (.val (.ref a) :: l) (.ref a :: st) h Q := g_aload rfl rfl
theorem s243_998 : XE d 243 998 (c0 :: c1 :: c2 :: .val (.int x) :: l) st h Q ↔ XE d 243 999 (c0 :: c1 :: c2 :: .val (.int x) :: l) (.int x :: st) h Q := g_iload rfl rfl
theorem s243_999 : XE d 243 999 ls st h Q ↔ XE d 243 1000 ls (.int 3 :: st) h Q := g_const rfl
theorem s243_1000 : XE d 243 1000 ls (.int y :: .int x :: st) h Q ↔ XE d 243 1001 ls (.int (x + y) :: st) h Q := g_add rfl
theorem s243_1001 : XE d 243 1001 ls (.int x :: .ref a :: st) h Q ↔ XA [0, 7] (h.2.2.1 a) x (fun k => XE d 243 1002 ls (.int k :: st) h Q) := g_ald rfl
theorem s243_1002 : XE d 243 1002 ls (.int z :: .int y :: .int x :: .ref a :: st) h Q ↔ (xvo 8 st = true ∧ XV [(11, 104)] (h.2.2.1 a) (fun m' => XC d m' [.ref a, .int x, .int y, .int z] h (fun v h' => XE d 243 1005 ls (v.toList ++ st) h' Q))) := h_v3 rfl rfl
theorem s243_1005 : XE d 243 1005 (c0 :: c1 :: .val (.ref a) :: l) st h Q ↔ XE d 243 1006 (c0 :: c1 :: .val (.ref a) :: l) (.ref a :: st) h Q := g_aload rfl rfl
theorem s243_1005n : XE d 243 1005 (c0 :: c1 :: .val .null :: l) st h Q ↔ XE d 243 1006 (c0 :: c1 :: .val .null :: l) (.null :: st) h Q := g_aloadN rfl rfl
theorem s243_1006 : XE d 243 1006 (.val (.ref a) :: l) st h Q ↔ XE d 243 1007 (.val (.ref a) :: l) (.ref a :: st) h Q := g_aload rfl rfl
theorem s243_1007 : XE d 243 1007 (c0 :: c1 :: c2 :: .val (.int x) :: l) st h Q ↔ XE d 243 1008 (c0 :: c1 :: c2 :: .val (.int x) :: l) (.int x :: st) h Q := g_iload rfl rfl
theorem s243_1008 : XE d 243 1008 ls st h Q ↔ XE d 243 1009 ls (.int 1 :: st) h Q := g_const rfl
theorem s243_1009 : XE d 243 1009 ls (.int y :: .int x :: st) h Q ↔ XE d 243 1010 ls (.int (x + y) :: st) h Q := g_add rfl
theorem s243_1010 : XE d 243 1010 ls (.int x :: .ref a :: st) h Q ↔ XA [0, 7] (h.2.2.1 a) x (fun k => XE d 243 1011 ls (.int k :: st) h Q) := g_ald rfl
theorem s243_1011 : XE d 243 1011 (.val (.ref a) :: l) st h Q ↔ XE d 243 1012 (.val (.ref a) :: l) (.ref a :: st) h Q := g_aload rfl rfl
theorem s243_1012 : XE d 243 1012 (c0 :: c1 :: c2 :: .val (.int x) :: l) st h Q ↔ XE d 243 1013 (c0 :: c1 :: c2 :: .val (.int x) :: l) (.int x :: st) h Q := g_iload rfl rfl
theorem s243_1013 : XE d 243 1013 ls st h Q ↔ XE d 243 1014 ls (.int 2 :: st) h Q := g_const rfl
theorem s243_1014 : XE d 243 1014 ls (.int y :: .int x :: st) h Q ↔ XE d 243 1015 ls (.int (x + y) :: st) h Q := g_add rfl
theorem s243_1015 : XE d 243 1015 ls (.int x :: .ref a :: st) h Q ↔ XA [0, 7] (h.2.2.1 a) x (fun k => XE d 243 1016 ls (.int k :: st) h Q) := g_ald rfl
theorem s243_1016 : XE d 243 1016 (.val (.ref a) :: l) st h Q ↔ XE d 243 1017 (.val (.ref a) :: l) (.ref a :: st) h Q := g_aload rfl rfl
theorem s243_1017 : XE d 243 1017 (c0 :: c1 :: c2 :: .val (.int x) :: l) st h Q ↔ XE d 243 1018 (c0 :: c1 :: c2 :: .val (.int x) :: l) (.int x :: st) h Q := g_iload rfl rfl
theorem s243_1018 : XE d 243 1018 ls st h Q ↔ XE d 243 1019 ls (.int 3 :: st) h Q := g_const rfl
theorem s243_1019 : XE d 243 1019 ls (.int y :: .int x :: st) h Q ↔ XE d 243 1020 ls (.int (x + y) :: st) h Q := g_add rfl
theorem s243_1020 : XE d 243 1020 ls (.int x :: .ref a :: st) h Q ↔ XA [0, 7] (h.2.2.1 a) x (fun k => XE d 243 1021 ls (.int k :: st) h Q) := g_ald rfl
theorem s243_1021 : XE d 243 1021 ls (.int z :: .int y :: .int x :: .ref a :: st) h Q ↔ (xvo 8 st = true ∧ XV [(12, 191)] (h.2.2.1 a) (fun m' => XC d m' [.ref a, .int x, .int y, .int z] h (fun v h' => XE d 243 1024 ls (v.toList ++ st) h' Q))) := h_v3 rfl rfl
theorem s243_1024 : XE d 243 1024 ls (.int y :: .int x :: st) h Q ↔ (if x = y then XE d 243 1553 ls st h Q else XE d 243 1027 ls st h Q) := g_ceq rfl
theorem s243_1027 : XE d 243 1027 ls st h Q ↔ XE d 243 1028 ls (.int 0 :: st) h Q := g_const rfl
theorem s243_1028 : XE d 243 1028 ls [.int 0] h Q ↔ Q (some (.int 0)) h := g_zret rfl rfl
theorem s243_1028t : XE d 243 1028 ls [.int 1] h Q ↔ Q (some (.int 1)) h := g_zret rfl rfl
theorem s243_1028b : XE d 243 1028 ls [.int (bI q)] h Q ↔ Q (some (.int (bI q))) h := g_zret (bI_nar q) rfl
theorem s243_1029 : XE d 243 1029 (c0 :: .val (.ref a) :: l) st h Q ↔ XE d 243 1030 (c0 :: .val (.ref a) :: l) (.ref a :: st) h Q := g_aload rfl rfl
theorem s243_1029n : XE d 243 1029 (c0 :: .val .null :: l) st h Q ↔ XE d 243 1030 (c0 :: .val .null :: l) (.null :: st) h Q := g_aloadN rfl rfl
theorem s243_1030 : XE d 243 1030 (.val (.ref a) :: l) st h Q ↔ XE d 243 1031 (.val (.ref a) :: l) (.ref a :: st) h Q := g_aload rfl rfl
theorem s243_1031 : XE d 243 1031 (c0 :: c1 :: c2 :: .val (.int x) :: l) st h Q ↔ XE d 243 1032 (c0 :: c1 :: c2 :: .val (.int x) :: l) (.int x :: st) h Q := g_iload rfl rfl
theorem s243_1032 : XE d 243 1032 ls st h Q ↔ XE d 243 1033 ls (.int 1 :: st) h Q := g_const rfl
theorem s243_1033 : XE d 243 1033 ls (.int y :: .int x :: st) h Q ↔ XE d 243 1034 ls (.int (x + y) :: st) h Q := g_add rfl
theorem s243_1034 : XE d 243 1034 ls (.int x :: .ref a :: st) h Q ↔ XA [0, 7] (h.2.2.1 a) x (fun k => XE d 243 1035 ls (.int k :: st) h Q) := g_ald rfl
theorem s243_1035 : XE d 243 1035 ls (.int x :: .ref a :: st) h Q ↔ (xvo 8 st = true ∧ XV [(11, 105)] (h.2.2.1 a) (fun m' => XC d m' [.ref a, .int x] h (fun v h' => XE d 243 1038 ls (v.toList ++ st) h' Q))) := h_v1 rfl rfl
theorem s243_1038 : XE d 243 1038 (c0 :: c1 :: .val (.ref a) :: l) st h Q ↔ XE d 243 1039 (c0 :: c1 :: .val (.ref a) :: l) (.ref a :: st) h Q := g_aload rfl rfl
theorem s243_1038n : XE d 243 1038 (c0 :: c1 :: .val .null :: l) st h Q ↔ XE d 243 1039 (c0 :: c1 :: .val .null :: l) (.null :: st) h Q := g_aloadN rfl rfl
theorem s243_1039 : XE d 243 1039 (.val (.ref a) :: l) st h Q ↔ XE d 243 1040 (.val (.ref a) :: l) (.ref a :: st) h Q := g_aload rfl rfl
theorem s243_1040 : XE d 243 1040 (c0 :: c1 :: c2 :: .val (.int x) :: l) st h Q ↔ XE d 243 1041 (c0 :: c1 :: c2 :: .val (.int x) :: l) (.int x :: st) h Q := g_iload rfl rfl
theorem s243_1041 : XE d 243 1041 ls st h Q ↔ XE d 243 1042 ls (.int 1 :: st) h Q := g_const rfl
theorem s243_1042 : XE d 243 1042 ls (.int y :: .int x :: st) h Q ↔ XE d 243 1043 ls (.int (x + y) :: st) h Q := g_add rfl
theorem s243_1043 : XE d 243 1043 ls (.int x :: .ref a :: st) h Q ↔ XA [0, 7] (h.2.2.1 a) x (fun k => XE d 243 1044 ls (.int k :: st) h Q) := g_ald rfl
theorem s243_1044 : XE d 243 1044 ls (.int x :: .ref a :: st) h Q ↔ (xvo 8 st = true ∧ XV [(12, 192)] (h.2.2.1 a) (fun m' => XC d m' [.ref a, .int x] h (fun v h' => XE d 243 1047 ls (v.toList ++ st) h' Q))) := h_v1 rfl rfl
theorem s243_1047 : XE d 243 1047 ls (.int y :: .int x :: st) h Q ↔ (if x = y then XE d 243 1553 ls st h Q else XE d 243 1050 ls st h Q) := g_ceq rfl
theorem s243_1050 : XE d 243 1050 ls st h Q ↔ XE d 243 1051 ls (.int 0 :: st) h Q := g_const rfl
theorem s243_1051 : XE d 243 1051 ls [.int 0] h Q ↔ Q (some (.int 0)) h := g_zret rfl rfl
theorem s243_1051t : XE d 243 1051 ls [.int 1] h Q ↔ Q (some (.int 1)) h := g_zret rfl rfl
theorem s243_1051b : XE d 243 1051 ls [.int (bI q)] h Q ↔ Q (some (.int (bI q))) h := g_zret (bI_nar q) rfl
theorem s243_1052 : XE d 243 1052 (c0 :: .val (.ref a) :: l) st h Q ↔ XE d 243 1053 (c0 :: .val (.ref a) :: l) (.ref a :: st) h Q := g_aload rfl rfl
theorem s243_1052n : XE d 243 1052 (c0 :: .val .null :: l) st h Q ↔ XE d 243 1053 (c0 :: .val .null :: l) (.null :: st) h Q := g_aloadN rfl rfl
theorem s243_1053 : XE d 243 1053 ls (.ref a :: st) h Q ↔ (xvo 8 st = true ∧ XV [(11, 106)] (h.2.2.1 a) (fun m' => XC d m' [.ref a] h (fun v h' => XE d 243 1056 ls (v.toList ++ st) h' Q))) := h_v0 rfl
theorem s243_1056 : XE d 243 1056 (c0 :: c1 :: .val (.ref a) :: l) st h Q ↔ XE d 243 1057 (c0 :: c1 :: .val (.ref a) :: l) (.ref a :: st) h Q := g_aload rfl rfl
theorem s243_1056n : XE d 243 1056 (c0 :: c1 :: .val .null :: l) st h Q ↔ XE d 243 1057 (c0 :: c1 :: .val .null :: l) (.null :: st) h Q := g_aloadN rfl rfl
theorem s243_1057 : XE d 243 1057 ls (.ref a :: st) h Q ↔ (xvo 8 st = true ∧ XV [(12, 204)] (h.2.2.1 a) (fun m' => XC d m' [.ref a] h (fun v h' => XE d 243 1060 ls (v.toList ++ st) h' Q))) := h_v0 rfl
theorem s243_1060 : XE d 243 1060 ls (.int y :: .int x :: st) h Q ↔ (if x = y then XE d 243 1553 ls st h Q else XE d 243 1063 ls st h Q) := g_ceq rfl
theorem s243_1063 : XE d 243 1063 ls st h Q ↔ XE d 243 1064 ls (.int 0 :: st) h Q := g_const rfl
theorem s243_1064 : XE d 243 1064 ls [.int 0] h Q ↔ Q (some (.int 0)) h := g_zret rfl rfl
theorem s243_1064t : XE d 243 1064 ls [.int 1] h Q ↔ Q (some (.int 1)) h := g_zret rfl rfl
theorem s243_1064b : XE d 243 1064 ls [.int (bI q)] h Q ↔ Q (some (.int (bI q))) h := g_zret (bI_nar q) rfl
theorem s243_1065 : XE d 243 1065 (c0 :: .val (.ref a) :: l) st h Q ↔ XE d 243 1066 (c0 :: .val (.ref a) :: l) (.ref a :: st) h Q := g_aload rfl rfl
theorem s243_1065n : XE d 243 1065 (c0 :: .val .null :: l) st h Q ↔ XE d 243 1066 (c0 :: .val .null :: l) (.null :: st) h Q := g_aloadN rfl rfl
theorem s243_1066 : XE d 243 1066 (.val (.ref a) :: l) st h Q ↔ XE d 243 1067 (.val (.ref a) :: l) (.ref a :: st) h Q := g_aload rfl rfl
theorem s243_1067 : XE d 243 1067 (c0 :: c1 :: c2 :: .val (.int x) :: l) st h Q ↔ XE d 243 1068 (c0 :: c1 :: c2 :: .val (.int x) :: l) (.int x :: st) h Q := g_iload rfl rfl
theorem s243_1068 : XE d 243 1068 ls st h Q ↔ XE d 243 1069 ls (.int 1 :: st) h Q := g_const rfl
theorem s243_1069 : XE d 243 1069 ls (.int y :: .int x :: st) h Q ↔ XE d 243 1070 ls (.int (x + y) :: st) h Q := g_add rfl
theorem s243_1070 : XE d 243 1070 ls (.int x :: .ref a :: st) h Q ↔ XA [0, 7] (h.2.2.1 a) x (fun k => XE d 243 1071 ls (.int k :: st) h Q) := g_ald rfl
theorem s243_1071 : XE d 243 1071 (.val (.ref a) :: l) st h Q ↔ XE d 243 1072 (.val (.ref a) :: l) (.ref a :: st) h Q := g_aload rfl rfl
theorem s243_1072 : XE d 243 1072 (c0 :: c1 :: c2 :: .val (.int x) :: l) st h Q ↔ XE d 243 1073 (c0 :: c1 :: c2 :: .val (.int x) :: l) (.int x :: st) h Q := g_iload rfl rfl
theorem s243_1073 : XE d 243 1073 ls st h Q ↔ XE d 243 1074 ls (.int 2 :: st) h Q := g_const rfl
theorem s243_1074 : XE d 243 1074 ls (.int y :: .int x :: st) h Q ↔ XE d 243 1075 ls (.int (x + y) :: st) h Q := g_add rfl
theorem s243_1075 : XE d 243 1075 ls (.int x :: .ref a :: st) h Q ↔ XA [0, 7] (h.2.2.1 a) x (fun k => XE d 243 1076 ls (.int k :: st) h Q) := g_ald rfl
theorem s243_1076 : XE d 243 1076 ls (.int y :: .int x :: .ref a :: st) h Q ↔ (xvo 8 st = true ∧ XV [(11, 107)] (h.2.2.1 a) (fun m' => XC d m' [.ref a, .int x, .int y] h (fun v h' => XE d 243 1079 ls (v.toList ++ st) h' Q))) := h_v2 rfl rfl
theorem s243_1079 : XE d 243 1079 (c0 :: c1 :: .val (.ref a) :: l) st h Q ↔ XE d 243 1080 (c0 :: c1 :: .val (.ref a) :: l) (.ref a :: st) h Q := g_aload rfl rfl
theorem s243_1079n : XE d 243 1079 (c0 :: c1 :: .val .null :: l) st h Q ↔ XE d 243 1080 (c0 :: c1 :: .val .null :: l) (.null :: st) h Q := g_aloadN rfl rfl
theorem s243_1080 : XE d 243 1080 (.val (.ref a) :: l) st h Q ↔ XE d 243 1081 (.val (.ref a) :: l) (.ref a :: st) h Q := g_aload rfl rfl
theorem s243_1081 : XE d 243 1081 (c0 :: c1 :: c2 :: .val (.int x) :: l) st h Q ↔ XE d 243 1082 (c0 :: c1 :: c2 :: .val (.int x) :: l) (.int x :: st) h Q := g_iload rfl rfl
theorem s243_1082 : XE d 243 1082 ls st h Q ↔ XE d 243 1083 ls (.int 1 :: st) h Q := g_const rfl
theorem s243_1083 : XE d 243 1083 ls (.int y :: .int x :: st) h Q ↔ XE d 243 1084 ls (.int (x + y) :: st) h Q := g_add rfl
theorem s243_1084 : XE d 243 1084 ls (.int x :: .ref a :: st) h Q ↔ XA [0, 7] (h.2.2.1 a) x (fun k => XE d 243 1085 ls (.int k :: st) h Q) := g_ald rfl
theorem s243_1085 : XE d 243 1085 (.val (.ref a) :: l) st h Q ↔ XE d 243 1086 (.val (.ref a) :: l) (.ref a :: st) h Q := g_aload rfl rfl
theorem s243_1086 : XE d 243 1086 (c0 :: c1 :: c2 :: .val (.int x) :: l) st h Q ↔ XE d 243 1087 (c0 :: c1 :: c2 :: .val (.int x) :: l) (.int x :: st) h Q := g_iload rfl rfl
theorem s243_1087 : XE d 243 1087 ls st h Q ↔ XE d 243 1088 ls (.int 2 :: st) h Q := g_const rfl
theorem s243_1088 : XE d 243 1088 ls (.int y :: .int x :: st) h Q ↔ XE d 243 1089 ls (.int (x + y) :: st) h Q := g_add rfl
theorem s243_1089 : XE d 243 1089 ls (.int x :: .ref a :: st) h Q ↔ XA [0, 7] (h.2.2.1 a) x (fun k => XE d 243 1090 ls (.int k :: st) h Q) := g_ald rfl
theorem s243_1090 : XE d 243 1090 ls (.int y :: .int x :: .ref a :: st) h Q ↔ (xvo 8 st = true ∧ XV [(12, 205)] (h.2.2.1 a) (fun m' => XC d m' [.ref a, .int x, .int y] h (fun v h' => XE d 243 1093 ls (v.toList ++ st) h' Q))) := h_v2 rfl rfl
theorem s243_1093 : XE d 243 1093 ls (.int y :: .int x :: st) h Q ↔ (if x = y then XE d 243 1553 ls st h Q else XE d 243 1096 ls st h Q) := g_ceq rfl
theorem s243_1096 : XE d 243 1096 ls st h Q ↔ XE d 243 1097 ls (.int 0 :: st) h Q := g_const rfl
theorem s243_1097 : XE d 243 1097 ls [.int 0] h Q ↔ Q (some (.int 0)) h := g_zret rfl rfl
theorem s243_1097t : XE d 243 1097 ls [.int 1] h Q ↔ Q (some (.int 1)) h := g_zret rfl rfl
theorem s243_1097b : XE d 243 1097 ls [.int (bI q)] h Q ↔ Q (some (.int (bI q))) h := g_zret (bI_nar q) rfl
theorem s243_1098 : XE d 243 1098 (c0 :: .val (.ref a) :: l) st h Q ↔ XE d 243 1099 (c0 :: .val (.ref a) :: l) (.ref a :: st) h Q := g_aload rfl rfl
theorem s243_1098n : XE d 243 1098 (c0 :: .val .null :: l) st h Q ↔ XE d 243 1099 (c0 :: .val .null :: l) (.null :: st) h Q := g_aloadN rfl rfl
theorem s243_1099 : XE d 243 1099 (.val (.ref a) :: l) st h Q ↔ XE d 243 1100 (.val (.ref a) :: l) (.ref a :: st) h Q := g_aload rfl rfl
theorem s243_1100 : XE d 243 1100 (c0 :: c1 :: c2 :: .val (.int x) :: l) st h Q ↔ XE d 243 1101 (c0 :: c1 :: c2 :: .val (.int x) :: l) (.int x :: st) h Q := g_iload rfl rfl
theorem s243_1101 : XE d 243 1101 ls st h Q ↔ XE d 243 1102 ls (.int 1 :: st) h Q := g_const rfl
theorem s243_1102 : XE d 243 1102 ls (.int y :: .int x :: st) h Q ↔ XE d 243 1103 ls (.int (x + y) :: st) h Q := g_add rfl
theorem s243_1103 : XE d 243 1103 ls (.int x :: .ref a :: st) h Q ↔ XA [0, 7] (h.2.2.1 a) x (fun k => XE d 243 1104 ls (.int k :: st) h Q) := g_ald rfl
theorem s243_1104 : XE d 243 1104 ls (.int x :: .ref a :: st) h Q ↔ (xvo 8 st = true ∧ XV [(11, 108)] (h.2.2.1 a) (fun m' => XC d m' [.ref a, .int x] h (fun v h' => XE d 243 1107 ls (v.toList ++ st) h' Q))) := h_v1 rfl rfl
theorem s243_1107 : XE d 243 1107 (c0 :: c1 :: .val (.ref a) :: l) st h Q ↔ XE d 243 1108 (c0 :: c1 :: .val (.ref a) :: l) (.ref a :: st) h Q := g_aload rfl rfl
theorem s243_1107n : XE d 243 1107 (c0 :: c1 :: .val .null :: l) st h Q ↔ XE d 243 1108 (c0 :: c1 :: .val .null :: l) (.null :: st) h Q := g_aloadN rfl rfl
theorem s243_1108 : XE d 243 1108 (.val (.ref a) :: l) st h Q ↔ XE d 243 1109 (.val (.ref a) :: l) (.ref a :: st) h Q := g_aload rfl rfl
theorem s243_1109 : XE d 243 1109 (c0 :: c1 :: c2 :: .val (.int x) :: l) st h Q ↔ XE d 243 1110 (c0 :: c1 :: c2 :: .val (.int x) :: l) (.int x :: st) h Q := g_iload rfl rfl
theorem s243_1110 : XE d 243 1110 ls st h Q ↔ XE d 243 1111 ls (.int 1 :: st) h Q := g_const rfl
theorem s243_1111 : XE d 243 1111 ls (.int y :: .int x :: st) h Q ↔ XE d 243 1112 ls (.int (x + y) :: st) h Q := g_add rfl
theorem s243_1112 : XE d 243 1112 ls (.int x :: .ref a :: st) h Q ↔ XA [0, 7] (h.2.2.1 a) x (fun k => XE d 243 1113 ls (.int k :: st) h Q) := g_ald rfl
theorem s243_1113 : XE d 243 1113 ls (.int x :: .ref a :: st) h Q ↔ (xvo 8 st = true ∧ XV [(12, 207)] (h.2.2.1 a) (fun m' => XC d m' [.ref a, .int x] h (fun v h' => XE d 243 1116 ls (v.toList ++ st) h' Q))) := h_v1 rfl rfl
theorem s243_1116 : XE d 243 1116 ls (.int y :: .int x :: st) h Q ↔ (if x = y then XE d 243 1553 ls st h Q else XE d 243 1119 ls st h Q) := g_ceq rfl
theorem s243_1119 : XE d 243 1119 ls st h Q ↔ XE d 243 1120 ls (.int 0 :: st) h Q := g_const rfl
theorem s243_1120 : XE d 243 1120 ls [.int 0] h Q ↔ Q (some (.int 0)) h := g_zret rfl rfl
theorem s243_1120t : XE d 243 1120 ls [.int 1] h Q ↔ Q (some (.int 1)) h := g_zret rfl rfl
theorem s243_1120b : XE d 243 1120 ls [.int (bI q)] h Q ↔ Q (some (.int (bI q))) h := g_zret (bI_nar q) rfl
theorem s243_1121 : XE d 243 1121 (c0 :: .val (.ref a) :: l) st h Q ↔ XE d 243 1122 (c0 :: .val (.ref a) :: l) (.ref a :: st) h Q := g_aload rfl rfl
theorem s243_1121n : XE d 243 1121 (c0 :: .val .null :: l) st h Q ↔ XE d 243 1122 (c0 :: .val .null :: l) (.null :: st) h Q := g_aloadN rfl rfl
theorem s243_1122 : XE d 243 1122 (.val (.ref a) :: l) st h Q ↔ XE d 243 1123 (.val (.ref a) :: l) (.ref a :: st) h Q := g_aload rfl rfl
theorem s243_1123 : XE d 243 1123 (c0 :: c1 :: c2 :: .val (.int x) :: l) st h Q ↔ XE d 243 1124 (c0 :: c1 :: c2 :: .val (.int x) :: l) (.int x :: st) h Q := g_iload rfl rfl
theorem s243_1124 : XE d 243 1124 ls st h Q ↔ XE d 243 1125 ls (.int 1 :: st) h Q := g_const rfl
theorem s243_1125 : XE d 243 1125 ls (.int y :: .int x :: st) h Q ↔ XE d 243 1126 ls (.int (x + y) :: st) h Q := g_add rfl
theorem s243_1126 : XE d 243 1126 ls (.int x :: .ref a :: st) h Q ↔ XA [0, 7] (h.2.2.1 a) x (fun k => XE d 243 1127 ls (.int k :: st) h Q) := g_ald rfl
theorem s243_1127 : XE d 243 1127 (.val (.ref a) :: l) st h Q ↔ XE d 243 1128 (.val (.ref a) :: l) (.ref a :: st) h Q := g_aload rfl rfl
theorem s243_1128 : XE d 243 1128 (c0 :: c1 :: c2 :: .val (.int x) :: l) st h Q ↔ XE d 243 1129 (c0 :: c1 :: c2 :: .val (.int x) :: l) (.int x :: st) h Q := g_iload rfl rfl
theorem s243_1129 : XE d 243 1129 ls st h Q ↔ XE d 243 1130 ls (.int 2 :: st) h Q := g_const rfl
theorem s243_1130 : XE d 243 1130 ls (.int y :: .int x :: st) h Q ↔ XE d 243 1131 ls (.int (x + y) :: st) h Q := g_add rfl
theorem s243_1131 : XE d 243 1131 ls (.int x :: .ref a :: st) h Q ↔ XA [0, 7] (h.2.2.1 a) x (fun k => XE d 243 1132 ls (.int k :: st) h Q) := g_ald rfl
theorem s243_1132 : XE d 243 1132 (.val (.ref a) :: l) st h Q ↔ XE d 243 1133 (.val (.ref a) :: l) (.ref a :: st) h Q := g_aload rfl rfl
theorem s243_1133 : XE d 243 1133 (c0 :: c1 :: c2 :: .val (.int x) :: l) st h Q ↔ XE d 243 1134 (c0 :: c1 :: c2 :: .val (.int x) :: l) (.int x :: st) h Q := g_iload rfl rfl
theorem s243_1134 : XE d 243 1134 ls st h Q ↔ XE d 243 1135 ls (.int 3 :: st) h Q := g_const rfl
theorem s243_1135 : XE d 243 1135 ls (.int y :: .int x :: st) h Q ↔ XE d 243 1136 ls (.int (x + y) :: st) h Q := g_add rfl
theorem s243_1136 : XE d 243 1136 ls (.int x :: .ref a :: st) h Q ↔ XA [0, 7] (h.2.2.1 a) x (fun k => XE d 243 1137 ls (.int k :: st) h Q) := g_ald rfl
theorem s243_1137 : XE d 243 1137 ls (.int z :: .int y :: .int x :: .ref a :: st) h Q ↔ (xvo 8 st = true ∧ XV [(11, 109)] (h.2.2.1 a) (fun m' => XC d m' [.ref a, .int x, .int y, .int z] h (fun v h' => XE d 243 1140 ls (v.toList ++ st) h' Q))) := h_v3 rfl rfl
theorem s243_1140 : XE d 243 1140 (c0 :: c1 :: .val (.ref a) :: l) st h Q ↔ XE d 243 1141 (c0 :: c1 :: .val (.ref a) :: l) (.ref a :: st) h Q := g_aload rfl rfl
theorem s243_1140n : XE d 243 1140 (c0 :: c1 :: .val .null :: l) st h Q ↔ XE d 243 1141 (c0 :: c1 :: .val .null :: l) (.null :: st) h Q := g_aloadN rfl rfl
theorem s243_1141 : XE d 243 1141 (.val (.ref a) :: l) st h Q ↔ XE d 243 1142 (.val (.ref a) :: l) (.ref a :: st) h Q := g_aload rfl rfl
theorem s243_1142 : XE d 243 1142 (c0 :: c1 :: c2 :: .val (.int x) :: l) st h Q ↔ XE d 243 1143 (c0 :: c1 :: c2 :: .val (.int x) :: l) (.int x :: st) h Q := g_iload rfl rfl
theorem s243_1143 : XE d 243 1143 ls st h Q ↔ XE d 243 1144 ls (.int 1 :: st) h Q := g_const rfl
theorem s243_1144 : XE d 243 1144 ls (.int y :: .int x :: st) h Q ↔ XE d 243 1145 ls (.int (x + y) :: st) h Q := g_add rfl
theorem s243_1145 : XE d 243 1145 ls (.int x :: .ref a :: st) h Q ↔ XA [0, 7] (h.2.2.1 a) x (fun k => XE d 243 1146 ls (.int k :: st) h Q) := g_ald rfl
theorem s243_1146 : XE d 243 1146 (.val (.ref a) :: l) st h Q ↔ XE d 243 1147 (.val (.ref a) :: l) (.ref a :: st) h Q := g_aload rfl rfl
theorem s243_1147 : XE d 243 1147 (c0 :: c1 :: c2 :: .val (.int x) :: l) st h Q ↔ XE d 243 1148 (c0 :: c1 :: c2 :: .val (.int x) :: l) (.int x :: st) h Q := g_iload rfl rfl
theorem s243_1148 : XE d 243 1148 ls st h Q ↔ XE d 243 1149 ls (.int 2 :: st) h Q := g_const rfl
theorem s243_1149 : XE d 243 1149 ls (.int y :: .int x :: st) h Q ↔ XE d 243 1150 ls (.int (x + y) :: st) h Q := g_add rfl
theorem s243_1150 : XE d 243 1150 ls (.int x :: .ref a :: st) h Q ↔ XA [0, 7] (h.2.2.1 a) x (fun k => XE d 243 1151 ls (.int k :: st) h Q) := g_ald rfl
theorem s243_1151 : XE d 243 1151 (.val (.ref a) :: l) st h Q ↔ XE d 243 1152 (.val (.ref a) :: l) (.ref a :: st) h Q := g_aload rfl rfl
theorem s243_1152 : XE d 243 1152 (c0 :: c1 :: c2 :: .val (.int x) :: l) st h Q ↔ XE d 243 1153 (c0 :: c1 :: c2 :: .val (.int x) :: l) (.int x :: st) h Q := g_iload rfl rfl
theorem s243_1153 : XE d 243 1153 ls st h Q ↔ XE d 243 1154 ls (.int 3 :: st) h Q := g_const rfl
theorem s243_1154 : XE d 243 1154 ls (.int y :: .int x :: st) h Q ↔ XE d 243 1155 ls (.int (x + y) :: st) h Q := g_add rfl
theorem s243_1155 : XE d 243 1155 ls (.int x :: .ref a :: st) h Q ↔ XA [0, 7] (h.2.2.1 a) x (fun k => XE d 243 1156 ls (.int k :: st) h Q) := g_ald rfl
theorem s243_1156 : XE d 243 1156 ls (.int z :: .int y :: .int x :: .ref a :: st) h Q ↔ (xvo 8 st = true ∧ XV [(12, 212)] (h.2.2.1 a) (fun m' => XC d m' [.ref a, .int x, .int y, .int z] h (fun v h' => XE d 243 1159 ls (v.toList ++ st) h' Q))) := h_v3 rfl rfl
theorem s243_1159 : XE d 243 1159 ls (.int y :: .int x :: st) h Q ↔ (if x = y then XE d 243 1553 ls st h Q else XE d 243 1162 ls st h Q) := g_ceq rfl
theorem s243_1162 : XE d 243 1162 ls st h Q ↔ XE d 243 1163 ls (.int 0 :: st) h Q := g_const rfl
theorem s243_1163 : XE d 243 1163 ls [.int 0] h Q ↔ Q (some (.int 0)) h := g_zret rfl rfl
theorem s243_1163t : XE d 243 1163 ls [.int 1] h Q ↔ Q (some (.int 1)) h := g_zret rfl rfl
theorem s243_1163b : XE d 243 1163 ls [.int (bI q)] h Q ↔ Q (some (.int (bI q))) h := g_zret (bI_nar q) rfl
theorem s243_1164 : XE d 243 1164 (c0 :: .val (.ref a) :: l) st h Q ↔ XE d 243 1165 (c0 :: .val (.ref a) :: l) (.ref a :: st) h Q := g_aload rfl rfl
theorem s243_1164n : XE d 243 1164 (c0 :: .val .null :: l) st h Q ↔ XE d 243 1165 (c0 :: .val .null :: l) (.null :: st) h Q := g_aloadN rfl rfl
theorem s243_1165 : XE d 243 1165 (.val (.ref a) :: l) st h Q ↔ XE d 243 1166 (.val (.ref a) :: l) (.ref a :: st) h Q := g_aload rfl rfl
theorem s243_1166 : XE d 243 1166 (c0 :: c1 :: c2 :: .val (.int x) :: l) st h Q ↔ XE d 243 1167 (c0 :: c1 :: c2 :: .val (.int x) :: l) (.int x :: st) h Q := g_iload rfl rfl
theorem s243_1167 : XE d 243 1167 ls st h Q ↔ XE d 243 1168 ls (.int 1 :: st) h Q := g_const rfl
theorem s243_1168 : XE d 243 1168 ls (.int y :: .int x :: st) h Q ↔ XE d 243 1169 ls (.int (x + y) :: st) h Q := g_add rfl
theorem s243_1169 : XE d 243 1169 ls (.int x :: .ref a :: st) h Q ↔ XA [0, 7] (h.2.2.1 a) x (fun k => XE d 243 1170 ls (.int k :: st) h Q) := g_ald rfl
theorem s243_1170 : XE d 243 1170 (.val (.ref a) :: l) st h Q ↔ XE d 243 1171 (.val (.ref a) :: l) (.ref a :: st) h Q := g_aload rfl rfl
theorem s243_1171 : XE d 243 1171 (c0 :: c1 :: c2 :: .val (.int x) :: l) st h Q ↔ XE d 243 1172 (c0 :: c1 :: c2 :: .val (.int x) :: l) (.int x :: st) h Q := g_iload rfl rfl
theorem s243_1172 : XE d 243 1172 ls st h Q ↔ XE d 243 1173 ls (.int 2 :: st) h Q := g_const rfl
theorem s243_1173 : XE d 243 1173 ls (.int y :: .int x :: st) h Q ↔ XE d 243 1174 ls (.int (x + y) :: st) h Q := g_add rfl
theorem s243_1174 : XE d 243 1174 ls (.int x :: .ref a :: st) h Q ↔ XA [0, 7] (h.2.2.1 a) x (fun k => XE d 243 1175 ls (.int k :: st) h Q) := g_ald rfl
theorem s243_1175 : XE d 243 1175 (.val (.ref a) :: l) st h Q ↔ XE d 243 1176 (.val (.ref a) :: l) (.ref a :: st) h Q := g_aload rfl rfl
theorem s243_1176 : XE d 243 1176 (c0 :: c1 :: c2 :: .val (.int x) :: l) st h Q ↔ XE d 243 1177 (c0 :: c1 :: c2 :: .val (.int x) :: l) (.int x :: st) h Q := g_iload rfl rfl
theorem s243_1177 : XE d 243 1177 ls st h Q ↔ XE d 243 1178 ls (.int 3 :: st) h Q := g_const rfl
theorem s243_1178 : XE d 243 1178 ls (.int y :: .int x :: st) h Q ↔ XE d 243 1179 ls (.int (x + y) :: st) h Q := g_add rfl
theorem s243_1179 : XE d 243 1179 ls (.int x :: .ref a :: st) h Q ↔ XA [0, 7] (h.2.2.1 a) x (fun k => XE d 243 1180 ls (.int k :: st) h Q) := g_ald rfl
theorem s243_1180 : XE d 243 1180 ls (.int z :: .int y :: .int x :: .ref a :: st) h Q ↔ (xvo 8 st = true ∧ XV [(11, 110)] (h.2.2.1 a) (fun m' => XC d m' [.ref a, .int x, .int y, .int z] h (fun v h' => XE d 243 1183 ls (v.toList ++ st) h' Q))) := h_v3 rfl rfl
theorem s243_1183 : XE d 243 1183 (c0 :: c1 :: .val (.ref a) :: l) st h Q ↔ XE d 243 1184 (c0 :: c1 :: .val (.ref a) :: l) (.ref a :: st) h Q := g_aload rfl rfl
theorem s243_1183n : XE d 243 1183 (c0 :: c1 :: .val .null :: l) st h Q ↔ XE d 243 1184 (c0 :: c1 :: .val .null :: l) (.null :: st) h Q := g_aloadN rfl rfl
theorem s243_1184 : XE d 243 1184 (.val (.ref a) :: l) st h Q ↔ XE d 243 1185 (.val (.ref a) :: l) (.ref a :: st) h Q := g_aload rfl rfl
theorem s243_1185 : XE d 243 1185 (c0 :: c1 :: c2 :: .val (.int x) :: l) st h Q ↔ XE d 243 1186 (c0 :: c1 :: c2 :: .val (.int x) :: l) (.int x :: st) h Q := g_iload rfl rfl
theorem s243_1186 : XE d 243 1186 ls st h Q ↔ XE d 243 1187 ls (.int 1 :: st) h Q := g_const rfl
theorem s243_1187 : XE d 243 1187 ls (.int y :: .int x :: st) h Q ↔ XE d 243 1188 ls (.int (x + y) :: st) h Q := g_add rfl
theorem s243_1188 : XE d 243 1188 ls (.int x :: .ref a :: st) h Q ↔ XA [0, 7] (h.2.2.1 a) x (fun k => XE d 243 1189 ls (.int k :: st) h Q) := g_ald rfl
theorem s243_1189 : XE d 243 1189 (.val (.ref a) :: l) st h Q ↔ XE d 243 1190 (.val (.ref a) :: l) (.ref a :: st) h Q := g_aload rfl rfl
theorem s243_1190 : XE d 243 1190 (c0 :: c1 :: c2 :: .val (.int x) :: l) st h Q ↔ XE d 243 1191 (c0 :: c1 :: c2 :: .val (.int x) :: l) (.int x :: st) h Q := g_iload rfl rfl
theorem s243_1191 : XE d 243 1191 ls st h Q ↔ XE d 243 1192 ls (.int 2 :: st) h Q := g_const rfl
theorem s243_1192 : XE d 243 1192 ls (.int y :: .int x :: st) h Q ↔ XE d 243 1193 ls (.int (x + y) :: st) h Q := g_add rfl
theorem s243_1193 : XE d 243 1193 ls (.int x :: .ref a :: st) h Q ↔ XA [0, 7] (h.2.2.1 a) x (fun k => XE d 243 1194 ls (.int k :: st) h Q) := g_ald rfl
theorem s243_1194 : XE d 243 1194 (.val (.ref a) :: l) st h Q ↔ XE d 243 1195 (.val (.ref a) :: l) (.ref a :: st) h Q := g_aload rfl rfl
theorem s243_1195 : XE d 243 1195 (c0 :: c1 :: c2 :: .val (.int x) :: l) st h Q ↔ XE d 243 1196 (c0 :: c1 :: c2 :: .val (.int x) :: l) (.int x :: st) h Q := g_iload rfl rfl
theorem s243_1196 : XE d 243 1196 ls st h Q ↔ XE d 243 1197 ls (.int 3 :: st) h Q := g_const rfl
theorem s243_1197 : XE d 243 1197 ls (.int y :: .int x :: st) h Q ↔ XE d 243 1198 ls (.int (x + y) :: st) h Q := g_add rfl
theorem s243_1198 : XE d 243 1198 ls (.int x :: .ref a :: st) h Q ↔ XA [0, 7] (h.2.2.1 a) x (fun k => XE d 243 1199 ls (.int k :: st) h Q) := g_ald rfl
theorem s243_1199 : XE d 243 1199 ls (.int z :: .int y :: .int x :: .ref a :: st) h Q ↔ (xvo 8 st = true ∧ XV [(12, 213)] (h.2.2.1 a) (fun m' => XC d m' [.ref a, .int x, .int y, .int z] h (fun v h' => XE d 243 1202 ls (v.toList ++ st) h' Q))) := h_v3 rfl rfl
theorem s243_1202 : XE d 243 1202 ls (.int y :: .int x :: st) h Q ↔ (if x = y then XE d 243 1553 ls st h Q else XE d 243 1205 ls st h Q) := g_ceq rfl
theorem s243_1205 : XE d 243 1205 ls st h Q ↔ XE d 243 1206 ls (.int 0 :: st) h Q := g_const rfl
theorem s243_1206 : XE d 243 1206 ls [.int 0] h Q ↔ Q (some (.int 0)) h := g_zret rfl rfl
theorem s243_1206t : XE d 243 1206 ls [.int 1] h Q ↔ Q (some (.int 1)) h := g_zret rfl rfl
theorem s243_1206b : XE d 243 1206 ls [.int (bI q)] h Q ↔ Q (some (.int (bI q))) h := g_zret (bI_nar q) rfl
theorem s243_1207 : XE d 243 1207 (c0 :: .val (.ref a) :: l) st h Q ↔ XE d 243 1208 (c0 :: .val (.ref a) :: l) (.ref a :: st) h Q := g_aload rfl rfl
theorem s243_1207n : XE d 243 1207 (c0 :: .val .null :: l) st h Q ↔ XE d 243 1208 (c0 :: .val .null :: l) (.null :: st) h Q := g_aloadN rfl rfl
theorem s243_1208 : XE d 243 1208 (.val (.ref a) :: l) st h Q ↔ XE d 243 1209 (.val (.ref a) :: l) (.ref a :: st) h Q := g_aload rfl rfl
theorem s243_1209 : XE d 243 1209 (c0 :: c1 :: c2 :: .val (.int x) :: l) st h Q ↔ XE d 243 1210 (c0 :: c1 :: c2 :: .val (.int x) :: l) (.int x :: st) h Q := g_iload rfl rfl
theorem s243_1210 : XE d 243 1210 ls st h Q ↔ XE d 243 1211 ls (.int 1 :: st) h Q := g_const rfl
theorem s243_1211 : XE d 243 1211 ls (.int y :: .int x :: st) h Q ↔ XE d 243 1212 ls (.int (x + y) :: st) h Q := g_add rfl
theorem s243_1212 : XE d 243 1212 ls (.int x :: .ref a :: st) h Q ↔ XA [0, 7] (h.2.2.1 a) x (fun k => XE d 243 1213 ls (.int k :: st) h Q) := g_ald rfl
theorem s243_1213 : XE d 243 1213 ls (.int x :: .ref a :: st) h Q ↔ (xvo 8 st = true ∧ XV [(11, 111)] (h.2.2.1 a) (fun m' => XC d m' [.ref a, .int x] h (fun v h' => XE d 243 1216 ls (v.toList ++ st) h' Q))) := h_v1 rfl rfl
theorem s243_1216 : XE d 243 1216 (c0 :: c1 :: .val (.ref a) :: l) st h Q ↔ XE d 243 1217 (c0 :: c1 :: .val (.ref a) :: l) (.ref a :: st) h Q := g_aload rfl rfl
theorem s243_1216n : XE d 243 1216 (c0 :: c1 :: .val .null :: l) st h Q ↔ XE d 243 1217 (c0 :: c1 :: .val .null :: l) (.null :: st) h Q := g_aloadN rfl rfl
theorem s243_1217 : XE d 243 1217 (.val (.ref a) :: l) st h Q ↔ XE d 243 1218 (.val (.ref a) :: l) (.ref a :: st) h Q := g_aload rfl rfl
theorem s243_1218 : XE d 243 1218 (c0 :: c1 :: c2 :: .val (.int x) :: l) st h Q ↔ XE d 243 1219 (c0 :: c1 :: c2 :: .val (.int x) :: l) (.int x :: st) h Q := g_iload rfl rfl
theorem s243_1219 : XE d 243 1219 ls st h Q ↔ XE d 243 1220 ls (.int 1 :: st) h Q := g_const rfl
theorem s243_1220 : XE d 243 1220 ls (.int y :: .int x :: st) h Q ↔ XE d 243 1221 ls (.int (x + y) :: st) h Q := g_add rfl
theorem s243_1221 : XE d 243 1221 ls (.int x :: .ref a :: st) h Q ↔ XA [0, 7] (h.2.2.1 a) x (fun k => XE d 243 1222 ls (.int k :: st) h Q) := g_ald rfl
theorem s243_1222 : XE d 243 1222 ls (.int x :: .ref a :: st) h Q ↔ (xvo 8 st = true ∧ XV [(12, 214)] (h.2.2.1 a) (fun m' => XC d m' [.ref a, .int x] h (fun v h' => XE d 243 1225 ls (v.toList ++ st) h' Q))) := h_v1 rfl rfl
theorem s243_1225 : XE d 243 1225 ls (.int y :: .int x :: st) h Q ↔ (if x = y then XE d 243 1553 ls st h Q else XE d 243 1228 ls st h Q) := g_ceq rfl
theorem s243_1228 : XE d 243 1228 ls st h Q ↔ XE d 243 1229 ls (.int 0 :: st) h Q := g_const rfl
theorem s243_1229 : XE d 243 1229 ls [.int 0] h Q ↔ Q (some (.int 0)) h := g_zret rfl rfl
theorem s243_1229t : XE d 243 1229 ls [.int 1] h Q ↔ Q (some (.int 1)) h := g_zret rfl rfl
theorem s243_1229b : XE d 243 1229 ls [.int (bI q)] h Q ↔ Q (some (.int (bI q))) h := g_zret (bI_nar q) rfl
theorem s243_1230 : XE d 243 1230 (c0 :: .val (.ref a) :: l) st h Q ↔ XE d 243 1231 (c0 :: .val (.ref a) :: l) (.ref a :: st) h Q := g_aload rfl rfl
theorem s243_1230n : XE d 243 1230 (c0 :: .val .null :: l) st h Q ↔ XE d 243 1231 (c0 :: .val .null :: l) (.null :: st) h Q := g_aloadN rfl rfl
theorem s243_1231 : XE d 243 1231 (.val (.ref a) :: l) st h Q ↔ XE d 243 1232 (.val (.ref a) :: l) (.ref a :: st) h Q := g_aload rfl rfl
theorem s243_1232 : XE d 243 1232 (c0 :: c1 :: c2 :: .val (.int x) :: l) st h Q ↔ XE d 243 1233 (c0 :: c1 :: c2 :: .val (.int x) :: l) (.int x :: st) h Q := g_iload rfl rfl
theorem s243_1233 : XE d 243 1233 ls st h Q ↔ XE d 243 1234 ls (.int 1 :: st) h Q := g_const rfl
theorem s243_1234 : XE d 243 1234 ls (.int y :: .int x :: st) h Q ↔ XE d 243 1235 ls (.int (x + y) :: st) h Q := g_add rfl
theorem s243_1235 : XE d 243 1235 ls (.int x :: .ref a :: st) h Q ↔ XA [0, 7] (h.2.2.1 a) x (fun k => XE d 243 1236 ls (.int k :: st) h Q) := g_ald rfl
theorem s243_1236 : XE d 243 1236 ls (.int x :: .ref a :: st) h Q ↔ (xvo 8 st = true ∧ XV [(11, 112)] (h.2.2.1 a) (fun m' => XC d m' [.ref a, .int x] h (fun v h' => XE d 243 1239 ls (v.toList ++ st) h' Q))) := h_v1 rfl rfl
theorem s243_1239 : XE d 243 1239 (c0 :: c1 :: .val (.ref a) :: l) st h Q ↔ XE d 243 1240 (c0 :: c1 :: .val (.ref a) :: l) (.ref a :: st) h Q := g_aload rfl rfl
theorem s243_1239n : XE d 243 1239 (c0 :: c1 :: .val .null :: l) st h Q ↔ XE d 243 1240 (c0 :: c1 :: .val .null :: l) (.null :: st) h Q := g_aloadN rfl rfl
theorem s243_1240 : XE d 243 1240 (.val (.ref a) :: l) st h Q ↔ XE d 243 1241 (.val (.ref a) :: l) (.ref a :: st) h Q := g_aload rfl rfl
theorem s243_1241 : XE d 243 1241 (c0 :: c1 :: c2 :: .val (.int x) :: l) st h Q ↔ XE d 243 1242 (c0 :: c1 :: c2 :: .val (.int x) :: l) (.int x :: st) h Q := g_iload rfl rfl
theorem s243_1242 : XE d 243 1242 ls st h Q ↔ XE d 243 1243 ls (.int 1 :: st) h Q := g_const rfl
theorem s243_1243 : XE d 243 1243 ls (.int y :: .int x :: st) h Q ↔ XE d 243 1244 ls (.int (x + y) :: st) h Q := g_add rfl
theorem s243_1244 : XE d 243 1244 ls (.int x :: .ref a :: st) h Q ↔ XA [0, 7] (h.2.2.1 a) x (fun k => XE d 243 1245 ls (.int k :: st) h Q) := g_ald rfl
theorem s243_1245 : XE d 243 1245 ls (.int x :: .ref a :: st) h Q ↔ (xvo 8 st = true ∧ XV [(12, 215)] (h.2.2.1 a) (fun m' => XC d m' [.ref a, .int x] h (fun v h' => XE d 243 1248 ls (v.toList ++ st) h' Q))) := h_v1 rfl rfl
theorem s243_1248 : XE d 243 1248 ls (.int y :: .int x :: st) h Q ↔ (if x = y then XE d 243 1553 ls st h Q else XE d 243 1251 ls st h Q) := g_ceq rfl
theorem s243_1251 : XE d 243 1251 ls st h Q ↔ XE d 243 1252 ls (.int 0 :: st) h Q := g_const rfl
theorem s243_1252 : XE d 243 1252 ls [.int 0] h Q ↔ Q (some (.int 0)) h := g_zret rfl rfl
theorem s243_1252t : XE d 243 1252 ls [.int 1] h Q ↔ Q (some (.int 1)) h := g_zret rfl rfl
theorem s243_1252b : XE d 243 1252 ls [.int (bI q)] h Q ↔ Q (some (.int (bI q))) h := g_zret (bI_nar q) rfl
theorem s243_1253 : XE d 243 1253 (c0 :: .val (.ref a) :: l) st h Q ↔ XE d 243 1254 (c0 :: .val (.ref a) :: l) (.ref a :: st) h Q := g_aload rfl rfl
theorem s243_1253n : XE d 243 1253 (c0 :: .val .null :: l) st h Q ↔ XE d 243 1254 (c0 :: .val .null :: l) (.null :: st) h Q := g_aloadN rfl rfl
theorem s243_1254 : XE d 243 1254 (.val (.ref a) :: l) st h Q ↔ XE d 243 1255 (.val (.ref a) :: l) (.ref a :: st) h Q := g_aload rfl rfl
theorem s243_1255 : XE d 243 1255 (c0 :: c1 :: c2 :: .val (.int x) :: l) st h Q ↔ XE d 243 1256 (c0 :: c1 :: c2 :: .val (.int x) :: l) (.int x :: st) h Q := g_iload rfl rfl
theorem s243_1256 : XE d 243 1256 ls st h Q ↔ XE d 243 1257 ls (.int 1 :: st) h Q := g_const rfl
theorem s243_1257 : XE d 243 1257 ls (.int y :: .int x :: st) h Q ↔ XE d 243 1258 ls (.int (x + y) :: st) h Q := g_add rfl
theorem s243_1258 : XE d 243 1258 ls (.int x :: .ref a :: st) h Q ↔ XA [0, 7] (h.2.2.1 a) x (fun k => XE d 243 1259 ls (.int k :: st) h Q) := g_ald rfl
theorem s243_1259 : XE d 243 1259 (.val (.ref a) :: l) st h Q ↔ XE d 243 1260 (.val (.ref a) :: l) (.ref a :: st) h Q := g_aload rfl rfl
theorem s243_1260 : XE d 243 1260 (c0 :: c1 :: c2 :: .val (.int x) :: l) st h Q ↔ XE d 243 1261 (c0 :: c1 :: c2 :: .val (.int x) :: l) (.int x :: st) h Q := g_iload rfl rfl
theorem s243_1261 : XE d 243 1261 ls st h Q ↔ XE d 243 1262 ls (.int 2 :: st) h Q := g_const rfl
theorem s243_1262 : XE d 243 1262 ls (.int y :: .int x :: st) h Q ↔ XE d 243 1263 ls (.int (x + y) :: st) h Q := g_add rfl
theorem s243_1263 : XE d 243 1263 ls (.int x :: .ref a :: st) h Q ↔ XA [0, 7] (h.2.2.1 a) x (fun k => XE d 243 1264 ls (.int k :: st) h Q) := g_ald rfl
theorem s243_1264 : XE d 243 1264 (.val (.ref a) :: l) st h Q ↔ XE d 243 1265 (.val (.ref a) :: l) (.ref a :: st) h Q := g_aload rfl rfl
theorem s243_1265 : XE d 243 1265 (c0 :: c1 :: c2 :: .val (.int x) :: l) st h Q ↔ XE d 243 1266 (c0 :: c1 :: c2 :: .val (.int x) :: l) (.int x :: st) h Q := g_iload rfl rfl
theorem s243_1266 : XE d 243 1266 ls st h Q ↔ XE d 243 1267 ls (.int 3 :: st) h Q := g_const rfl
theorem s243_1267 : XE d 243 1267 ls (.int y :: .int x :: st) h Q ↔ XE d 243 1268 ls (.int (x + y) :: st) h Q := g_add rfl
theorem s243_1268 : XE d 243 1268 ls (.int x :: .ref a :: st) h Q ↔ XA [0, 7] (h.2.2.1 a) x (fun k => XE d 243 1269 ls (.int k :: st) h Q) := g_ald rfl
theorem s243_1269 : XE d 243 1269 (.val (.ref a) :: l) st h Q ↔ XE d 243 1270 (.val (.ref a) :: l) (.ref a :: st) h Q := g_aload rfl rfl
theorem s243_1270 : XE d 243 1270 (c0 :: c1 :: c2 :: .val (.int x) :: l) st h Q ↔ XE d 243 1271 (c0 :: c1 :: c2 :: .val (.int x) :: l) (.int x :: st) h Q := g_iload rfl rfl
theorem s243_1271 : XE d 243 1271 ls st h Q ↔ XE d 243 1272 ls (.int 4 :: st) h Q := g_const rfl
theorem s243_1272 : XE d 243 1272 ls (.int y :: .int x :: st) h Q ↔ XE d 243 1273 ls (.int (x + y) :: st) h Q := g_add rfl
theorem s243_1273 : XE d 243 1273 ls (.int x :: .ref a :: st) h Q ↔ XA [0, 7] (h.2.2.1 a) x (fun k => XE d 243 1274 ls (.int k :: st) h Q) := g_ald rfl
theorem s243_1274 : XE d 243 1274 (.val (.ref a) :: l) st h Q ↔ XE d 243 1275 (.val (.ref a) :: l) (.ref a :: st) h Q := g_aload rfl rfl
theorem s243_1275 : XE d 243 1275 (c0 :: c1 :: c2 :: .val (.int x) :: l) st h Q ↔ XE d 243 1276 (c0 :: c1 :: c2 :: .val (.int x) :: l) (.int x :: st) h Q := g_iload rfl rfl
theorem s243_1276 : XE d 243 1276 ls st h Q ↔ XE d 243 1277 ls (.int 5 :: st) h Q := g_const rfl
theorem s243_1277 : XE d 243 1277 ls (.int y :: .int x :: st) h Q ↔ XE d 243 1278 ls (.int (x + y) :: st) h Q := g_add rfl
theorem s243_1278 : XE d 243 1278 ls (.int x :: .ref a :: st) h Q ↔ XA [0, 7] (h.2.2.1 a) x (fun k => XE d 243 1279 ls (.int k :: st) h Q) := g_ald rfl
theorem s243_1279 : XE d 243 1279 ls (.int u :: .int w :: .int z :: .int y :: .int x :: .ref a :: st) h Q ↔ (xvo 8 st = true ∧ XV [(11, 113)] (h.2.2.1 a) (fun m' => XC d m' [.ref a, .int x, .int y, .int z, .int w, .int u] h (fun v h' => XE d 243 1282 ls (v.toList ++ st) h' Q))) := h_v5 rfl rfl
theorem s243_1282 : XE d 243 1282 (c0 :: c1 :: .val (.ref a) :: l) st h Q ↔ XE d 243 1283 (c0 :: c1 :: .val (.ref a) :: l) (.ref a :: st) h Q := g_aload rfl rfl
theorem s243_1282n : XE d 243 1282 (c0 :: c1 :: .val .null :: l) st h Q ↔ XE d 243 1283 (c0 :: c1 :: .val .null :: l) (.null :: st) h Q := g_aloadN rfl rfl
theorem s243_1283 : XE d 243 1283 (.val (.ref a) :: l) st h Q ↔ XE d 243 1284 (.val (.ref a) :: l) (.ref a :: st) h Q := g_aload rfl rfl
theorem s243_1284 : XE d 243 1284 (c0 :: c1 :: c2 :: .val (.int x) :: l) st h Q ↔ XE d 243 1285 (c0 :: c1 :: c2 :: .val (.int x) :: l) (.int x :: st) h Q := g_iload rfl rfl
theorem s243_1285 : XE d 243 1285 ls st h Q ↔ XE d 243 1286 ls (.int 1 :: st) h Q := g_const rfl
theorem s243_1286 : XE d 243 1286 ls (.int y :: .int x :: st) h Q ↔ XE d 243 1287 ls (.int (x + y) :: st) h Q := g_add rfl
theorem s243_1287 : XE d 243 1287 ls (.int x :: .ref a :: st) h Q ↔ XA [0, 7] (h.2.2.1 a) x (fun k => XE d 243 1288 ls (.int k :: st) h Q) := g_ald rfl
theorem s243_1288 : XE d 243 1288 (.val (.ref a) :: l) st h Q ↔ XE d 243 1289 (.val (.ref a) :: l) (.ref a :: st) h Q := g_aload rfl rfl
theorem s243_1289 : XE d 243 1289 (c0 :: c1 :: c2 :: .val (.int x) :: l) st h Q ↔ XE d 243 1290 (c0 :: c1 :: c2 :: .val (.int x) :: l) (.int x :: st) h Q := g_iload rfl rfl
theorem s243_1290 : XE d 243 1290 ls st h Q ↔ XE d 243 1291 ls (.int 2 :: st) h Q := g_const rfl
theorem s243_1291 : XE d 243 1291 ls (.int y :: .int x :: st) h Q ↔ XE d 243 1292 ls (.int (x + y) :: st) h Q := g_add rfl
theorem s243_1292 : XE d 243 1292 ls (.int x :: .ref a :: st) h Q ↔ XA [0, 7] (h.2.2.1 a) x (fun k => XE d 243 1293 ls (.int k :: st) h Q) := g_ald rfl
theorem s243_1293 : XE d 243 1293 (.val (.ref a) :: l) st h Q ↔ XE d 243 1294 (.val (.ref a) :: l) (.ref a :: st) h Q := g_aload rfl rfl
theorem s243_1294 : XE d 243 1294 (c0 :: c1 :: c2 :: .val (.int x) :: l) st h Q ↔ XE d 243 1295 (c0 :: c1 :: c2 :: .val (.int x) :: l) (.int x :: st) h Q := g_iload rfl rfl
theorem s243_1295 : XE d 243 1295 ls st h Q ↔ XE d 243 1296 ls (.int 3 :: st) h Q := g_const rfl
theorem s243_1296 : XE d 243 1296 ls (.int y :: .int x :: st) h Q ↔ XE d 243 1297 ls (.int (x + y) :: st) h Q := g_add rfl
theorem s243_1297 : XE d 243 1297 ls (.int x :: .ref a :: st) h Q ↔ XA [0, 7] (h.2.2.1 a) x (fun k => XE d 243 1298 ls (.int k :: st) h Q) := g_ald rfl
theorem s243_1298 : XE d 243 1298 (.val (.ref a) :: l) st h Q ↔ XE d 243 1299 (.val (.ref a) :: l) (.ref a :: st) h Q := g_aload rfl rfl
theorem s243_1299 : XE d 243 1299 (c0 :: c1 :: c2 :: .val (.int x) :: l) st h Q ↔ XE d 243 1300 (c0 :: c1 :: c2 :: .val (.int x) :: l) (.int x :: st) h Q := g_iload rfl rfl
theorem s243_1300 : XE d 243 1300 ls st h Q ↔ XE d 243 1301 ls (.int 4 :: st) h Q := g_const rfl
theorem s243_1301 : XE d 243 1301 ls (.int y :: .int x :: st) h Q ↔ XE d 243 1302 ls (.int (x + y) :: st) h Q := g_add rfl
theorem s243_1302 : XE d 243 1302 ls (.int x :: .ref a :: st) h Q ↔ XA [0, 7] (h.2.2.1 a) x (fun k => XE d 243 1303 ls (.int k :: st) h Q) := g_ald rfl
theorem s243_1303 : XE d 243 1303 (.val (.ref a) :: l) st h Q ↔ XE d 243 1304 (.val (.ref a) :: l) (.ref a :: st) h Q := g_aload rfl rfl
theorem s243_1304 : XE d 243 1304 (c0 :: c1 :: c2 :: .val (.int x) :: l) st h Q ↔ XE d 243 1305 (c0 :: c1 :: c2 :: .val (.int x) :: l) (.int x :: st) h Q := g_iload rfl rfl
theorem s243_1305 : XE d 243 1305 ls st h Q ↔ XE d 243 1306 ls (.int 5 :: st) h Q := g_const rfl
theorem s243_1306 : XE d 243 1306 ls (.int y :: .int x :: st) h Q ↔ XE d 243 1307 ls (.int (x + y) :: st) h Q := g_add rfl
theorem s243_1307 : XE d 243 1307 ls (.int x :: .ref a :: st) h Q ↔ XA [0, 7] (h.2.2.1 a) x (fun k => XE d 243 1308 ls (.int k :: st) h Q) := g_ald rfl
theorem s243_1308 : XE d 243 1308 ls (.int u :: .int w :: .int z :: .int y :: .int x :: .ref a :: st) h Q ↔ (xvo 8 st = true ∧ XV [(12, 216)] (h.2.2.1 a) (fun m' => XC d m' [.ref a, .int x, .int y, .int z, .int w, .int u] h (fun v h' => XE d 243 1311 ls (v.toList ++ st) h' Q))) := h_v5 rfl rfl
theorem s243_1311 : XE d 243 1311 ls (.int y :: .int x :: st) h Q ↔ (if x = y then XE d 243 1553 ls st h Q else XE d 243 1314 ls st h Q) := g_ceq rfl
theorem s243_1314 : XE d 243 1314 ls st h Q ↔ XE d 243 1315 ls (.int 0 :: st) h Q := g_const rfl
theorem s243_1315 : XE d 243 1315 ls [.int 0] h Q ↔ Q (some (.int 0)) h := g_zret rfl rfl
theorem s243_1315t : XE d 243 1315 ls [.int 1] h Q ↔ Q (some (.int 1)) h := g_zret rfl rfl
theorem s243_1315b : XE d 243 1315 ls [.int (bI q)] h Q ↔ Q (some (.int (bI q))) h := g_zret (bI_nar q) rfl
theorem s243_1316 : XE d 243 1316 (c0 :: .val (.ref a) :: l) st h Q ↔ XE d 243 1317 (c0 :: .val (.ref a) :: l) (.ref a :: st) h Q := g_aload rfl rfl
theorem s243_1316n : XE d 243 1316 (c0 :: .val .null :: l) st h Q ↔ XE d 243 1317 (c0 :: .val .null :: l) (.null :: st) h Q := g_aloadN rfl rfl
theorem s243_1317 : XE d 243 1317 (.val (.ref a) :: l) st h Q ↔ XE d 243 1318 (.val (.ref a) :: l) (.ref a :: st) h Q := g_aload rfl rfl
theorem s243_1318 : XE d 243 1318 (c0 :: c1 :: c2 :: .val (.int x) :: l) st h Q ↔ XE d 243 1319 (c0 :: c1 :: c2 :: .val (.int x) :: l) (.int x :: st) h Q := g_iload rfl rfl
theorem s243_1319 : XE d 243 1319 ls st h Q ↔ XE d 243 1320 ls (.int 1 :: st) h Q := g_const rfl
theorem s243_1320 : XE d 243 1320 ls (.int y :: .int x :: st) h Q ↔ XE d 243 1321 ls (.int (x + y) :: st) h Q := g_add rfl
theorem s243_1321 : XE d 243 1321 ls (.int x :: .ref a :: st) h Q ↔ XA [0, 7] (h.2.2.1 a) x (fun k => XE d 243 1322 ls (.int k :: st) h Q) := g_ald rfl
theorem s243_1322 : XE d 243 1322 (.val (.ref a) :: l) st h Q ↔ XE d 243 1323 (.val (.ref a) :: l) (.ref a :: st) h Q := g_aload rfl rfl
theorem s243_1323 : XE d 243 1323 (c0 :: c1 :: c2 :: .val (.int x) :: l) st h Q ↔ XE d 243 1324 (c0 :: c1 :: c2 :: .val (.int x) :: l) (.int x :: st) h Q := g_iload rfl rfl
theorem s243_1324 : XE d 243 1324 ls st h Q ↔ XE d 243 1325 ls (.int 2 :: st) h Q := g_const rfl
theorem s243_1325 : XE d 243 1325 ls (.int y :: .int x :: st) h Q ↔ XE d 243 1326 ls (.int (x + y) :: st) h Q := g_add rfl
theorem s243_1326 : XE d 243 1326 ls (.int x :: .ref a :: st) h Q ↔ XA [0, 7] (h.2.2.1 a) x (fun k => XE d 243 1327 ls (.int k :: st) h Q) := g_ald rfl
theorem s243_1327 : XE d 243 1327 (.val (.ref a) :: l) st h Q ↔ XE d 243 1328 (.val (.ref a) :: l) (.ref a :: st) h Q := g_aload rfl rfl
theorem s243_1328 : XE d 243 1328 (c0 :: c1 :: c2 :: .val (.int x) :: l) st h Q ↔ XE d 243 1329 (c0 :: c1 :: c2 :: .val (.int x) :: l) (.int x :: st) h Q := g_iload rfl rfl
theorem s243_1329 : XE d 243 1329 ls st h Q ↔ XE d 243 1330 ls (.int 3 :: st) h Q := g_const rfl
theorem s243_1330 : XE d 243 1330 ls (.int y :: .int x :: st) h Q ↔ XE d 243 1331 ls (.int (x + y) :: st) h Q := g_add rfl
theorem s243_1331 : XE d 243 1331 ls (.int x :: .ref a :: st) h Q ↔ XA [0, 7] (h.2.2.1 a) x (fun k => XE d 243 1332 ls (.int k :: st) h Q) := g_ald rfl
theorem s243_1332 : XE d 243 1332 ls (.int z :: .int y :: .int x :: .ref a :: st) h Q ↔ (xvo 8 st = true ∧ XV [(11, 114)] (h.2.2.1 a) (fun m' => XC d m' [.ref a, .int x, .int y, .int z] h (fun v h' => XE d 243 1335 ls (v.toList ++ st) h' Q))) := h_v3 rfl rfl
theorem s243_1335 : XE d 243 1335 (c0 :: c1 :: .val (.ref a) :: l) st h Q ↔ XE d 243 1336 (c0 :: c1 :: .val (.ref a) :: l) (.ref a :: st) h Q := g_aload rfl rfl
theorem s243_1335n : XE d 243 1335 (c0 :: c1 :: .val .null :: l) st h Q ↔ XE d 243 1336 (c0 :: c1 :: .val .null :: l) (.null :: st) h Q := g_aloadN rfl rfl
theorem s243_1336 : XE d 243 1336 (.val (.ref a) :: l) st h Q ↔ XE d 243 1337 (.val (.ref a) :: l) (.ref a :: st) h Q := g_aload rfl rfl
theorem s243_1337 : XE d 243 1337 (c0 :: c1 :: c2 :: .val (.int x) :: l) st h Q ↔ XE d 243 1338 (c0 :: c1 :: c2 :: .val (.int x) :: l) (.int x :: st) h Q := g_iload rfl rfl
theorem s243_1338 : XE d 243 1338 ls st h Q ↔ XE d 243 1339 ls (.int 1 :: st) h Q := g_const rfl
theorem s243_1339 : XE d 243 1339 ls (.int y :: .int x :: st) h Q ↔ XE d 243 1340 ls (.int (x + y) :: st) h Q := g_add rfl
theorem s243_1340 : XE d 243 1340 ls (.int x :: .ref a :: st) h Q ↔ XA [0, 7] (h.2.2.1 a) x (fun k => XE d 243 1341 ls (.int k :: st) h Q) := g_ald rfl
theorem s243_1341 : XE d 243 1341 (.val (.ref a) :: l) st h Q ↔ XE d 243 1342 (.val (.ref a) :: l) (.ref a :: st) h Q := g_aload rfl rfl
theorem s243_1342 : XE d 243 1342 (c0 :: c1 :: c2 :: .val (.int x) :: l) st h Q ↔ XE d 243 1343 (c0 :: c1 :: c2 :: .val (.int x) :: l) (.int x :: st) h Q := g_iload rfl rfl
theorem s243_1343 : XE d 243 1343 ls st h Q ↔ XE d 243 1344 ls (.int 2 :: st) h Q := g_const rfl
theorem s243_1344 : XE d 243 1344 ls (.int y :: .int x :: st) h Q ↔ XE d 243 1345 ls (.int (x + y) :: st) h Q := g_add rfl
theorem s243_1345 : XE d 243 1345 ls (.int x :: .ref a :: st) h Q ↔ XA [0, 7] (h.2.2.1 a) x (fun k => XE d 243 1346 ls (.int k :: st) h Q) := g_ald rfl
theorem s243_1346 : XE d 243 1346 (.val (.ref a) :: l) st h Q ↔ XE d 243 1347 (.val (.ref a) :: l) (.ref a :: st) h Q := g_aload rfl rfl
theorem s243_1347 : XE d 243 1347 (c0 :: c1 :: c2 :: .val (.int x) :: l) st h Q ↔ XE d 243 1348 (c0 :: c1 :: c2 :: .val (.int x) :: l) (.int x :: st) h Q := g_iload rfl rfl
theorem s243_1348 : XE d 243 1348 ls st h Q ↔ XE d 243 1349 ls (.int 3 :: st) h Q := g_const rfl
theorem s243_1349 : XE d 243 1349 ls (.int y :: .int x :: st) h Q ↔ XE d 243 1350 ls (.int (x + y) :: st) h Q := g_add rfl
theorem s243_1350 : XE d 243 1350 ls (.int x :: .ref a :: st) h Q ↔ XA [0, 7] (h.2.2.1 a) x (fun k => XE d 243 1351 ls (.int k :: st) h Q) := g_ald rfl
theorem s243_1351 : XE d 243 1351 ls (.int z :: .int y :: .int x :: .ref a :: st) h Q ↔ (xvo 8 st = true ∧ XV [(12, 217)] (h.2.2.1 a) (fun m' => XC d m' [.ref a, .int x, .int y, .int z] h (fun v h' => XE d 243 1354 ls (v.toList ++ st) h' Q))) := h_v3 rfl rfl
theorem s243_1354 : XE d 243 1354 ls (.int y :: .int x :: st) h Q ↔ (if x = y then XE d 243 1553 ls st h Q else XE d 243 1357 ls st h Q) := g_ceq rfl
theorem s243_1357 : XE d 243 1357 ls st h Q ↔ XE d 243 1358 ls (.int 0 :: st) h Q := g_const rfl
theorem s243_1358 : XE d 243 1358 ls [.int 0] h Q ↔ Q (some (.int 0)) h := g_zret rfl rfl
theorem s243_1358t : XE d 243 1358 ls [.int 1] h Q ↔ Q (some (.int 1)) h := g_zret rfl rfl
theorem s243_1358b : XE d 243 1358 ls [.int (bI q)] h Q ↔ Q (some (.int (bI q))) h := g_zret (bI_nar q) rfl
theorem s243_1359 : XE d 243 1359 (c0 :: .val (.ref a) :: l) st h Q ↔ XE d 243 1360 (c0 :: .val (.ref a) :: l) (.ref a :: st) h Q := g_aload rfl rfl
theorem s243_1359n : XE d 243 1359 (c0 :: .val .null :: l) st h Q ↔ XE d 243 1360 (c0 :: .val .null :: l) (.null :: st) h Q := g_aloadN rfl rfl
theorem s243_1360 : XE d 243 1360 (.val (.ref a) :: l) st h Q ↔ XE d 243 1361 (.val (.ref a) :: l) (.ref a :: st) h Q := g_aload rfl rfl
theorem s243_1361 : XE d 243 1361 (c0 :: c1 :: c2 :: .val (.int x) :: l) st h Q ↔ XE d 243 1362 (c0 :: c1 :: c2 :: .val (.int x) :: l) (.int x :: st) h Q := g_iload rfl rfl
theorem s243_1362 : XE d 243 1362 ls st h Q ↔ XE d 243 1363 ls (.int 1 :: st) h Q := g_const rfl
theorem s243_1363 : XE d 243 1363 ls (.int y :: .int x :: st) h Q ↔ XE d 243 1364 ls (.int (x + y) :: st) h Q := g_add rfl
theorem s243_1364 : XE d 243 1364 ls (.int x :: .ref a :: st) h Q ↔ XA [0, 7] (h.2.2.1 a) x (fun k => XE d 243 1365 ls (.int k :: st) h Q) := g_ald rfl
theorem s243_1365 : XE d 243 1365 (.val (.ref a) :: l) st h Q ↔ XE d 243 1366 (.val (.ref a) :: l) (.ref a :: st) h Q := g_aload rfl rfl
theorem s243_1366 : XE d 243 1366 (c0 :: c1 :: c2 :: .val (.int x) :: l) st h Q ↔ XE d 243 1367 (c0 :: c1 :: c2 :: .val (.int x) :: l) (.int x :: st) h Q := g_iload rfl rfl
theorem s243_1367 : XE d 243 1367 ls st h Q ↔ XE d 243 1368 ls (.int 2 :: st) h Q := g_const rfl
theorem s243_1368 : XE d 243 1368 ls (.int y :: .int x :: st) h Q ↔ XE d 243 1369 ls (.int (x + y) :: st) h Q := g_add rfl
theorem s243_1369 : XE d 243 1369 ls (.int x :: .ref a :: st) h Q ↔ XA [0, 7] (h.2.2.1 a) x (fun k => XE d 243 1370 ls (.int k :: st) h Q) := g_ald rfl
theorem s243_1370 : XE d 243 1370 ls (.int y :: .int x :: .ref a :: st) h Q ↔ (xvo 8 st = true ∧ XV [(11, 115)] (h.2.2.1 a) (fun m' => XC d m' [.ref a, .int x, .int y] h (fun v h' => XE d 243 1373 ls (v.toList ++ st) h' Q))) := h_v2 rfl rfl
theorem s243_1373 : XE d 243 1373 (c0 :: c1 :: .val (.ref a) :: l) st h Q ↔ XE d 243 1374 (c0 :: c1 :: .val (.ref a) :: l) (.ref a :: st) h Q := g_aload rfl rfl
theorem s243_1373n : XE d 243 1373 (c0 :: c1 :: .val .null :: l) st h Q ↔ XE d 243 1374 (c0 :: c1 :: .val .null :: l) (.null :: st) h Q := g_aloadN rfl rfl
theorem s243_1374 : XE d 243 1374 (.val (.ref a) :: l) st h Q ↔ XE d 243 1375 (.val (.ref a) :: l) (.ref a :: st) h Q := g_aload rfl rfl
theorem s243_1375 : XE d 243 1375 (c0 :: c1 :: c2 :: .val (.int x) :: l) st h Q ↔ XE d 243 1376 (c0 :: c1 :: c2 :: .val (.int x) :: l) (.int x :: st) h Q := g_iload rfl rfl
theorem s243_1376 : XE d 243 1376 ls st h Q ↔ XE d 243 1377 ls (.int 1 :: st) h Q := g_const rfl
theorem s243_1377 : XE d 243 1377 ls (.int y :: .int x :: st) h Q ↔ XE d 243 1378 ls (.int (x + y) :: st) h Q := g_add rfl
theorem s243_1378 : XE d 243 1378 ls (.int x :: .ref a :: st) h Q ↔ XA [0, 7] (h.2.2.1 a) x (fun k => XE d 243 1379 ls (.int k :: st) h Q) := g_ald rfl
theorem s243_1379 : XE d 243 1379 (.val (.ref a) :: l) st h Q ↔ XE d 243 1380 (.val (.ref a) :: l) (.ref a :: st) h Q := g_aload rfl rfl
theorem s243_1380 : XE d 243 1380 (c0 :: c1 :: c2 :: .val (.int x) :: l) st h Q ↔ XE d 243 1381 (c0 :: c1 :: c2 :: .val (.int x) :: l) (.int x :: st) h Q := g_iload rfl rfl
theorem s243_1381 : XE d 243 1381 ls st h Q ↔ XE d 243 1382 ls (.int 2 :: st) h Q := g_const rfl
theorem s243_1382 : XE d 243 1382 ls (.int y :: .int x :: st) h Q ↔ XE d 243 1383 ls (.int (x + y) :: st) h Q := g_add rfl
theorem s243_1383 : XE d 243 1383 ls (.int x :: .ref a :: st) h Q ↔ XA [0, 7] (h.2.2.1 a) x (fun k => XE d 243 1384 ls (.int k :: st) h Q) := g_ald rfl
theorem s243_1384 : XE d 243 1384 ls (.int y :: .int x :: .ref a :: st) h Q ↔ (xvo 8 st = true ∧ XV [(12, 218)] (h.2.2.1 a) (fun m' => XC d m' [.ref a, .int x, .int y] h (fun v h' => XE d 243 1387 ls (v.toList ++ st) h' Q))) := h_v2 rfl rfl
theorem s243_1387 : XE d 243 1387 ls (.int y :: .int x :: st) h Q ↔ (if x = y then XE d 243 1553 ls st h Q else XE d 243 1390 ls st h Q) := g_ceq rfl
theorem s243_1390 : XE d 243 1390 ls st h Q ↔ XE d 243 1391 ls (.int 0 :: st) h Q := g_const rfl
theorem s243_1391 : XE d 243 1391 ls [.int 0] h Q ↔ Q (some (.int 0)) h := g_zret rfl rfl
theorem s243_1391t : XE d 243 1391 ls [.int 1] h Q ↔ Q (some (.int 1)) h := g_zret rfl rfl
theorem s243_1391b : XE d 243 1391 ls [.int (bI q)] h Q ↔ Q (some (.int (bI q))) h := g_zret (bI_nar q) rfl
theorem s243_1392 : XE d 243 1392 (c0 :: .val (.ref a) :: l) st h Q ↔ XE d 243 1393 (c0 :: .val (.ref a) :: l) (.ref a :: st) h Q := g_aload rfl rfl
theorem s243_1392n : XE d 243 1392 (c0 :: .val .null :: l) st h Q ↔ XE d 243 1393 (c0 :: .val .null :: l) (.null :: st) h Q := g_aloadN rfl rfl
theorem s243_1393 : XE d 243 1393 (.val (.ref a) :: l) st h Q ↔ XE d 243 1394 (.val (.ref a) :: l) (.ref a :: st) h Q := g_aload rfl rfl
theorem s243_1394 : XE d 243 1394 (c0 :: c1 :: c2 :: .val (.int x) :: l) st h Q ↔ XE d 243 1395 (c0 :: c1 :: c2 :: .val (.int x) :: l) (.int x :: st) h Q := g_iload rfl rfl
theorem s243_1395 : XE d 243 1395 ls st h Q ↔ XE d 243 1396 ls (.int 1 :: st) h Q := g_const rfl
theorem s243_1396 : XE d 243 1396 ls (.int y :: .int x :: st) h Q ↔ XE d 243 1397 ls (.int (x + y) :: st) h Q := g_add rfl
theorem s243_1397 : XE d 243 1397 ls (.int x :: .ref a :: st) h Q ↔ XA [0, 7] (h.2.2.1 a) x (fun k => XE d 243 1398 ls (.int k :: st) h Q) := g_ald rfl
theorem s243_1398 : XE d 243 1398 (.val (.ref a) :: l) st h Q ↔ XE d 243 1399 (.val (.ref a) :: l) (.ref a :: st) h Q := g_aload rfl rfl
theorem s243_1399 : XE d 243 1399 (c0 :: c1 :: c2 :: .val (.int x) :: l) st h Q ↔ XE d 243 1400 (c0 :: c1 :: c2 :: .val (.int x) :: l) (.int x :: st) h Q := g_iload rfl rfl
theorem s243_1400 : XE d 243 1400 ls st h Q ↔ XE d 243 1401 ls (.int 2 :: st) h Q := g_const rfl
theorem s243_1401 : XE d 243 1401 ls (.int y :: .int x :: st) h Q ↔ XE d 243 1402 ls (.int (x + y) :: st) h Q := g_add rfl
theorem s243_1402 : XE d 243 1402 ls (.int x :: .ref a :: st) h Q ↔ XA [0, 7] (h.2.2.1 a) x (fun k => XE d 243 1403 ls (.int k :: st) h Q) := g_ald rfl
theorem s243_1403 : XE d 243 1403 ls (.int y :: .int x :: .ref a :: st) h Q ↔ (xvo 8 st = true ∧ XV [(11, 116)] (h.2.2.1 a) (fun m' => XC d m' [.ref a, .int x, .int y] h (fun v h' => XE d 243 1406 ls (v.toList ++ st) h' Q))) := h_v2 rfl rfl
theorem s243_1406 : XE d 243 1406 (c0 :: c1 :: .val (.ref a) :: l) st h Q ↔ XE d 243 1407 (c0 :: c1 :: .val (.ref a) :: l) (.ref a :: st) h Q := g_aload rfl rfl
theorem s243_1406n : XE d 243 1406 (c0 :: c1 :: .val .null :: l) st h Q ↔ XE d 243 1407 (c0 :: c1 :: .val .null :: l) (.null :: st) h Q := g_aloadN rfl rfl
theorem s243_1407 : XE d 243 1407 (.val (.ref a) :: l) st h Q ↔ XE d 243 1408 (.val (.ref a) :: l) (.ref a :: st) h Q := g_aload rfl rfl
theorem s243_1408 : XE d 243 1408 (c0 :: c1 :: c2 :: .val (.int x) :: l) st h Q ↔ XE d 243 1409 (c0 :: c1 :: c2 :: .val (.int x) :: l) (.int x :: st) h Q := g_iload rfl rfl
theorem s243_1409 : XE d 243 1409 ls st h Q ↔ XE d 243 1410 ls (.int 1 :: st) h Q := g_const rfl
theorem s243_1410 : XE d 243 1410 ls (.int y :: .int x :: st) h Q ↔ XE d 243 1411 ls (.int (x + y) :: st) h Q := g_add rfl
theorem s243_1411 : XE d 243 1411 ls (.int x :: .ref a :: st) h Q ↔ XA [0, 7] (h.2.2.1 a) x (fun k => XE d 243 1412 ls (.int k :: st) h Q) := g_ald rfl
theorem s243_1412 : XE d 243 1412 (.val (.ref a) :: l) st h Q ↔ XE d 243 1413 (.val (.ref a) :: l) (.ref a :: st) h Q := g_aload rfl rfl
theorem s243_1413 : XE d 243 1413 (c0 :: c1 :: c2 :: .val (.int x) :: l) st h Q ↔ XE d 243 1414 (c0 :: c1 :: c2 :: .val (.int x) :: l) (.int x :: st) h Q := g_iload rfl rfl
theorem s243_1414 : XE d 243 1414 ls st h Q ↔ XE d 243 1415 ls (.int 2 :: st) h Q := g_const rfl
theorem s243_1415 : XE d 243 1415 ls (.int y :: .int x :: st) h Q ↔ XE d 243 1416 ls (.int (x + y) :: st) h Q := g_add rfl
theorem s243_1416 : XE d 243 1416 ls (.int x :: .ref a :: st) h Q ↔ XA [0, 7] (h.2.2.1 a) x (fun k => XE d 243 1417 ls (.int k :: st) h Q) := g_ald rfl
theorem s243_1417 : XE d 243 1417 ls (.int y :: .int x :: .ref a :: st) h Q ↔ (xvo 8 st = true ∧ XV [(12, 219)] (h.2.2.1 a) (fun m' => XC d m' [.ref a, .int x, .int y] h (fun v h' => XE d 243 1420 ls (v.toList ++ st) h' Q))) := h_v2 rfl rfl
theorem s243_1420 : XE d 243 1420 ls (.int y :: .int x :: st) h Q ↔ (if x = y then XE d 243 1553 ls st h Q else XE d 243 1423 ls st h Q) := g_ceq rfl
theorem s243_1423 : XE d 243 1423 ls st h Q ↔ XE d 243 1424 ls (.int 0 :: st) h Q := g_const rfl
theorem s243_1424 : XE d 243 1424 ls [.int 0] h Q ↔ Q (some (.int 0)) h := g_zret rfl rfl
theorem s243_1424t : XE d 243 1424 ls [.int 1] h Q ↔ Q (some (.int 1)) h := g_zret rfl rfl
theorem s243_1424b : XE d 243 1424 ls [.int (bI q)] h Q ↔ Q (some (.int (bI q))) h := g_zret (bI_nar q) rfl
theorem s243_1425 : XE d 243 1425 (c0 :: .val (.ref a) :: l) st h Q ↔ XE d 243 1426 (c0 :: .val (.ref a) :: l) (.ref a :: st) h Q := g_aload rfl rfl
theorem s243_1425n : XE d 243 1425 (c0 :: .val .null :: l) st h Q ↔ XE d 243 1426 (c0 :: .val .null :: l) (.null :: st) h Q := g_aloadN rfl rfl
theorem s243_1426 : XE d 243 1426 (.val (.ref a) :: l) st h Q ↔ XE d 243 1427 (.val (.ref a) :: l) (.ref a :: st) h Q := g_aload rfl rfl
theorem s243_1427 : XE d 243 1427 (c0 :: c1 :: c2 :: .val (.int x) :: l) st h Q ↔ XE d 243 1428 (c0 :: c1 :: c2 :: .val (.int x) :: l) (.int x :: st) h Q := g_iload rfl rfl
theorem s243_1428 : XE d 243 1428 ls st h Q ↔ XE d 243 1429 ls (.int 1 :: st) h Q := g_const rfl
theorem s243_1429 : XE d 243 1429 ls (.int y :: .int x :: st) h Q ↔ XE d 243 1430 ls (.int (x + y) :: st) h Q := g_add rfl
theorem s243_1430 : XE d 243 1430 ls (.int x :: .ref a :: st) h Q ↔ XA [0, 7] (h.2.2.1 a) x (fun k => XE d 243 1431 ls (.int k :: st) h Q) := g_ald rfl
theorem s243_1431 : XE d 243 1431 (.val (.ref a) :: l) st h Q ↔ XE d 243 1432 (.val (.ref a) :: l) (.ref a :: st) h Q := g_aload rfl rfl
theorem s243_1432 : XE d 243 1432 (c0 :: c1 :: c2 :: .val (.int x) :: l) st h Q ↔ XE d 243 1433 (c0 :: c1 :: c2 :: .val (.int x) :: l) (.int x :: st) h Q := g_iload rfl rfl
theorem s243_1433 : XE d 243 1433 ls st h Q ↔ XE d 243 1434 ls (.int 2 :: st) h Q := g_const rfl
theorem s243_1434 : XE d 243 1434 ls (.int y :: .int x :: st) h Q ↔ XE d 243 1435 ls (.int (x + y) :: st) h Q := g_add rfl
theorem s243_1435 : XE d 243 1435 ls (.int x :: .ref a :: st) h Q ↔ XA [0, 7] (h.2.2.1 a) x (fun k => XE d 243 1436 ls (.int k :: st) h Q) := g_ald rfl
theorem s243_1436 : XE d 243 1436 ls (.int y :: .int x :: .ref a :: st) h Q ↔ (xvo 8 st = true ∧ XV [(11, 117)] (h.2.2.1 a) (fun m' => XC d m' [.ref a, .int x, .int y] h (fun v h' => XE d 243 1439 ls (v.toList ++ st) h' Q))) := h_v2 rfl rfl
theorem s243_1439 : XE d 243 1439 (c0 :: c1 :: .val (.ref a) :: l) st h Q ↔ XE d 243 1440 (c0 :: c1 :: .val (.ref a) :: l) (.ref a :: st) h Q := g_aload rfl rfl
theorem s243_1439n : XE d 243 1439 (c0 :: c1 :: .val .null :: l) st h Q ↔ XE d 243 1440 (c0 :: c1 :: .val .null :: l) (.null :: st) h Q := g_aloadN rfl rfl
theorem s243_1440 : XE d 243 1440 (.val (.ref a) :: l) st h Q ↔ XE d 243 1441 (.val (.ref a) :: l) (.ref a :: st) h Q := g_aload rfl rfl
theorem s243_1441 : XE d 243 1441 (c0 :: c1 :: c2 :: .val (.int x) :: l) st h Q ↔ XE d 243 1442 (c0 :: c1 :: c2 :: .val (.int x) :: l) (.int x :: st) h Q := g_iload rfl rfl
theorem s243_1442 : XE d 243 1442 ls st h Q ↔ XE d 243 1443 ls (.int 1 :: st) h Q := g_const rfl
theorem s243_1443 : XE d 243 1443 ls (.int y :: .int x :: st) h Q ↔ XE d 243 1444 ls (.int (x + y) :: st) h Q := g_add rfl
theorem s243_1444 : XE d 243 1444 ls (.int x :: .ref a :: st) h Q ↔ XA [0, 7] (h.2.2.1 a) x (fun k => XE d 243 1445 ls (.int k :: st) h Q) := g_ald rfl
theorem s243_1445 : XE d 243 1445 (.val (.ref a) :: l) st h Q ↔ XE d 243 1446 (.val (.ref a) :: l) (.ref a :: st) h Q := g_aload rfl rfl
theorem s243_1446 : XE d 243 1446 (c0 :: c1 :: c2 :: .val (.int x) :: l) st h Q ↔ XE d 243 1447 (c0 :: c1 :: c2 :: .val (.int x) :: l) (.int x :: st) h Q := g_iload rfl rfl
theorem s243_1447 : XE d 243 1447 ls st h Q ↔ XE d 243 1448 ls (.int 2 :: st) h Q := g_const rfl
theorem s243_1448 : XE d 243 1448 ls (.int y :: .int x :: st) h Q ↔ XE d 243 1449 ls (.int (x + y) :: st) h Q := g_add rfl
theorem s243_1449 : XE d 243 1449 ls (.int x :: .ref a :: st) h Q ↔ XA [0, 7] (h.2.2.1 a) x (fun k => XE d 243 1450 ls (.int k :: st) h Q) := g_ald rfl
theorem s243_1450 : XE d 243 1450 ls (.int y :: .int x :: .ref a :: st) h Q ↔ (xvo 8 st = true ∧ XV [(12, 220)] (h.2.2.1 a) (fun m' => XC d m' [.ref a, .int x, .int y] h (fun v h' => XE d 243 1453 ls (v.toList ++ st) h' Q))) := h_v2 rfl rfl
theorem s243_1453 : XE d 243 1453 ls (.int y :: .int x :: st) h Q ↔ (if x = y then XE d 243 1553 ls st h Q else XE d 243 1456 ls st h Q) := g_ceq rfl
theorem s243_1456 : XE d 243 1456 ls st h Q ↔ XE d 243 1457 ls (.int 0 :: st) h Q := g_const rfl
theorem s243_1457 : XE d 243 1457 ls [.int 0] h Q ↔ Q (some (.int 0)) h := g_zret rfl rfl
theorem s243_1457t : XE d 243 1457 ls [.int 1] h Q ↔ Q (some (.int 1)) h := g_zret rfl rfl
theorem s243_1457b : XE d 243 1457 ls [.int (bI q)] h Q ↔ Q (some (.int (bI q))) h := g_zret (bI_nar q) rfl
theorem s243_1458 : XE d 243 1458 (c0 :: .val (.ref a) :: l) st h Q ↔ XE d 243 1459 (c0 :: .val (.ref a) :: l) (.ref a :: st) h Q := g_aload rfl rfl
theorem s243_1458n : XE d 243 1458 (c0 :: .val .null :: l) st h Q ↔ XE d 243 1459 (c0 :: .val .null :: l) (.null :: st) h Q := g_aloadN rfl rfl
theorem s243_1459 : XE d 243 1459 (.val (.ref a) :: l) st h Q ↔ XE d 243 1460 (.val (.ref a) :: l) (.ref a :: st) h Q := g_aload rfl rfl
theorem s243_1460 : XE d 243 1460 (c0 :: c1 :: c2 :: .val (.int x) :: l) st h Q ↔ XE d 243 1461 (c0 :: c1 :: c2 :: .val (.int x) :: l) (.int x :: st) h Q := g_iload rfl rfl
theorem s243_1461 : XE d 243 1461 ls st h Q ↔ XE d 243 1462 ls (.int 1 :: st) h Q := g_const rfl
theorem s243_1462 : XE d 243 1462 ls (.int y :: .int x :: st) h Q ↔ XE d 243 1463 ls (.int (x + y) :: st) h Q := g_add rfl
theorem s243_1463 : XE d 243 1463 ls (.int x :: .ref a :: st) h Q ↔ XA [0, 7] (h.2.2.1 a) x (fun k => XE d 243 1464 ls (.int k :: st) h Q) := g_ald rfl
theorem s243_1464 : XE d 243 1464 ls (.int x :: .ref a :: st) h Q ↔ (xvo 8 st = true ∧ XV [(11, 118)] (h.2.2.1 a) (fun m' => XC d m' [.ref a, .int x] h (fun v h' => XE d 243 1467 ls (v.toList ++ st) h' Q))) := h_v1 rfl rfl
theorem s243_1467 : XE d 243 1467 (c0 :: c1 :: .val (.ref a) :: l) st h Q ↔ XE d 243 1468 (c0 :: c1 :: .val (.ref a) :: l) (.ref a :: st) h Q := g_aload rfl rfl
theorem s243_1467n : XE d 243 1467 (c0 :: c1 :: .val .null :: l) st h Q ↔ XE d 243 1468 (c0 :: c1 :: .val .null :: l) (.null :: st) h Q := g_aloadN rfl rfl
theorem s243_1468 : XE d 243 1468 (.val (.ref a) :: l) st h Q ↔ XE d 243 1469 (.val (.ref a) :: l) (.ref a :: st) h Q := g_aload rfl rfl
theorem s243_1469 : XE d 243 1469 (c0 :: c1 :: c2 :: .val (.int x) :: l) st h Q ↔ XE d 243 1470 (c0 :: c1 :: c2 :: .val (.int x) :: l) (.int x :: st) h Q := g_iload rfl rfl
theorem s243_1470 : XE d 243 1470 ls st h Q ↔ XE d 243 1471 ls (.int 1 :: st) h Q := g_const rfl
theorem s243_1471 : XE d 243 1471 ls (.int y :: .int x :: st) h Q ↔ XE d 243 1472 ls (.int (x + y) :: st) h Q := g_add rfl
theorem s243_1472 : XE d 243 1472 ls (.int x :: .ref a :: st) h Q ↔ XA [0, 7] (h.2.2.1 a) x (fun k => XE d 243 1473 ls (.int k :: st) h Q) := g_ald rfl
theorem s243_1473 : XE d 243 1473 ls (.int x :: .ref a :: st) h Q ↔ (xvo 8 st = true ∧ XV [(12, 221)] (h.2.2.1 a) (fun m' => XC d m' [.ref a, .int x] h (fun v h' => XE d 243 1476 ls (v.toList ++ st) h' Q))) := h_v1 rfl rfl
theorem s243_1476 : XE d 243 1476 ls (.int y :: .int x :: st) h Q ↔ (if x = y then XE d 243 1553 ls st h Q else XE d 243 1479 ls st h Q) := g_ceq rfl
theorem s243_1479 : XE d 243 1479 ls st h Q ↔ XE d 243 1480 ls (.int 0 :: st) h Q := g_const rfl
theorem s243_1480 : XE d 243 1480 ls [.int 0] h Q ↔ Q (some (.int 0)) h := g_zret rfl rfl
theorem s243_1480t : XE d 243 1480 ls [.int 1] h Q ↔ Q (some (.int 1)) h := g_zret rfl rfl
theorem s243_1480b : XE d 243 1480 ls [.int (bI q)] h Q ↔ Q (some (.int (bI q))) h := g_zret (bI_nar q) rfl
theorem s243_1481 : XE d 243 1481 (c0 :: .val (.ref a) :: l) st h Q ↔ XE d 243 1482 (c0 :: .val (.ref a) :: l) (.ref a :: st) h Q := g_aload rfl rfl
theorem s243_1481n : XE d 243 1481 (c0 :: .val .null :: l) st h Q ↔ XE d 243 1482 (c0 :: .val .null :: l) (.null :: st) h Q := g_aloadN rfl rfl
theorem s243_1482 : XE d 243 1482 (.val (.ref a) :: l) st h Q ↔ XE d 243 1483 (.val (.ref a) :: l) (.ref a :: st) h Q := g_aload rfl rfl
theorem s243_1483 : XE d 243 1483 (c0 :: c1 :: c2 :: .val (.int x) :: l) st h Q ↔ XE d 243 1484 (c0 :: c1 :: c2 :: .val (.int x) :: l) (.int x :: st) h Q := g_iload rfl rfl
theorem s243_1484 : XE d 243 1484 ls st h Q ↔ XE d 243 1485 ls (.int 1 :: st) h Q := g_const rfl
theorem s243_1485 : XE d 243 1485 ls (.int y :: .int x :: st) h Q ↔ XE d 243 1486 ls (.int (x + y) :: st) h Q := g_add rfl
theorem s243_1486 : XE d 243 1486 ls (.int x :: .ref a :: st) h Q ↔ XA [0, 7] (h.2.2.1 a) x (fun k => XE d 243 1487 ls (.int k :: st) h Q) := g_ald rfl
theorem s243_1487 : XE d 243 1487 ls (.int x :: .ref a :: st) h Q ↔ (xvo 8 st = true ∧ XV [(11, 119)] (h.2.2.1 a) (fun m' => XC d m' [.ref a, .int x] h (fun v h' => XE d 243 1490 ls (v.toList ++ st) h' Q))) := h_v1 rfl rfl
theorem s243_1490 : XE d 243 1490 (c0 :: c1 :: .val (.ref a) :: l) st h Q ↔ XE d 243 1491 (c0 :: c1 :: .val (.ref a) :: l) (.ref a :: st) h Q := g_aload rfl rfl
theorem s243_1490n : XE d 243 1490 (c0 :: c1 :: .val .null :: l) st h Q ↔ XE d 243 1491 (c0 :: c1 :: .val .null :: l) (.null :: st) h Q := g_aloadN rfl rfl
theorem s243_1491 : XE d 243 1491 (.val (.ref a) :: l) st h Q ↔ XE d 243 1492 (.val (.ref a) :: l) (.ref a :: st) h Q := g_aload rfl rfl
theorem s243_1492 : XE d 243 1492 (c0 :: c1 :: c2 :: .val (.int x) :: l) st h Q ↔ XE d 243 1493 (c0 :: c1 :: c2 :: .val (.int x) :: l) (.int x :: st) h Q := g_iload rfl rfl
theorem s243_1493 : XE d 243 1493 ls st h Q ↔ XE d 243 1494 ls (.int 1 :: st) h Q := g_const rfl
theorem s243_1494 : XE d 243 1494 ls (.int y :: .int x :: st) h Q ↔ XE d 243 1495 ls (.int (x + y) :: st) h Q := g_add rfl
theorem s243_1495 : XE d 243 1495 ls (.int x :: .ref a :: st) h Q ↔ XA [0, 7] (h.2.2.1 a) x (fun k => XE d 243 1496 ls (.int k :: st) h Q) := g_ald rfl
theorem s243_1496 : XE d 243 1496 ls (.int x :: .ref a :: st) h Q ↔ (xvo 8 st = true ∧ XV [(12, 222)] (h.2.2.1 a) (fun m' => XC d m' [.ref a, .int x] h (fun v h' => XE d 243 1499 ls (v.toList ++ st) h' Q))) := h_v1 rfl rfl
theorem s243_1499 : XE d 243 1499 ls (.int y :: .int x :: st) h Q ↔ (if x = y then XE d 243 1553 ls st h Q else XE d 243 1502 ls st h Q) := g_ceq rfl
theorem s243_1502 : XE d 243 1502 ls st h Q ↔ XE d 243 1503 ls (.int 0 :: st) h Q := g_const rfl
theorem s243_1503 : XE d 243 1503 ls [.int 0] h Q ↔ Q (some (.int 0)) h := g_zret rfl rfl
theorem s243_1503t : XE d 243 1503 ls [.int 1] h Q ↔ Q (some (.int 1)) h := g_zret rfl rfl
theorem s243_1503b : XE d 243 1503 ls [.int (bI q)] h Q ↔ Q (some (.int (bI q))) h := g_zret (bI_nar q) rfl
theorem s243_1504 : XE d 243 1504 (c0 :: .val (.ref a) :: l) st h Q ↔ XE d 243 1505 (c0 :: .val (.ref a) :: l) (.ref a :: st) h Q := g_aload rfl rfl
theorem s243_1504n : XE d 243 1504 (c0 :: .val .null :: l) st h Q ↔ XE d 243 1505 (c0 :: .val .null :: l) (.null :: st) h Q := g_aloadN rfl rfl
theorem s243_1505 : XE d 243 1505 ls (.ref a :: st) h Q ↔ (xvo 8 st = true ∧ XV [(11, 120)] (h.2.2.1 a) (fun m' => XC d m' [.ref a] h (fun v h' => XE d 243 1508 ls (v.toList ++ st) h' Q))) := h_v0 rfl
theorem s243_1508 : XE d 243 1508 (c0 :: c1 :: .val (.ref a) :: l) st h Q ↔ XE d 243 1509 (c0 :: c1 :: .val (.ref a) :: l) (.ref a :: st) h Q := g_aload rfl rfl
theorem s243_1508n : XE d 243 1508 (c0 :: c1 :: .val .null :: l) st h Q ↔ XE d 243 1509 (c0 :: c1 :: .val .null :: l) (.null :: st) h Q := g_aloadN rfl rfl
theorem s243_1509 : XE d 243 1509 ls (.ref a :: st) h Q ↔ (xvo 8 st = true ∧ XV [(12, 223)] (h.2.2.1 a) (fun m' => XC d m' [.ref a] h (fun v h' => XE d 243 1512 ls (v.toList ++ st) h' Q))) := h_v0 rfl
theorem s243_1512 : XE d 243 1512 ls (.int y :: .int x :: st) h Q ↔ (if x = y then XE d 243 1553 ls st h Q else XE d 243 1515 ls st h Q) := g_ceq rfl
theorem s243_1515 : XE d 243 1515 ls st h Q ↔ XE d 243 1516 ls (.int 0 :: st) h Q := g_const rfl
theorem s243_1516 : XE d 243 1516 ls [.int 0] h Q ↔ Q (some (.int 0)) h := g_zret rfl rfl
theorem s243_1516t : XE d 243 1516 ls [.int 1] h Q ↔ Q (some (.int 1)) h := g_zret rfl rfl
theorem s243_1516b : XE d 243 1516 ls [.int (bI q)] h Q ↔ Q (some (.int (bI q))) h := g_zret (bI_nar q) rfl
theorem s243_1517 : XE d 243 1517 (c0 :: .val (.ref a) :: l) st h Q ↔ XE d 243 1518 (c0 :: .val (.ref a) :: l) (.ref a :: st) h Q := g_aload rfl rfl
theorem s243_1517n : XE d 243 1517 (c0 :: .val .null :: l) st h Q ↔ XE d 243 1518 (c0 :: .val .null :: l) (.null :: st) h Q := g_aloadN rfl rfl
theorem s243_1518 : XE d 243 1518 ls (.ref a :: st) h Q ↔ (xvo 8 st = true ∧ XV [(11, 121)] (h.2.2.1 a) (fun m' => XC d m' [.ref a] h (fun v h' => XE d 243 1521 ls (v.toList ++ st) h' Q))) := h_v0 rfl
theorem s243_1521 : XE d 243 1521 (c0 :: c1 :: .val (.ref a) :: l) st h Q ↔ XE d 243 1522 (c0 :: c1 :: .val (.ref a) :: l) (.ref a :: st) h Q := g_aload rfl rfl
theorem s243_1521n : XE d 243 1521 (c0 :: c1 :: .val .null :: l) st h Q ↔ XE d 243 1522 (c0 :: c1 :: .val .null :: l) (.null :: st) h Q := g_aloadN rfl rfl
theorem s243_1522 : XE d 243 1522 ls (.ref a :: st) h Q ↔ (xvo 8 st = true ∧ XV [(12, 224)] (h.2.2.1 a) (fun m' => XC d m' [.ref a] h (fun v h' => XE d 243 1525 ls (v.toList ++ st) h' Q))) := h_v0 rfl
theorem s243_1525 : XE d 243 1525 ls (.int y :: .int x :: st) h Q ↔ (if x = y then XE d 243 1553 ls st h Q else XE d 243 1528 ls st h Q) := g_ceq rfl
theorem s243_1528 : XE d 243 1528 ls st h Q ↔ XE d 243 1529 ls (.int 0 :: st) h Q := g_const rfl
theorem s243_1529 : XE d 243 1529 ls [.int 0] h Q ↔ Q (some (.int 0)) h := g_zret rfl rfl
theorem s243_1529t : XE d 243 1529 ls [.int 1] h Q ↔ Q (some (.int 1)) h := g_zret rfl rfl
theorem s243_1529b : XE d 243 1529 ls [.int (bI q)] h Q ↔ Q (some (.int (bI q))) h := g_zret (bI_nar q) rfl
theorem s243_1530 : XE d 243 1530 (c0 :: .val (.ref a) :: l) st h Q ↔ XE d 243 1531 (c0 :: .val (.ref a) :: l) (.ref a :: st) h Q := g_aload rfl rfl
theorem s243_1530n : XE d 243 1530 (c0 :: .val .null :: l) st h Q ↔ XE d 243 1531 (c0 :: .val .null :: l) (.null :: st) h Q := g_aloadN rfl rfl
theorem s243_1531 : XE d 243 1531 (.val (.ref a) :: l) st h Q ↔ XE d 243 1532 (.val (.ref a) :: l) (.ref a :: st) h Q := g_aload rfl rfl
theorem s243_1532 : XE d 243 1532 (c0 :: c1 :: c2 :: .val (.int x) :: l) st h Q ↔ XE d 243 1533 (c0 :: c1 :: c2 :: .val (.int x) :: l) (.int x :: st) h Q := g_iload rfl rfl
theorem s243_1533 : XE d 243 1533 ls st h Q ↔ XE d 243 1534 ls (.int 1 :: st) h Q := g_const rfl
theorem s243_1534 : XE d 243 1534 ls (.int y :: .int x :: st) h Q ↔ XE d 243 1535 ls (.int (x + y) :: st) h Q := g_add rfl
theorem s243_1535 : XE d 243 1535 ls (.int x :: .ref a :: st) h Q ↔ XA [0, 7] (h.2.2.1 a) x (fun k => XE d 243 1536 ls (.int k :: st) h Q) := g_ald rfl
theorem s243_1536 : XE d 243 1536 ls (.int x :: .ref a :: st) h Q ↔ (xvo 8 st = true ∧ XV [(11, 122)] (h.2.2.1 a) (fun m' => XC d m' [.ref a, .int x] h (fun v h' => XE d 243 1539 ls (v.toList ++ st) h' Q))) := h_v1 rfl rfl
theorem s243_1539 : XE d 243 1539 (c0 :: c1 :: .val (.ref a) :: l) st h Q ↔ XE d 243 1540 (c0 :: c1 :: .val (.ref a) :: l) (.ref a :: st) h Q := g_aload rfl rfl
theorem s243_1539n : XE d 243 1539 (c0 :: c1 :: .val .null :: l) st h Q ↔ XE d 243 1540 (c0 :: c1 :: .val .null :: l) (.null :: st) h Q := g_aloadN rfl rfl
theorem s243_1540 : XE d 243 1540 (.val (.ref a) :: l) st h Q ↔ XE d 243 1541 (.val (.ref a) :: l) (.ref a :: st) h Q := g_aload rfl rfl
theorem s243_1541 : XE d 243 1541 (c0 :: c1 :: c2 :: .val (.int x) :: l) st h Q ↔ XE d 243 1542 (c0 :: c1 :: c2 :: .val (.int x) :: l) (.int x :: st) h Q := g_iload rfl rfl
theorem s243_1542 : XE d 243 1542 ls st h Q ↔ XE d 243 1543 ls (.int 1 :: st) h Q := g_const rfl
theorem s243_1543 : XE d 243 1543 ls (.int y :: .int x :: st) h Q ↔ XE d 243 1544 ls (.int (x + y) :: st) h Q := g_add rfl
theorem s243_1544 : XE d 243 1544 ls (.int x :: .ref a :: st) h Q ↔ XA [0, 7] (h.2.2.1 a) x (fun k => XE d 243 1545 ls (.int k :: st) h Q) := g_ald rfl
theorem s243_1545 : XE d 243 1545 ls (.int x :: .ref a :: st) h Q ↔ (xvo 8 st = true ∧ XV [(12, 225)] (h.2.2.1 a) (fun m' => XC d m' [.ref a, .int x] h (fun v h' => XE d 243 1548 ls (v.toList ++ st) h' Q))) := h_v1 rfl rfl
theorem s243_1548 : XE d 243 1548 ls (.int y :: .int x :: st) h Q ↔ (if x = y then XE d 243 1553 ls st h Q else XE d 243 1551 ls st h Q) := g_ceq rfl
theorem s243_1551 : XE d 243 1551 ls st h Q ↔ XE d 243 1552 ls (.int 0 :: st) h Q := g_const rfl
theorem s243_1552 : XE d 243 1552 ls [.int 0] h Q ↔ Q (some (.int 0)) h := g_zret rfl rfl
theorem s243_1552t : XE d 243 1552 ls [.int 1] h Q ↔ Q (some (.int 1)) h := g_zret rfl rfl
theorem s243_1552b : XE d 243 1552 ls [.int (bI q)] h Q ↔ Q (some (.int (bI q))) h := g_zret (bI_nar q) rfl
theorem s243_1553 : XE d 243 1553 (c0 :: c1 :: c2 :: .val (.int x) :: l) st h Q ↔ XE d 243 1556 (c0 :: c1 :: c2 :: .val (.int (x + 6)) :: l) st h Q := g_iinc rfl rfl rfl
theorem s243_1556 : XE d 243 1556 ls st h Q ↔ XE d 243 18 ls st h Q := g_goto rfl
theorem s243_1559 : XE d 243 1559 ls st h Q ↔ XE d 243 1560 ls (.int 1 :: st) h Q := g_const rfl
theorem s243_1560 : XE d 243 1560 ls [.int 0] h Q ↔ Q (some (.int 0)) h := g_zret rfl rfl
theorem s243_1560t : XE d 243 1560 ls [.int 1] h Q ↔ Q (some (.int 1)) h := g_zret rfl rfl
theorem s243_1560b : XE d 243 1560 ls [.int (bI q)] h Q ↔ Q (some (.int (bI q))) h := g_zret (bI_nar q) rfl
end PR
