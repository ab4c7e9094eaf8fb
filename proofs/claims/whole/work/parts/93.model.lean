/-! ===== 93: the model at the start ===== -/
section MOD
variable {d t s : Nat} {f : Nat → va_E} {g : Nat → Value} {Q : Option Value → xH → Prop} {e : va_E} {l : List va_E} {F : va_E → Prop} {u : Nat → Int32}
theorem hb_i1 {x0 x1 : va_E} : (hb t f g s (x0 :: x1 :: l)).2.2.1 (t + 1) = x1 := hb_at (j := 1)
theorem hb_j1 {x0 x1 : va_E} : xset (hb t f g s (x0 :: x1 :: l)) (t + 1) e = hb t f g s (x0 :: e :: l) := hb_set (j := 1) (by show 1 < l.length + 2; omega)
theorem hb_i5 {x0 x1 x2 x3 x4 x5 : va_E} : (hb t f g s (x0 :: x1 :: x2 :: x3 :: x4 :: x5 :: l)).2.2.1 (t + 5) = x5 := hb_at (j := 5)
theorem hb_j5 {x0 x1 x2 x3 x4 x5 : va_E} : xset (hb t f g s (x0 :: x1 :: x2 :: x3 :: x4 :: x5 :: l)) (t + 5) e = hb t f g s (x0 :: x1 :: x2 :: x3 :: x4 :: e :: l) := hb_set (j := 5) (by show 5 < l.length + 6; omega)
theorem hb_i6 {x0 x1 x2 x3 x4 x5 x6 : va_E} : (hb t f g s (x0 :: x1 :: x2 :: x3 :: x4 :: x5 :: x6 :: l)).2.2.1 (t + 6) = x6 := hb_at (j := 6)
theorem hb_j6 {x0 x1 x2 x3 x4 x5 x6 : va_E} : xset (hb t f g s (x0 :: x1 :: x2 :: x3 :: x4 :: x5 :: x6 :: l)) (t + 6) e = hb t f g s (x0 :: x1 :: x2 :: x3 :: x4 :: x5 :: e :: l) := hb_set (j := 6) (by show 6 < l.length + 7; omega)
theorem hb_i12 {x0 x1 x2 x3 x4 x5 x6 x7 x8 x9 x10 x11 x12 : va_E} : (hb t f g s (x0 :: x1 :: x2 :: x3 :: x4 :: x5 :: x6 :: x7 :: x8 :: x9 :: x10 :: x11 :: x12 :: l)).2.2.1 (t + 12) = x12 := hb_at (j := 12)
theorem hb_j12 {x0 x1 x2 x3 x4 x5 x6 x7 x8 x9 x10 x11 x12 : va_E} : xset (hb t f g s (x0 :: x1 :: x2 :: x3 :: x4 :: x5 :: x6 :: x7 :: x8 :: x9 :: x10 :: x11 :: x12 :: l)) (t + 12) e = hb t f g s (x0 :: x1 :: x2 :: x3 :: x4 :: x5 :: x6 :: x7 :: x8 :: x9 :: x10 :: x11 :: e :: l) := hb_set (j := 12) (by show 12 < l.length + 13; omega)
theorem xk_0 : XS 2 (.inl (2, xis 11 u)) 0 99 F ↔ F (.inl (2, xis 11 (upd u 0 99))) := by
  unfold XS
  dsimp only
  exact ⟨fun q => q.2, fun q => ⟨⟨rfl, by decide, fun w => absurd w (by decide), fun _ => by decide⟩, q⟩⟩
theorem xk_1 : XS 2 (.inl (2, xis 11 u)) 1 111 F ↔ F (.inl (2, xis 11 (upd u 1 111))) := by
  unfold XS
  dsimp only
  exact ⟨fun q => q.2, fun q => ⟨⟨rfl, by decide, fun w => absurd w (by decide), fun _ => by decide⟩, q⟩⟩
theorem xk_2 : XS 2 (.inl (2, xis 11 u)) 2 109 F ↔ F (.inl (2, xis 11 (upd u 2 109))) := by
  unfold XS
  dsimp only
  exact ⟨fun q => q.2, fun q => ⟨⟨rfl, by decide, fun w => absurd w (by decide), fun _ => by decide⟩, q⟩⟩
theorem xk_3 : XS 2 (.inl (2, xis 11 u)) 3 101 F ↔ F (.inl (2, xis 11 (upd u 3 101))) := by
  unfold XS
  dsimp only
  exact ⟨fun q => q.2, fun q => ⟨⟨rfl, by decide, fun w => absurd w (by decide), fun _ => by decide⟩, q⟩⟩
theorem xk_4 : XS 2 (.inl (2, xis 11 u)) 4 103 F ↔ F (.inl (2, xis 11 (upd u 4 103))) := by
  unfold XS
  dsimp only
  exact ⟨fun q => q.2, fun q => ⟨⟨rfl, by decide, fun w => absurd w (by decide), fun _ => by decide⟩, q⟩⟩
theorem xk_5 : XS 2 (.inl (2, xis 11 u)) 5 97 F ↔ F (.inl (2, xis 11 (upd u 5 97))) := by
  unfold XS
  dsimp only
  exact ⟨fun q => q.2, fun q => ⟨⟨rfl, by decide, fun w => absurd w (by decide), fun _ => by decide⟩, q⟩⟩
theorem xk_6 : XS 2 (.inl (2, xis 11 u)) 6 105 F ↔ F (.inl (2, xis 11 (upd u 6 105))) := by
  unfold XS
  dsimp only
  exact ⟨fun q => q.2, fun q => ⟨⟨rfl, by decide, fun w => absurd w (by decide), fun _ => by decide⟩, q⟩⟩
theorem xk_7 : XS 2 (.inl (2, xis 11 u)) 7 110 F ↔ F (.inl (2, xis 11 (upd u 7 110))) := by
  unfold XS
  dsimp only
  exact ⟨fun q => q.2, fun q => ⟨⟨rfl, by decide, fun w => absurd w (by decide), fun _ => by decide⟩, q⟩⟩
theorem xk_8 : XS 2 (.inl (2, xis 11 u)) 8 109 F ↔ F (.inl (2, xis 11 (upd u 8 109))) := by
  unfold XS
  dsimp only
  exact ⟨fun q => q.2, fun q => ⟨⟨rfl, by decide, fun w => absurd w (by decide), fun _ => by decide⟩, q⟩⟩
theorem xk_9 : XS 2 (.inl (2, xis 11 u)) 9 97 F ↔ F (.inl (2, xis 11 (upd u 9 97))) := by
  unfold XS
  dsimp only
  exact ⟨fun q => q.2, fun q => ⟨⟨rfl, by decide, fun w => absurd w (by decide), fun _ => by decide⟩, q⟩⟩
theorem xk_10 : XS 2 (.inl (2, xis 11 u)) 10 121 F ↔ F (.inl (2, xis 11 (upd u 10 121))) := by
  unfold XS
  dsimp only
  exact ⟨fun q => q.2, fun q => ⟨⟨rfl, by decide, fun w => absurd w (by decide), fun _ => by decide⟩, q⟩⟩
theorem xq_0 {v : Int32} : XS 0 (.inl (0, xis 4 u)) 0 v F ↔ F (.inl (0, xis 4 (upd u 0 v))) := XS4 (j := 0) (by decide)
theorem xq_1 {v : Int32} : XS 0 (.inl (0, xis 4 u)) 1 v F ↔ F (.inl (0, xis 4 (upd u 1 v))) := XS4 (j := 1) (by decide)
theorem xq_2 {v : Int32} : XS 0 (.inl (0, xis 4 u)) 2 v F ↔ F (.inl (0, xis 4 (upd u 2 v))) := XS4 (j := 2) (by decide)
theorem xq_3 {v : Int32} : XS 0 (.inl (0, xis 4 u)) 3 v F ↔ F (.inl (0, xis 4 (upd u 3 v))) := XS4 (j := 3) (by decide)
theorem kR_eq : (upd (upd (upd (upd (upd (upd (upd (upd (upd (upd (upd (fun _ => 0) 0 99) 1 111) 2 109) 3 101) 4 103) 5 97) 6 105) 7 110) 8 109) 9 97) 10 121) = keyR := by
  funext i
  match i with
  | 0 => rfl
  | 1 => rfl
  | 2 => rfl
  | 3 => rfl
  | 4 => rfl
  | 5 => rfl
  | 6 => rfl
  | 7 => rfl
  | 8 => rfl
  | 9 => rfl
  | 10 => rfl
  | n + 11 => rfl
theorem kA_eq : (upd (upd (upd (upd (fun _ => 0) 0 0) 1 4) 2 8) 3 11) = keyA := by
  funext i
  match i with
  | 0 => rfl
  | 1 => rfl
  | 2 => rfl
  | 3 => rfl
  | n + 4 => rfl
def cM (t : Nat) : List va_E := [.inr (12, ob_12 (.ref (t + 1)) (.ref (t + 2)) (.ref (t + 3)) (.int 0) (.ref (t + 4)) (.int 0) (.int 0) (.int 0) (.int 0) (.int 0) (.int 0) (.int 0) (.ref (t + 5)) (.ref (t + 6)) (.ref (t + 7)) (.int 0) (.int 0) (.ref (t + 8)) (.int 0) (.ref (t + 9)) (.ref (t + 10)) (.ref (t + 11)) (.ref (t + 12)) (.ref (t + 13)) (.ref (t + 14)) (.ref (t + 15)) (.ref (t + 16)) (.ref (t + 17)) (.ref (t + 18)) (.ref (t + 19)) (.ref (t + 20)) (.int 0)), .inl (0, xis 1482 (upd (upd (fun _ => 0) 0 1) 6 3)), .inl (0, xis 1482 (fun _ => 0)), .inl (0, xis 1482 (fun _ => 0)), .inl (0, xis 96 (fun _ => 0)), .inl (2, xis 11 keyR), .inl (0, xis 4 keyA), .inl (0, xis 96 (fun _ => 0)), .inl (0, xis 96 (fun _ => 0)), .inl (1, xis 10 (fun _ => 0)), .inl (0, xis 96 (fun _ => 0)), .inl (0, xis 4 (fun _ => 0)), .inl (0, xis 4 (upd (upd (upd (upd (fun _ => 0) 0 (-1)) 1 (-1)) 2 (-1)) 3 (-1))), .inl (0, xis 4 (fun _ => 0)), .inl (0, xis 96 (fun _ => 0)), .inl (0, xis 5 (fun _ => 0)), .inl (0, xis 5 (fun _ => 0)), .inl (0, xis 5 (fun _ => 0)), .inl (0, xis 120 (fun _ => 0)), .inl (0, xis 24 (fun _ => 0)), .inl (0, xis 60 (fun _ => 0))]
theorem c_model0 : XC (d + 1) 131 [.ref t] (hb t f g s [.inr (12, ob_12 .null .null .null (.int 0) .null (.int 0) (.int 0) (.int 0) (.int 0) (.int 0) (.int 0) (.int 0) .null .null .null (.int 0) (.int 0) .null (.int 0) .null .null .null .null .null .null .null .null .null .null .null .null (.int 0))]) Q ↔ Q none (hb t f g (s + 5182) (cM t)) := by
  unfold cM
  rw [e131, ← kR_eq, ← kA_eq]
  simp only [s131_0, s131_1, s131_4, s131_5, s131_8, s131_10, s131_10n, s131_13, s131_14, s131_17, s131_19, s131_19n, s131_22, s131_23, s131_26, s131_28, s131_28n, s131_31, s131_32, s131_34, s131_36, s131_36n, s131_39, s131_40, s131_42, s131_44, s131_44r, s131_45, s131_46, s131_48, s131_49, s131_49r, s131_50, s131_51, s131_53, s131_54, s131_54r, s131_55, s131_56, s131_58, s131_59, s131_59r, s131_60, s131_61, s131_63, s131_64, s131_64r, s131_65, s131_66, s131_68, s131_69, s131_69r, s131_70, s131_71, s131_73, s131_74, s131_74r, s131_75, s131_77, s131_79, s131_80, s131_80r, s131_81, s131_83, s131_85, s131_86, s131_86r, s131_87, s131_89, s131_91, s131_92, s131_92r, s131_93, s131_95, s131_97, s131_98, s131_98r, s131_99, s131_101, s131_103, s131_104, s131_104n, s131_107, s131_108, s131_109, s131_111, s131_111r, s131_112, s131_113, s131_114, s131_115, s131_115r, s131_116, s131_117, s131_118, s131_119, s131_119r, s131_120, s131_121, s131_123, s131_124, s131_124r, s131_125, s131_126, s131_128, s131_129, s131_129n, s131_132, s131_133, s131_135, s131_137, s131_137n, s131_140, s131_141, s131_143, s131_145, s131_145n, s131_148, s131_149, s131_151, s131_153, s131_153n, s131_156, s131_157, s131_159, s131_161, s131_161n, s131_164, s131_165, s131_166, s131_168, s131_168n, s131_171, s131_172, s131_173, s131_175, s131_175r, s131_176, s131_177, s131_178, s131_179, s131_179r, s131_180, s131_181, s131_182, s131_183, s131_183r, s131_184, s131_185, s131_186, s131_187, s131_187r, s131_188, s131_189, s131_190, s131_191, s131_191n, s131_194, s131_195, s131_196, s131_198, s131_198n, s131_201, s131_202, s131_204, s131_206, s131_206n, s131_209, s131_210, s131_211, s131_213, s131_213n, s131_216, s131_217, s131_218, s131_220, s131_220n, s131_223, s131_224, s131_225, s131_227, s131_227n, s131_230, s131_231, s131_233, s131_235, s131_235n, s131_238, s131_239, s131_241, s131_243, s131_243n, s131_246, s131_247, s131_249, s131_251, s131_251n, s131_254, s131_255, s131_258, s131_259, s131_260, s131_261, s131_262, s131_265, s131_267, s131_268, s131_269, hb_a0, hb_s0, hb_new, hb_1, hb_i1, hb_j1, hb_i5, hb_j5, hb_i6, hb_j6, hb_i12, hb_j12, xk_0, xk_1, xk_2, xk_3, xk_4, xk_5, xk_6, xk_7, xk_8, xk_9, xk_10, og_12_0, xq_0, xq_1, xq_2, xq_3, op_12_0, op_12_1, op_12_2, op_12_3, op_12_4, op_12_5, op_12_6, op_12_7, op_12_8, op_12_9, op_12_10, op_12_11, op_12_12, op_12_13, op_12_14, op_12_15, op_12_16, op_12_17, op_12_18, op_12_19, op_12_20, op_12_21, op_12_22, op_12_23, op_12_24, op_12_25, op_12_26, op_12_27, op_12_28, op_12_29, op_12_30, op_12_31, S0, S6, and_self, nw4, nc4, nu4, nw5, nc5, nu5, nw6, nc6, nu6, nw10, nc10, nu10, nw11, nc11, nu11, nw12, nc12, nu12, nw14, nc14, nu14, nw24, nc24, nu24, nw60, nc60, nu60, nw72, nc72, nu72, nw96, nc96, nu96, nw120, nc120, nu120, nw1482, nc1482, nu1482, Nat.add_assoc, List.cons_append, List.nil_append, List.length_cons, List.length_nil, Nat.zero_add, Nat.reduceAdd, XG_1, XO_some, XV_1, xo_n, xo_i8, xo_r8, xo_i7, xo_r7, xo_i6, xo_r6, xo_i5, xo_r5, xo_i4, xo_r4, xo_i3, xo_r3, xo_i2, xo_r2, Option.toList_some, Option.toList_none, List.cons_append, List.nil_append, bI_t, bI_f, bI_0, bI_n0, if_true, if_false, true_and, and_true, ne_eq, not_true_eq_false, not_false_eq_true, one_ne0, reduceCtorEq]
end MOD
