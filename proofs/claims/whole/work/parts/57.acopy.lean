/-! ===== 57: a row copied whole ===== -/
section ACO
variable {f g : Nat → Int32} {F : va_E → Prop}
theorem cpy_cpf {N : Nat} : va_cpy f g 0 0 N = cpf f g N := by
  funext j
  unfold cpf
  by_cases e : j < N
  · rw [if_pos e, pk_cpy_in (by omega) (by omega)]
    congr 1
    omega
  · rw [if_neg e, pk_cpy_out (by omega)]
theorem XCp_n {N : Nat} (hN : N < 2 ^ 31) : XCp (.inl (0, xis N g)) (.inl (0, xis N f)) (nI N) 0 0 F ↔ F (.inl (0, xis N (cpf f g N))) := by
  have z0 : (0 : Int32).toNatClampNeg = 0 := rfl
  unfold XCp
  dsimp only
  rw [z0, nI_clamp hN, cpy_cpf]
  refine ⟨fun q => q.2, fun q => ⟨⟨rfl, rfl, Int32.le_refl _, Int32.le_refl _, ?_, by omega, by omega⟩, q⟩⟩
  exact nI_pos' hN
theorem XCp10 : XCp (.inl (0, xis 10 g)) (.inl (0, xis 10 f)) 10 0 0 F ↔ F (.inl (0, xis 10 (cpf f g 10))) := XCp_n (N := 10) (by decide)
theorem XCp12 : XCp (.inl (0, xis 12 g)) (.inl (0, xis 12 f)) 12 0 0 F ↔ F (.inl (0, xis 12 (cpf f g 12))) := XCp_n (N := 12) (by decide)
theorem XCp24 : XCp (.inl (0, xis 24 g)) (.inl (0, xis 24 f)) 24 0 0 F ↔ F (.inl (0, xis 24 (cpf f g 24))) := XCp_n (N := 24) (by decide)
end ACO
