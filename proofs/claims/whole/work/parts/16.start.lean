/-! ===== 16: the law out of the small machine's run ===== -/
def sln : List Nat := [4, 4, 3, 4, 2, 3]
def sbt : List (List Int32) := [[99, 111, 109, 101], [103, 97, 105, 110], [109, 97, 121], [97, 99, 108, 112], [119, 109], [112, 113, 111]]
def sby (i : Nat) : va_E := .inl (8, xis (sln.getD i 0) (fun j => (sbt.getD i []).getD j 0))
def stm (i : Nat) : Term := .string RX7 ([105, 111, 113, 115, 120, 122].getD i 0)
/-- what the pure part shows: the small machine's run of the law ends with 1, within the room -/
def xPure : Prop := ∀ (B b L : Nat) (xs : Nat → Int32) (E : Nat → va_E) (g : Nat → Value) (adK adV : Nat → Nat), L ≤ 3072 → b < B → E b = .inl (7, xis L xs) → (∀ a, B ≤ a → E a = .inr (99, [])) → g 7 = .int 1 → xv1 (g 0) = true →
  (∀ i, i < 6 → g (1 + i) = .ref (adK i) ∧ g (100 + 3 * adK i) = .int 20 ∧ g (101 + 3 * adK i) = .ref (adV i) ∧ g (102 + 3 * adK i) = .int 0 ∧ adV i < B ∧ E (adV i) = sby i) →
  xEv tab (xmL mi) 13 243 0 (xent (xmL mi) 243 [.ref b]) [] (B, 0, E, g) (fun v h' => v = some (.int 1) ∧ h'.1 ≤ B + 600000 ∧ h'.2.1 ≤ 7302250)
def xEf (b L : Nat) (xs : Nat → Int32) (adV : Nat → Nat) (a : Nat) : va_E := if a = b then .inl (7, xis L xs) else match (List.range 6).find? (fun i => adV i == a) with
  | some i => sby i
  | none => .inr (99, [])
def xgf (v0 : Value) (adK adV : Nat → Nat) (j : Nat) : Value := if j = 0 then v0 else if j ≤ 6 then .ref (adK (j - 1)) else if j = 7 then .int 1 else if j < 100 then .null else match (List.range 6).find? (fun i => adK i == (j - 100) / 3) with
  | some i => (match (j - 100) % 3 with
    | 0 => .int 20
    | 1 => .ref (adV i)
    | _ => .int 0)
  | none => .null
theorem xfind {ad : Nat → Nat} {i : Nat} (hi : i < 6) (hinj : ∀ i j, i < 6 → j < 6 → ad i = ad j → i = j) : (List.range 6).find? (fun j => ad j == ad i) = some i := by
  cases h : (List.range 6).find? (fun j => ad j == ad i) with
  | none =>
    have := List.find?_eq_none.mp h i (List.mem_range.mpr hi)
    simp at this
  | some j =>
    have h1 := List.find?_some h
    have h2 := List.mem_range.mp (List.mem_of_find?_eq_some h)
    simp only [beq_iff_eq] at h1
    rw [hinj j i h2 hi h1]
theorem xfind_some {ad : Nat → Nat} {a i : Nat} (h : (List.range 6).find? (fun j => ad j == a) = some i) : i < 6 ∧ ad i = a := by
  have h1 := List.find?_some h
  simp only [beq_iff_eq] at h1
  exact ⟨List.mem_range.mp (List.mem_of_find?_eq_some h), h1⟩
theorem xinst {ci : Nat} (h : ci < 13) : ∃ (r : vw_C) (n : Nat), vwC[ci]? = some r ∧ Cond.instantiable r.1 n ∈ gw := by
  match ci, h with
  | 0, _ => exact ⟨_, _, rfl, w409⟩
  | 1, _ => exact ⟨_, _, rfl, w436⟩
  | 2, _ => exact ⟨_, _, rfl, w385⟩
  | 3, _ => exact ⟨_, _, rfl, w418⟩
  | 4, _ => exact ⟨_, _, rfl, w427⟩
  | 5, _ => exact ⟨_, _, rfl, w177⟩
  | 6, _ => exact ⟨_, _, rfl, w195⟩
  | 7, _ => exact ⟨_, _, rfl, w124⟩
  | 8, _ => exact ⟨_, _, rfl, w849⟩
  | 9, _ => exact ⟨_, _, rfl, w445⟩
  | 10, _ => exact ⟨_, _, rfl, w32⟩
  | 11, _ => exact ⟨_, _, rfl, w24⟩
  | 12, _ => exact ⟨_, _, rfl, w997⟩
  | n + 13, h => omega
theorem nwl_in : ∀ w ∈ nwl, w ∈ lw_tbl := by decide +kernel
theorem aol_in : ∀ C ∈ aol, Cond.arrayOver (.object C) ∈ lw_tbl := by decide +kernel
theorem xstr_in : ∀ q ∈ xstr, Cond.stringRef q.1 q.2.1 q.2.2 ∈ lw_tbl := by decide +kernel
def gvL : List Cond := flatC (Jvm.Cond.and given_1 narrow_1)
theorem ncl_in : ∀ q ∈ ncl, Cond.not (.castable q.1 q.2) ∈ gvL := by decide +kernel
theorem st_ex : ∀ i, i < 6 → Cond.exactly (stm i) "java/lang/String" ∈ gvL := by decide +kernel
theorem st_co : ∀ i, i < 6 → Cond.eq (.field (stm i) "java/lang/String" "coder" "B") (.int 0) ∈ gvL := by decide +kernel
theorem st_ar : ∀ i, i < 6 → Cond.arrayOf (.field (stm i) "java/lang/String" "value" "[B") .byte ∈ gvL := by decide +kernel
theorem st_le : ∀ i, i < 6 → Cond.eq (.length (.field (stm i) "java/lang/String" "value" "[B")) (.int (Int32.ofNat (sln.getD i 0))) ∈ gvL := by decide +kernel
theorem st_el : ∀ i, i < 6 → ∀ j, j < sln.getD i 0 → Cond.eq (.elem (.field (stm i) "java/lang/String" "value" "[B") (.int (Int32.ofNat j))) (.int ((sbt.getD i []).getD j 0)) ∈ gvL := by decide +kernel
theorem st_ne : ∀ i, i < 6 → ∀ j, j < 6 → i ≠ j → Cond.not (Cond.eq (stm i) (stm j)) ∈ gvL ∨ Cond.not (Cond.eq (stm j) (stm i)) ∈ gvL := by decide +kernel
theorem st_cs : Cond.eq (.static "java/lang/String" "COMPACT_STRINGS" "Z") (.int 1) ∈ gvL := by decide +kernel
theorem st_pf : Cond.isRef (.static "jdk/internal/util/Preconditions" "SIOOBE_FORMATTER" "Ljava/util/function/BiFunction;") ∈ gvL := by decide +kernel
theorem st_lc : Cond.laysStatic "java/lang/String" "COMPACT_STRINGS" "Z" ∈ lw_tbl := by decide +kernel
theorem st_lp : Cond.laysStatic "jdk/internal/util/Preconditions" "SIOOBE_FORMATTER" "Ljava/util/function/BiFunction;" ∈ lw_tbl := by decide +kernel
theorem st_ic : Cond.initialized "java/lang/String" ∈ lw_tbl := by decide +kernel
theorem st_ip : Cond.initialized "jdk/internal/util/Preconditions" ∈ lw_tbl := by decide +kernel
theorem st_a0 : Cond.arrayClass .int ∈ lw_tbl ∧ Cond.arrayClass .boolean ∈ lw_tbl ∧ Cond.arrayClass .char ∈ lw_tbl := by decide +kernel
theorem st_first : ∀ i, i < 6 → ∀ j, j < 6 → (sbt.getD i []).getD 0 0 = (sbt.getD j []).getD 0 0 → i = j := by decide +kernel
theorem st_len : ∀ i, i < 6 → 0 < sln.getD i 0 ∧ sln.getD i 0 < 2 ^ 31 := by decide +kernel
theorem gw_tbl {w : Cond} (h : w ∈ gw) : w ∈ lw_tbl := (List.mem_filter.mp h).1
