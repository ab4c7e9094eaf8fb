/-! ===== 18: the pure part: each kind of step, as an equivalence ===== -/
def XE (d m pc : Nat) (ls : List Slot) (st : List Value) (h : xH) (Q : Option Value → xH → Prop) : Prop := xEv tab (xmL mi) d m pc ls st h Q
def XC (d m : Nat) (as : List Value) (h : xH) (Q : Option Value → xH → Prop) : Prop := xEc tab (xmL mi) d m as h Q
theorem XE_step {d m pc : Nat} {ls : List Slot} {st : List Value} {h : xH} {Q : Option Value → xH → Prop} {a : xA} (ht : tab m pc = some a) : XE d m pc ls st h Q ↔ xXr tab (xmL mi) d m ls h (a ls st h) Q := xEv_step tab (xmL mi) ht
theorem XC_in {d m : Nat} {as : List Value} {h : xH} {Q : Option Value → xH → Prop} {ls : List Slot} (hl : xent (xmL mi) m as = ls) : XC (d + 1) m as h Q ↔ XE d m 0 ls [] h Q := by rw [← hl]; exact Iff.rfl
/-- what a run answers is one thing -/
theorem XC_det {d m : Nat} {as : List Value} {h : xH} {P : Option Value → xH → Prop} (e : XC d m as h P) : ∃ v h', P v h' ∧ ∀ K, (XC d m as h K ↔ K v h') := by
  unfold XC xEc at e
  cases d with
  | zero => exact e.elim
  | succ d =>
    obtain ⟨n, v, h', er, hp⟩ := e
    refine ⟨v, h', hp, fun K => ⟨fun ⟨n2, v2, h2, er2, hk⟩ => ?_, fun hk => ⟨n, v, h', er, hk⟩⟩⟩
    cases xrun_det tab (xmL mi) er er2
    exact hk
theorem XC_eq {d m : Nat} {as : List Value} {h : xH} {v : Option Value} {h' : xH} (e : XC d m as h (fun v2 h2 => v2 = v ∧ h2 = h')) (K : Option Value → xH → Prop) : XC d m as h K ↔ K v h' := by
  obtain ⟨v2, h2, ⟨rfl, rfl⟩, hK⟩ := XC_det e
  exact hK K
theorem XC_imp {d m : Nat} {as : List Value} {h : xH} {P K : Option Value → xH → Prop} (e : XC d m as h P) (hi : ∀ v h', P v h' → K v h') : XC d m as h K := by
  obtain ⟨v, h', hp, hK⟩ := XC_det e
  exact (hK K).mpr (hi v h' hp)
theorem XE_imp {d m pc : Nat} {ls : List Slot} {st : List Value} {h : xH} {P K : Option Value → xH → Prop} (e : XE d m pc ls st h P) (hi : ∀ v h', P v h' → K v h') : XE d m pc ls st h K := xEv_imp tab (xmL mi) hi e
-- the heap, as the steps ask it
def XO (o : Option Value) (F : Value → Prop) : Prop := match o with
  | some v => F v
  | none => False
theorem XO_some {v : Value} {F : Value → Prop} : XO (some v) F ↔ F v := Iff.rfl
def XG (cs : List Nat) (k : Nat) (e : va_E) (F : Value → Prop) : Prop := match e with
  | .inr (ci, fs) => ci ∈ cs ∧ XO fs[k]? F
  | _ => False
theorem XG_c {cs : List Nat} {k ci : Nat} {fs : List Value} {F : Value → Prop} (hc : ci ∈ cs) : XG cs k (.inr (ci, fs)) F ↔ XO fs[k]? F := ⟨fun h => h.2, fun h => ⟨hc, h⟩⟩
theorem XG_1 {k ci : Nat} {fs : List Value} {F : Value → Prop} : XG [ci] k (.inr (ci, fs)) F ↔ XO fs[k]? F := XG_c List.mem_cons_self
def XP (cs : List Nat) (k : Nat) (v : Value) (e : va_E) (F : va_E → Prop) : Prop := match e with
  | .inr (ci, fs) => (ci ∈ cs ∧ k < fs.length) ∧ F (.inr (ci, fs.set k v))
  | _ => False
theorem XP_c {cs : List Nat} {k ci : Nat} {v : Value} {fs : List Value} {F : va_E → Prop} (hc : ci ∈ cs) (hk : k < fs.length) : XP cs k v (.inr (ci, fs)) F ↔ F (.inr (ci, fs.set k v)) := ⟨fun h => h.2, fun h => ⟨⟨hc, hk⟩, h⟩⟩
theorem XP_1 {k ci : Nat} {v : Value} {fs : List Value} {F : va_E → Prop} (hk : k < fs.length) : XP [ci] k v (.inr (ci, fs)) F ↔ F (.inr (ci, fs.set k v)) := XP_c List.mem_cons_self hk
def XL (e : va_E) (F : Int32 → Prop) : Prop := match e with
  | .inl (ka, x) => ka < 9 ∧ F (nI x.1)
  | _ => False
theorem XL_i {ka N : Nat} {y : (Nat → Int32) ⊕ (Nat → Int64) ⊕ (Nat → UInt32) ⊕ (Nat → UInt64) ⊕ (Nat → Option Nat)} {F : Int32 → Prop} (hk : ka < 9) : XL (.inl (ka, (N, y))) F ↔ F (nI N) := ⟨fun h => h.2, fun h => ⟨hk, h⟩⟩
def XA (ks : List Nat) (e : va_E) (i : Int32) (F : Int32 → Prop) : Prop := match e with
  | .inl (ka, N, .inl f) => (ka ∈ ks ∧ xin i N) ∧ F (f i.toNatClampNeg)
  | _ => False
theorem XA_i {ks : List Nat} {ka N : Nat} {f : Nat → Int32} {i : Int32} {F : Int32 → Prop} (hk : ka ∈ ks) (hi : xin i N) : XA ks (.inl (ka, xis N f)) i F ↔ F (f i.toNatClampNeg) := ⟨fun h => h.2, fun h => ⟨⟨hk, hi⟩, h⟩⟩
def XQ (e : va_E) (i : Int32) (F : Value → Prop) : Prop := match e with
  | .inl (ka, N, .inr (.inr (.inr (.inr f)))) => (3 ≤ ka ∧ ka < 7 ∧ xin i N) ∧ F (va_rf (f i.toNatClampNeg))
  | _ => False
def XS (kx : Nat) (e : va_E) (i x : Int32) (F : va_E → Prop) : Prop := match e with
  | .inl (ka, N, .inl f) => (ka = kx ∧ xin i N ∧ (kx = 1 → x = 0 ∨ x = 1) ∧ (kx = 2 → narrow .char (.int x) = .int x)) ∧ F (.inl (ka, xis N (upd f i.toNatClampNeg x)))
  | _ => False
def XSr (kx : Nat) (cs : List Nat) (e : va_E) (i : Int32) (b : Nat) (eb : va_E) (F : va_E → Prop) : Prop := match e with
  | .inl (ka, N, .inr (.inr (.inr (.inr f)))) => (match eb with
    | .inr (ci, _) => (ka = kx ∧ ci ∈ cs ∧ xin i N) ∧ F (.inl (ka, xrs N (va_up f i.toNatClampNeg (some b))))
    | _ => False)
  | _ => False
def XSn (kx : Nat) (e : va_E) (i : Int32) (F : va_E → Prop) : Prop := match e with
  | .inl (ka, N, .inr (.inr (.inr (.inr f)))) => (ka = kx ∧ xin i N) ∧ F (.inl (ka, xrs N (va_up f i.toNatClampNeg none)))
  | _ => False
def XI (ys ns : List Nat) (e : va_E) (F : Int32 → Prop) : Prop := match e with
  | .inr (ci, _) => if ci ∈ ys then F 1 else if ci ∈ ns then F 0 else False
  | _ => False
def XV (tb : List (Nat × Nat)) (e : va_E) (F : Nat → Prop) : Prop := match e with
  | .inr (ci, _) => (match xvm ci tb with
    | some m => F m
    | none => False)
  | _ => False
def XCp (ea eb : va_E) (k dp sp : Int32) (F : va_E → Prop) : Prop := match ea with
  | .inl (ka, N, .inl g) => (match eb with
    | .inl (kb, M, .inl f) => (ka = 0 ∧ kb = 0 ∧ 0 ≤ sp ∧ 0 ≤ dp ∧ 0 ≤ k ∧ sp.toNatClampNeg + k.toNatClampNeg ≤ M ∧ dp.toNatClampNeg + k.toNatClampNeg ≤ N) ∧ F (.inl (ka, xis N (va_cpy f g sp.toNatClampNeg dp.toNatClampNeg k.toNatClampNeg)))
    | _ => False)
  | _ => False
abbrev xvr (r : List Value) : Bool := xvs r && Nat.ble r.length 8
theorem xvr_1 {r : List Value} (h : xvr r = true) : xvs r = true ∧ r.length ≤ 8 := by
  simp only [Bool.and_eq_true] at h
  exact ⟨h.1, Nat.le_of_ble_eq_true h.2⟩
def xswi (d m : Nat) (x : Int32) (dflt : Nat) (ls : List Slot) (r : List Value) (h : xH) (Q : Option Value → xH → Prop) : List (Int32 × Nat) → Prop
  | [] => XE d m dflt ls r h Q
  | (k, t) :: l => if x = k then XE d m t ls r h Q else xswi d m x dflt ls r h Q l
theorem xswi_ok {d m : Nat} {x : Int32} {dflt : Nat} {ls : List Slot} {r : List Value} {h : xH} {Q : Option Value → xH → Prop} : ∀ l, xXr tab (xmL mi) d m ls h (xsel dflt x ls r h l) Q ↔ xswi d m x dflt ls r h Q l := by
  intro l
  induction l with
  | nil => exact Iff.rfl
  | cons q l ih =>
    obtain ⟨k, t⟩ := q
    unfold xsel xswi
    split
    · exact Iff.rfl
    · exact ih
section PK
variable {d m pc n t : Nat} {ls : List Slot} {st : List Value} {h : xH} {Q : Option Value → xH → Prop} {x y : Int32} {a b : Nat}
theorem g_const {k : Int32} (ht : tab m pc = some (q_const k n)) : XE d m pc ls st h Q ↔ XE d m n ls (.int k :: st) h Q := XE_step ht
theorem g_null (ht : tab m pc = some (q_null n)) : XE d m pc ls st h Q ↔ XE d m n ls (.null :: st) h Q := XE_step ht
theorem g_gets {i : Nat} (ht : tab m pc = some (q_gets i n)) : XE d m pc ls st h Q ↔ XE d m n ls (h.2.2.2 i :: st) h Q := XE_step ht
theorem g_iload {i : Nat} (hl : ls[i]? = some (.val (.int x))) (ht : tab m pc = some (q_iload i n)) : XE d m pc ls st h Q ↔ XE d m n ls (.int x :: st) h Q := by
  rw [XE_step ht]; unfold q_iload; rw [hl]; exact Iff.rfl
theorem g_aload {i : Nat} (hl : ls[i]? = some (.val (.ref a))) (ht : tab m pc = some (q_aload i n)) : XE d m pc ls st h Q ↔ XE d m n ls (.ref a :: st) h Q := by
  rw [XE_step ht]; unfold q_aload; rw [hl]; exact Iff.rfl
theorem g_aloadN {i : Nat} (hl : ls[i]? = some (.val .null)) (ht : tab m pc = some (q_aload i n)) : XE d m pc ls st h Q ↔ XE d m n ls (.null :: st) h Q := by
  rw [XE_step ht]; unfold q_aload; rw [hl]; exact Iff.rfl
theorem g_istore {i : Nat} {ls' : List Slot} (hl : i < ls.length) (hs : ls.set i (.val (.int x)) = ls') (ht : tab m pc = some (q_istore i n)) : XE d m pc ls (.int x :: st) h Q ↔ XE d m n ls' st h Q := by
  rw [XE_step ht]; unfold q_istore; dsimp only; rw [if_pos hl, hs]; exact Iff.rfl
theorem g_astore {i : Nat} {ls' : List Slot} (hl : i < ls.length) (hs : ls.set i (.val (.ref a)) = ls') (ht : tab m pc = some (q_astore i n)) : XE d m pc ls (.ref a :: st) h Q ↔ XE d m n ls' st h Q := by
  rw [XE_step ht]; unfold q_astore; dsimp only; rw [if_pos hl, hs]; exact Iff.rfl
theorem g_astoreN {i : Nat} {ls' : List Slot} (hl : i < ls.length) (hs : ls.set i (.val .null) = ls') (ht : tab m pc = some (q_astore i n)) : XE d m pc ls (.null :: st) h Q ↔ XE d m n ls' st h Q := by
  rw [XE_step ht]; unfold q_astore; dsimp only; rw [if_pos hl, hs]; exact Iff.rfl
theorem g_iinc {i : Nat} {k : Int32} {ls' : List Slot} (hl : ls[i]? = some (.val (.int x))) (hs : ls.set i (.val (.int (x + k))) = ls') (ht : tab m pc = some (q_iinc i k n)) : XE d m pc ls st h Q ↔ XE d m n ls' st h Q := by
  rw [XE_step ht]; unfold q_iinc; rw [hl]; dsimp only; rw [hs]; exact Iff.rfl
theorem g_add (ht : tab m pc = some (q_add n)) : XE d m pc ls (.int y :: .int x :: st) h Q ↔ XE d m n ls (.int (x + y) :: st) h Q := XE_step ht
theorem g_sub (ht : tab m pc = some (q_sub n)) : XE d m pc ls (.int y :: .int x :: st) h Q ↔ XE d m n ls (.int (x - y) :: st) h Q := XE_step ht
theorem g_mul (ht : tab m pc = some (q_mul n)) : XE d m pc ls (.int y :: .int x :: st) h Q ↔ XE d m n ls (.int (x * y) :: st) h Q := XE_step ht
theorem g_and (ht : tab m pc = some (q_and n)) : XE d m pc ls (.int y :: .int x :: st) h Q ↔ XE d m n ls (.int (x &&& y) :: st) h Q := XE_step ht
theorem g_or (ht : tab m pc = some (q_or n)) : XE d m pc ls (.int y :: .int x :: st) h Q ↔ XE d m n ls (.int (x ||| y) :: st) h Q := XE_step ht
theorem g_xor (ht : tab m pc = some (q_xor n)) : XE d m pc ls (.int y :: .int x :: st) h Q ↔ XE d m n ls (.int (x ^^^ y) :: st) h Q := XE_step ht
def xshl (x y : Int32) : Int32 := x <<< (y &&& 31)
def xshr (x y : Int32) : Int32 := x >>> (y &&& 31)
def xushr (x y : Int32) : Int32 := (x.toUInt32 >>> (y.toUInt32 &&& Int32.toUInt32 31)).toInt32
theorem g_shl (ht : tab m pc = some (q_shl n)) : XE d m pc ls (.int y :: .int x :: st) h Q ↔ XE d m n ls (.int (xshl x y) :: st) h Q := XE_step ht
theorem g_shr (ht : tab m pc = some (q_shr n)) : XE d m pc ls (.int y :: .int x :: st) h Q ↔ XE d m n ls (.int (xshr x y) :: st) h Q := XE_step ht
theorem g_ushr (ht : tab m pc = some (q_ushr n)) : XE d m pc ls (.int y :: .int x :: st) h Q ↔ XE d m n ls (.int (xushr x y) :: st) h Q := XE_step ht
theorem g_div (ht : tab m pc = some (q_div n)) : XE d m pc ls (.int y :: .int x :: st) h Q ↔ y ≠ 0 ∧ XE d m n ls (.int (x / y) :: st) h Q := by
  rw [XE_step ht]; unfold q_div; dsimp only
  split
  next e => exact ⟨fun q => q.elim, fun q => q.1 e⟩
  next e => exact ⟨fun q => ⟨e, q⟩, fun q => q.2⟩
theorem g_rem (ht : tab m pc = some (q_rem n)) : XE d m pc ls (.int y :: .int x :: st) h Q ↔ y ≠ 0 ∧ XE d m n ls (.int (x % y) :: st) h Q := by
  rw [XE_step ht]; unfold q_rem; dsimp only
  split
  next e => exact ⟨fun q => q.elim, fun q => q.1 e⟩
  next e => exact ⟨fun q => ⟨e, q⟩, fun q => q.2⟩
theorem g_i2s (ht : tab m pc = some (q_i2s n)) : XE d m pc ls (.int x :: st) h Q ↔ XE d m n ls (.int x.toInt16.toInt32 :: st) h Q := XE_step ht
theorem g_i2c (ht : tab m pc = some (q_i2c n)) : XE d m pc ls (.int x :: st) h Q ↔ XE d m n ls (.int (x.toUInt32 % 65536).toInt32 :: st) h Q := XE_step ht
theorem g_i2b (ht : tab m pc = some (q_i2b n)) : XE d m pc ls (.int x :: st) h Q ↔ XE d m n ls (.int x.toInt8.toInt32 :: st) h Q := XE_step ht
theorem g_max (hr : xvr st = true) (ht : tab m pc = some (q_max n)) : XE d m pc ls (.int y :: .int x :: st) h Q ↔ XE d m n ls (.int (if x < y then y else x) :: st) h Q := by
  rw [XE_step ht]; unfold q_max; dsimp only; rw [if_pos (xvr_1 hr)]; exact Iff.rfl
theorem g_min (hr : xvr st = true) (ht : tab m pc = some (q_min n)) : XE d m pc ls (.int y :: .int x :: st) h Q ↔ XE d m n ls (.int (if y < x then y else x) :: st) h Q := by
  rw [XE_step ht]; unfold q_min; dsimp only; rw [if_pos (xvr_1 hr)]; exact Iff.rfl
theorem g_dupI (ht : tab m pc = some (q_dup n)) : XE d m pc ls (.int x :: st) h Q ↔ XE d m n ls (.int x :: .int x :: st) h Q := XE_step ht
theorem g_dupR (ht : tab m pc = some (q_dup n)) : XE d m pc ls (.ref a :: st) h Q ↔ XE d m n ls (.ref a :: .ref a :: st) h Q := XE_step ht
theorem g_dup2 (ht : tab m pc = some (q_dup2 n)) : XE d m pc ls (.int x :: .ref a :: st) h Q ↔ XE d m n ls (.int x :: .ref a :: .int x :: .ref a :: st) h Q := XE_step ht
theorem g_popI (ht : tab m pc = some (q_pop n)) : XE d m pc ls (.int x :: st) h Q ↔ XE d m n ls st h Q := XE_step ht
theorem g_goto (ht : tab m pc = some (q_goto t)) : XE d m pc ls st h Q ↔ XE d m t ls st h Q := XE_step ht
theorem xXr_ite {c : Prop} [Decidable c] {p q : Option xR} : xXr tab (xmL mi) d m ls h (if c then p else q) Q ↔ if c then xXr tab (xmL mi) d m ls h p Q else xXr tab (xmL mi) d m ls h q Q := by split <;> exact Iff.rfl
theorem g_ifeq (ht : tab m pc = some (q_ifeq t n)) : XE d m pc ls (.int x :: st) h Q ↔ if x = 0 then XE d m t ls st h Q else XE d m n ls st h Q := (XE_step ht).trans xXr_ite
theorem g_ifne (ht : tab m pc = some (q_ifne t n)) : XE d m pc ls (.int x :: st) h Q ↔ if x = 0 then XE d m n ls st h Q else XE d m t ls st h Q := (XE_step ht).trans xXr_ite
theorem g_iflt (ht : tab m pc = some (q_iflt t n)) : XE d m pc ls (.int x :: st) h Q ↔ if x < 0 then XE d m t ls st h Q else XE d m n ls st h Q := (XE_step ht).trans xXr_ite
theorem g_ifge (ht : tab m pc = some (q_ifge t n)) : XE d m pc ls (.int x :: st) h Q ↔ if x < 0 then XE d m n ls st h Q else XE d m t ls st h Q := (XE_step ht).trans xXr_ite
theorem g_ifgt (ht : tab m pc = some (q_ifgt t n)) : XE d m pc ls (.int x :: st) h Q ↔ if 0 < x then XE d m t ls st h Q else XE d m n ls st h Q := (XE_step ht).trans xXr_ite
theorem g_ifle (ht : tab m pc = some (q_ifle t n)) : XE d m pc ls (.int x :: st) h Q ↔ if 0 < x then XE d m n ls st h Q else XE d m t ls st h Q := (XE_step ht).trans xXr_ite
theorem g_ceq (ht : tab m pc = some (q_ceq t n)) : XE d m pc ls (.int y :: .int x :: st) h Q ↔ if x = y then XE d m t ls st h Q else XE d m n ls st h Q := (XE_step ht).trans xXr_ite
theorem g_cne (ht : tab m pc = some (q_cne t n)) : XE d m pc ls (.int y :: .int x :: st) h Q ↔ if x = y then XE d m n ls st h Q else XE d m t ls st h Q := (XE_step ht).trans xXr_ite
theorem g_clt (ht : tab m pc = some (q_clt t n)) : XE d m pc ls (.int y :: .int x :: st) h Q ↔ if x < y then XE d m t ls st h Q else XE d m n ls st h Q := (XE_step ht).trans xXr_ite
theorem g_cge (ht : tab m pc = some (q_cge t n)) : XE d m pc ls (.int y :: .int x :: st) h Q ↔ if x < y then XE d m n ls st h Q else XE d m t ls st h Q := (XE_step ht).trans xXr_ite
theorem g_cgt (ht : tab m pc = some (q_cgt t n)) : XE d m pc ls (.int y :: .int x :: st) h Q ↔ if y < x then XE d m t ls st h Q else XE d m n ls st h Q := (XE_step ht).trans xXr_ite
theorem g_cle (ht : tab m pc = some (q_cle t n)) : XE d m pc ls (.int y :: .int x :: st) h Q ↔ if y < x then XE d m n ls st h Q else XE d m t ls st h Q := (XE_step ht).trans xXr_ite
theorem g_ifnullR (ht : tab m pc = some (q_ifnull t n)) : XE d m pc ls (.ref a :: st) h Q ↔ XE d m n ls st h Q := XE_step ht
theorem g_ifnullN (ht : tab m pc = some (q_ifnull t n)) : XE d m pc ls (.null :: st) h Q ↔ XE d m t ls st h Q := XE_step ht
theorem g_ifnonR (ht : tab m pc = some (q_ifnon t n)) : XE d m pc ls (.ref a :: st) h Q ↔ XE d m t ls st h Q := XE_step ht
theorem g_ifnonN (ht : tab m pc = some (q_ifnon t n)) : XE d m pc ls (.null :: st) h Q ↔ XE d m n ls st h Q := XE_step ht
theorem g_switch {l : List (Int32 × Nat)} (ht : tab m pc = some (q_switch l t)) : XE d m pc ls (.int x :: st) h Q ↔ xswi d m x t ls st h Q l := (XE_step ht).trans (xswi_ok l)
theorem g_getf {cs : List Nat} {k : Nat} (ht : tab m pc = some (q_getf cs k n)) : XE d m pc ls (.ref a :: st) h Q ↔ XG cs k (h.2.2.1 a) (fun v => XE d m n ls (v :: st) h Q) := by
  rw [XE_step ht]; unfold q_getf XG; dsimp only
  rcases h.2.2.1 a with e | ⟨ci, fs⟩
  · exact Iff.rfl
  · dsimp only
    by_cases hc : ci ∈ cs
    · rw [if_pos hc]
      cases hv : fs[k]? with
      | none => exact ⟨fun q => q.elim, fun q => q.2⟩
      | some v => exact ⟨fun q => ⟨hc, q⟩, fun q => q.2⟩
    · rw [if_neg hc]
      exact ⟨fun q => q.elim, fun q => hc q.1⟩
theorem g_puti {cs : List Nat} {k : Nat} (ht : tab m pc = some (q_puti cs k n)) : XE d m pc ls (.int x :: .ref a :: st) h Q ↔ XP cs k (.int x) (h.2.2.1 a) (fun e => XE d m n ls st (xset h a e) Q) := by
  rw [XE_step ht]; unfold q_puti XP; dsimp only
  rcases h.2.2.1 a with e | ⟨ci, fs⟩
  · exact Iff.rfl
  · dsimp only
    by_cases hc : ci ∈ cs ∧ k < fs.length
    · rw [if_pos hc]; exact ⟨fun q => ⟨hc, q⟩, fun q => q.2⟩
    · rw [if_neg hc]; exact ⟨fun q => q.elim, fun q => hc q.1⟩
theorem g_putz {cs : List Nat} {k : Nat} (ht : tab m pc = some (q_putz cs k n)) : XE d m pc ls (.int x :: .ref a :: st) h Q ↔ (x = 0 ∨ x = 1) ∧ XP cs k (.int x) (h.2.2.1 a) (fun e => XE d m n ls st (xset h a e) Q) := by
  rw [XE_step ht]; unfold q_putz XP; dsimp only
  rcases h.2.2.1 a with e | ⟨ci, fs⟩
  · exact ⟨fun q => q.elim, fun q => q.2.elim⟩
  · dsimp only
    by_cases hc : ci ∈ cs ∧ k < fs.length ∧ (x = 0 ∨ x = 1)
    · rw [if_pos hc]; exact ⟨fun q => ⟨hc.2.2, ⟨hc.1, hc.2.1⟩, q⟩, fun q => q.2.2⟩
    · rw [if_neg hc]; exact ⟨fun q => q.elim, fun q => hc ⟨q.2.1.1, q.2.1.2, q.1⟩⟩
theorem g_putaR {cs : List Nat} {k : Nat} (ht : tab m pc = some (q_puta cs k n)) : XE d m pc ls (.ref b :: .ref a :: st) h Q ↔ XP cs k (.ref b) (h.2.2.1 a) (fun e => XE d m n ls st (xset h a e) Q) := by
  rw [XE_step ht]; unfold q_puta XP; dsimp only
  rcases h.2.2.1 a with e | ⟨ci, fs⟩
  · exact Iff.rfl
  · dsimp only
    by_cases hc : ci ∈ cs ∧ k < fs.length
    · rw [if_pos hc]; exact ⟨fun q => ⟨hc, q⟩, fun q => q.2⟩
    · rw [if_neg hc]; exact ⟨fun q => q.elim, fun q => hc q.1⟩
theorem g_putaN {cs : List Nat} {k : Nat} (ht : tab m pc = some (q_puta cs k n)) : XE d m pc ls (.null :: .ref a :: st) h Q ↔ XP cs k .null (h.2.2.1 a) (fun e => XE d m n ls st (xset h a e) Q) := by
  rw [XE_step ht]; unfold q_puta XP; dsimp only
  rcases h.2.2.1 a with e | ⟨ci, fs⟩
  · exact Iff.rfl
  · dsimp only
    by_cases hc : ci ∈ cs ∧ k < fs.length
    · rw [if_pos hc]; exact ⟨fun q => ⟨hc, q⟩, fun q => q.2⟩
    · rw [if_neg hc]; exact ⟨fun q => q.elim, fun q => hc q.1⟩
theorem g_new {ci N : Nat} {fs : List Value} (ht : tab m pc = some (q_new ci N fs n)) : XE d m pc ls st h Q ↔ XE d m n ls (.ref h.1 :: st) (xnew h N (.inr (ci, fs))) Q := XE_step ht
theorem g_newa {ka : Nat} (ht : tab m pc = some (q_newa ka n)) : XE d m pc ls (.int x :: st) h Q ↔ (0 ≤ x ∧ x.toNatClampNeg ≤ 100000) ∧ XE d m n ls (.ref h.1 :: st) (xnew h x.toNatClampNeg (.inl (ka, xis x.toNatClampNeg (fun _ => 0)))) Q := by
  rw [XE_step ht]; unfold q_newa; dsimp only
  by_cases hc : 0 ≤ x ∧ x.toNatClampNeg ≤ 100000
  · rw [if_pos hc]; exact ⟨fun q => ⟨hc, q⟩, fun q => q.2⟩
  · rw [if_neg hc]; exact ⟨fun q => q.elim, fun q => hc q.1⟩
theorem g_anew {ka : Nat} (ht : tab m pc = some (q_anew ka n)) : XE d m pc ls (.int x :: st) h Q ↔ (0 ≤ x ∧ x.toNatClampNeg ≤ 100000) ∧ XE d m n ls (.ref h.1 :: st) (xnew h x.toNatClampNeg (.inl (ka, xrs x.toNatClampNeg (fun _ => none)))) Q := by
  rw [XE_step ht]; unfold q_anew; dsimp only
  by_cases hc : 0 ≤ x ∧ x.toNatClampNeg ≤ 100000
  · rw [if_pos hc]; exact ⟨fun q => ⟨hc, q⟩, fun q => q.2⟩
  · rw [if_neg hc]; exact ⟨fun q => q.elim, fun q => hc q.1⟩
theorem g_alen (ht : tab m pc = some (q_alen n)) : XE d m pc ls (.ref a :: st) h Q ↔ XL (h.2.2.1 a) (fun k => XE d m n ls (.int k :: st) h Q) := by
  rw [XE_step ht]; unfold q_alen XL; dsimp only
  rcases h.2.2.1 a with ⟨ka, e⟩ | e
  · dsimp only
    by_cases hc : ka < 9
    · rw [if_pos hc]; exact ⟨fun q => ⟨hc, q⟩, fun q => q.2⟩
    · rw [if_neg hc]; exact ⟨fun q => q.elim, fun q => hc q.1⟩
  · exact Iff.rfl
theorem g_ald {ks : List Nat} (ht : tab m pc = some (q_ald ks n)) : XE d m pc ls (.int x :: .ref a :: st) h Q ↔ XA ks (h.2.2.1 a) x (fun k => XE d m n ls (.int k :: st) h Q) := by
  rw [XE_step ht]; unfold q_ald XA; dsimp only
  rcases h.2.2.1 a with ⟨ka, N, f | f⟩ | e
  · dsimp only
    by_cases hc : ka ∈ ks ∧ xin x N
    · rw [if_pos hc]; exact ⟨fun q => ⟨hc, q⟩, fun q => q.2⟩
    · rw [if_neg hc]; exact ⟨fun q => q.elim, fun q => hc q.1⟩
  · exact Iff.rfl
  · exact Iff.rfl
theorem g_aald (ht : tab m pc = some (q_aald n)) : XE d m pc ls (.int x :: .ref a :: st) h Q ↔ XQ (h.2.2.1 a) x (fun v => XE d m n ls (v :: st) h Q) := by
  rw [XE_step ht]; unfold q_aald XQ; dsimp only
  rcases h.2.2.1 a with ⟨ka, N, f | f | f | f | f⟩ | e
  · exact Iff.rfl
  · exact Iff.rfl
  · exact Iff.rfl
  · exact Iff.rfl
  · dsimp only
    by_cases hc : 3 ≤ ka ∧ ka < 7 ∧ xin x N
    · rw [if_pos hc]; exact ⟨fun q => ⟨hc, q⟩, fun q => q.2⟩
    · rw [if_neg hc]; exact ⟨fun q => q.elim, fun q => hc q.1⟩
  · exact Iff.rfl
theorem g_iast (ht : tab m pc = some (q_iast n)) : XE d m pc ls (.int y :: .int x :: .ref a :: st) h Q ↔ XS 0 (h.2.2.1 a) x y (fun e => XE d m n ls st (xset h a e) Q) := by
  rw [XE_step ht]; unfold q_iast XS; dsimp only
  rcases h.2.2.1 a with ⟨ka, N, f | f⟩ | e
  · dsimp only
    by_cases hc : ka = 0 ∧ xin x N
    · rw [if_pos hc]; exact ⟨fun q => ⟨⟨hc.1, hc.2, fun w => absurd w (by decide), fun w => absurd w (by decide)⟩, q⟩, fun q => q.2⟩
    · rw [if_neg hc]; exact ⟨fun q => q.elim, fun q => hc ⟨q.1.1, q.1.2.1⟩⟩
  · exact Iff.rfl
  · exact Iff.rfl
theorem g_zast (ht : tab m pc = some (q_zast n)) : XE d m pc ls (.int y :: .int x :: .ref a :: st) h Q ↔ XS 1 (h.2.2.1 a) x y (fun e => XE d m n ls st (xset h a e) Q) := by
  rw [XE_step ht]; unfold q_zast XS; dsimp only
  rcases h.2.2.1 a with ⟨ka, N, f | f⟩ | e
  · dsimp only
    by_cases hc : ka = 1 ∧ xin x N ∧ (y = 0 ∨ y = 1)
    · rw [if_pos hc]; exact ⟨fun q => ⟨⟨hc.1, hc.2.1, fun _ => hc.2.2, fun w => absurd w (by decide)⟩, q⟩, fun q => q.2⟩
    · rw [if_neg hc]; exact ⟨fun q => q.elim, fun q => hc ⟨q.1.1, q.1.2.1, q.1.2.2.1 rfl⟩⟩
  · exact Iff.rfl
  · exact Iff.rfl
theorem g_cast (ht : tab m pc = some (q_cast n)) : XE d m pc ls (.int y :: .int x :: .ref a :: st) h Q ↔ XS 2 (h.2.2.1 a) x y (fun e => XE d m n ls st (xset h a e) Q) := by
  rw [XE_step ht]; unfold q_cast XS; dsimp only
  rcases h.2.2.1 a with ⟨ka, N, f | f⟩ | e
  · dsimp only
    by_cases hc : ka = 2 ∧ xin x N ∧ narrow .char (.int y) = .int y
    · rw [if_pos hc]; exact ⟨fun q => ⟨⟨hc.1, hc.2.1, fun w => absurd w (by decide), fun _ => hc.2.2⟩, q⟩, fun q => q.2⟩
    · rw [if_neg hc]; exact ⟨fun q => q.elim, fun q => hc ⟨q.1.1, q.1.2.1, q.1.2.2.2 rfl⟩⟩
  · exact Iff.rfl
  · exact Iff.rfl
theorem g_aastR {ka : Nat} {cs : List Nat} (ht : tab m pc = some (q_aast ka cs n)) : XE d m pc ls (.ref b :: .int x :: .ref a :: st) h Q ↔ XSr ka cs (h.2.2.1 a) x b (h.2.2.1 b) (fun e => XE d m n ls st (xset h a e) Q) := by
  rw [XE_step ht]; unfold q_aast XSr; dsimp only
  rcases h.2.2.1 a with ⟨ka', N, f | f | f | f | f⟩ | e
  · exact Iff.rfl
  · exact Iff.rfl
  · exact Iff.rfl
  · exact Iff.rfl
  · dsimp only
    rcases h.2.2.1 b with e | ⟨ci, fs⟩
    · exact Iff.rfl
    · dsimp only
      by_cases hc : ka' = ka ∧ ci ∈ cs ∧ xin x N
      · rw [if_pos hc]; exact ⟨fun q => ⟨hc, q⟩, fun q => q.2⟩
      · rw [if_neg hc]; exact ⟨fun q => q.elim, fun q => hc q.1⟩
  · exact Iff.rfl
theorem g_aastN {ka : Nat} {cs : List Nat} (ht : tab m pc = some (q_aast ka cs n)) : XE d m pc ls (.null :: .int x :: .ref a :: st) h Q ↔ XSn ka (h.2.2.1 a) x (fun e => XE d m n ls st (xset h a e) Q) := by
  rw [XE_step ht]; unfold q_aast XSn; dsimp only
  rcases h.2.2.1 a with ⟨ka', N, f | f | f | f | f⟩ | e
  · exact Iff.rfl
  · exact Iff.rfl
  · exact Iff.rfl
  · exact Iff.rfl
  · dsimp only
    by_cases hc : ka' = ka ∧ xin x N
    · rw [if_pos hc]; exact ⟨fun q => ⟨hc, q⟩, fun q => q.2⟩
    · rw [if_neg hc]; exact ⟨fun q => q.elim, fun q => hc q.1⟩
  · exact Iff.rfl
theorem g_acopy {k dp sp : Int32} (hr : xvr st = true) (ht : tab m pc = some (q_acopy n)) : XE d m pc ls (.int k :: .int dp :: .ref a :: .int sp :: .ref b :: st) h Q ↔ XCp (h.2.2.1 a) (h.2.2.1 b) k dp sp (fun e => XE d m n ls st (xset h a e) Q) := by
  rw [XE_step ht]; unfold q_acopy XCp; dsimp only
  rcases h.2.2.1 a with ⟨ka, N, f | f⟩ | e
  · rcases h.2.2.1 b with ⟨kb, M, g | g⟩ | e
    · dsimp only
      by_cases hc : ka = 0 ∧ kb = 0 ∧ 0 ≤ sp ∧ 0 ≤ dp ∧ 0 ≤ k ∧ sp.toNatClampNeg + k.toNatClampNeg ≤ M ∧ dp.toNatClampNeg + k.toNatClampNeg ≤ N
      · rw [if_pos ⟨hc.1, hc.2.1, hc.2.2.1, hc.2.2.2.1, hc.2.2.2.2.1, hc.2.2.2.2.2.1, hc.2.2.2.2.2.2, xvr_1 hr⟩]; exact ⟨fun q => ⟨hc, q⟩, fun q => q.2⟩
      · rw [if_neg (fun w => hc ⟨w.1, w.2.1, w.2.2.1, w.2.2.2.1, w.2.2.2.2.1, w.2.2.2.2.2.1, w.2.2.2.2.2.2.1⟩)]; exact ⟨fun q => q.elim, fun q => hc q.1⟩
    · exact Iff.rfl
    · exact Iff.rfl
  · exact Iff.rfl
  · exact Iff.rfl
theorem g_inst {ys ns : List Nat} (ht : tab m pc = some (q_inst ys ns n)) : XE d m pc ls (.ref a :: st) h Q ↔ XI ys ns (h.2.2.1 a) (fun k => XE d m n ls (.int k :: st) h Q) := by
  rw [XE_step ht]; unfold q_inst XI; dsimp only
  rcases h.2.2.1 a with e | ⟨ci, fs⟩
  · exact Iff.rfl
  · dsimp only
    split
    · exact Iff.rfl
    · split
      · exact Iff.rfl
      · exact Iff.rfl
theorem g_getS {k : Nat} (ht : tab m pc = some (q_getS k n)) : XE d m pc ls (.ref a :: st) h Q ↔ h.2.2.2 (100 + 3 * a) = .int 20 ∧ XE d m n ls (h.2.2.2 (k + 3 * a) :: st) h Q := by
  rw [XE_step ht]; unfold q_getS; dsimp only
  by_cases hc : h.2.2.2 (100 + 3 * a) = .int 20
  · rw [if_pos hc]; exact ⟨fun q => ⟨hc, q⟩, fun q => q.2⟩
  · rw [if_neg hc]; exact ⟨fun q => q.elim, fun q => hc q.1⟩
theorem g_objinit (hr : xvr st = true) (ht : tab m pc = some (q_objinit n)) : XE d m pc ls (.ref a :: st) h Q ↔ XE d m n ls st h Q := by
  rw [XE_step ht]; unfold q_objinit; dsimp only; rw [if_pos (xvr_1 hr)]; exact Iff.rfl
theorem xXr_call {m' : Nat} {as r : List Value} (ha : xvs as = true) (hr : xvr r = true) : xXr tab (xmL mi) d m ls h (xcall m' as n r) Q ↔ XC d m' as h (fun v h' => XE d m n ls (v.toList ++ r) h' Q) := by
  unfold xcall; rw [if_pos ⟨ha, xvr_1 hr⟩]; exact Iff.rfl
variable {v1 v2 v3 v4 v5 : Value} {m' : Nat} {tb : List (Nat × Nat)}
theorem g_s1 (hv : xvs [v1] = true) (hr : xvr st = true) (ht : tab m pc = some (q_s1 m' n)) : XE d m pc ls (v1 :: st) h Q ↔ XC d m' [v1] h (fun v h' => XE d m n ls (v.toList ++ st) h' Q) := (XE_step ht).trans (xXr_call hv hr)
theorem g_s2 (hv : xvs [v1, v2] = true) (hr : xvr st = true) (ht : tab m pc = some (q_s2 m' n)) : XE d m pc ls (v2 :: v1 :: st) h Q ↔ XC d m' [v1, v2] h (fun v h' => XE d m n ls (v.toList ++ st) h' Q) := (XE_step ht).trans (xXr_call hv hr)
theorem g_s3 (hv : xvs [v1, v2, v3] = true) (hr : xvr st = true) (ht : tab m pc = some (q_s3 m' n)) : XE d m pc ls (v3 :: v2 :: v1 :: st) h Q ↔ XC d m' [v1, v2, v3] h (fun v h' => XE d m n ls (v.toList ++ st) h' Q) := (XE_step ht).trans (xXr_call hv hr)
theorem g_s4 (hv : xvs [v1, v2, v3, v4] = true) (hr : xvr st = true) (ht : tab m pc = some (q_s4 m' n)) : XE d m pc ls (v4 :: v3 :: v2 :: v1 :: st) h Q ↔ XC d m' [v1, v2, v3, v4] h (fun v h' => XE d m n ls (v.toList ++ st) h' Q) := (XE_step ht).trans (xXr_call hv hr)
theorem g_s5 (hv : xvs [v1, v2, v3, v4, v5] = true) (hr : xvr st = true) (ht : tab m pc = some (q_s5 m' n)) : XE d m pc ls (v5 :: v4 :: v3 :: v2 :: v1 :: st) h Q ↔ XC d m' [v1, v2, v3, v4, v5] h (fun v h' => XE d m n ls (v.toList ++ st) h' Q) := (XE_step ht).trans (xXr_call hv hr)
theorem xXr_rcv {as r : List Value} (ha : xvs as = true) (hr : xvr r = true) : xXr tab (xmL mi) d m ls h (xrcv tb h a as n r) Q ↔ XV tb (h.2.2.1 a) (fun m' => XC d m' (.ref a :: as) h (fun v h' => XE d m n ls (v.toList ++ r) h' Q)) := by
  unfold xrcv XV
  rcases h.2.2.1 a with e | ⟨ci, fs⟩
  · exact Iff.rfl
  · dsimp only
    cases xvm ci tb with
    | none => exact Iff.rfl
    | some m' => exact xXr_call (by simp only [xvs, xv1, ha, Bool.and_self]) hr
theorem g_v0 (hr : xvr st = true) (ht : tab m pc = some (q_v0 tb n)) : XE d m pc ls (.ref a :: st) h Q ↔ XV tb (h.2.2.1 a) (fun m' => XC d m' [.ref a] h (fun v h' => XE d m n ls (v.toList ++ st) h' Q)) := (XE_step ht).trans (xXr_rcv rfl hr)
theorem g_v1 (hv : xvs [v1] = true) (hr : xvr st = true) (ht : tab m pc = some (q_v1 tb n)) : XE d m pc ls (v1 :: .ref a :: st) h Q ↔ XV tb (h.2.2.1 a) (fun m' => XC d m' [.ref a, v1] h (fun v h' => XE d m n ls (v.toList ++ st) h' Q)) := (XE_step ht).trans (xXr_rcv hv hr)
theorem g_v2 (hv : xvs [v1, v2] = true) (hr : xvr st = true) (ht : tab m pc = some (q_v2 tb n)) : XE d m pc ls (v2 :: v1 :: .ref a :: st) h Q ↔ XV tb (h.2.2.1 a) (fun m' => XC d m' [.ref a, v1, v2] h (fun v h' => XE d m n ls (v.toList ++ st) h' Q)) := (XE_step ht).trans (xXr_rcv hv hr)
theorem g_v3 (hv : xvs [v1, v2, v3] = true) (hr : xvr st = true) (ht : tab m pc = some (q_v3 tb n)) : XE d m pc ls (v3 :: v2 :: v1 :: .ref a :: st) h Q ↔ XV tb (h.2.2.1 a) (fun m' => XC d m' [.ref a, v1, v2, v3] h (fun v h' => XE d m n ls (v.toList ++ st) h' Q)) := (XE_step ht).trans (xXr_rcv hv hr)
theorem g_v4 (hv : xvs [v1, v2, v3, v4] = true) (hr : xvr st = true) (ht : tab m pc = some (q_v4 tb n)) : XE d m pc ls (v4 :: v3 :: v2 :: v1 :: .ref a :: st) h Q ↔ XV tb (h.2.2.1 a) (fun m' => XC d m' [.ref a, v1, v2, v3, v4] h (fun v h' => XE d m n ls (v.toList ++ st) h' Q)) := (XE_step ht).trans (xXr_rcv hv hr)
theorem g_v5 (hv : xvs [v1, v2, v3, v4, v5] = true) (hr : xvr st = true) (ht : tab m pc = some (q_v5 tb n)) : XE d m pc ls (v5 :: v4 :: v3 :: v2 :: v1 :: .ref a :: st) h Q ↔ XV tb (h.2.2.1 a) (fun m' => XC d m' [.ref a, v1, v2, v3, v4, v5] h (fun v h' => XE d m n ls (v.toList ++ st) h' Q)) := (XE_step ht).trans (xXr_rcv hv hr)
theorem xXr_rcS {as r : List Value} (ha : xvs as = true) (hr : xvr r = true) : xXr tab (xmL mi) d m ls h (xrcS m' h a as n r) Q ↔ h.2.2.2 (100 + 3 * a) = .int 20 ∧ XC d m' (.ref a :: as) h (fun v h' => XE d m n ls (v.toList ++ r) h' Q) := by
  unfold xrcS
  by_cases hc : h.2.2.2 (100 + 3 * a) = .int 20
  · rw [if_pos hc]; exact (xXr_call (by simp only [xvs, xv1, ha, Bool.and_self]) hr).trans ⟨fun q => ⟨hc, q⟩, fun q => q.2⟩
  · rw [if_neg hc]; exact ⟨fun q => q.elim, fun q => hc q.1⟩
theorem g_w0 (hr : xvr st = true) (ht : tab m pc = some (q_w0 m' n)) : XE d m pc ls (.ref a :: st) h Q ↔ h.2.2.2 (100 + 3 * a) = .int 20 ∧ XC d m' [.ref a] h (fun v h' => XE d m n ls (v.toList ++ st) h' Q) := (XE_step ht).trans (xXr_rcS rfl hr)
theorem g_w1 (hv : xvs [v1] = true) (hr : xvr st = true) (ht : tab m pc = some (q_w1 m' n)) : XE d m pc ls (v1 :: .ref a :: st) h Q ↔ h.2.2.2 (100 + 3 * a) = .int 20 ∧ XC d m' [.ref a, v1] h (fun v h' => XE d m n ls (v.toList ++ st) h' Q) := (XE_step ht).trans (xXr_rcS hv hr)
theorem g_w2 (hv : xvs [v1, v2] = true) (hr : xvr st = true) (ht : tab m pc = some (q_w2 m' n)) : XE d m pc ls (v2 :: v1 :: .ref a :: st) h Q ↔ h.2.2.2 (100 + 3 * a) = .int 20 ∧ XC d m' [.ref a, v1, v2] h (fun v h' => XE d m n ls (v.toList ++ st) h' Q) := (XE_step ht).trans (xXr_rcS hv hr)
theorem g_ret (ht : tab m pc = some q_ret) : XE d m pc ls [] h Q ↔ Q none h := XE_step ht
theorem g_iret (ht : tab m pc = some q_iret) : XE d m pc ls [.int x] h Q ↔ Q (some (.int x)) h := XE_step ht
theorem g_zret {ty : FieldType} (hn : narrow ty (.int x) = .int x) (ht : tab m pc = some (q_zret ty)) : XE d m pc ls [.int x] h Q ↔ Q (some (.int x)) h := by
  rw [XE_step ht]; unfold q_zret; dsimp only; rw [if_pos hn]; exact Iff.rfl
theorem g_aretR (ht : tab m pc = some q_aret) : XE d m pc ls [.ref a] h Q ↔ Q (some (.ref a)) h := XE_step ht
theorem g_aretN (ht : tab m pc = some q_aret) : XE d m pc ls [.null] h Q ↔ Q (some .null) h := XE_step ht
end PK
