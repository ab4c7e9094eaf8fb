/-! ===== 03: a small machine over worlds of cells: what the calls do, as a function ===== -/
/-- size, slots made so far, the cells by their addresses, what the launch gives -/
abbrev xH : Type := Nat × Nat × (Nat → va_E) × (Nat → Value)
/-- go on at a pc; return; call -/
abbrev xR : Type := (Nat × List Slot × List Value × xH) ⊕ ((Option Value) ⊕ (Nat × List Value × Nat × List Value))
abbrev xA : Type := List Slot → List Value → xH → Option xR
abbrev xM : Type := MethodName × ByteArray × Nat × Option FieldType
def xv1 : Value → Bool
  | .int _ => true
  | .ref _ => true
  | .null => true
  | _ => false
def xvs : List Value → Bool
  | [] => true
  | v :: l => xv1 v && xvs l
abbrev xin (i : Int32) (N : Nat) : Prop := 0 ≤ i ∧ i.toNatClampNeg < N
abbrev xgo (n : Nat) (ls : List Slot) (st : List Value) (h : xH) : Option xR := some (.inl (n, ls, st, h))
def xset (h : xH) (a : Nat) (e : va_E) : xH := (h.1, h.2.1, va_up h.2.2.1 a e, h.2.2.2)
def xnew (h : xH) (k : Nat) (e : va_E) : xH := (h.1 + 1, h.2.1 + k, va_up h.2.2.1 h.1 e, h.2.2.2)
abbrev xis (n : Nat) (f : Nat → Int32) : vp_A := (n, .inl f)
abbrev xrs (n : Nat) (f : Nat → Option Nat) : vp_A := (n, .inr (.inr (.inr (.inr f))))
-- constants, locals, the stack
def q_const (v : Int32) (n : Nat) : xA := fun ls st h => xgo n ls (.int v :: st) h
def q_null (n : Nat) : xA := fun ls st h => xgo n ls (.null :: st) h
def q_iload (i n : Nat) : xA := fun ls st h => match ls[i]? with
  | some (.val (.int x)) => xgo n ls (.int x :: st) h
  | _ => none
def q_aload (i n : Nat) : xA := fun ls st h => match ls[i]? with
  | some (.val (.ref x)) => xgo n ls (.ref x :: st) h
  | some (.val .null) => xgo n ls (.null :: st) h
  | _ => none
def q_istore (i n : Nat) : xA := fun ls st h => match st with
  | .int x :: r => if i < ls.length then xgo n (ls.set i (.val (.int x))) r h else none
  | _ => none
def q_astore (i n : Nat) : xA := fun ls st h => match st with
  | .ref x :: r => if i < ls.length then xgo n (ls.set i (.val (.ref x))) r h else none
  | .null :: r => if i < ls.length then xgo n (ls.set i (.val .null)) r h else none
  | _ => none
def q_iinc (i : Nat) (k : Int32) (n : Nat) : xA := fun ls st h => match ls[i]? with
  | some (.val (.int x)) => xgo n (ls.set i (.val (.int (x + k)))) st h
  | _ => none
def q_bin (f : Int32 → Int32 → Int32) (n : Nat) : xA := fun ls st h => match st with
  | .int y :: .int x :: r => xgo n ls (.int (f x y) :: r) h
  | _ => none
def q_add := q_bin (fun x y => x + y)
def q_sub := q_bin (fun x y => x - y)
def q_mul := q_bin (fun x y => x * y)
def q_and := q_bin (fun x y => x &&& y)
def q_or := q_bin (fun x y => x ||| y)
def q_xor := q_bin (fun x y => x ^^^ y)
def q_shl := q_bin (fun x y => x <<< (y &&& 31))
def q_shr := q_bin (fun x y => x >>> (y &&& 31))
def q_ushr := q_bin (fun x y => (x.toUInt32 >>> (y.toUInt32 &&& Int32.toUInt32 31)).toInt32)
def q_div (n : Nat) : xA := fun ls st h => match st with
  | .int y :: .int x :: r => if y = 0 then none else xgo n ls (.int (x / y) :: r) h
  | _ => none
def q_rem (n : Nat) : xA := fun ls st h => match st with
  | .int y :: .int x :: r => if y = 0 then none else xgo n ls (.int (x % y) :: r) h
  | _ => none
def q_i2s (n : Nat) : xA := fun ls st h => match st with
  | .int x :: r => xgo n ls (.int x.toInt16.toInt32 :: r) h
  | _ => none
def q_i2c (n : Nat) : xA := fun ls st h => match st with
  | .int x :: r => xgo n ls (.int (x.toUInt32 % 65536).toInt32 :: r) h
  | _ => none
def q_dup (n : Nat) : xA := fun ls st h => match st with
  | v :: r => if xv1 v = true then xgo n ls (v :: v :: r) h else none
  | _ => none
def q_dup2 (n : Nat) : xA := fun ls st h => match st with
  | v :: w :: r => if xv1 v = true ∧ xv1 w = true then xgo n ls (v :: w :: v :: w :: r) h else none
  | _ => none
def q_pop (n : Nat) : xA := fun ls st h => match st with
  | v :: r => if xv1 v = true then xgo n ls r h else none
  | _ => none
-- branches
def q_goto (t : Nat) : xA := fun ls st h => xgo t ls st h
def q_ifeq (t n : Nat) : xA := fun ls st h => match st with
  | .int x :: r => if x = 0 then xgo t ls r h else xgo n ls r h
  | _ => none
def q_ifne (t n : Nat) : xA := fun ls st h => match st with
  | .int x :: r => if x = 0 then xgo n ls r h else xgo t ls r h
  | _ => none
def q_iflt (t n : Nat) : xA := fun ls st h => match st with
  | .int x :: r => if x < 0 then xgo t ls r h else xgo n ls r h
  | _ => none
def q_ifge (t n : Nat) : xA := fun ls st h => match st with
  | .int x :: r => if x < 0 then xgo n ls r h else xgo t ls r h
  | _ => none
def q_ifgt (t n : Nat) : xA := fun ls st h => match st with
  | .int x :: r => if 0 < x then xgo t ls r h else xgo n ls r h
  | _ => none
def q_ifle (t n : Nat) : xA := fun ls st h => match st with
  | .int x :: r => if 0 < x then xgo n ls r h else xgo t ls r h
  | _ => none
def q_ceq (t n : Nat) : xA := fun ls st h => match st with
  | .int y :: .int x :: r => if x = y then xgo t ls r h else xgo n ls r h
  | _ => none
def q_cne (t n : Nat) : xA := fun ls st h => match st with
  | .int y :: .int x :: r => if x = y then xgo n ls r h else xgo t ls r h
  | _ => none
def q_clt (t n : Nat) : xA := fun ls st h => match st with
  | .int y :: .int x :: r => if x < y then xgo t ls r h else xgo n ls r h
  | _ => none
def q_cge (t n : Nat) : xA := fun ls st h => match st with
  | .int y :: .int x :: r => if x < y then xgo n ls r h else xgo t ls r h
  | _ => none
def q_cgt (t n : Nat) : xA := fun ls st h => match st with
  | .int y :: .int x :: r => if y < x then xgo t ls r h else xgo n ls r h
  | _ => none
def q_cle (t n : Nat) : xA := fun ls st h => match st with
  | .int y :: .int x :: r => if y < x then xgo n ls r h else xgo t ls r h
  | _ => none
def q_ifnull (t n : Nat) : xA := fun ls st h => match st with
  | .ref _ :: r => xgo n ls r h
  | .null :: r => xgo t ls r h
  | _ => none
def q_ifnon (t n : Nat) : xA := fun ls st h => match st with
  | .ref _ :: r => xgo t ls r h
  | .null :: r => xgo n ls r h
  | _ => none
def xsel (d : Nat) (x : Int32) (ls : List Slot) (r : List Value) (h : xH) : List (Int32 × Nat) → Option xR
  | [] => xgo d ls r h
  | (k, t) :: l => if x = k then xgo t ls r h else xsel d x ls r h l
def q_switch (l : List (Int32 × Nat)) (d : Nat) : xA := fun ls st h => match st with
  | .int x :: r => xsel d x ls r h l
  | _ => none
-- fields: the classes that the object may be of, the field's number
def q_getf (cs : List Nat) (k n : Nat) : xA := fun ls st h => match st with
  | .ref a :: r => match h.2.2.1 a with
    | .inr (ci, fs) => if ci ∈ cs then (match fs[k]? with
      | some v => xgo n ls (v :: r) h
      | none => none) else none
    | _ => none
  | _ => none
def q_puti (cs : List Nat) (k n : Nat) : xA := fun ls st h => match st with
  | .int x :: .ref a :: r => match h.2.2.1 a with
    | .inr (ci, fs) => if ci ∈ cs ∧ k < fs.length then xgo n ls r (xset h a (.inr (ci, fs.set k (.int x)))) else none
    | _ => none
  | _ => none
def q_putz (cs : List Nat) (k n : Nat) : xA := fun ls st h => match st with
  | .int x :: .ref a :: r => match h.2.2.1 a with
    | .inr (ci, fs) => if ci ∈ cs ∧ k < fs.length ∧ (x = 0 ∨ x = 1) then xgo n ls r (xset h a (.inr (ci, fs.set k (.int x)))) else none
    | _ => none
  | _ => none
def q_puta (cs : List Nat) (k n : Nat) : xA := fun ls st h => match st with
  | v :: .ref a :: r => match h.2.2.1 a with
    | .inr (ci, fs) => match v with
      | .ref b => if ci ∈ cs ∧ k < fs.length then xgo n ls r (xset h a (.inr (ci, fs.set k (.ref b)))) else none
      | .null => if ci ∈ cs ∧ k < fs.length then xgo n ls r (xset h a (.inr (ci, fs.set k .null))) else none
      | _ => none
    | _ => none
  | _ => none
-- making
def q_new (ci N : Nat) (fs : List Value) (n : Nat) : xA := fun ls st h => xgo n ls (.ref h.1 :: st) (xnew h N (.inr (ci, fs)))
def q_newa (ka n : Nat) : xA := fun ls st h => match st with
  | .int x :: r => if 0 ≤ x ∧ x.toNatClampNeg ≤ 100000 then xgo n ls (.ref h.1 :: r) (xnew h x.toNatClampNeg (.inl (ka, xis x.toNatClampNeg (fun _ => 0)))) else none
  | _ => none
def q_anew (ka n : Nat) : xA := fun ls st h => match st with
  | .int x :: r => if 0 ≤ x ∧ x.toNatClampNeg ≤ 100000 then xgo n ls (.ref h.1 :: r) (xnew h x.toNatClampNeg (.inl (ka, xrs x.toNatClampNeg (fun _ => none)))) else none
  | _ => none
-- arrays
def q_alen (n : Nat) : xA := fun ls st h => match st with
  | .ref a :: r => match h.2.2.1 a with
    | .inl (ka, x) => if ka < 9 then xgo n ls (.int (nI x.1) :: r) h else none
    | _ => none
  | _ => none
def q_ald (ks : List Nat) (n : Nat) : xA := fun ls st h => match st with
  | .int i :: .ref a :: r => match h.2.2.1 a with
    | .inl (ka, N, .inl f) => if ka ∈ ks ∧ xin i N then xgo n ls (.int (f i.toNatClampNeg) :: r) h else none
    | _ => none
  | _ => none
def q_aald (n : Nat) : xA := fun ls st h => match st with
  | .int i :: .ref a :: r => match h.2.2.1 a with
    | .inl (ka, N, .inr (.inr (.inr (.inr f)))) => if 3 ≤ ka ∧ ka < 7 ∧ xin i N then xgo n ls (va_rf (f i.toNatClampNeg) :: r) h else none
    | _ => none
  | _ => none
def q_iast (n : Nat) : xA := fun ls st h => match st with
  | .int x :: .int i :: .ref a :: r => match h.2.2.1 a with
    | .inl (ka, N, .inl f) => if ka = 0 ∧ xin i N then xgo n ls r (xset h a (.inl (ka, xis N (upd f i.toNatClampNeg x)))) else none
    | _ => none
  | _ => none
def q_zast (n : Nat) : xA := fun ls st h => match st with
  | .int x :: .int i :: .ref a :: r => match h.2.2.1 a with
    | .inl (ka, N, .inl f) => if ka = 1 ∧ xin i N ∧ (x = 0 ∨ x = 1) then xgo n ls r (xset h a (.inl (ka, xis N (upd f i.toNatClampNeg x)))) else none
    | _ => none
  | _ => none
def q_cast (n : Nat) : xA := fun ls st h => match st with
  | .int x :: .int i :: .ref a :: r => match h.2.2.1 a with
    | .inl (ka, N, .inl f) => if ka = 2 ∧ xin i N ∧ narrow .char (.int x) = .int x then xgo n ls r (xset h a (.inl (ka, xis N (upd f i.toNatClampNeg x)))) else none
    | _ => none
  | _ => none
def q_aast (ka : Nat) (cs : List Nat) (n : Nat) : xA := fun ls st h => match st with
  | v :: .int i :: .ref a :: r => match h.2.2.1 a with
    | .inl (ka', N, .inr (.inr (.inr (.inr f)))) => match v with
      | .ref b => match h.2.2.1 b with
        | .inr (ci, _) => if ka' = ka ∧ ci ∈ cs ∧ xin i N then xgo n ls r (xset h a (.inl (ka', xrs N (va_up f i.toNatClampNeg (some b))))) else none
        | _ => none
      | .null => if ka' = ka ∧ xin i N then xgo n ls r (xset h a (.inl (ka', xrs N (va_up f i.toNatClampNeg none)))) else none
      | _ => none
    | _ => none
  | _ => none
def q_acopy (n : Nat) : xA := fun ls st h => match st with
  | .int k :: .int dp :: .ref a :: .int sp :: .ref b :: r => match h.2.2.1 a with
    | .inl (ka, N, .inl g) => match h.2.2.1 b with
      | .inl (kb, M, .inl f) => if ka = 0 ∧ kb = 0 ∧ 0 ≤ sp ∧ 0 ≤ dp ∧ 0 ≤ k ∧ sp.toNatClampNeg + k.toNatClampNeg ≤ M ∧ dp.toNatClampNeg + k.toNatClampNeg ≤ N ∧ xvs r = true ∧ r.length ≤ 8
        then xgo n ls r (xset h a (.inl (ka, xis N (va_cpy f g sp.toNatClampNeg dp.toNatClampNeg k.toNatClampNeg)))) else none
      | _ => none
    | _ => none
  | _ => none
-- classes
def q_inst (ys ns : List Nat) (n : Nat) : xA := fun ls st h => match st with
  | .ref a :: r => match h.2.2.1 a with
    | .inr (ci, _) => if ci ∈ ys then xgo n ls (.int 1 :: r) h else if ci ∈ ns then xgo n ls (.int 0 :: r) h else none
    | _ => none
  | _ => none
-- what the launch gives
def q_gets (i n : Nat) : xA := fun ls st h => xgo n ls (h.2.2.2 i :: st) h
-- calls
abbrev xcall (m : Nat) (as : List Value) (n : Nat) (r : List Value) : Option xR := if xvs as = true ∧ xvs r = true ∧ r.length ≤ 8 then some (.inr (.inr (m, as, n, r))) else none
def q_objinit (n : Nat) : xA := fun ls st h => match st with
  | .ref _ :: r => if xvs r = true ∧ r.length ≤ 8 then xgo n ls r h else none
  | _ => none
def q_s1 (m n : Nat) : xA := fun _ st _ => match st with
  | a :: r => xcall m [a] n r
  | _ => none
def q_s2 (m n : Nat) : xA := fun _ st _ => match st with
  | b :: a :: r => xcall m [a, b] n r
  | _ => none
def q_s3 (m n : Nat) : xA := fun _ st _ => match st with
  | c :: b :: a :: r => xcall m [a, b, c] n r
  | _ => none
def q_s4 (m n : Nat) : xA := fun _ st _ => match st with
  | d :: c :: b :: a :: r => xcall m [a, b, c, d] n r
  | _ => none
def q_s5 (m n : Nat) : xA := fun _ st _ => match st with
  | e :: d :: c :: b :: a :: r => xcall m [a, b, c, d, e] n r
  | _ => none
/-- the method that a receiver's class selects -/
def xvm : Nat → List (Nat × Nat) → Option Nat
  | _, [] => none
  | c, (k, m) :: l => if c = k then some m else xvm c l
def xrcv (tb : List (Nat × Nat)) (h : xH) (a : Nat) (as : List Value) (n : Nat) (r : List Value) : Option xR := match h.2.2.1 a with
  | .inr (ci, _) => match xvm ci tb with
    | some m => xcall m (.ref a :: as) n r
    | none => none
  | _ => none
def q_v0 (tb : List (Nat × Nat)) (n : Nat) : xA := fun _ st h => match st with
  | .ref o :: r => xrcv tb h o [] n r
  | _ => none
def q_v1 (tb : List (Nat × Nat)) (n : Nat) : xA := fun _ st h => match st with
  | a :: .ref o :: r => xrcv tb h o [a] n r
  | _ => none
def q_v2 (tb : List (Nat × Nat)) (n : Nat) : xA := fun _ st h => match st with
  | b :: a :: .ref o :: r => xrcv tb h o [a, b] n r
  | _ => none
def q_v3 (tb : List (Nat × Nat)) (n : Nat) : xA := fun _ st h => match st with
  | c :: b :: a :: .ref o :: r => xrcv tb h o [a, b, c] n r
  | _ => none
def q_v4 (tb : List (Nat × Nat)) (n : Nat) : xA := fun _ st h => match st with
  | d :: c :: b :: a :: .ref o :: r => xrcv tb h o [a, b, c, d] n r
  | _ => none
def q_v5 (tb : List (Nat × Nat)) (n : Nat) : xA := fun _ st h => match st with
  | e :: d :: c :: b :: a :: .ref o :: r => xrcv tb h o [a, b, c, d, e] n r
  | _ => none
-- returns
def q_ret : xA := fun _ st _ => match st with
  | [] => some (.inr (.inl none))
  | _ => none
def q_iret : xA := fun _ st _ => match st with
  | [.int x] => some (.inr (.inl (some (.int x))))
  | _ => none
def q_zret (ty : FieldType) : xA := fun _ st _ => match st with
  | [.int x] => if narrow ty (.int x) = .int x then some (.inr (.inl (some (.int x)))) else none
  | _ => none
def q_aret : xA := fun _ st _ => match st with
  | [.ref x] => some (.inr (.inl (some (.ref x))))
  | [.null] => some (.inr (.inl (some .null)))
  | _ => none
-- the run
def xent (mL : Nat → Nat) (m : Nat) (as : List Value) : List Slot := as.map Slot.val ++ List.replicate (mL m - as.length) Slot.unset
def xrun (tab : Nat → Nat → Option xA) (mL : Nat → Nat) : Nat → Nat → Nat → Nat → List Slot → List Value → xH → Option (Option Value × xH)
  | 0, _, _, _, _, _, _ => none
  | n + 1, d, m, pc, ls, st, h => match tab m pc with
    | none => none
    | some a => match a ls st h with
      | none => none
      | some (.inl (pc', ls', st', h')) => xrun tab mL n d m pc' ls' st' h'
      | some (.inr (.inl v)) => some (v, h)
      | some (.inr (.inr (m', as, pc', st'))) => match d with
        | 0 => none
        | d' + 1 => match xrun tab mL n d' m' 0 (xent mL m' as) [] h with
          | none => none
          | some (v, h') => xrun tab mL n (d' + 1) m pc' ls (v.toList ++ st') h'
/-- the run comes to an end, and then Q -/
def xEv (tab : Nat → Nat → Option xA) (mL : Nat → Nat) (d m pc : Nat) (ls : List Slot) (st : List Value) (h : xH) (Q : Option Value → xH → Prop) : Prop :=
  ∃ (n : Nat) (v : Option Value) (h' : xH), xrun tab mL n d m pc ls st h = some (v, h') ∧ Q v h'
def xEc (tab : Nat → Nat → Option xA) (mL : Nat → Nat) (d m : Nat) (as : List Value) (h : xH) (Q : Option Value → xH → Prop) : Prop := match d with
  | 0 => False
  | d' + 1 => xEv tab mL d' m 0 (xent mL m as) [] h Q
def xXr (tab : Nat → Nat → Option xA) (mL : Nat → Nat) (d m : Nat) (ls : List Slot) (h : xH) (r : Option xR) (Q : Option Value → xH → Prop) : Prop := match r with
  | none => False
  | some (.inl (pc', ls', st', h')) => xEv tab mL d m pc' ls' st' h' Q
  | some (.inr (.inl v)) => Q v h
  | some (.inr (.inr (m', as, pc', st'))) => xEc tab mL d m' as h (fun v h' => xEv tab mL d m pc' ls (v.toList ++ st') h' Q)
theorem xrun_mono (tab : Nat → Nat → Option xA) (mL : Nat → Nat) : ∀ (n d m pc : Nat) (ls : List Slot) (st : List Value) (h : xH) (r : Option Value × xH), xrun tab mL n d m pc ls st h = some r → xrun tab mL (n + 1) d m pc ls st h = some r := by
  intro n
  induction n with
  | zero => intro d m pc ls st h r e; simp [xrun] at e
  | succ n ih =>
    intro d m pc ls st h r e
    rw [xrun] at e ⊢
    cases ht : tab m pc with
    | none => rw [ht] at e; cases e
    | some a =>
      rw [ht] at e
      dsimp only at e ⊢
      cases ha : a ls st h with
      | none => rw [ha] at e; cases e
      | some x =>
        rw [ha] at e
        rcases x with ⟨pc', ls', st', h'⟩ | v | ⟨m', as, pc', st'⟩
        · dsimp only at e ⊢; exact ih _ _ _ _ _ _ _ e
        · dsimp only at e ⊢; exact e
        · cases d with
          | zero => dsimp only at e; cases e
          | succ d' =>
            dsimp only at e ⊢
            cases hc : xrun tab mL n d' m' 0 (xent mL m' as) [] h with
            | none => rw [hc] at e; cases e
            | some y =>
              obtain ⟨v, h'⟩ := y
              rw [hc] at e
              rw [ih _ _ _ _ _ _ _ hc]
              dsimp only at e ⊢
              exact ih _ _ _ _ _ _ _ e
theorem xrun_le (tab : Nat → Nat → Option xA) (mL : Nat → Nat) {n k d m pc : Nat} {ls : List Slot} {st : List Value} {h : xH} {r : Option Value × xH} (hk : n ≤ k) (e : xrun tab mL n d m pc ls st h = some r) : xrun tab mL k d m pc ls st h = some r := by
  induction hk with
  | refl => exact e
  | step _ ih => exact xrun_mono tab mL _ _ _ _ _ _ _ _ ih
theorem xrun_det (tab : Nat → Nat → Option xA) (mL : Nat → Nat) {n k d m pc : Nat} {ls : List Slot} {st : List Value} {h : xH} {r r' : Option Value × xH} (e : xrun tab mL n d m pc ls st h = some r) (e' : xrun tab mL k d m pc ls st h = some r') : r = r' := by
  have h1 := xrun_le tab mL (Nat.le_max_left n k) e
  have h2 := xrun_le tab mL (Nat.le_max_right n k) e'
  exact Option.some.inj (h1.symm.trans h2)
theorem xEv_step (tab : Nat → Nat → Option xA) (mL : Nat → Nat) {d m pc : Nat} {ls : List Slot} {st : List Value} {h : xH} {Q : Option Value → xH → Prop} {a : xA} (ht : tab m pc = some a) :
    xEv tab mL d m pc ls st h Q ↔ xXr tab mL d m ls h (a ls st h) Q := by
  constructor
  · rintro ⟨n, v, h', e, q⟩
    cases n with
    | zero => simp [xrun] at e
    | succ n =>
      rw [xrun, ht] at e
      dsimp only at e
      cases ha : a ls st h with
      | none => rw [ha] at e; cases e
      | some x =>
        rw [ha] at e
        rcases x with ⟨pc', ls', st', h2⟩ | w | ⟨m', as, pc', st'⟩
        · exact ⟨n, v, h', e, q⟩
        · cases e; exact q
        · cases d with
          | zero => dsimp only at e; cases e
          | succ d' =>
            dsimp only at e
            cases hc : xrun tab mL n d' m' 0 (xent mL m' as) [] h with
            | none => rw [hc] at e; cases e
            | some y =>
              obtain ⟨w, h2⟩ := y
              rw [hc] at e
              exact ⟨n, w, h2, hc, n, v, h', e, q⟩
  · intro q
    cases ha : a ls st h with
    | none => rw [ha] at q; exact q.elim
    | some x =>
      rw [ha] at q
      rcases x with ⟨pc', ls', st', h2⟩ | w | ⟨m', as, pc', st'⟩
      · obtain ⟨n, v, h', e, q⟩ := q
        refine ⟨n + 1, v, h', ?_, q⟩
        rw [xrun, ht]; dsimp only; rw [ha]; exact e
      · refine ⟨1, w, h, ?_, q⟩
        rw [xrun, ht]; dsimp only; rw [ha]
      · cases d with
        | zero => exact q.elim
        | succ d' =>
          obtain ⟨n, w, h2, e, k, v, h', e2, q⟩ := q
          refine ⟨max n k + 1, v, h', ?_, q⟩
          rw [xrun, ht]; dsimp only; rw [ha]; dsimp only
          rw [xrun_le tab mL (Nat.le_max_left n k) e]; dsimp only
          exact xrun_le tab mL (Nat.le_max_right n k) e2
theorem xEv_imp (tab : Nat → Nat → Option xA) (mL : Nat → Nat) {d m pc : Nat} {ls : List Slot} {st : List Value} {h : xH} {Q Q' : Option Value → xH → Prop} (hq : ∀ v h', Q v h' → Q' v h') (e : xEv tab mL d m pc ls st h Q) : xEv tab mL d m pc ls st h Q' := by
  obtain ⟨n, v, h', e, q⟩ := e
  exact ⟨n, v, h', e, hq _ _ q⟩
