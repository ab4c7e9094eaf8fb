/-! ===== 06: stores, switches, fields ===== -/
def xlp (la : List Slot) : List (Nat × Value) := (List.range la.length).filterMap (fun (i : Nat) => match la[i]? with
  | some (Slot.val v) => some (i, v)
  | _ => none)
theorem xlp_mem {la : List Slot} {q : Nat × Value} : q ∈ xlp la ↔ la[q.1]? = some (.val q.2) := by
  unfold xlp
  rw [List.mem_filterMap]
  constructor
  · rintro ⟨i, -, h⟩
    split at h
    next v hv => cases h; exact hv
    next => cases h
  · intro h
    refine ⟨q.1, List.mem_range.mpr (List.getElem?_eq_some_iff.mp h).1, ?_⟩
    rw [h]
theorem xls_has {la : List Slot} {ls : Array Slot} {mL : Nat} (L : xls la ls mL) : lv_has ls mL (xlp la) := ⟨L.1, L.2.1, fun q hq => (L.2.2.2 q.1 q.2 (xlp_mem.mp hq)).1⟩
theorem xls_set {la : List Slot} {ls ls' : Array Slot} {mL i : Nat} {v : Value} (L : xls la ls mL) (hv : v.category = 1) (h : lv_has ls' mL ((i, v) :: (xlp la).filter (fun q => !(q.1 == i) && !(q.1 + 1 == i && q.2.category == 2)))) (hi : i < la.length) : xls (la.set i (.val v)) ls' mL := by
  refine ⟨h.1, h.2.1, by rw [List.length_set]; exact L.2.2.1, fun j w hj => ?_⟩
  by_cases hji : i = j
  · subst hji
    rw [List.getElem?_set_self hi] at hj
    cases hj
    exact ⟨h.2.2 (i, v) List.mem_cons_self, hv⟩
  · rw [List.getElem?_set_ne hji] at hj
    have hc := (L.2.2.2 j w hj).2
    refine ⟨h.2.2 (j, w) (List.mem_cons_of_mem _ (List.mem_filter.mpr ⟨xlp_mem.mpr hj, ?_⟩)), hc⟩
    have h1 : (j == i) = false := by simpa using fun e => hji e.symm
    have h2 : (w.category == 2) = false := by rw [hc]; rfl
    simp [h1, h2]
section XO2
variable {mi : Nat → xM} {y : MethodName} {bytes : ByteArray} {mL : Nat} {ret : Option FieldType} {pc : Nat}
/-- a step that leaves the world, not the locals -/
theorem xok1 {a : xA} (hk : ∀ (la : List Slot) (st : List Value) (h : xH) (r : xR), a la st h = some r → ∃ n la' st', r = .inl (n, la', st', h) ∧ ∀ (K : xK) (p : Program) (l : Launch) (e : Env) (R : Room) (s : State) (m : MethodId) (args : Array Value) (below : List Frame) (meth : Method) (c : Code) (H : Heap) (locs : List Loc) (cells slots : Nat) (Q : State → Prop) (ls : Array Slot),
      xF K y bytes mL ret p R s m args meth c → xG K s h H locs → xls la ls mL → (∀ ls1, xls la' ls1 mL → W p l e R s m args below meth c H locs cells slots Q (F0 m n ls1 st')) → W p l e R s m args below meth c H locs cells slots Q (F0 m pc ls st)) : XOK mi y bytes mL ret pc a := by
  intro la st h r e
  obtain ⟨n, la', st', rfl, hw⟩ := hk la st h r e
  refine ⟨Nat.le_refl _, Nat.le_refl _, ?_⟩
  intro K p l e R s m args below meth c H locs cells slots Q ls F G L hc hs kk
  simp only [Nat.sub_self, Nat.add_zero] at hc hs kk
  exact hw K p l e R s m args below meth c H locs cells slots Q ls F G L (fun ls1 L1 => kk H locs ls1 G L1)
theorem ok_istore_n {k : Fin 4} {i : Nat} (hd : decode bytes pc = .ok (.istore_n k, 1)) (hi : (k : Nat) = i) : XOK mi y bytes mL ret pc (q_istore i (pc + 1)) := xok1 (by
  intro la st h r e
  unfold q_istore at e
  split at e
  next =>
    split at e
    next hl =>
      cases e
      exact ⟨_, _, _, rfl, fun K p l e R s m args below meth c H locs cells slots Q ls F G L k => lv_istore_n F.ex F.by hd hi (xls_has L) (L.2.2.1 ▸ hl) rfl (fun ls' h' => k ls' (xls_set L rfl h' hl))⟩
    next => cases e
  next => cases e)
theorem ok_istore {i : Nat} (hd : decode bytes pc = .ok (.istore i, 2)) : XOK mi y bytes mL ret pc (q_istore i (pc + 2)) := xok1 (by
  intro la st h r e
  unfold q_istore at e
  split at e
  next =>
    split at e
    next hl =>
      cases e
      exact ⟨_, _, _, rfl, fun K p l e R s m args below meth c H locs cells slots Q ls F G L k => lv_istore F.ex F.by hd (xls_has L) (L.2.2.1 ▸ hl) rfl (fun ls' h' => k ls' (xls_set L rfl h' hl))⟩
    next => cases e
  next => cases e)
theorem ok_astore_n {k : Fin 4} {i : Nat} (hd : decode bytes pc = .ok (.astore_n k, 1)) (hi : (k : Nat) = i) : XOK mi y bytes mL ret pc (q_astore i (pc + 1)) := xok1 (by
  intro la st h r e
  unfold q_astore at e
  split at e
  next =>
    split at e
    next hl =>
      cases e
      exact ⟨_, _, _, rfl, fun K p l e R s m args below meth c H locs cells slots Q ls F G L k => lv_astore_n F.ex F.by hd hi (xls_has L) (L.2.2.1 ▸ hl) rfl (fun ls' h' => k ls' (xls_set L rfl h' hl))⟩
    next => cases e
  next =>
    split at e
    next hl =>
      cases e
      exact ⟨_, _, _, rfl, fun K p l e R s m args below meth c H locs cells slots Q ls F G L k => lv_astore_nN F.ex F.by hd hi (xls_has L) (L.2.2.1 ▸ hl) rfl (fun ls' h' => k ls' (xls_set L rfl h' hl))⟩
    next => cases e
  next => cases e)
theorem ok_astore {i : Nat} (hd : decode bytes pc = .ok (.astore i, 2)) : XOK mi y bytes mL ret pc (q_astore i (pc + 2)) := xok1 (by
  intro la st h r e
  unfold q_astore at e
  split at e
  next =>
    split at e
    next hl =>
      cases e
      exact ⟨_, _, _, rfl, fun K p l e R s m args below meth c H locs cells slots Q ls F G L k => lv_astore F.ex F.by hd (xls_has L) (L.2.2.1 ▸ hl) rfl (fun ls' h' => k ls' (xls_set L rfl h' hl))⟩
    next => cases e
  next =>
    split at e
    next hl =>
      cases e
      exact ⟨_, _, _, rfl, fun K p l e R s m args below meth c H locs cells slots Q ls F G L k => lv_astoreN F.ex F.by hd (xls_has L) (L.2.2.1 ▸ hl) rfl (fun ls' h' => k ls' (xls_set L rfl h' hl))⟩
    next => cases e
  next => cases e)
theorem ok_iinc {i : Nat} {n : Int} {v : Int32} (hd : decode bytes pc = .ok (.iinc i n, 3)) (hv : Int32.ofInt n = v) : XOK mi y bytes mL ret pc (q_iinc i v (pc + 3)) := xok1 (by
  intro la st h r e
  subst hv
  unfold q_iinc at e
  split at e
  next x hx =>
    cases e
    refine ⟨_, _, _, rfl, fun K p l e R s m args below meth c H locs cells slots Q ls F G L k => ?_⟩
    have hl : i < la.length := (List.getElem?_eq_some_iff.mp hx).1
    have hm : (i, Value.int x) ∈ xlp la := xlp_mem.mpr hx
    obtain ⟨q, hq⟩ := List.getElem?_of_mem hm
    exact lv_iinc F.ex F.by hd (xls_has L) hq rfl (L.2.2.1 ▸ hl) rfl (fun ls' h' => k ls' (xls_set L rfl h' hl))
  next => cases e)
/-- a lookupswitch is the list of its pairs -/
def xlk (pc : Nat) : List (Int32 × Nat) → List (Int × Int) → Bool
  | [], [] => true
  | (k, t) :: l, (a, o) :: ps => decide (k.toInt = a) && decide ((pc : Int) + o = (t : Int)) && xlk pc l ps
  | _, _ => false
theorem xlk_spec {pc d : Nat} {df : Int} (hdf : (pc : Int) + df = (d : Int)) {x : Int32} {ls : List Slot} {r : List Value} {h : xH} : ∀ (l : List (Int32 × Nat)) (ps : List (Int × Int)), xlk pc l ps = true → ∀ {q : xR}, xsel d x ls r h l = some q → ∃ t : Nat, q = .inl (t, ls, r, h) ∧ (pc : Int) + Op.lookupswitch.offset ps df x.toInt = (t : Int) := by
  intro l
  induction l with
  | nil =>
    intro ps hl q e
    cases ps with
    | nil => cases e; exact ⟨d, rfl, by simpa [Op.lookupswitch.offset] using hdf⟩
    | cons => simp [xlk] at hl
  | cons kt l ih =>
    obtain ⟨k, t⟩ := kt
    intro ps hl q e
    cases ps with
    | nil => simp [xlk] at hl
    | cons ao ps =>
      obtain ⟨a, o⟩ := ao
      simp only [xlk, Bool.and_eq_true, decide_eq_true_eq] at hl
      obtain ⟨⟨h1, h2⟩, h3⟩ := hl
      unfold xsel at e
      split at e
      next hx =>
        cases e
        refine ⟨t, rfl, ?_⟩
        rw [Op.lookupswitch.offset_cons, if_pos (by rw [hx, h1])]
        exact h2
      next hx =>
        rw [lv_osw hx h1]
        exact ih ps h3 e
theorem ok_lookup {dflt : Int} {ps : Array (Int × Int)} {len d : Nat} {l : List (Int32 × Nat)} (hd : decode bytes pc = .ok (.lookupswitch dflt ps, len)) (hp : (ps.toList.zip (ps.toList.drop 1)).all (fun (a, next) => a.1 < next.1) = true) (hdf : (pc : Int) + dflt = (d : Int)) (hl : xlk pc l ps.toList = true) : XOK mi y bytes mL ret pc (q_switch l d) := xok0 (by
  intro la st h r e
  unfold q_switch at e
  split at e
  next =>
    obtain ⟨t, rfl, ht⟩ := xlk_spec hdf l _ hl e
    exact ⟨_, _, rfl, fun K p l e R s m args below meth c H locs cells slots Q ls F G L _ _ k => lv_lookup F.ex F.by hd hp rfl ht k⟩
  next => cases e)
/-- a tableswitch likewise -/
def xtb (pc : Nat) : Int → List (Int32 × Nat) → List Int → Bool
  | _, [], [] => true
  | lo, (k, t) :: l, o :: os => decide (k.toInt = lo) && decide ((pc : Int) + o = (t : Int)) && xtb pc (lo + 1) l os
  | _, _, _ => false
theorem xtb_spec {pc d : Nat} {x : Int32} {ls : List Slot} {r : List Value} {h : xH} : ∀ (l : List (Int32 × Nat)) (lo : Int) (os : List Int), xtb pc lo l os = true → ∀ {q : xR}, xsel d x ls r h l = some q →
    (∃ (o : Int) (t : Nat), q = .inl (t, ls, r, h) ∧ lo ≤ x.toInt ∧ x.toInt < lo + os.length ∧ os[(x.toInt - lo).toNat]? = some o ∧ (pc : Int) + o = (t : Int)) ∨ ((x.toInt < lo ∨ lo + os.length ≤ x.toInt) ∧ q = .inl (d, ls, r, h)) := by
  intro l
  induction l with
  | nil =>
    intro lo os hl q e
    cases os with
    | nil => cases e; exact Or.inr ⟨by simp; omega, rfl⟩
    | cons => simp [xtb] at hl
  | cons kt l ih =>
    obtain ⟨k, t⟩ := kt
    intro lo os hl q e
    cases os with
    | nil => simp [xtb] at hl
    | cons o os =>
      simp only [xtb, Bool.and_eq_true, decide_eq_true_eq] at hl
      obtain ⟨⟨h1, h2⟩, h3⟩ := hl
      unfold xsel at e
      split at e
      next hx =>
        cases e
        subst hx
        refine Or.inl ⟨o, t, rfl, by omega, by simp only [List.length_cons]; omega, ?_, h2⟩
        rw [h1, Int.sub_self]
        rfl
      next hx =>
        have hne : ¬ x.toInt = lo := lv_neT hx h1
        rcases ih (lo + 1) os h3 e with ⟨o', t', e1, e2, e3, e4, e5⟩ | ⟨e1, e2⟩
        · refine Or.inl ⟨o', t', e1, by omega, by simp only [List.length_cons]; omega, ?_, e5⟩
          have hz : (x.toInt - lo).toNat = (x.toInt - (lo + 1)).toNat + 1 := by omega
          rw [hz, List.getElem?_cons_succ]
          exact e4
        · refine Or.inr ⟨?_, e2⟩
          simp only [List.length_cons]
          omega
theorem ok_table {dflt lo hi : Int} {offs : Array Int} {len d : Nat} {l : List (Int32 × Nat)} (hd : decode bytes pc = .ok (.tableswitch dflt lo hi offs, len)) (hdf : (pc : Int) + dflt = (d : Int)) (hh : hi + 1 = lo + offs.toList.length) (hl : xtb pc lo l offs.toList = true) : XOK mi y bytes mL ret pc (q_switch l d) := xok0 (by
  intro la st h r e
  unfold q_switch at e
  split at e
  next =>
    rcases xtb_spec l lo _ hl e with ⟨o, t, rfl, h1, h2, h3, h4⟩ | ⟨h1, rfl⟩
    · exact ⟨_, _, rfl, fun K p l e R s m args below meth c H locs cells slots Q ls F G L _ _ k => lv_tableIn F.ex F.by hd (by omega) (by omega) (by rw [← Array.getElem?_toList]; exact h3) h4 k⟩
    · exact ⟨_, _, rfl, fun K p l e R s m args below meth c H locs cells slots Q ls F G L _ _ k => lv_tableOut F.ex F.by hd (by omega) hdf k⟩
  next => cases e)
end XO2
