/-! ===== 07: fields ===== -/
theorem xup_s {α : Type} {f : Nat → α} {k : Nat} {v : α} : va_up f k v k = v := by simp [va_up]
theorem xup_n {α : Type} {f : Nat → α} {k j : Nat} {v : α} (h : j ≠ k) : va_up f k v j = f j := by simp [va_up, h]
theorem xreg {K : xK} {s : State} {h : xH} {H : Heap} {locs : List Loc} {a : Nat} (G : xG K s h H locs) (hL : xL K s s.heap) (h7 : ∀ x, h.2.2.1 a ≠ .inl (7, x)) (h8 : ∀ x, h.2.2.1 a ≠ .inl (8, x)) (h99 : ∀ x, h.2.2.1 a ≠ .inr (99, x)) : xb K ≤ a ∧ a < h.1 := by
  constructor
  · refine Nat.not_lt.mp fun hlt => ?_
    have e := G.2.1 a hlt
    rcases hL.1 a hlt with ⟨L, xs, h1, -⟩ | ⟨N, f, h1, -⟩ | h1
    · exact h7 _ (e.trans h1)
    · exact h8 _ (e.trans h1)
    · exact h99 _ (e.trans h1)
  · exact Nat.not_le.mp fun hle => h99 _ (G.1.2.2.2 a hle)
theorem xregC {K : xK} {s : State} {h : xH} {H : Heap} {locs : List Loc} {a ci : Nat} {fs : List Value} (G : xG K s h H locs) (hL : xL K s s.heap) (he : h.2.2.1 a = .inr (ci, fs)) (hc : ci < 13) : xb K ≤ a ∧ a < h.1 := by
  refine xreg G hL (fun x q => ?_) (fun x q => ?_) (fun x q => ?_) <;> rw [he] at q
  · cases q
  · cases q
  · have := congrArg Prod.fst (Sum.inr.inj q); dsimp only at this; omega
theorem xregA {K : xK} {s : State} {h : xH} {H : Heap} {locs : List Loc} {a ka : Nat} {x : vp_A} (G : xG K s h H locs) (hL : xL K s s.heap) (he : h.2.2.1 a = .inl (ka, x)) (hc : ka < 7) : xb K ≤ a ∧ a < h.1 := by
  refine xreg G hL (fun x q => ?_) (fun x q => ?_) (fun x q => ?_) <;> rw [he] at q
  · have hq : ka = 7 := congrArg Prod.fst (Sum.inl.inj q)
    omega
  · have hq : ka = 8 := congrArg Prod.fst (Sum.inl.inj q)
    omega
  · cases q
theorem xatC {K : xK} {s : State} {h : xH} {H : Heap} {locs : List Loc} {a ci : Nat} {fs : List Value} (G : xG K s h H locs) (hL : xL K s s.heap) (he : h.2.2.1 a = .inr (ci, fs)) (hc : ci < 13) : va_P K.1 vwC [(a, .inr (ci, fs))] H := by
  obtain ⟨h1, h2⟩ := xregC G hL he hc
  have h3 := (G.1.2.2.1 a h1 h2).1
  rw [he] at h3
  intro k q hq
  have hz : k < 1 := (List.getElem?_eq_some_iff.mp hq).1
  rw [show k = 0 by omega] at hq
  cases hq
  exact h3
theorem xatA {K : xK} {s : State} {h : xH} {H : Heap} {locs : List Loc} {a ka : Nat} {x : vp_A} (G : xG K s h H locs) (hL : xL K s s.heap) (he : h.2.2.1 a = .inl (ka, x)) (hc : ka < 7) : va_P K.1 vwC [(a, .inl (K.2.1 ka, x))] H := by
  obtain ⟨h1, h2⟩ := xregA G hL he hc
  have h3 := (G.1.2.2.1 a h1 h2).1
  rw [he] at h3
  intro k q hq
  have hz : k < 1 := (List.getElem?_eq_some_iff.mp hq).1
  rw [show k = 0 by omega] at hq
  cases hq
  exact h3
theorem xG.put {K : xK} {s : State} {h : xH} {H H1 : Heap} {locs : List Loc} {a i : Nat} {e : va_E} (G : xG K s h H locs) (ha : xb K ≤ a ∧ a < h.1) (z : H1.size = H.size) (oq : ∀ q : Nat, q ≠ a → H1[q]? = H[q]?) (hat : va_at K.1 vwC (a, xcv K.2.1 e) H1) (hgd : xgd e) : xG K s (xset h a e) H1 (locs ++ [⟨a, i⟩]) := by
  obtain ⟨⟨g1, g2, g3, g4⟩, g5, g6, g7, g8⟩ := G
  refine ⟨⟨z.trans g1, g2, fun b hb1 hb2 => ?_, fun b hb => ?_⟩, fun b hb => ?_, g6, g7.put z oq ha.1, g8⟩
  · show va_at K.1 vwC (b, xcv K.2.1 (va_up h.2.2.1 a e b)) H1 ∧ xgd (va_up h.2.2.1 a e b)
    by_cases hba : b = a
    · subst hba
      rw [xup_s]
      exact ⟨hat, hgd⟩
    · rw [xup_n hba]
      exact ⟨(g3 b hb1 hb2).1.kept (oq b hba), (g3 b hb1 hb2).2⟩
  · show va_up h.2.2.1 a e b = _
    have hb' : h.1 ≤ b := hb
    have hne : b ≠ a := fun q => by rw [q] at hb'; exact absurd ha.2 (Nat.not_lt.mpr hb')
    rw [xup_n hne]
    exact g4 b hb
  · show va_up h.2.2.1 a e b = _
    have hne : b ≠ a := fun q => by rw [q] at hb; exact absurd ha.1 (Nat.not_le.mpr hb)
    rw [xup_n hne]
    exact g5 b hb
theorem xcls {ci : Nat} (h : ci < 13) : ∃ (r : vw_C) (ty0 : Nat → FieldType), vwC[ci]? = some r ∧ (∀ k, k < r.2.2 → parseFieldDescriptor (r.2.1 k).2.2.1 = some (ty0 k)) ∧ (∀ a, a < r.2.2 → ∀ b, b < r.2.2 → a ≠ b → (r.2.1 a).2.1 ≠ (r.2.1 b).2.1) ∧ ∀ w ∈ u_ws r.1 r.2.1 r.2.2, w ∈ gw := by
  match ci, h with
  | 0, _ => exact ⟨_, tyX0, rfl, tyX0_ok, nmX0, inG0⟩
  | 1, _ => exact ⟨_, tyX1, rfl, tyX1_ok, nmX1, inG1⟩
  | 2, _ => exact ⟨_, tyX2, rfl, tyX2_ok, nmX2, inG2⟩
  | 3, _ => exact ⟨_, tyX3, rfl, tyX3_ok, nmX3, inG3⟩
  | 4, _ => exact ⟨_, tyX4, rfl, tyX4_ok, nmX4, inG4⟩
  | 5, _ => exact ⟨_, tyX5, rfl, tyX5_ok, nmX5, inG5⟩
  | 6, _ => exact ⟨_, tyX6, rfl, tyX6_ok, nmX6, inG6⟩
  | 7, _ => exact ⟨_, tyX7, rfl, tyX7_ok, nmX7, inG7⟩
  | 8, _ => exact ⟨_, tyX8, rfl, tyX8_ok, nmX8, inG8⟩
  | 9, _ => exact ⟨_, tyX9, rfl, tyX9_ok, nmX9, inG9⟩
  | 10, _ => exact ⟨_, tyX10, rfl, tyX10_ok, nmX10, inG10⟩
  | 11, _ => exact ⟨_, tyX11, rfl, tyX11_ok, nmX11, inG11⟩
  | 12, _ => exact ⟨_, tyX12, rfl, tyX12_ok, nmX12, inG12⟩
  | n + 13, h => omega
/-- a field's number, in each class that the object may be of -/
def xfc (cs : List Nat) (k : Nat) (dc nm ds : String) (fin : Bool) : Bool := cs.all (fun ci => decide (ci < 13) && match vwC[ci]? with
  | some r => decide (k < r.2.2) && decide (r.2.1 k = (dc, nm, ds, fin))
  | none => false)
theorem xfc_spec {cs : List Nat} {k : Nat} {dc nm ds : String} {fin : Bool} (h : xfc cs k dc nm ds fin = true) {ci : Nat} (hc : ci ∈ cs) {r : vw_C} (hr : vwC[ci]? = some r) : k < r.2.2 ∧ r.2.1 k = (dc, nm, ds, fin) := by
  have h1 := List.all_eq_true.mp h ci hc
  rw [hr] at h1
  simp only [Bool.and_eq_true, decide_eq_true_eq] at h1
  exact h1.2
theorem xfc_lt {cs : List Nat} {k : Nat} {dc nm ds : String} {fin : Bool} (h : xfc cs k dc nm ds fin = true) {ci : Nat} (hc : ci ∈ cs) : ci < 13 := by
  have h1 := List.all_eq_true.mp h ci hc
  simp only [Bool.and_eq_true, decide_eq_true_eq] at h1
  exact h1.1
section XO3
variable {mi : Nat → xM} {y : MethodName} {bytes : ByteArray} {mL : Nat} {ret : Option FieldType} {pc : Nat}
theorem xsame {K : xK} {p : Program} {R : Room} {s : State} {m : MethodId} {args : Array Value} {meth : Method} {c : Code} (F : xF K y bytes mL ret p R s m args meth c) {ref dc nm ds : String} (hsm : ref = dc ∨ Cond.sameField ref dc nm ds ∈ gw) : ∀ x, s.fieldFound? dc nm ds = some x → s.fieldFound? ref nm ds = some x := by
  rcases hsm with rfl | hsm
  · exact fun x hx => hx
  · exact fun x hx => u_same (F.ts _ hsm) x hx
theorem ok_getf {cs : List Nat} {k i : Nat} {ref dc nm ds : String} {fin : Bool} (hd : decode bytes pc = .ok (.getfield i, 3)) (hl : Cond.fieldLink y.cls i ref nm ds ∈ gw) (hsm : ref = dc ∨ Cond.sameField ref dc nm ds ∈ gw) (hf : xfc cs k dc nm ds fin = true) : XOK mi y bytes mL ret pc (q_getf cs k (pc + 3)) := xok0 (by
  intro la st h r e
  unfold q_getf at e
  split at e
  next a r1 =>
    split at e
    next ci fs he =>
      split at e
      next hc =>
        split at e
        next v hv =>
          cases e
          refine ⟨_, _, rfl, fun K p l e R s m args below meth c H locs cells slots Q ls F G L _ _ k1 => ?_⟩
          have hlt := xfc_lt hf hc
          obtain ⟨r, ty0, hr, hty, hnm, hin⟩ := xcls hlt
          obtain ⟨hk, hrk⟩ := xfc_spec hf hc hr
          have e1 : (r.2.1 k).1 = dc := by rw [hrk]
          have e2 : (r.2.1 k).2.1 = nm := by rw [hrk]
          have e3 : (r.2.1 k).2.2.1 = ds := by rw [hrk]
          exact va_get (C := r.1) (T := r.2.1) (N := r.2.2) (ref := ref) F.ex F.by F.ts hin F.own F.tb.1 (xatC G F.lo he hlt) 0 rfl hr k hk (by rw [e2, e3]; exact F.ts _ hl) (by rw [e1, e2, e3]; exact xsame F hsm) hv hd k1
        next => cases e
      next => cases e
    next => cases e
  next => cases e)
theorem xput {K : xK} {p : Program} {l : Launch} {e : Env} {R : Room} {s : State} {m : MethodId} {args : Array Value} {below : List Frame} {meth : Method} {c : Code} {H : Heap} {locs : List Loc} {cells slots : Nat} {Q : State → Prop} {ls : Array Slot} {rest : List Value} {h : xH} {a ci k i : Nat} {fs : List Value} {v : Value} {cs : List Nat} {ref dc nm ds : String} {fin : Bool} {ty : FieldType}
    (F : xF K y bytes mL ret p R s m args meth c) (G : xG K s h H locs) (he : h.2.2.1 a = .inr (ci, fs)) (hc : ci ∈ cs) (hf : xfc cs k dc nm ds fin = true) (hl : Cond.fieldLink y.cls i ref nm ds ∈ gw) (hsm : ref = dc ∨ Cond.sameField ref dc nm ds ∈ gw) (hfin : fin = false ∨ (fin = true ∧ y.name = "<init>" ∧ dc = y.cls)) (hds : parseFieldDescriptor ds = some ty) (hn : narrow ty v = v) (hfit : fits ty v = true) (hk : k < fs.length) (hd : decode bytes pc = .ok (.putfield i, 3))
    (kk : ∀ (H1 : Heap) (locs1 : List Loc), xG K s (xset h a (.inr (ci, fs.set k v))) H1 locs1 → W p l e R s m args below meth c H1 locs1 cells slots Q (F0 m (pc + 3) ls rest)) : W p l e R s m args below meth c H locs cells slots Q (F0 m pc ls (v :: .ref a :: rest)) := by
  have hlt := xfc_lt hf hc
  obtain ⟨r, ty0, hr, hty, hnm, hin⟩ := xcls hlt
  obtain ⟨hkN, hrk⟩ := xfc_spec hf hc hr
  have e1 : (r.2.1 k).1 = dc := by rw [hrk]
  have e2 : (r.2.1 k).2.1 = nm := by rw [hrk]
  have e3 : (r.2.1 k).2.2.1 = ds := by rw [hrk]
  have e4 : (r.2.1 k).2.2.2 = fin := by rw [hrk]
  have hreg := xregC G F.lo he hlt
  have hts := F.ts
  have hK := F.tb.1
  have hap := va_apart (own := y.cls) hts hin ty0 hty hnm hK hr
  have hat := (G.1.2.2.1 a hreg.1 hreg.2).1
  rw [he] at hat
  obtain ⟨r', h1, cell, q1, q2, q3, q4⟩ := hat
  have hrr : r' = r := Option.some.inj (h1.symm.trans hr)
  subst hrr
  obtain ⟨hS, hfc, kC, hkC, hkind⟩ := hK.1 ci _ hr
  obtain ⟨cf, kf, fi, f, hi, hsl⟩ := hS k hkN
  rw [e1, e2, e3] at hi
  have hlay := hts _ (hin _ (u_in_lay hkN))
  unfold u_lay at hlay
  have hlays := u_lays hts hin hkN
  rw [e1, e2, e3] at hlays
  have hst := (u_facts hfc hkC hlays hi).1
  have fin' : ∀ H' : Heap, H'[a]? = some (cell.setSlot f.slot v) → H'.size = H.size → (∀ q, q ≠ a → H'[q]? = H[q]?) → ∀ i', xG K s (xset h a (.inr (ci, fs.set k v))) H' (locs ++ [⟨a, i'⟩]) := by
    intro H' g1 g2 g3 i'
    rw [hsl] at g1
    exact G.put hreg g2 g3 ⟨_, hr, t_OB.to (V := updV (vp_V fs) k v) ⟨_, g1, q2, q3, t_set q4 hap hkN v⟩ (fun j _ => vp_updV_set hk v j)⟩ hlt
  rcases hfin with hfin | ⟨hfin, hnI, hdc⟩
  · rw [if_neg (by rw [e4, hfin]; decide), e1, e2, e3] at hlay
    have h6 := u_store hfc hkC hkind hlay hi hds hn hfit
    exact W.putK F.ex F.by (f := f) ⟨F.own, F.ts _ hl, ⟨_, _, _, xsame F hsm _ hi⟩, hst⟩ (by rw [q2]; exact h6) q1 q3 (by rw [hsl]; exact k2_hasslot (q4 k hkN)) rfl rfl hd fun H' g1 g2 g3 => kk H' _ (fin' H' g1 g2 g3 _)
  · rw [if_pos (by rw [e4, hfin]), e1, e2, e3] at hlay
    have hcf : m.cls = cf := by
      obtain ⟨_, _, c', _, _, _, -, -, hf', -, -, -, hown2, -⟩ := Cond.laysFinal_spec hlay
      have e1 : c' = cf := by have := hi.symm.trans hf'; simp at this; exact this.1.symm
      rw [hdc] at hown2
      rw [← e1]; exact Option.some.inj (F.own.symm.trans hown2)
    have h6 := u_fits hfc hkC hkind (Or.inr hlay) hi hds hn hfit
    exact W.putFinK F.ex F.by F.own (F.ts _ hl) (xsame F hsm _ hi) hst hcf (F.nm.trans hnI) (by rw [q2]; exact h6) q1 q3 (by rw [hsl]; exact k2_hasslot (q4 k hkN)) rfl rfl hd fun H' g1 g2 g3 => kk H' _ (fin' H' g1 g2 g3 _)
/-- a step that changes a cell -/
theorem xok2 {a : xA} (hk : ∀ (la : List Slot) (st : List Value) (h : xH) (r : xR), a la st h = some r → ∃ n st' b e1, r = .inl (n, la, st', xset h b e1) ∧ ∀ (K : xK) (p : Program) (l : Launch) (e : Env) (R : Room) (s : State) (m : MethodId) (args : Array Value) (below : List Frame) (meth : Method) (c : Code) (H : Heap) (locs : List Loc) (cells slots : Nat) (Q : State → Prop) (ls : Array Slot),
      xF K y bytes mL ret p R s m args meth c → xG K s h H locs → xls la ls mL → (∀ (H1 : Heap) (locs1 : List Loc), xG K s (xset h b e1) H1 locs1 → W p l e R s m args below meth c H1 locs1 cells slots Q (F0 m n ls st')) → W p l e R s m args below meth c H locs cells slots Q (F0 m pc ls st)) : XOK mi y bytes mL ret pc a := by
  intro la st h r e
  obtain ⟨n, st', b, e1, rfl, hw⟩ := hk la st h r e
  refine ⟨Nat.le_refl _, Nat.le_refl _, ?_⟩
  intro K p l e R s m args below meth c H locs cells slots Q ls F G L hc hs kk
  have z1 : (xset h b e1).1 - h.1 = 0 := Nat.sub_self _
  have z2 : (xset h b e1).2.1 - h.2.1 = 0 := Nat.sub_self _
  simp only [z1, z2, Nat.add_zero] at hc hs kk
  exact hw K p l e R s m args below meth c H locs cells slots Q ls F G L (fun H1 locs1 G1 => kk H1 locs1 ls G1 L)
theorem ok_puti {cs : List Nat} {k i : Nat} {ref dc nm : String} {fin : Bool} (hd : decode bytes pc = .ok (.putfield i, 3)) (hl : Cond.fieldLink y.cls i ref nm "I" ∈ gw) (hsm : ref = dc ∨ Cond.sameField ref dc nm "I" ∈ gw) (hf : xfc cs k dc nm "I" fin = true) (hfin : fin = false ∨ (fin = true ∧ y.name = "<init>" ∧ dc = y.cls)) : XOK mi y bytes mL ret pc (q_puti cs k (pc + 3)) := xok2 (by
  intro la st h r e
  unfold q_puti at e
  split at e
  next =>
    split at e
    next ci fs he =>
      split at e
      next hc =>
        cases e
        exact ⟨_, _, _, _, rfl, fun K p l e R s m args below meth c H locs cells slots Q ls F G L k1 => xput F G he hc.1 hf hl hsm hfin (ty := .int) (by decide +kernel) rfl rfl hc.2 hd k1⟩
      next => cases e
    next => cases e
  next => cases e)
theorem ok_putz {cs : List Nat} {k i : Nat} {ref dc nm : String} {fin : Bool} (hd : decode bytes pc = .ok (.putfield i, 3)) (hl : Cond.fieldLink y.cls i ref nm "Z" ∈ gw) (hsm : ref = dc ∨ Cond.sameField ref dc nm "Z" ∈ gw) (hf : xfc cs k dc nm "Z" fin = true) (hfin : fin = false ∨ (fin = true ∧ y.name = "<init>" ∧ dc = y.cls)) : XOK mi y bytes mL ret pc (q_putz cs k (pc + 3)) := xok2 (by
  intro la st h r e
  unfold q_putz at e
  split at e
  next =>
    split at e
    next ci fs he =>
      split at e
      next hc =>
        cases e
        obtain ⟨hc1, hc2, hc3⟩ := hc
        exact ⟨_, _, _, _, rfl, fun K p l e R s m args below meth c H locs cells slots Q ls F G L k1 => xput F G he hc1 hf hl hsm hfin (ty := .boolean) (by decide +kernel) (by rcases hc3 with rfl | rfl <;> decide) (by rcases hc3 with rfl | rfl <;> decide) hc2 hd k1⟩
      next => cases e
    next => cases e
  next => cases e)
theorem ok_puta {cs : List Nat} {k i : Nat} {ref dc nm ds : String} {fin : Bool} {ty : FieldType} (hd : decode bytes pc = .ok (.putfield i, 3)) (hl : Cond.fieldLink y.cls i ref nm ds ∈ gw) (hsm : ref = dc ∨ Cond.sameField ref dc nm ds ∈ gw) (hf : xfc cs k dc nm ds fin = true) (hfin : fin = false ∨ (fin = true ∧ y.name = "<init>" ∧ dc = y.cls)) (hds : parseFieldDescriptor ds = some ty) (hty : (∃ n, ty = .object n) ∨ ∃ t, ty = .array t) : XOK mi y bytes mL ret pc (q_puta cs k (pc + 3)) := xok2 (by
  intro la st h r e
  unfold q_puta at e
  split at e
  next =>
    split at e
    next ci fs he =>
      split at e
      next =>
        split at e
        next hc =>
          cases e
          exact ⟨_, _, _, _, rfl, fun K p l e R s m args below meth c H locs cells slots Q ls F G L k1 => xput F G he hc.1 hf hl hsm hfin hds (by rcases hty with ⟨n, rfl⟩ | ⟨t, rfl⟩ <;> rfl) (by rcases hty with ⟨n, rfl⟩ | ⟨t, rfl⟩ <;> rfl) hc.2 hd k1⟩
        next => cases e
      next =>
        split at e
        next hc =>
          cases e
          exact ⟨_, _, _, _, rfl, fun K p l e R s m args below meth c H locs cells slots Q ls F G L k1 => xput F G he hc.1 hf hl hsm hfin hds (by rcases hty with ⟨n, rfl⟩ | ⟨t, rfl⟩ <;> rfl) (by rcases hty with ⟨n, rfl⟩ | ⟨t, rfl⟩ <;> rfl) hc.2 hd k1⟩
        next => cases e
      next => cases e
    next => cases e
  next => cases e)
end XO3
