/-! ===== 10: rows of references, copies, classes, what the launch gives, returns ===== -/
theorem xupd_q {cA : ClassId} {N : Nat} {f : Nat → Option Nat} {j : Nat} {x : Option Nat} : (arrV cA N (fun q => va_rf (f q))).setSlot j (va_rf x) = vp_cell cA (xrs N (va_up f j x)) := by
  rw [vp_cell_q, arrV_store]
  congr 1
  funext q
  by_cases hq : q = j
  · subst hq
    simp [updV, va_up]
  · simp [updV, va_up, hq]
/-- a String constant's value (101) or coder (102) -/
def q_getS (k n : Nat) : xA := fun ls st h => match st with
  | .ref a :: r => if h.2.2.2 (100 + 3 * a) = .int 20 then xgo n ls (h.2.2.2 (k + 3 * a) :: r) h else none
  | _ => none
section XO6
variable {mi : Nat → xM} {y : MethodName} {bytes : ByteArray} {mL : Nat} {ret : Option FieldType} {pc : Nat}
/-- the classes that may stand in a row of C -/
def xcan (C : String) (cs : List Nat) : Prop := ∀ ci ∈ cs, ci < 13 ∧ ∃ r, vwC[ci]? = some r ∧ (r.1 = C ∨ Cond.castable r.1 C ∈ nwl)
theorem xcast {K : xK} {s : State} {args : Array Value} {C : String} {r : vw_C} {ci : Nat} {cC : ClassId} (hT : xT K s) (hr : vwC[ci]? = some r) (h : r.1 = C ∨ Cond.castable r.1 C ∈ nwl) (hC : s.vm.findClass C = some cC) : s.vm.assignable (K.1.1 ci) cC = true := by
  have hcls := (hT.1.1 ci r hr).2
  rcases h with rfl | h
  · have e : cC = K.1.1 ci := Option.some.inj (hC.symm.trans hcls.1)
    subst e
    exact va_assign hcls
  · obtain ⟨c0, t1, f1, f2, f3⟩ := Cond.castable_spec (va_Nw.use (A := args) rfl (hT.2.1 _ h))
    cases hcls.1.symm.trans f1
    cases hC.symm.trans f2
    exact f3
theorem ok_aast {ka : Nat} {cs : List Nat} {C : String} (hd : decode bytes pc = .ok (.aastore, 1)) (hk7 : ka < 7) (hk : ∀ aK : Nat → ClassId, (xtys aK)[ka]? = some (aK ka, .object C)) (hcs : xcan C cs) : XOK mi y bytes mL ret pc (q_aast ka cs (pc + 1)) := xok2 (by
  intro la st h r e
  unfold q_aast at e
  split at e
  next v i a r1 =>
    split at e
    next ka' N f he =>
      split at e
      next b =>
        split at e
        next ci fs hb =>
          split at e
          next hc =>
            cases e
            refine ⟨_, _, _, _, rfl, fun K p l e R s m args below meth c H locs cells slots Q ls F G L k => ?_⟩
            obtain ⟨h0, hci, hi⟩ := hc
            subst h0
            obtain ⟨hlt, r, hr, hca⟩ := hcs ci hci
            have hat := xatA G F.lo he hk7 0 _ rfl
            obtain ⟨r', hr', cellV, g1, g2, g3, -⟩ := xatC G F.lo hb hlt 0 _ rfl
            obtain ⟨kA, comp, k1, k2, k3, -⟩ := (F.tb.1.2 _ _ (hk K.2.1)).2
            obtain ⟨kE, hkE, -⟩ := Vm.findClass_spec k3
            obtain ⟨kC, hkC, -⟩ := (F.tb.1.1 ci r hr).2.2
            refine W.aast F.ex F.by hat (fun q h => by cases h) (fun h => by cases h) k1 k2 rfl hkE ⟨xnat hi.1, by show _ < (arrV _ _ _).slots.size; rw [arrV_size]; exact hi.2⟩ g1 (fun q h => by rw [g3] at h; cases h) (by rw [g2]; exact hkC) (by rw [g2]; exact xcast (args := args) F.tb hr hca k3) rfl rfl hd fun H1 e z oq => ?_
            exact k H1 _ (G.put (xregA G F.lo he hk7) z oq (e.trans (congrArg some (xupd_q (x := some b)))) hk7)
          next => cases e
        next => cases e
      next =>
        split at e
        next hc =>
          cases e
          refine ⟨_, _, _, _, rfl, fun K p l e R s m args below meth c H locs cells slots Q ls F G L k => ?_⟩
          obtain ⟨h0, hi⟩ := hc
          subst h0
          have hat := xatA G F.lo he hk7 0 _ rfl
          refine va_WaastN (C := C) F.ex F.by hat ((F.tb.1.2 _ _ (hk K.2.1)).1 N (fun j => va_rf (f j))) (fun h => by cases h) (by show ¬ (i < 0 ∨ (arrV _ _ _).slots.size ≤ _); rw [arrV_size]; exact xin_in hi) rfl rfl hd fun H1 e z oq => ?_
          exact k H1 _ (G.put (xregA G F.lo he hk7) z oq (e.trans (congrArg some (xupd_q (x := none)))) hk7)
        next => cases e
      next => cases e
    next => cases e
  next => cases e)
theorem xclamp {z : Int32} (hz : ¬ z < 0) : z.toInt = (z.toNatClampNeg : Int) := by
  have hz0 : (0 : Int) ≤ z.toInt := by
    have := Int32.not_lt.mp hz
    simpa using Int32.le_iff_toInt_le.mp this
  show z.toInt = ((z.toInt.toNat : Nat) : Int)
  omega
theorem xG.puts {K : xK} {s : State} {h : xH} {H H1 : Heap} {locs L : List Loc} {a : Nat} {e : va_E} (G : xG K s h H locs) (ha : xb K ≤ a ∧ a < h.1) (z : H1.size = H.size) (oq : ∀ q : Nat, q ≠ a → H1[q]? = H[q]?) (hat : va_at K.1 vwC (a, xcv K.2.1 e) H1) (hgd : xgd e) (hL : ∀ q ∈ L, q.base = a) : xG K s (xset h a e) H1 (locs ++ L) := by
  obtain ⟨q1, q2, q3, q4, q5⟩ := G.put (i := 0) ha z oq hat hgd
  refine ⟨q1, q2, q3, ⟨q4.1, q4.2.1, fun q hq => ?_⟩, q5⟩
  rcases List.mem_append.mp hq with h1 | h1
  · exact q4.2.2 q (List.mem_append_left _ h1)
  · show xb K ≤ q.base
    rw [hL q h1]
    exact ha.1
theorem ok_acopy {i : Nat} (hd : decode bytes pc = .ok (.invokestatic i, 3)) (hl : Cond.methodLink y.cls i arraycopyName ∈ gw) (hnat : Cond.native arraycopyName ∈ gw) (hst : Cond.static arraycopyName ∈ gw) (hini : Cond.initialized "java/lang/System" ∈ gw) : XOK mi y bytes mL ret pc (q_acopy (pc + 3)) := xok2 (by
  intro la st h r e
  unfold q_acopy at e
  split at e
  next n dp a sp b r1 =>
    split at e
    next ka N g he =>
      split at e
      next kb M f hb =>
        split at e
        next hc =>
          cases e
          refine ⟨_, _, _, _, rfl, fun K p l e R s m args below meth c H locs cells slots Q ls F G L k => ?_⟩
          obtain ⟨h0, h0b, h1, h2, h3, h4, h5, h6, h7⟩ := hc
          subst h0
          subst h0b
          have hc0 : H[b]? = some (vp_cell (K.2.1 0) (M, .inl f)) := xatA G F.lo hb (by decide) 0 _ rfl
          have hc1 : H[a]? = some (vp_cell (K.2.1 0) (N, .inl g)) := xatA G F.lo he (by decide) 0 _ rfl
          intro T hT X
          obtain ⟨-, k0, hk0, cm0, hkk0⟩ := (F.tb.1.2 0 _ rfl).1 M (fun j => .int (f j))
          obtain ⟨-, k1, hk1, cm1, hkk1⟩ := (F.tb.1.2 0 _ rfl).1 N (fun j => .int (g j))
          obtain ⟨vm', X', step⟩ := X.arraycopy F.ex F.own (F.ts _ hl) (F.ts _ hnat) (F.ts _ hst) (F.ts _ hini) (src := b) (dst := a) (cs := vp_cell (K.2.1 0) (M, .inl f)) (cd := vp_cell (K.2.1 0) (N, .inl g)) (srcPos := sp) (destPos := dp) (n := n) (by rw [hT]; exact hc0) (by rw [hT]; exact hc1)
            (fun _ h => by cases h) (fun _ h => by cases h) (fun h => by cases h) (fun h => by cases h) hk0 hk1 hkk0 hkk1 (by simp [refKind]) (xnat h1) (xnat h2) (xnat h3)
            (by rw [xclamp (xnat h1), xclamp (xnat h3)]; show ¬ _ > ((arrV (K.2.1 0) M (fun j => .int (f j))).slots.size : Int); rw [arrV_size]; omega)
            (by rw [xclamp (xnat h2), xclamp (xnat h3)]; show ¬ _ > ((arrV (K.2.1 0) N (fun j => .int (g j))).slots.size : Int); rw [arrV_size]; omega)
            (fun vm₁ _ i hi => by
              have e : (vp_cell (K.2.1 0) (M, .inl f)).slots.getD (sp.toNatClampNeg + i) .null = .int (f (sp.toNatClampNeg + i)) := by
                show (arrV (K.2.1 0) M (fun j => .int (f j))).slots.getD _ _ = _
                rw [Array.getD_eq_getD_getElem?, arrV_read _ _ (by omega)]
                rfl
              refine ⟨?_, ?_⟩
              · rw [e]
                rfl
              · rw [e]
                exact trivial)
            (g := F0 m pc ls (.int n :: .int dp :: .ref a :: .int sp :: .ref b :: r1)) rfl (by rw [F.ml]; exact L.1) (rest := r1) rfl (by rw [F.by]; exact hd) F.fr (by
              have hv := xvs_cat h6 h7
              have hlc := F.lc
              have hnw : nativeFrameWords "java/lang/System" "arraycopy" 5 ≤ 40 := by decide +kernel
              show 2 * 0 + _ + _ ≤ _
              omega)
          have e1 : copied (vp_cell (K.2.1 0) (M, .inl f)) (vp_cell (K.2.1 0) (N, .inl g)) sp dp n = vp_cell (K.2.1 0) (N, .inl (va_cpy f g sp.toNatClampNeg dp.toNatClampNeg n.toNatClampNeg)) := va_copied (fun z => .int z) (K.2.1 0) (K.2.1 0) f g h4
          rw [e1] at X' step
          have hal : a < H.size := (Array.getElem?_eq_some_iff.mp hc1).1
          have hheap : ((T.setVm vm').setCell a (vp_cell (K.2.1 0) (N, .inl (va_cpy f g sp.toNatClampNeg dp.toNatClampNeg n.toNatClampNeg)))).heap = H.setIfInBounds a (vp_cell (K.2.1 0) (N, .inl (va_cpy f g sp.toNatClampNeg dp.toNatClampNeg n.toNatClampNeg))) := by rw [← hT]; rfl
          have oq : ∀ q : Nat, q ≠ a → (H.setIfInBounds a (vp_cell (K.2.1 0) (N, .inl (va_cpy f g sp.toNatClampNeg dp.toNatClampNeg n.toNatClampNeg))))[q]? = H[q]? := fun q hq => by simp [Array.getElem?_setIfInBounds, Ne.symm hq]
          obtain ⟨t, a1, b1⟩ := k _ _ (G.puts (xregA G F.lo he (by decide)) (by simp) oq (show (H.setIfInBounds a _)[a]? = some _ by simp [Array.getElem?_setIfInBounds, hal, xcv]) (show (0 : Nat) < 7 by decide) (fun q hq => by
            obtain ⟨z, -, hz⟩ := List.mem_map.mp hq
            rw [← hz])) _ hheap X'
          exact ⟨t, step t a1, b1⟩
        next => cases e
      next => cases e
    next => cases e
  next => cases e)
/-- what an instanceof says of the classes -/
def xisY (C : String) (cs : List Nat) : Prop := ∀ ci ∈ cs, ci < 13 ∧ ∃ r, vwC[ci]? = some r ∧ (r.1 = C ∨ Cond.castable r.1 C ∈ nwl)
def xisN (C : String) (cs : List Nat) : Prop := ∀ ci ∈ cs, ci < 13 ∧ ∃ r, vwC[ci]? = some r ∧ (r.1, C) ∈ ncl
theorem ok_inst {i : Nat} {C : String} {ys ns : List Nat} (hd : decode bytes pc = .ok (.instanceof i, 3)) (hl : Cond.classLink y.cls i C ∈ gw) (hy : xisY C ys) (hn : xisN C ns) : XOK mi y bytes mL ret pc (q_inst ys ns (pc + 3)) := xok0 (by
  intro la st h r e
  unfold q_inst at e
  split at e
  next a r1 =>
    split at e
    next ci fs he =>
      split at e
      next hc =>
        cases e
        refine ⟨_, _, rfl, fun K p l e R s m args below meth c H locs cells slots Q ls F G L _ _ k => ?_⟩
        obtain ⟨hlt, r, hr, hca⟩ := hy ci hc
        have hrc := va_recv F.tb.1 (xatC G F.lo he hlt) hr (q0 := 0) rfl
        rcases hca with rfl | hca
        · exact va_instS F.ex F.by F.own (F.ts _ hl) (F.tb.1.1 ci r hr).2 hrc hd k
        · exact va_instY F.ex F.by F.own (F.ts _ hl) (F.tb.2.1 _ hca) hrc hd k
      next =>
        split at e
        next hc =>
          cases e
          refine ⟨_, _, rfl, fun K p l e R s m args below meth c H locs cells slots Q ls F G L _ _ k => ?_⟩
          obtain ⟨hlt, r, hr, hca⟩ := hn ci hc
          have hrc := va_recv F.tb.1 (xatC G F.lo he hlt) hr (q0 := 0) rfl
          exact va_instNo F.ex F.by F.own (F.ts _ hl) (F.tb.2.2.2.1 _ hca) hrc hd k
        next => cases e
    next => cases e
  next => cases e)
theorem ok_ldcS {i j : Nat} {tx : String} (hd : decode bytes pc = .ok (.ldc i, 2)) (hs : xstr[j]? = some (y.cls, i, tx)) : XOK mi y bytes mL ret pc (q_gets (1 + j) (pc + 2)) := xok0 (by
  intro la st h r e
  cases e
  refine ⟨_, _, rfl, fun K p l e R s m args below meth c H locs cells slots Q ls F G L _ _ k => ?_⟩
  obtain ⟨a, h1, h2⟩ := F.tb.2.2.2.2 j _ hs
  rw [G.2.2.1, h1] at k
  exact va_ldcS F.ex F.by F.own h2 hd k)
theorem ok_getst7 {i : Nat} (hd : decode bytes pc = .ok (.getstatic i, 3)) (hl : Cond.fieldLink y.cls i "java/lang/String" "COMPACT_STRINGS" "Z" ∈ gw) : XOK mi y bytes mL ret pc (q_gets 7 (pc + 3)) := xok0 (by
  intro la st h r e
  cases e
  refine ⟨_, _, rfl, fun K p l e R s m args below meth c H locs cells slots Q ls F G L _ _ k => ?_⟩
  rw [G.2.2.1] at k
  exact va_gets F.ex F.by F.lo.2.1.1 G.2.2.2.1 F.own (F.ts _ hl) (fun x hx => hx) hd k)
theorem ok_getst0 {i : Nat} (hd : decode bytes pc = .ok (.getstatic i, 3)) (hl : Cond.fieldLink y.cls i "jdk/internal/util/Preconditions" "SIOOBE_FORMATTER" "Ljava/util/function/BiFunction;" ∈ gw) : XOK mi y bytes mL ret pc (q_gets 0 (pc + 3)) := xok0 (by
  intro la st h r e
  cases e
  refine ⟨_, _, rfl, fun K p l e R s m args below meth c H locs cells slots Q ls F G L _ _ k => ?_⟩
  rw [G.2.2.1] at k
  exact va_gets F.ex F.by F.lo.2.2.1.1 G.2.2.2.1 F.own (F.ts _ hl) (fun x hx => hx) hd k)
theorem ok_getS0 {i : Nat} (hd : decode bytes pc = .ok (.getfield i, 3)) (hl : Cond.fieldLink y.cls i "java/lang/String" "value" "[B" ∈ gw) : XOK mi y bytes mL ret pc (q_getS 101 (pc + 3)) := xok0 (by
  intro la st h r e
  unfold q_getS at e
  split at e
  next a r1 =>
    split at e
    next hc =>
      cases e
      refine ⟨_, _, rfl, fun K p l e R s m args below meth c H locs cells slots Q ls F G L _ _ k1 => ?_⟩
      exact vk_getf F.ex F.by (xstg F G hc).2.1 G.2.2.2.1 F.own (F.ts _ hl) (fun x hx => hx) hd k1
    next => cases e
  next => cases e)
theorem ok_getS1 {i : Nat} (hd : decode bytes pc = .ok (.getfield i, 3)) (hl : Cond.fieldLink y.cls i "java/lang/String" "coder" "B" ∈ gw) : XOK mi y bytes mL ret pc (q_getS 102 (pc + 3)) := xok0 (by
  intro la st h r e
  unfold q_getS at e
  split at e
  next a r1 =>
    split at e
    next hc =>
      cases e
      refine ⟨_, _, rfl, fun K p l e R s m args below meth c H locs cells slots Q ls F G L _ _ k1 => ?_⟩
      exact vk_getf F.ex F.by (xstg F G hc).2.2 G.2.2.2.1 F.own (F.ts _ hl) (fun x hx => hx) hd k1
    next => cases e
  next => cases e)
theorem ok_objinit {i : Nat} (hd : decode bytes pc = .ok (.invokespecial i, 3)) (hl : Cond.methodLink y.cls i Lib.objectInit ∈ gw) (hin : Cond.instanceMethod Lib.objectInit ∈ gw) (hco : Cond.code Lib.objectInit ⟨#[0xb1]⟩ 1 none ∈ gw) : XOK mi y bytes mL ret pc (q_objinit (pc + 3)) := xok0 (by
  intro la st h r e
  unfold q_objinit at e
  split at e
  next a r1 =>
    split at e
    next hc =>
      cases e
      refine ⟨_, _, rfl, fun K p l e R s m args below meth c H locs cells slots Q ls F G L _ _ k => ?_⟩
      refine W.objInit F.ex F.by F.own (F.ts _ hl) (F.ts _ hin) (F.ts _ hco) rfl (by rw [F.ml]; exact L.1) rfl hd F.fr ?_ k
      have hv := xvs_cat hc.1 hc.2
      have hlc := F.lc
      show 2 * 0 + _ + _ ≤ _
      omega
    next => cases e
  next => cases e)
theorem ok_ret (hr : ret = none) (hd : decode bytes pc = .ok (.return_, 1)) : XOK mi y bytes mL ret pc q_ret := by
  intro la st h r e
  unfold q_ret at e
  split at e
  next =>
    cases e
    intro K p l e R s m args below meth c H locs cells slots Qc free ls F hq hf
    exact W.vret F.ex F.by (F.rt.trans hr) hq hf hd F.lk
  next => cases e
theorem ok_iret (hr : ret = some .int) (hd : decode bytes pc = .ok (.ireturn, 1)) : XOK mi y bytes mL ret pc q_iret := by
  intro la st h r e
  unfold q_iret at e
  split at e
  next =>
    cases e
    intro K p l e R s m args below meth c H locs cells slots Qc free ls F hq hf
    exact W.iret F.ex F.by (F.rt.trans hr) hq hf hd F.lk
  next => cases e
theorem ok_zret {ty : FieldType} (hr : ret = some ty) (hd : decode bytes pc = .ok (.ireturn, 1)) : XOK mi y bytes mL ret pc (q_zret ty) := by
  intro la st h r e
  unfold q_zret at e
  split at e
  next =>
    split at e
    next hn =>
      cases e
      intro K p l e R s m args below meth c H locs cells slots Qc free ls F hq hf
      exact W.zret F.ex F.by (F.rt.trans hr) hn hq hf hd F.lk
    next => cases e
  next => cases e
theorem ok_aret {ty : FieldType} (hr : ret = some ty) (hty : (∃ n, ty = .object n) ∨ ∃ t, ty = .array t) (hd : decode bytes pc = .ok (.areturn, 1)) : XOK mi y bytes mL ret pc q_aret := by
  intro la st h r e
  unfold q_aret at e
  split at e
  next =>
    cases e
    intro K p l e R s m args below meth c H locs cells slots Qc free ls F hq hf
    exact W.aret F.ex F.by (F.rt.trans hr) hty (Or.inr ⟨_, rfl⟩) hq hf hd F.lk
  next =>
    cases e
    intro K p l e R s m args below meth c H locs cells slots Qc free ls F hq hf
    exact W.aret F.ex F.by (F.rt.trans hr) hty (Or.inl rfl) hq hf hd F.lk
  next => cases e
end XO6
