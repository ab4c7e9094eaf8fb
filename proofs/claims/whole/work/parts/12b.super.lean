/-! ===== 12b: super.f() of a method that the superclass inherits; i2b ===== -/
def q_i2b (n : Nat) : xA := fun ls st h => match st with
  | .int x :: r => xgo n ls (.int x.toInt8.toInt32 :: r) h
  | _ => none
def q_max (n : Nat) : xA := fun ls st h => match st with
  | .int y :: .int x :: r => if xvs r = true ∧ r.length ≤ 8 then xgo n ls (.int (if x < y then y else x) :: r) h else none
  | _ => none
def q_min (n : Nat) : xA := fun ls st h => match st with
  | .int y :: .int x :: r => if xvs r = true ∧ r.length ≤ 8 then xgo n ls (.int (if y < x then y else x) :: r) h else none
  | _ => none
section XO8
variable {mi : Nat → xM} {y : MethodName} {bytes : ByteArray} {mL : Nat} {ret : Option FieldType} {pc : Nat}
theorem ok_i2b (hd : decode bytes pc = .ok (.i2b, 1)) : XOK mi y bytes mL ret pc (q_i2b (pc + 1)) := xok0 (by
  intro la st h r e
  unfold q_i2b at e
  split at e
  next =>
    cases e
    exact ⟨_, _, rfl, fun K p l e R s m args below meth c H locs cells slots Q ls F G L _ _ k => lv_i2b F.ex F.by hd rfl k⟩
  next => cases e)
theorem xsubc {vm : Vm} {c t : ClassId} {k : Class} (hk : vm.classes[c]? = some k) (hs : k.super = some t) : vm.isSubclass c t = true := by
  have hz : c < vm.classes.size := (Array.getElem?_eq_some_iff.mp hk).1
  unfold Vm.isSubclass
  obtain ⟨n, hn⟩ : ∃ n, vm.classes.size = n + 1 := ⟨vm.classes.size - 1, (Nat.succ_pred_eq_of_pos (Nat.lt_of_le_of_lt (Nat.zero_le _) hz)).symm⟩
  rw [hn]
  simp [Vm.isSubclassAux, hk, hs]
theorem vr_S2 {ci k i : Nat} {x : xM} {z : MethodName} {owner : String} (hd : decode bytes pc = .ok (.invokespecial i, 3)) (hci : ci < 13) (hm : mOk x k) (hkL : k + 1 ≤ x.2.2.1) (hyx : x.1 = ⟨owner, z.name, z.desc⟩) (hl : Cond.methodLink y.cls i z ∈ gw) (hsm : Cond.sameMethod z.cls owner z.name z.desc ∈ gw) (hsu : Cond.superclass y.cls z.cls ∈ gw) (hsu2 : Cond.superclass z.cls owner ∈ gw) (hin : Cond.instanceMethod x.1 ∈ gw) (hnm : z.name ≠ "<init>") : VR y bytes mL ret pc ci x k := by
  refine ⟨hm, hkL, ?_⟩
  intro K p l e R s m args below meth c H locs cells slots ls rm Pc Qc mc ms free h a fs as rest F G hL he hk hW hM hrc hrs hfr hlo hfb hpre hc hsl
  obtain ⟨r, ty0, hr, -⟩ := xcls hci
  have hini := F.ts _ hm.2.1
  have hcode := F.ts _ hm.1
  have hK : Back l R p e below s args x.1 3 8 (PreOf R mc ms Pc) (PostOf Qc mc ms free) := back_of (bytes := x.2.1) (maxL := x.2.2.1) (ret := x.2.2.2) hM hfb hrc hrs hfr hlo (pay_in F.ts (gw_goodIn (xws_in hm))) List.mem_cons_self (fun a' U hW => word_at hW (Or.inl (by first | rfl | simp [Cond.onTables, Cond.keeps, Cond.steady])) hini)
  obtain ⟨cellB, hcB, hoB, hclB⟩ := xrecv F G he
  obtain ⟨kB, hkB, -⟩ := Vm.findClass_spec hclB
  obtain ⟨mk, methM, hnamed, hmethM, hstM, habM⟩ := Cond.instanceMethod_spec (F.ts _ hin)
  obtain ⟨methM', cM, hmethM', -, -, -, -, -, -, hsigM⟩ := Cond.code_spec hnamed hcode
  cases hmethM.symm.trans hmethM'
  obtain ⟨ps, dk, kp, hps, hdk, hkp, hsuper, -, -, hnid⟩ := Cond.superclass_spec F.own (F.ts _ hsu)
  obtain ⟨ps2, dk2, kp2, hps2, hdk2, hkp2, hsuper2, -, -, -⟩ := Cond.superclass_spec hps (F.ts _ hsu2)
  have hn : s.methodNamed? ⟨owner, z.name, z.desc⟩ = some mk := by rw [← hyx]; exact hnamed
  have hpm : ps2 = mk.cls := Option.some.inj (hps2.symm.trans (findClass_of_methodNamed hn))
  have hsub : s.vm.isSubclass ps mk.cls = true := by rw [← hpm]; exact xsubc hdk2 hsuper2
  have hlen : as.length = methM.sig.parameters.length := by
    have h2 := hm.2.2.2.1
    rw [hsigM] at h2
    rw [hk]
    exact (Option.some.inj h2).symm
  intro T hT X
  obtain ⟨vm₁, X₁, hstep₁⟩ := X.invokespecialUp F.ex F.own (F.ts _ hl) (F.ts _ hsm) hn hmethM hstM habM hnm hdk hnid hps hsuper hsub (a := a) (cell := cellB) (by rw [hT]; exact hcB)
    (fun z h => by rw [h] at hoB; cases hoB) hkB (g := F0 m pc ls (as.reverse ++ .ref a :: rest)) rfl (argsL := as) (rest := rest) hlen rfl (by rw [F.by]; exact hd)
  obtain ⟨v, ⟨U', l2, c2, s2⟩, X', ⟨g', mk', t, L, e1, e2, hq, h1, hL', h2, h3⟩, hsteps⟩ := hK m meth c ⟨T.setVm vm₁, locs, cells, slots⟩ { F0 m pc ls (as.reverse ++ .ref a :: rest) with stack := rest } (.invokespecial i) mk (Value.ref a :: as).toArray X₁ rfl (by show ls.size = _; rw [hL, F.ml]) (by rw [F.by]; exact hd) (by show 2 * 0 + (rest.map fun v => v.category).sum ≤ 8; omega) (X₁.named hnamed) ⟨hc, hsl, hpre (T.setVm vm₁) hT X₁.warmed⟩
  dsimp only [Pt.U, Pt.locs, Pt.cells, Pt.slots] at X' e1 e2 h1 h2 h3 hsteps
  subst h1; subst h2; subst h3
  exact ⟨v, (T.setVm vm₁).calling g' mk' (Value.ref a :: as).toArray, t, U', L, hT, X', hL', e1, e2, hq, fun target h => hstep₁ _ (by rw [doInvoke_state]; exact hsteps.trans h)⟩
theorem ok_max {i : Nat} (hd : decode bytes pc = .ok (.invokestatic i, 3)) (hl : Cond.methodLink y.cls i Lib.Math.max.name ∈ gw) (hst : Cond.static Lib.Math.max.name ∈ gw) (hini : Cond.initialized "java/lang/Math" ∈ gw) (hco : Cond.code Lib.Math.max.name Lib.Math.max.code 2 (some .int) ∈ gw) : XOK mi y bytes mL ret pc (q_max (pc + 3)) := xok0 (by
  intro la st h r e
  unfold q_max at e
  split at e
  next =>
    split at e
    next hc =>
      cases e
      refine ⟨_, _, rfl, fun K p l e R s m args below meth c H locs cells slots Q ls F G L hcl hsl k => ?_⟩
      have hv := xvs_cat hc.1 hc.2
      have hlc := F.lc
      exact va_mmax F.ex F.by (by rw [F.ml]; exact L.1.symm) F.own (F.ts _ hl) (F.ts _ hst) (F.ts _ hini) (F.ts _ hco) F.fr (by omega) hcl hsl hd k
    next => cases e
  next => cases e)
theorem ok_min {i : Nat} (hd : decode bytes pc = .ok (.invokestatic i, 3)) (hl : Cond.methodLink y.cls i Lib.Math.min.name ∈ gw) (hst : Cond.static Lib.Math.min.name ∈ gw) (hini : Cond.initialized "java/lang/Math" ∈ gw) (hco : Cond.code Lib.Math.min.name Lib.Math.min.code 2 (some .int) ∈ gw) : XOK mi y bytes mL ret pc (q_min (pc + 3)) := xok0 (by
  intro la st h r e
  unfold q_min at e
  split at e
  next =>
    split at e
    next hc =>
      cases e
      refine ⟨_, _, rfl, fun K p l e R s m args below meth c H locs cells slots Q ls F G L hcl hsl k => ?_⟩
      have hv := xvs_cat hc.1 hc.2
      have hlc := F.lc
      exact va_mmin F.ex F.by (by rw [F.ml]; exact L.1.symm) F.own (F.ts _ hl) (F.ts _ hst) (F.ts _ hini) (F.ts _ hco) F.fr (by omega) hcl hsl hd k
    next => cases e
  next => cases e)
end XO8
