/-! ===== 11: calls ===== -/
/-- the class of a number -/
def xnm (ci : Nat) : String := match vwC[ci]? with
  | some r => r.1
  | none => "java/lang/String"
theorem mem_app3 {a b c : Cond} {ws : List Cond} (ha : a ∈ gw) (hb : b ∈ gw) (hc : c ∈ gw) (hw : ∀ w ∈ ws, w ∈ gw) : ∀ w ∈ ([a, b, c] : List Cond) ++ ws, w ∈ gw := fun w h => by
  rcases List.mem_append.mp h with h | h
  · simp only [List.mem_cons, List.not_mem_nil, or_false] at h
    rcases h with rfl | rfl | rfl
    · exact ha
    · exact hb
    · exact hc
  · exact hw w h
theorem gw_goodIn {ws : List Cond} (h : ∀ w ∈ ws, w ∈ gw) : GoodIn gw ws := fun w hw => ⟨h w hw, gw_good (h w hw)⟩
theorem xws_in {x : xM} {k : Nat} (h : mOk x k) : ∀ w ∈ xws x, w ∈ gw := fun w hw => by
  rcases List.mem_cons.mp hw with rfl | hw
  · exact h.1
  · exact hw
theorem mem_all {L ws : List Cond} (hL : ∀ w ∈ L, w ∈ gw) (hw : ∀ w ∈ ws, w ∈ gw) : ∀ w ∈ L ++ ws, w ∈ gw := fun w h => by
  rcases List.mem_append.mp h with h | h
  · exact hL w h
  · exact hw w h
section XO7
variable {mi : Nat → xM} {y : MethodName} {bytes : ByteArray} {mL : Nat} {ret : Option FieldType} {pc : Nat}
/-- a static call -/
theorem xcallS {m' k n : Nat} {as rest : List Value} {la : List Slot} {h : xH} {st : List Value} (hn : n = pc + 3) (hst : st = as.reverse ++ rest) (hx : xvs as = true ∧ xvs rest = true ∧ rest.length ≤ 8) {i : Nat} (hd : decode bytes pc = .ok (.invokestatic i, 3)) (hm : mOk (mi m') k) (hk : as.length = k) (hkL : k ≤ (mi m').2.2.1) (hl : Cond.methodLink y.cls i (mi m').1 ∈ gw) (hs : Cond.static (mi m').1 ∈ gw) : xOk mi y bytes mL ret pc la st h (.inr (.inr (m', as, n, rest))) := by
  subst hst
  refine ⟨hn, hx.1, ⟨k, hm⟩, by rw [hk]; exact hkL, ?_⟩
  intro K p l e R s m args below meth c H locs cells slots ls rm Pc Qc mc ms free F G L hM hrc hrs hfr hlo hfb hpre hc hsl
  exact va_runS (As := as) ⟨F.ex, F.by, F.ml, F.own, F.ts⟩ hM (va_cwS (ws' := gw) k F.ts (gw_goodIn (mem_all (L := [_, _, _]) (fun w hw => by
    simp only [List.mem_cons, List.not_mem_nil, or_false] at hw
    rcases hw with rfl | rfl | rfl
    · exact hl
    · exact hs
    · exact hm.2.1) (xws_in hm))) rfl hrc hrs ⟨hm.2.2.1.1, hm.2.2.1.2, hm.2.2.2.1⟩ ⟨hfr, hlo⟩) ⟨hfb, hpre⟩ rfl hk L.1 rfl (by show 2 * 0 + _ ≤ 8; have := xvs_cat hx.2.1 hx.2.2; omega) hd ⟨hc, hsl⟩
/-- a static call of a nest mate's method -/
theorem xcallSN {m' k n : Nat} {as rest : List Value} {la : List Slot} {h : xH} {st : List Value} (hn : n = pc + 3) (hst : st = as.reverse ++ rest) (hx : xvs as = true ∧ xvs rest = true ∧ rest.length ≤ 8) {i : Nat} {host : String} (hd : decode bytes pc = .ok (.invokestatic i, 3)) (hm : mOk (mi m') k) (hk : as.length = k) (hkL : k ≤ (mi m').2.2.1) (hl : Cond.methodLinkNest y.cls i (mi m').1 host ∈ nwl) (hs : Cond.static (mi m').1 ∈ gw) : xOk mi y bytes mL ret pc la st h (.inr (.inr (m', as, n, rest))) := by
  subst hst
  refine ⟨hn, hx.1, ⟨k, hm⟩, by rw [hk]; exact hkL, ?_⟩
  intro K p l e R s m args below meth c H locs cells slots ls rm Pc Qc mc ms free F G L hM hrc hrs hfr hlo hfb hpre hc hsl
  exact va_runSN (As := as) ⟨F.ex, F.by, F.ml, F.own, F.ts⟩ hM ⟨va_cnB (ws' := gw) k F.ts (gw_goodIn (xws_in hm)) rfl hrc hrs (F.tb.2.1 _ hl) (F.ts _ hm.2.1) ⟨hm.2.2.1.1, hm.2.2.1.2, hm.2.2.2.1⟩ ⟨hfr, hlo⟩, F.ts _ hs, trivial⟩ ⟨hfb, hpre⟩ rfl hk L.1 rfl (by show 2 * 0 + _ ≤ 8; have := xvs_cat hx.2.1 hx.2.2; omega) hd ⟨hc, hsl⟩
/-- a static call's words, or a nest mate's -/
def xst (y : MethodName) (bytes : ByteArray) (pc : Nat) (x : xM) (k : Nat) : Prop := ∃ i, decode bytes pc = .ok (.invokestatic i, 3) ∧ mOk x k ∧ k ≤ x.2.2.1 ∧ Cond.static x.1 ∈ gw ∧ (Cond.methodLink y.cls i x.1 ∈ gw ∨ ∃ host, Cond.methodLinkNest y.cls i x.1 host ∈ nwl)
theorem xcallT {m' k n : Nat} {as rest : List Value} {la : List Slot} {h : xH} {st : List Value} {r : xR} (hw : xst y bytes pc (mi m') k) (hn : n = pc + 3) (hst : st = as.reverse ++ rest) (hk : as.length = k) (e : xcall m' as n rest = some r) : xOk mi y bytes mL ret pc la st h r := by
  unfold xcall at e
  split at e
  next hx =>
    cases e
    obtain ⟨i, hd, hm, hkL, hs, hl | ⟨host, hl⟩⟩ := hw
    · exact xcallS hn hst hx hd hm hk hkL hl hs
    · exact xcallSN hn hst hx hd hm hk hkL hl hs
  next => cases e
theorem ok_s1 {m' : Nat} (hw : xst y bytes pc (mi m') 1) : XOK mi y bytes mL ret pc (q_s1 m' (pc + 3)) := by
  intro la st h r e
  unfold q_s1 at e
  split at e
  next => exact xcallT hw rfl rfl rfl e
  next => cases e
theorem ok_s2 {m' : Nat} (hw : xst y bytes pc (mi m') 2) : XOK mi y bytes mL ret pc (q_s2 m' (pc + 3)) := by
  intro la st h r e
  unfold q_s2 at e
  split at e
  next => exact xcallT hw rfl rfl rfl e
  next => cases e
theorem ok_s3 {m' : Nat} (hw : xst y bytes pc (mi m') 3) : XOK mi y bytes mL ret pc (q_s3 m' (pc + 3)) := by
  intro la st h r e
  unfold q_s3 at e
  split at e
  next => exact xcallT hw rfl rfl rfl e
  next => cases e
theorem ok_s4 {m' : Nat} (hw : xst y bytes pc (mi m') 4) : XOK mi y bytes mL ret pc (q_s4 m' (pc + 3)) := by
  intro la st h r e
  unfold q_s4 at e
  split at e
  next => exact xcallT hw rfl rfl rfl e
  next => cases e
theorem ok_s5 {m' : Nat} (hw : xst y bytes pc (mi m') 5) : XOK mi y bytes mL ret pc (q_s5 m' (pc + 3)) := by
  intro la st h r e
  unfold q_s5 at e
  split at e
  next => exact xcallT hw rfl rfl rfl e
  next => cases e
/-- a call with a receiver of class ci comes to the method x, with k arguments -/
def VR (y : MethodName) (bytes : ByteArray) (mL : Nat) (ret : Option FieldType) (pc : Nat) (ci : Nat) (x : xM) (k : Nat) : Prop := mOk x k ∧ k + 1 ≤ x.2.2.1 ∧ ∀ (K : xK) (p : Program) (l : Launch) (e : Env) (R : Room) (s : State) (m : MethodId) (args : Array Value) (below : List Frame) (meth : Method) (c : Code) (H : Heap) (locs : List Loc) (cells slots : Nat) (ls : Array Slot) (rm : Room) (Pc : Array Value → State → Prop) (Qc : Array Value → State → Outcome → State → Prop) (mc ms : Nat) (free : Addr → Prop) (h : xH) (a : Nat) (fs : List Value) (as rest : List Value),
  xF K y bytes mL ret p R s m args meth c → xG K s h H locs → ls.size = mL → (h.2.2.1 a = .inr (ci, fs) ∧ ci < 13 ∨ ci = 20 ∧ h.2.2.2 (100 + 3 * a) = .int 20) → as.length = k → (rest.map fun v => v.category).sum ≤ 8 → Met l x.1 (xws x) rm Pc Qc mc ms free → rm.cells = mc → rm.slots = ms → rm.frames + 1 ≤ R.frames → 8 + (x.2.2.1 + 11) + rm.locals ≤ R.locals → FrameBlind Pc → (∀ U : State, U.heap = H → s.WarmedH U.vm → Pc (Value.ref a :: as).toArray U) → cells + mc ≤ R.cells → slots + ms ≤ R.slots →
  va_Run p l e R s m args below meth c H locs cells slots mc ms (F0 m pc ls (as.reverse ++ .ref a :: rest)) rest (Qc (Value.ref a :: as).toArray) free
theorem xrecv {K : xK} {p : Program} {R : Room} {s : State} {m : MethodId} {args : Array Value} {meth : Method} {c : Code} {h : xH} {H : Heap} {locs : List Loc} {a ci : Nat} {fs : List Value} (F : xF K y bytes mL ret p R s m args meth c) (G : xG K s h H locs) (he : h.2.2.1 a = .inr (ci, fs) ∧ ci < 13 ∨ ci = 20 ∧ h.2.2.2 (100 + 3 * a) = .int 20) : ∃ cell : Cell, H[a]? = some cell ∧ cell.vm.isStatics = false ∧ s.vm.findClass (xnm ci) = some cell.cls := by
  rcases he with ⟨he, hci⟩ | ⟨rfl, he⟩
  · obtain ⟨r, ty0, hr, -⟩ := xcls hci
    have := va_recv F.tb.1 (xatC G F.lo he hci) hr (q0 := 0) rfl
    unfold xnm
    rw [hr]
    exact this
  · obtain ⟨hO, -⟩ := xstg F G he
    obtain ⟨cell, h1, h2, h3, -⟩ := hO
    exact ⟨cell, h1, h2, h3⟩
theorem vr_V {ci k i : Nat} {x : xM} (hd : decode bytes pc = .ok (.invokevirtual i, 3)) (hm : mOk x k) (hkL : k + 1 ≤ x.2.2.1) (hC : x.1.cls = xnm ci) (hl : Cond.methodLink y.cls i x.1 ∈ gw) (hin : Cond.instanceMethod x.1 ∈ gw) (hse : Cond.selects (xnm ci) x.1 x.1 ∈ gw) : VR y bytes mL ret pc ci x k := by
  refine ⟨hm, hkL, ?_⟩
  intro K p l e R s m args below meth c H locs cells slots ls rm Pc Qc mc ms free h a fs as rest F G hL he hk hW hM hrc hrs hfr hlo hfb hpre hc hsl
  exact va_runV (As := as) ⟨F.ex, F.by, F.ml, F.own, F.ts⟩ hM (cwV (ws' := gw) (C := xnm ci) k F.ts (gw_goodIn (mem_all (L := [_, _, _, _]) (fun w hw => by
    simp only [List.mem_cons, List.not_mem_nil, or_false] at hw
    rcases hw with rfl | rfl | rfl | rfl
    · exact hl
    · exact hin
    · exact hse
    · rw [← hC]; exact hm.2.1) (xws_in hm))) rfl hrc hrs ⟨hC, hm.2.2.1.1, hm.2.2.1.2, hm.2.2.2.1⟩ ⟨hfr, hlo⟩) ⟨hfb, xrecv F G he, hpre⟩ rfl hk hL rfl (by show 2 * 0 + _ ≤ 8; omega) hd ⟨hc, hsl⟩
/-- inherited -/
theorem vr_U {ci k i : Nat} {x : xM} {z : MethodName} {owner : String} (hd : decode bytes pc = .ok (.invokevirtual i, 3)) (hm : mOk x k) (hkL : k + 1 ≤ x.2.2.1) (hyx : x.1 = ⟨owner, z.name, z.desc⟩) (hl : Cond.methodLink y.cls i z ∈ gw) (hsm : Cond.sameMethod z.cls owner z.name z.desc ∈ gw) (hin : Cond.instanceMethod x.1 ∈ gw) (hse : Cond.selects (xnm ci) z x.1 ∈ gw) (ho : owner ≠ "java/lang/invoke/MethodHandle" ∧ owner ≠ "java/lang/invoke/VarHandle" ∧ (parseMethodDescriptor z.desc).map (fun d => d.parameters.length) = some k) : VR y bytes mL ret pc ci x k := by
  refine ⟨hm, hkL, ?_⟩
  intro K p l e R s m args below meth c H locs cells slots ls rm Pc Qc mc ms free h a fs as rest F G hL he hk hW hM hrc hrs hfr hlo hfb hpre hc hsl
  exact va_runU (As := as) (x := z) ⟨F.ex, F.by, F.ml, F.own, F.ts⟩ hM (va_cwU (ws' := gw) (C := xnm ci) (owner := owner) k F.ts (gw_goodIn (mem_all (L := [_, _, _, _, _]) (fun w hw => by
    simp only [List.mem_cons, List.not_mem_nil, or_false] at hw
    rcases hw with rfl | rfl | rfl | rfl | rfl
    · exact hl
    · exact hsm
    · exact hse
    · exact hin
    · exact hm.2.1) (xws_in hm))) rfl hrc hrs hyx ho ⟨hfr, hlo⟩) ⟨hfb, xrecv F G he, hpre⟩ rfl hk hL rfl (by show 2 * 0 + _ ≤ 8; omega) hd ⟨hc, hsl⟩
/-- overriding -/
theorem vr_O {ci k i : Nat} {x x0 : xM} {z : MethodName} {owner : String} (hd : decode bytes pc = .ok (.invokevirtual i, 3)) (hm : mOk x k) (hkL : k + 1 ≤ x.2.2.1) (hl : Cond.methodLink y.cls i z ∈ gw) (hsm : Cond.sameMethod z.cls owner z.name z.desc ∈ gw) (hin0 : Cond.instanceMethod ⟨owner, z.name, z.desc⟩ ∈ gw) (hin : Cond.instanceMethod x.1 ∈ gw) (hse : Cond.selects (xnm ci) z x.1 ∈ gw) (hx0 : x0.1 = ⟨owner, z.name, z.desc⟩) (hc0 : Cond.code x0.1 x0.2.1 x0.2.2.1 x0.2.2.2 ∈ gw) (ho : owner ≠ "java/lang/invoke/MethodHandle" ∧ owner ≠ "java/lang/invoke/VarHandle" ∧ (parseMethodDescriptor z.desc).map (fun d => d.parameters.length) = some k) : VR y bytes mL ret pc ci x k := by
  refine ⟨hm, hkL, ?_⟩
  intro K p l e R s m args below meth c H locs cells slots ls rm Pc Qc mc ms free h a fs as rest F G hL he hk hW hM hrc hrs hfr hlo hfb hpre hc hsl
  exact va_runU (As := as) (x := z) ⟨F.ex, F.by, F.ml, F.own, F.ts⟩ hM (va_cwO (ws' := gw) (C := xnm ci) (owner := owner) k F.ts (gw_goodIn (mem_all (L := [_, _, _, _, _, _]) (fun w hw => by
    simp only [List.mem_cons, List.not_mem_nil, or_false] at hw
    rcases hw with rfl | rfl | rfl | rfl | rfl | rfl
    · exact hl
    · exact hsm
    · exact hin0
    · exact hse
    · exact hin
    · exact hm.2.1) (xws_in hm))) rfl hrc hrs (hx0 ▸ hc0) ho ⟨hfr, hlo⟩) ⟨hfb, xrecv F G he, hpre⟩ rfl hk hL rfl (by show 2 * 0 + _ ≤ 8; omega) hd ⟨hc, hsl⟩
/-- a constructor -/
theorem vr_I {ci k i : Nat} {x : xM} (hd : decode bytes pc = .ok (.invokespecial i, 3)) (hm : mOk x k) (hkL : k + 1 ≤ x.2.2.1) (hr0 : x.2.2.2 = none) (hl : Cond.methodLink y.cls i x.1 ∈ gw) (hin : Cond.instanceMethod x.1 ∈ gw) (hnm : x.1.name = "<init>") : VR y bytes mL ret pc ci x k := by
  refine ⟨hm, hkL, ?_⟩
  intro K p l e R s m args below meth c H locs cells slots ls rm Pc Qc mc ms free h a fs as rest F G hL he hk hW hM hrc hrs hfr hlo hfb hpre hc hsl
  obtain ⟨x1, x2, x3, x4⟩ := x
  cases hr0
  exact va_runI (As := as) ⟨F.ex, F.by, F.ml, F.own, F.ts⟩ hM (cwI (ws' := gw) (bytes := x2) (maxL := x3) k F.ts (gw_goodIn (xws_in hm)) rfl hrc hrs (F.ts _ hm.2.1) (F.ts _ hl) (F.ts _ hin) hnm ⟨hm.2.2.1.1, hm.2.2.1.2, hm.2.2.2.1⟩ ⟨hfr, hlo⟩) ⟨hfb, hpre⟩ rfl hk hL rfl (by show 2 * 0 + _ ≤ 8; omega) hd ⟨hc, hsl⟩
/-- a nest mate's constructor -/
theorem vr_N {ci k i : Nat} {x : xM} {host : String} (hd : decode bytes pc = .ok (.invokespecial i, 3)) (hm : mOk x k) (hkL : k + 1 ≤ x.2.2.1) (hr0 : x.2.2.2 = none) (hl : Cond.methodLinkNest y.cls i x.1 host ∈ nwl) (hin : Cond.instanceMethod x.1 ∈ gw) (hnm : x.1.name = "<init>") : VR y bytes mL ret pc ci x k := by
  refine ⟨hm, hkL, ?_⟩
  intro K p l e R s m args below meth c H locs cells slots ls rm Pc Qc mc ms free h a fs as rest F G hL he hk hW hM hrc hrs hfr hlo hfb hpre hc hsl
  obtain ⟨x1, x2, x3, x4⟩ := x
  cases hr0
  exact va_runIN (As := as) ⟨F.ex, F.by, F.ml, F.own, F.ts⟩ hM ⟨va_cnB (ws' := gw) (bytes := x2) (maxL := x3) k F.ts (gw_goodIn (xws_in hm)) rfl hrc hrs (F.tb.2.1 _ hl) (F.ts _ hm.2.1) ⟨hm.2.2.1.1, hm.2.2.1.2, hm.2.2.2.1⟩ ⟨hfr, hlo⟩, hnm, F.ts _ hin⟩ ⟨hfb, hpre⟩ rfl hk hL rfl (by show 2 * 0 + _ ≤ 8; omega) hd ⟨hc, hsl⟩
/-- super.f() -/
theorem vr_S {ci k i : Nat} {x : xM} (hd : decode bytes pc = .ok (.invokespecial i, 3)) (hci : ci < 13) (hm : mOk x k) (hkL : k + 1 ≤ x.2.2.1) (hl : Cond.methodLink y.cls i x.1 ∈ gw) (hsm : Cond.sameMethod x.1.cls x.1.cls x.1.name x.1.desc ∈ gw) (hsu : Cond.superclass y.cls x.1.cls ∈ gw) (hin : Cond.instanceMethod x.1 ∈ gw) (hnm : x.1.name ≠ "<init>") : VR y bytes mL ret pc ci x k := by
  refine ⟨hm, hkL, ?_⟩
  intro K p l e R s m args below meth c H locs cells slots ls rm Pc Qc mc ms free h a fs as rest F G hL he hk hW hM hrc hrs hfr hlo hfb hpre hc hsl
  obtain ⟨r, ty0, hr, -⟩ := xcls hci
  have hnc : xnm ci = r.1 := by unfold xnm; rw [hr]
  exact va_runSU (As := as) (C := xnm ci) (by rw [hnc]; exact (F.tb.1.1 ci r hr).2) ⟨F.ex, F.by, F.ml, F.own, F.ts⟩ hM (va_cwSU (ws' := gw) k F.ts (gw_goodIn (mem_all (L := [_, _, _, _, _]) (fun w hw => by
    simp only [List.mem_cons, List.not_mem_nil, or_false] at hw
    rcases hw with rfl | rfl | rfl | rfl | rfl
    · exact hl
    · exact hsm
    · exact hsu
    · exact hin
    · exact hm.2.1) (xws_in hm))) rfl hrc hrs ⟨hnm, hm.2.2.2.1⟩ ⟨hfr, hlo⟩) ⟨hfb, xrecv F G he, hpre⟩ rfl hk hL rfl (by show 2 * 0 + _ ≤ 8; omega) hd ⟨hc, hsl⟩
theorem xvm_mem {c m : Nat} : ∀ {tb : List (Nat × Nat)}, xvm c tb = some m → (c, m) ∈ tb := by
  intro tb
  induction tb with
  | nil => intro h; cases h
  | cons q l ih =>
    obtain ⟨k, m0⟩ := q
    intro h
    unfold xvm at h
    split at h
    next e => cases h; rw [e]; exact List.mem_cons_self
    next => exact List.mem_cons_of_mem _ (ih h)
theorem xcallR {tb : List (Nat × Nat)} {k n a : Nat} {as rest : List Value} {la : List Slot} {h : xH} {st : List Value} {r : xR} (hlt : ∀ q ∈ tb, q.1 < 13) (hv : ∀ q ∈ tb, VR y bytes mL ret pc q.1 (mi q.2) k) (hn : n = pc + 3) (hst : st = as.reverse ++ .ref a :: rest) (hk : as.length = k) (e : xrcv tb h a as n rest = some r) : xOk mi y bytes mL ret pc la st h r := by
  unfold xrcv at e
  split at e
  next ci fs he =>
    split at e
    next m' hm' =>
      unfold xcall at e
      split at e
      next hx =>
        cases e
        obtain ⟨hm, hkL, hrun⟩ := hv _ (xvm_mem hm')
        refine ⟨hn, hx.1, ⟨k, hm⟩, by rw [List.length_cons, hk]; exact hkL, ?_⟩
        intro K p l e R s m args below meth c H locs cells slots ls rm Pc Qc mc ms free F G L hM hrc hrs hfr hlo hfb hpre hc hsl
        rw [hst]
        exact hrun K p l e R s m args below meth c H locs cells slots ls rm Pc Qc mc ms free h a fs as rest F G L.1 (Or.inl ⟨he, hlt _ (xvm_mem hm')⟩) hk (xvs_cat hx.2.1 hx.2.2) hM hrc hrs hfr hlo hfb hpre hc hsl
      next => cases e
    next => cases e
  next => cases e
theorem ok_v0 {tb : List (Nat × Nat)} (hlt : ∀ q ∈ tb, q.1 < 13) (hv : ∀ q ∈ tb, VR y bytes mL ret pc q.1 (mi q.2) 0) : XOK mi y bytes mL ret pc (q_v0 tb (pc + 3)) := by
  intro la st h r e
  unfold q_v0 at e
  split at e
  next => exact xcallR hlt hv rfl rfl rfl e
  next => cases e
theorem ok_v1 {tb : List (Nat × Nat)} (hlt : ∀ q ∈ tb, q.1 < 13) (hv : ∀ q ∈ tb, VR y bytes mL ret pc q.1 (mi q.2) 1) : XOK mi y bytes mL ret pc (q_v1 tb (pc + 3)) := by
  intro la st h r e
  unfold q_v1 at e
  split at e
  next => exact xcallR hlt hv rfl rfl rfl e
  next => cases e
theorem ok_v2 {tb : List (Nat × Nat)} (hlt : ∀ q ∈ tb, q.1 < 13) (hv : ∀ q ∈ tb, VR y bytes mL ret pc q.1 (mi q.2) 2) : XOK mi y bytes mL ret pc (q_v2 tb (pc + 3)) := by
  intro la st h r e
  unfold q_v2 at e
  split at e
  next => exact xcallR hlt hv rfl rfl rfl e
  next => cases e
theorem ok_v3 {tb : List (Nat × Nat)} (hlt : ∀ q ∈ tb, q.1 < 13) (hv : ∀ q ∈ tb, VR y bytes mL ret pc q.1 (mi q.2) 3) : XOK mi y bytes mL ret pc (q_v3 tb (pc + 3)) := by
  intro la st h r e
  unfold q_v3 at e
  split at e
  next => exact xcallR hlt hv rfl rfl rfl e
  next => cases e
theorem ok_v4 {tb : List (Nat × Nat)} (hlt : ∀ q ∈ tb, q.1 < 13) (hv : ∀ q ∈ tb, VR y bytes mL ret pc q.1 (mi q.2) 4) : XOK mi y bytes mL ret pc (q_v4 tb (pc + 3)) := by
  intro la st h r e
  unfold q_v4 at e
  split at e
  next => exact xcallR hlt hv rfl rfl rfl e
  next => cases e
theorem ok_v5 {tb : List (Nat × Nat)} (hlt : ∀ q ∈ tb, q.1 < 13) (hv : ∀ q ∈ tb, VR y bytes mL ret pc q.1 (mi q.2) 5) : XOK mi y bytes mL ret pc (q_v5 tb (pc + 3)) := by
  intro la st h r e
  unfold q_v5 at e
  split at e
  next => exact xcallR hlt hv rfl rfl rfl e
  next => cases e
/-- a call on a String constant -/
def xrcS (m : Nat) (h : xH) (a : Nat) (as : List Value) (n : Nat) (r : List Value) : Option xR := if h.2.2.2 (100 + 3 * a) = .int 20 then xcall m (.ref a :: as) n r else none
theorem xcallRS {m' k n a : Nat} {as rest : List Value} {la : List Slot} {h : xH} {st : List Value} {r : xR} (hv : VR y bytes mL ret pc 20 (mi m') k) (hn : n = pc + 3) (hst : st = as.reverse ++ .ref a :: rest) (hk : as.length = k) (e : xrcS m' h a as n rest = some r) : xOk mi y bytes mL ret pc la st h r := by
  unfold xrcS at e
  split at e
  next he =>
    unfold xcall at e
    split at e
    next hx =>
      cases e
      obtain ⟨hm, hkL, hrun⟩ := hv
      refine ⟨hn, hx.1, ⟨k, hm⟩, by rw [List.length_cons, hk]; exact hkL, ?_⟩
      intro K p l e R s m args below meth c H locs cells slots ls rm Pc Qc mc ms free F G L hM hrc hrs hfr hlo hfb hpre hc hsl
      rw [hst]
      exact hrun K p l e R s m args below meth c H locs cells slots ls rm Pc Qc mc ms free h a [] as rest F G L.1 (Or.inr ⟨rfl, he⟩) hk (xvs_cat hx.2.1 hx.2.2) hM hrc hrs hfr hlo hfb hpre hc hsl
    next => cases e
  next => cases e
def q_w0 (m n : Nat) : xA := fun _ st h => match st with
  | .ref o :: r => xrcS m h o [] n r
  | _ => none
def q_w1 (m n : Nat) : xA := fun _ st h => match st with
  | a :: .ref o :: r => xrcS m h o [a] n r
  | _ => none
def q_w2 (m n : Nat) : xA := fun _ st h => match st with
  | b :: a :: .ref o :: r => xrcS m h o [a, b] n r
  | _ => none
theorem ok_w0 {m' : Nat} (hv : VR y bytes mL ret pc 20 (mi m') 0) : XOK mi y bytes mL ret pc (q_w0 m' (pc + 3)) := by
  intro la st h r e
  unfold q_w0 at e
  split at e
  next => exact xcallRS hv rfl rfl rfl e
  next => cases e
theorem ok_w1 {m' : Nat} (hv : VR y bytes mL ret pc 20 (mi m') 1) : XOK mi y bytes mL ret pc (q_w1 m' (pc + 3)) := by
  intro la st h r e
  unfold q_w1 at e
  split at e
  next => exact xcallRS hv rfl rfl rfl e
  next => cases e
theorem ok_w2 {m' : Nat} (hv : VR y bytes mL ret pc 20 (mi m') 2) : XOK mi y bytes mL ret pc (q_w2 m' (pc + 3)) := by
  intro la st h r e
  unfold q_w2 at e
  split at e
  next => exact xcallRS hv rfl rfl rfl e
  next => cases e
end XO7
