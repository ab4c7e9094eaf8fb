/-! ===== 04: each step of the small machine is one of the machine's ===== -/
def vwC : List vw_C := [(RX0, TX0, 2), (RX1, TX1, 2), (RX2, TX2, 2), (RX3, TX3, 2), (RX4, TX4, 2), (RX5, TX5, 3), (RX6, TX6, 4), (RX7, TX7, 14), (RX8, TX8, 4), (RX9, TX9, 2), (RX10, TX10, 20), (RX11, TX11, 9), (RX12, TX12, 32)]
/-- D, the array classes by their kinds, where the world begins, what lies below, what the launch gives -/
abbrev xK : Type := va_G × (Nat → ClassId) × Nat × (Nat → va_E) × (Nat → Value)
abbrev xb (K : xK) : Nat := K.2.2.1
abbrev xA0 (K : xK) : Nat → Prop := fun q => K.2.2.1 ≤ q
def xtys (aK : Nat → ClassId) : List (ClassId × FieldType) := [(aK 0, .int), (aK 1, .boolean), (aK 2, .char), (aK 3, .object RX5), (aK 4, .object RX6), (aK 5, .object RX8), (aK 6, .object RX9)]
def xcv (aK : Nat → ClassId) (e : va_E) : va_E := match e with
  | .inl x => .inl (aK x.1, x.2)
  | .inr y => .inr y
/-- what can be made -/
def xgd (e : va_E) : Prop := match e with
  | .inl x => x.1 < 7
  | .inr y => y.1 < 13
def xw (K : xK) (h : xH) (H : Heap) : Prop := H.size = h.1 ∧ xb K ≤ h.1 ∧ (∀ a, xb K ≤ a → a < h.1 → va_at K.1 vwC (a, xcv K.2.1 (h.2.2.1 a)) H ∧ xgd (h.2.2.1 a)) ∧ ∀ a, h.1 ≤ a → h.2.2.1 a = .inr (99, [])
/-- what lies below the world: the script, the bytes of the String constants, these themselves -/
def xlc (K : xK) (a : Nat) (e : va_E) (U : State) (H : Heap) : Prop :=
  (∃ L xs, e = .inl (7, xis L xs) ∧ va_X a L xs U H ∧ a < H.size) ∨ (∃ N f, e = .inl (8, xis N f) ∧ va_T .byte a N (fun j => .int (f j)) (xA0 K) U H) ∨ e = .inr (99, [])
/-- a String constant: its value and its coder -/
def xsc (K : xK) (a : Nat) (U : State) (H : Heap) : Prop := K.2.2.2.2 (100 + 3 * a) = .int 20 → va_O "java/lang/String" a (xA0 K) U H ∧ va_OF "java/lang/String" "value" "[B" (K.2.2.2.2 (101 + 3 * a)) a (xA0 K) U H ∧ va_OF "java/lang/String" "coder" "B" (K.2.2.2.2 (102 + 3 * a)) a (xA0 K) U H
def xstr : List (String × Nat × String) := [(RX7, 105, "come"), (RX7, 111, "gain"), (RX7, 113, "may"), (RX7, 115, "aclp"), (RX7, 120, "wm"), (RX7, 122, "pqo")]
def xL (K : xK) (U : State) (H : Heap) : Prop := (∀ a, a < xb K → xlc K a (K.2.2.2.1 a) U H) ∧
  (va_Z "java/lang/String" "COMPACT_STRINGS" "Z" (K.2.2.2.2 7) (xA0 K) U H ∧ K.2.2.2.2 7 = .int 1) ∧
  (va_Z "jdk/internal/util/Preconditions" "SIOOBE_FORMATTER" "Ljava/util/function/BiFunction;" (K.2.2.2.2 0) (xA0 K) U H ∧ xv1 (K.2.2.2.2 0) = true) ∧ ∀ a, xsc K a U H
def nwl : List Cond := [.methodLinkNest RX11 9 yX10_init RX11, .methodLinkNest RX11 25 yX7_init RX11, .methodLinkNest RX11 53 yX5_init RX11, .methodLinkNest RX11 54 yX6_init RX11, .methodLinkNest RX6 21 yX5_init RX11, .methodLinkNest RX10 85 yX11_within RX11, .methodLinkNest RX10 118 yX11_held RX11, .methodLinkNest RX5 28 yX11_within RX11,
  .castable RX3 RX2, .castable RX4 RX0, .castable RX2 RX9, .castable RX0 RX9, .castable RX3 RX9, .castable RX4 RX9, .castable RX1 RX9]
def aol : List String := [RX5, RX6, RX8, RX9]
def ncl : List (String × String) := [(RX9, RX2), (RX0, RX2), (RX4, RX2), (RX1, RX2), (RX9, RX0), (RX2, RX0), (RX3, RX0), (RX1, RX0), (RX9, RX3), (RX2, RX3), (RX0, RX3), (RX4, RX3), (RX1, RX3), (RX9, RX4), (RX2, RX4), (RX0, RX4), (RX3, RX4), (RX1, RX4), (RX9, RX1), (RX2, RX1), (RX0, RX1), (RX3, RX1), (RX4, RX1)]
def xT (K : xK) (U : State) : Prop := va_K K.1 vwC (xtys K.2.1) U ∧ (∀ w ∈ nwl, va_Nw w U) ∧ (∀ C ∈ aol, va_AO C U) ∧ (∀ q ∈ ncl, va_Nc q.1 q.2 U) ∧ ∀ i q, xstr[i]? = some q → ∃ a, K.2.2.2.2 (1 + i) = .ref a ∧ vk_R q.1 q.2.1 q.2.2 a U
theorem xlc.moved {K : xK} {a : Nat} {e : va_E} {u U : State} {H : Heap} (hvm : u.vm.Alike U.vm) (h : xlc K a e u H) : xlc K a e U H := by
  rcases h with ⟨L, xs, h1, h2, h3⟩ | ⟨N, f, h1, h2⟩ | h
  · exact Or.inl ⟨L, xs, h1, va_X.moved hvm h2, h3⟩
  · exact Or.inr (Or.inl ⟨N, f, h1, va_T.moved hvm h2⟩)
  · exact Or.inr (Or.inr h)
theorem xlc.kept {K : xK} {a : Nat} {e : va_E} {U : State} {H H1 : Heap} (ha : a < xb K) (hz : H.size ≤ H1.size) (h : xlc K a e U H) (hq : ∀ a : Nat, a < H.size → ¬ xA0 K a → H1[a]? = H[a]?) : xlc K a e U H1 := by
  rcases h with ⟨L, xs, h1, h2, h3⟩ | ⟨N, f, h1, h2⟩ | h
  · exact Or.inl ⟨L, xs, h1, va_X.kept h2 (hq a h3 (Nat.not_le.mpr ha)), Nat.lt_of_lt_of_le h3 hz⟩
  · exact Or.inr (Or.inl ⟨N, f, h1, h2.kept hq⟩)
  · exact Or.inr (Or.inr h)
theorem xsc.moved {K : xK} {a : Nat} {u U : State} {H : Heap} (hvm : u.vm.Alike U.vm) (h : xsc K a u H) : xsc K a U H := fun q => ⟨va_O.moved hvm (h q).1, va_OF.moved hvm (h q).2.1, va_OF.moved hvm (h q).2.2⟩
theorem xsc.kept {K : xK} {a : Nat} {U : State} {H H1 : Heap} (h : xsc K a U H) (hq : ∀ a : Nat, a < H.size → ¬ xA0 K a → H1[a]? = H[a]?) : xsc K a U H1 := fun q => ⟨(h q).1.kept hq, (h q).2.1.kept hq, (h q).2.2.kept hq⟩
theorem xL.moved {K : xK} {u U : State} {H : Heap} (hvm : u.vm.Alike U.vm) (h : xL K u H) : xL K U H :=
  ⟨fun a ha => (h.1 a ha).moved hvm, ⟨va_Z.moved hvm h.2.1.1, h.2.1.2⟩, ⟨va_Z.moved hvm h.2.2.1.1, h.2.2.1.2⟩, fun a => (h.2.2.2 a).moved hvm⟩
theorem xL.kept {K : xK} {U : State} {H H1 : Heap} (hz : H.size ≤ H1.size) (h : xL K U H) (hq : ∀ a : Nat, a < H.size → ¬ xA0 K a → H1[a]? = H[a]?) : xL K U H1 :=
  ⟨fun a ha => (h.1 a ha).kept ha hz hq, ⟨h.2.1.1.kept hq, h.2.1.2⟩, ⟨h.2.2.1.1.kept hq, h.2.2.1.2⟩, fun a => (h.2.2.2 a).kept hq⟩
theorem nwl_warm {w : Cond} (hw : w ∈ nwl) {s U : State} (hW : s.WarmedH U.vm) (h : va_Nw w s) : va_Nw w U := by
  simp only [nwl, List.mem_cons, List.not_mem_nil, or_false] at hw
  rcases hw with rfl | rfl | rfl | rfl | rfl | rfl | rfl | rfl | rfl | rfl | rfl | rfl | rfl | rfl | rfl
  all_goals first | exact va_Nw.warmM hW h | exact va_Nw.warmC hW h
theorem nwl_on {w : Cond} (hw : w ∈ nwl) : w.onTables = true := by
  simp only [nwl, List.mem_cons, List.not_mem_nil, or_false] at hw
  rcases hw with rfl | rfl | rfl | rfl | rfl | rfl | rfl | rfl | rfl | rfl | rfl | rfl | rfl | rfl | rfl <;> rfl
theorem xT.warm {K : xK} {s U : State} (hW : s.WarmedH U.vm) (h : xT K s) : xT K U :=
  ⟨va_K.moved hW.alike h.1, fun w hw => nwl_warm hw hW (h.2.1 w hw), fun C hC => (h.2.2.1 C hC).moved hW.alike, fun q hq => (h.2.2.2.1 q hq).moved hW.alike, fun i q hq => by
    obtain ⟨a, h1, h2⟩ := h.2.2.2.2 i q hq
    exact ⟨a, h1, h2.warm hW⟩⟩
theorem xT.calling {K : xK} {U : State} {g : JFrame} {mk : MethodId} {a : Array Value} (h : xT K U) : xT K (U.calling g mk a) :=
  ⟨va_K.moved (u := U) (U := U.calling g mk a) (Vm.Alike.refl U.vm) h.1, fun w hw => va_Nw.same (u := U) (nwl_on hw) rfl (h.2.1 w hw), fun C hC => va_AO.moved (u := U) (Vm.Alike.refl U.vm) (h.2.2.1 C hC), fun q hq => va_Nc.moved (u := U) (Vm.Alike.refl U.vm) (h.2.2.2.1 q hq), fun i q hq => by
    obtain ⟨b, h1, h2⟩ := h.2.2.2.2 i q hq
    exact ⟨b, h1, vk_R.same (u := U) rfl h2⟩⟩
/-- what holds of a method's activation -/
def xF (K : xK) (y : MethodName) (bytes : ByteArray) (mL : Nat) (ret : Option FieldType) (p : Program) (R : Room) (s : State) (m : MethodId) (args : Array Value) (meth : Method) (c : Code) : Prop :=
  p.tables.exec = Jvm.exec ∧ c.code = bytes ∧ c.maxLocals = mL ∧ meth.sig.returnType = ret ∧ s.vm.findClass y.cls = some m.cls ∧ (∀ w ∈ gw, w.before args s = true) ∧ meth.locks = false ∧ meth.name = y.name ∧ xT K s ∧ xL K s s.heap ∧ 1 ≤ R.frames ∧ 60 ≤ R.locals
section XF
variable {K : xK} {y : MethodName} {bytes : ByteArray} {mL : Nat} {ret : Option FieldType} {p : Program} {R : Room} {s : State} {m : MethodId} {args : Array Value} {meth : Method} {c : Code}
theorem xF.ex (F : xF K y bytes mL ret p R s m args meth c) : p.tables.exec = Jvm.exec := F.1
theorem xF.by (F : xF K y bytes mL ret p R s m args meth c) : c.code = bytes := F.2.1
theorem xF.ml (F : xF K y bytes mL ret p R s m args meth c) : c.maxLocals = mL := F.2.2.1
theorem xF.rt (F : xF K y bytes mL ret p R s m args meth c) : meth.sig.returnType = ret := F.2.2.2.1
theorem xF.own (F : xF K y bytes mL ret p R s m args meth c) : s.vm.findClass y.cls = some m.cls := F.2.2.2.2.1
theorem xF.ts (F : xF K y bytes mL ret p R s m args meth c) : ∀ w ∈ gw, w.before args s = true := F.2.2.2.2.2.1
theorem xF.lk (F : xF K y bytes mL ret p R s m args meth c) : meth.locks = false := F.2.2.2.2.2.2.1
theorem xF.nm (F : xF K y bytes mL ret p R s m args meth c) : meth.name = y.name := F.2.2.2.2.2.2.2.1
theorem xF.tb (F : xF K y bytes mL ret p R s m args meth c) : xT K s := F.2.2.2.2.2.2.2.2.1
theorem xF.lo (F : xF K y bytes mL ret p R s m args meth c) : xL K s s.heap := F.2.2.2.2.2.2.2.2.2.1
theorem xF.fr (F : xF K y bytes mL ret p R s m args meth c) : 1 ≤ R.frames := F.2.2.2.2.2.2.2.2.2.2.1
theorem xF.lc (F : xF K y bytes mL ret p R s m args meth c) : 60 ≤ R.locals := F.2.2.2.2.2.2.2.2.2.2.2
end XF
def xG (K : xK) (s : State) (h : xH) (H : Heap) (locs : List Loc) : Prop := xw K h H ∧ (∀ a, a < xb K → h.2.2.1 a = K.2.2.2.1 a) ∧ h.2.2.2 = K.2.2.2.2 ∧ va_S (xA0 K) s.heap H locs ∧ xb K ≤ s.heap.size
def xls (la : List Slot) (ls : Array Slot) (mL : Nat) : Prop := ls.size = mL ∧ lv_wf ls ∧ la.length = mL ∧ ∀ (i : Nat) (v : Value), la[i]? = some (Slot.val v) → ls[i]? = some (Slot.val v) ∧ v.category = 1
/-- a method of the table can be called -/
def mOk (x : xM) (k : Nat) : Prop := Cond.code x.1 x.2.1 x.2.2.1 x.2.2.2 ∈ gw ∧ Cond.initialized x.1.cls ∈ gw ∧ (x.1.cls ≠ "java/lang/invoke/MethodHandle" ∧ x.1.cls ≠ "java/lang/invoke/VarHandle") ∧ (parseMethodDescriptor x.1.desc).map (fun d => d.parameters.length) = some k ∧ plainName x.1.cls = true ∧ x.2.2.1 ≤ 12
def xws (x : xM) : List Cond := Cond.code x.1 x.2.1 x.2.2.1 x.2.2.2 :: gw
theorem xws_good {x : xM} {k : Nat} (h : mOk x k) : GoodIn gw (xws x) := fun w hw => by
  rcases List.mem_cons.mp hw with rfl | hw
  · exact ⟨h.1, gw_good h.1⟩
  · exact ⟨hw, gw_good hw⟩
def xOk (mi : Nat → xM) (y : MethodName) (bytes : ByteArray) (mL : Nat) (ret : Option FieldType) (pc : Nat) (la : List Slot) (st : List Value) (h : xH) (r : xR) : Prop := match r with
  | .inl (n, la', st', h') => h.1 ≤ h'.1 ∧ h.2.1 ≤ h'.2.1 ∧ ∀ (K : xK) (p : Program) (l : Launch) (e : Env) (R : Room) (s : State) (m : MethodId) (args : Array Value) (below : List Frame) (meth : Method) (c : Code) (H : Heap) (locs : List Loc) (cells slots : Nat) (Q : State → Prop) (ls : Array Slot),
      xF K y bytes mL ret p R s m args meth c → xG K s h H locs → xls la ls mL → cells + (h'.1 - h.1) ≤ R.cells → slots + (h'.2.1 - h.2.1) ≤ R.slots →
      (∀ (H1 : Heap) (locs1 : List Loc) (ls1 : Array Slot), xG K s h' H1 locs1 → xls la' ls1 mL → W p l e R s m args below meth c H1 locs1 (cells + (h'.1 - h.1)) (slots + (h'.2.1 - h.2.1)) Q (F0 m n ls1 st')) → W p l e R s m args below meth c H locs cells slots Q (F0 m pc ls st)
  | .inr (.inl v) => ∀ (K : xK) (p : Program) (l : Launch) (e : Env) (R : Room) (s : State) (m : MethodId) (args : Array Value) (below : List Frame) (meth : Method) (c : Code) (H : Heap) (locs : List Loc) (cells slots : Nat) (Qc : Array Value → State → Outcome → State → Prop) (free : Addr → Prop) (ls : Array Slot),
      xF K y bytes mL ret p R s m args meth c → (∀ t : State, t.heap = H → s.WarmedH t.vm → Qc args s (.returned v) t) → (∀ q ∈ locs, free q.base) → W p l e R s m args below meth c H locs cells slots (MQ below Qc args s cells slots free) (F0 m pc ls st)
  | .inr (.inr (m', as, n, rest)) => n = pc + 3 ∧ xvs as = true ∧ (∃ k, mOk (mi m') k) ∧ as.length ≤ (mi m').2.2.1 ∧ ∀ (K : xK) (p : Program) (l : Launch) (e : Env) (R : Room) (s : State) (m : MethodId) (args : Array Value) (below : List Frame) (meth : Method) (c : Code) (H : Heap) (locs : List Loc) (cells slots : Nat) (ls : Array Slot) (rm : Room) (Pc : Array Value → State → Prop) (Qc : Array Value → State → Outcome → State → Prop) (mc ms : Nat) (free : Addr → Prop),
      xF K y bytes mL ret p R s m args meth c → xG K s h H locs → xls la ls mL → Met l (mi m').1 (xws (mi m')) rm Pc Qc mc ms free → rm.cells = mc → rm.slots = ms → rm.frames + 1 ≤ R.frames → 8 + ((mi m').2.2.1 + 11) + rm.locals ≤ R.locals → FrameBlind Pc → (∀ U : State, U.heap = H → s.WarmedH U.vm → Pc as.toArray U) → cells + mc ≤ R.cells → slots + ms ≤ R.slots →
      va_Run p l e R s m args below meth c H locs cells slots mc ms (F0 m pc ls st) rest (Qc as.toArray) free
def XOK (mi : Nat → xM) (y : MethodName) (bytes : ByteArray) (mL : Nat) (ret : Option FieldType) (pc : Nat) (a : xA) : Prop := ∀ (la : List Slot) (st : List Value) (h : xH) (r : xR), a la st h = some r → xOk mi y bytes mL ret pc la st h r
section XO
variable {mi : Nat → xM} {y : MethodName} {bytes : ByteArray} {mL : Nat} {ret : Option FieldType} {pc : Nat}
/-- a step that leaves the world and the locals -/
theorem xok0 {a : xA} (hk : ∀ (la : List Slot) (st : List Value) (h : xH) (r : xR), a la st h = some r → ∃ n st', r = .inl (n, la, st', h) ∧ ∀ (K : xK) (p : Program) (l : Launch) (e : Env) (R : Room) (s : State) (m : MethodId) (args : Array Value) (below : List Frame) (meth : Method) (c : Code) (H : Heap) (locs : List Loc) (cells slots : Nat) (Q : State → Prop) (ls : Array Slot),
      xF K y bytes mL ret p R s m args meth c → xG K s h H locs → xls la ls mL → cells ≤ R.cells → slots ≤ R.slots → W p l e R s m args below meth c H locs cells slots Q (F0 m n ls st') → W p l e R s m args below meth c H locs cells slots Q (F0 m pc ls st)) : XOK mi y bytes mL ret pc a := by
  intro la st h r e
  obtain ⟨n, st', rfl, hw⟩ := hk la st h r e
  refine ⟨Nat.le_refl _, Nat.le_refl _, ?_⟩
  intro K p l e R s m args below meth c H locs cells slots Q ls F G L hc hs kk
  simp only [Nat.sub_self, Nat.add_zero] at hc hs kk
  exact hw K p l e R s m args below meth c H locs cells slots Q ls F G L hc hs (kk H locs ls G L)
theorem xvs_cat : ∀ {r : List Value}, xvs r = true → r.length ≤ 8 → (r.map fun v => v.category).sum ≤ 8 := by
  intro r h hl
  have h1 : (r.map fun v => v.category).sum = r.length := by
    clear hl
    induction r with
    | nil => rfl
    | cons v r ih =>
      simp only [xvs, Bool.and_eq_true] at h
      have hv : v.category = 1 := by cases v <;> first | rfl | (simp [xv1] at h)
      simp only [List.map_cons, List.sum_cons, List.length_cons, hv, ih h.2]
      omega
  omega
theorem xv1_cat {v : Value} (h : xv1 v = true) : v.category = 1 := by cases v <;> first | rfl | (simp [xv1] at h)

theorem ok_const_i {k : Int} {v : Int32} (hd : decode bytes pc = .ok (.iconst k, 1)) (hv : Int32.ofInt k = v) : XOK mi y bytes mL ret pc (q_const v (pc + 1)) := xok0 (by
  intro la st h r e
  cases e
  exact ⟨_, _, rfl, fun K p l e R s m args below meth c H locs cells slots Q ls F G L _ _ k => lv_iconst F.ex F.by hd hv k⟩)
theorem ok_const_b {k : Int} {v : Int32} (hd : decode bytes pc = .ok (.bipush k, 2)) (hv : (Int8.ofInt k).toInt32 = v) : XOK mi y bytes mL ret pc (q_const v (pc + 2)) := xok0 (by
  intro la st h r e
  cases e
  exact ⟨_, _, rfl, fun K p l e R s m args below meth c H locs cells slots Q ls F G L _ _ k => lv_bipush F.ex F.by hd hv k⟩)
theorem ok_const_s {k : Int} {v : Int32} (hd : decode bytes pc = .ok (.sipush k, 3)) (hv : (Int16.ofInt k).toInt32 = v) : XOK mi y bytes mL ret pc (q_const v (pc + 3)) := xok0 (by
  intro la st h r e
  cases e
  exact ⟨_, _, rfl, fun K p l e R s m args below meth c H locs cells slots Q ls F G L _ _ k => lv_sipush F.ex F.by hd hv k⟩)
theorem ok_ldc {i : Nat} {v : Int32} (hd : decode bytes pc = .ok (.ldc i, 2)) (hc : Cond.constant y.cls i v ∈ gw) : XOK mi y bytes mL ret pc (q_const v (pc + 2)) := xok0 (by
  intro la st h r e
  cases e
  exact ⟨_, _, rfl, fun K p l e R s m args below meth c H locs cells slots Q ls F G L _ _ k => lv_ldc F.ex F.by F.own (F.ts _ hc) hd k⟩)
theorem ok_ldcw {i : Nat} {v : Int32} (hd : decode bytes pc = .ok (.ldc_w i, 3)) (hc : Cond.constant y.cls i v ∈ gw) : XOK mi y bytes mL ret pc (q_const v (pc + 3)) := xok0 (by
  intro la st h r e
  cases e
  exact ⟨_, _, rfl, fun K p l e R s m args below meth c H locs cells slots Q ls F G L _ _ k => lv_ldcw F.ex F.by F.own (F.ts _ hc) hd k⟩)
theorem ok_null (hd : decode bytes pc = .ok (.aconst_null, 1)) : XOK mi y bytes mL ret pc (q_null (pc + 1)) := xok0 (by
  intro la st h r e
  cases e
  exact ⟨_, _, rfl, fun K p l e R s m args below meth c H locs cells slots Q ls F G L _ _ k => lv_null F.ex F.by hd k⟩)
theorem ok_iload_n {k : Fin 4} {i : Nat} (hd : decode bytes pc = .ok (.iload_n k, 1)) (hi : (k : Nat) = i) : XOK mi y bytes mL ret pc (q_iload i (pc + 1)) := xok0 (by
  intro la st h r e
  unfold q_iload at e
  split at e
  next x hx =>
    cases e
    exact ⟨_, _, rfl, fun K p l e R s m args below meth c H locs cells slots Q ls F G L _ _ k => lv_iload_n F.ex F.by hd hi (L.2.2.2 i _ hx).1 k⟩
  next => cases e)
theorem ok_iload {i : Nat} (hd : decode bytes pc = .ok (.iload i, 2)) : XOK mi y bytes mL ret pc (q_iload i (pc + 2)) := xok0 (by
  intro la st h r e
  unfold q_iload at e
  split at e
  next x hx =>
    cases e
    exact ⟨_, _, rfl, fun K p l e R s m args below meth c H locs cells slots Q ls F G L _ _ k => lv_iload F.ex F.by hd (L.2.2.2 i _ hx).1 k⟩
  next => cases e)
theorem ok_aload_n {k : Fin 4} {i : Nat} (hd : decode bytes pc = .ok (.aload_n k, 1)) (hi : (k : Nat) = i) : XOK mi y bytes mL ret pc (q_aload i (pc + 1)) := xok0 (by
  intro la st h r e
  unfold q_aload at e
  split at e
  next x hx =>
    cases e
    exact ⟨_, _, rfl, fun K p l e R s m args below meth c H locs cells slots Q ls F G L _ _ k => lv_aload_n F.ex F.by hd hi (L.2.2.2 i _ hx).1 k⟩
  next hx =>
    cases e
    exact ⟨_, _, rfl, fun K p l e R s m args below meth c H locs cells slots Q ls F G L _ _ k => lv_aload_nN F.ex F.by hd hi (L.2.2.2 i _ hx).1 k⟩
  next => cases e)
theorem ok_aload {i : Nat} (hd : decode bytes pc = .ok (.aload i, 2)) : XOK mi y bytes mL ret pc (q_aload i (pc + 2)) := xok0 (by
  intro la st h r e
  unfold q_aload at e
  split at e
  next x hx =>
    cases e
    exact ⟨_, _, rfl, fun K p l e R s m args below meth c H locs cells slots Q ls F G L _ _ k => lv_aload F.ex F.by hd (L.2.2.2 i _ hx).1 k⟩
  next hx =>
    cases e
    exact ⟨_, _, rfl, fun K p l e R s m args below meth c H locs cells slots Q ls F G L _ _ k => lv_aloadN F.ex F.by hd (L.2.2.2 i _ hx).1 k⟩
  next => cases e)

theorem ok_add (hd : decode bytes pc = .ok (.iadd, 1)) : XOK mi y bytes mL ret pc (q_add (pc + 1)) := xok0 (by
  intro la st h r e
  unfold q_add q_bin at e
  split at e
  next y1 x1 r1 =>
    cases e
    exact ⟨_, _, rfl, fun K p l e R s m args below meth c H locs cells slots Q ls F G L _ _ k => lv_iadd F.ex F.by hd k⟩
  next => cases e)
theorem ok_sub (hd : decode bytes pc = .ok (.isub, 1)) : XOK mi y bytes mL ret pc (q_sub (pc + 1)) := xok0 (by
  intro la st h r e
  unfold q_sub q_bin at e
  split at e
  next y1 x1 r1 =>
    cases e
    exact ⟨_, _, rfl, fun K p l e R s m args below meth c H locs cells slots Q ls F G L _ _ k => lv_isub F.ex F.by hd k⟩
  next => cases e)
theorem ok_mul (hd : decode bytes pc = .ok (.imul, 1)) : XOK mi y bytes mL ret pc (q_mul (pc + 1)) := xok0 (by
  intro la st h r e
  unfold q_mul q_bin at e
  split at e
  next y1 x1 r1 =>
    cases e
    exact ⟨_, _, rfl, fun K p l e R s m args below meth c H locs cells slots Q ls F G L _ _ k => lv_imul F.ex F.by hd k⟩
  next => cases e)
theorem ok_and (hd : decode bytes pc = .ok (.iand, 1)) : XOK mi y bytes mL ret pc (q_and (pc + 1)) := xok0 (by
  intro la st h r e
  unfold q_and q_bin at e
  split at e
  next y1 x1 r1 =>
    cases e
    exact ⟨_, _, rfl, fun K p l e R s m args below meth c H locs cells slots Q ls F G L _ _ k => lv_iand F.ex F.by hd k⟩
  next => cases e)
theorem ok_or (hd : decode bytes pc = .ok (.ior, 1)) : XOK mi y bytes mL ret pc (q_or (pc + 1)) := xok0 (by
  intro la st h r e
  unfold q_or q_bin at e
  split at e
  next y1 x1 r1 =>
    cases e
    exact ⟨_, _, rfl, fun K p l e R s m args below meth c H locs cells slots Q ls F G L _ _ k => lv_ior F.ex F.by hd k⟩
  next => cases e)
theorem ok_xor (hd : decode bytes pc = .ok (.ixor, 1)) : XOK mi y bytes mL ret pc (q_xor (pc + 1)) := xok0 (by
  intro la st h r e
  unfold q_xor q_bin at e
  split at e
  next y1 x1 r1 =>
    cases e
    exact ⟨_, _, rfl, fun K p l e R s m args below meth c H locs cells slots Q ls F G L _ _ k => lv_ixor F.ex F.by hd k⟩
  next => cases e)
theorem ok_shl (hd : decode bytes pc = .ok (.ishl, 1)) : XOK mi y bytes mL ret pc (q_shl (pc + 1)) := xok0 (by
  intro la st h r e
  unfold q_shl q_bin at e
  split at e
  next y1 x1 r1 =>
    cases e
    exact ⟨_, _, rfl, fun K p l e R s m args below meth c H locs cells slots Q ls F G L _ _ k => lv_ishl F.ex F.by hd k⟩
  next => cases e)
theorem ok_shr (hd : decode bytes pc = .ok (.ishr, 1)) : XOK mi y bytes mL ret pc (q_shr (pc + 1)) := xok0 (by
  intro la st h r e
  unfold q_shr q_bin at e
  split at e
  next y1 x1 r1 =>
    cases e
    exact ⟨_, _, rfl, fun K p l e R s m args below meth c H locs cells slots Q ls F G L _ _ k => lv_ishr F.ex F.by hd k⟩
  next => cases e)
theorem ok_ushr (hd : decode bytes pc = .ok (.iushr, 1)) : XOK mi y bytes mL ret pc (q_ushr (pc + 1)) := xok0 (by
  intro la st h r e
  unfold q_ushr q_bin at e
  split at e
  next y1 x1 r1 =>
    cases e
    exact ⟨_, _, rfl, fun K p l e R s m args below meth c H locs cells slots Q ls F G L _ _ k => lv_iushr F.ex F.by hd rfl k⟩
  next => cases e)
theorem ok_div (hd : decode bytes pc = .ok (.idiv, 1)) : XOK mi y bytes mL ret pc (q_div (pc + 1)) := xok0 (by
  intro la st h r e
  unfold q_div at e
  split at e
  next y1 x1 r1 =>
    split at e
    next => cases e
    next hne =>
      cases e
      exact ⟨_, _, rfl, fun K p l e R s m args below meth c H locs cells slots Q ls F G L _ _ k => lv_idiv F.ex F.by hd hne k⟩
  next => cases e)
theorem ok_rem (hd : decode bytes pc = .ok (.irem, 1)) : XOK mi y bytes mL ret pc (q_rem (pc + 1)) := xok0 (by
  intro la st h r e
  unfold q_rem at e
  split at e
  next y1 x1 r1 =>
    split at e
    next => cases e
    next hne =>
      cases e
      exact ⟨_, _, rfl, fun K p l e R s m args below meth c H locs cells slots Q ls F G L _ _ k => lv_irem F.ex F.by hd hne (by rw [irem_eq_mod]; exact k)⟩
  next => cases e)
theorem ok_i2s (hd : decode bytes pc = .ok (.i2s, 1)) : XOK mi y bytes mL ret pc (q_i2s (pc + 1)) := xok0 (by
  intro la st h r e
  unfold q_i2s at e
  split at e
  next =>
    cases e
    exact ⟨_, _, rfl, fun K p l e R s m args below meth c H locs cells slots Q ls F G L _ _ k => lv_i2s F.ex F.by hd rfl k⟩
  next => cases e)
theorem ok_i2c (hd : decode bytes pc = .ok (.i2c, 1)) : XOK mi y bytes mL ret pc (q_i2c (pc + 1)) := xok0 (by
  intro la st h r e
  unfold q_i2c at e
  split at e
  next =>
    cases e
    exact ⟨_, _, rfl, fun K p l e R s m args below meth c H locs cells slots Q ls F G L _ _ k => lv_i2c F.ex F.by hd rfl k⟩
  next => cases e)
theorem ok_dup (hd : decode bytes pc = .ok (.dup, 1)) : XOK mi y bytes mL ret pc (q_dup (pc + 1)) := xok0 (by
  intro la st h r e
  unfold q_dup at e
  split at e
  next =>
    split at e
    next hv =>
      cases e
      exact ⟨_, _, rfl, fun K p l e R s m args below meth c H locs cells slots Q ls F G L _ _ k => lv_dup F.ex F.by hd (xv1_cat hv) k⟩
    next => cases e
  next => cases e)
theorem ok_dup2 (hd : decode bytes pc = .ok (.dup2, 1)) : XOK mi y bytes mL ret pc (q_dup2 (pc + 1)) := xok0 (by
  intro la st h r e
  unfold q_dup2 at e
  split at e
  next =>
    split at e
    next hv =>
      cases e
      exact ⟨_, _, rfl, fun K p l e R s m args below meth c H locs cells slots Q ls F G L _ _ k => lv_dup2_11 F.ex F.by hd (xv1_cat hv.1) (xv1_cat hv.2) k⟩
    next => cases e
  next => cases e)
theorem ok_pop (hd : decode bytes pc = .ok (.pop, 1)) : XOK mi y bytes mL ret pc (q_pop (pc + 1)) := xok0 (by
  intro la st h r e
  unfold q_pop at e
  split at e
  next =>
    split at e
    next hv =>
      cases e
      exact ⟨_, _, rfl, fun K p l e R s m args below meth c H locs cells slots Q ls F G L _ _ k => lv_pop F.ex F.by hd (xv1_cat hv) k⟩
    next => cases e
  next => cases e)
theorem ok_goto {off : Int} {t : Nat} (hd : decode bytes pc = .ok (.goto off, 3)) (ht : (pc : Int) + off = (t : Int)) : XOK mi y bytes mL ret pc (q_goto t) := xok0 (by
  intro la st h r e
  cases e
  exact ⟨_, _, rfl, fun K p l e R s m args below meth c H locs cells slots Q ls F G L _ _ k => lv_goto F.ex F.by hd ht k⟩)

theorem ok_ifeq {off : Int} {t : Nat} (hd : decode bytes pc = .ok (.ifCond .eq off, 3)) (ht : (pc : Int) + off = (t : Int)) : XOK mi y bytes mL ret pc (q_ifeq t (pc + 3)) := xok0 (by
  intro la st h r e
  unfold q_ifeq at e
  split at e
  next =>
    split at e
    next hc =>
      cases e
      exact ⟨_, _, rfl, fun K p l e R s m args below meth c H locs cells slots Q ls F G L _ _ k => lv_if_eq F.ex F.by hd ht (fun _ => k) (fun q => absurd hc q)⟩
    next hc =>
      cases e
      exact ⟨_, _, rfl, fun K p l e R s m args below meth c H locs cells slots Q ls F G L _ _ k => lv_if_eq F.ex F.by hd ht (fun q => absurd q hc) (fun _ => k)⟩
  next => cases e)
theorem ok_ifne {off : Int} {t : Nat} (hd : decode bytes pc = .ok (.ifCond .ne off, 3)) (ht : (pc : Int) + off = (t : Int)) : XOK mi y bytes mL ret pc (q_ifne t (pc + 3)) := xok0 (by
  intro la st h r e
  unfold q_ifne at e
  split at e
  next =>
    split at e
    next hc =>
      cases e
      exact ⟨_, _, rfl, fun K p l e R s m args below meth c H locs cells slots Q ls F G L _ _ k => lv_if_ne F.ex F.by hd ht (fun q => absurd hc q) (fun _ => k)⟩
    next hc =>
      cases e
      exact ⟨_, _, rfl, fun K p l e R s m args below meth c H locs cells slots Q ls F G L _ _ k => lv_if_ne F.ex F.by hd ht (fun _ => k) (fun q => absurd q hc)⟩
  next => cases e)
theorem ok_iflt {off : Int} {t : Nat} (hd : decode bytes pc = .ok (.ifCond .lt off, 3)) (ht : (pc : Int) + off = (t : Int)) : XOK mi y bytes mL ret pc (q_iflt t (pc + 3)) := xok0 (by
  intro la st h r e
  unfold q_iflt at e
  split at e
  next =>
    split at e
    next hc =>
      cases e
      exact ⟨_, _, rfl, fun K p l e R s m args below meth c H locs cells slots Q ls F G L _ _ k => lv_if_lt F.ex F.by hd ht (fun _ => k) (fun q => absurd hc q)⟩
    next hc =>
      cases e
      exact ⟨_, _, rfl, fun K p l e R s m args below meth c H locs cells slots Q ls F G L _ _ k => lv_if_lt F.ex F.by hd ht (fun q => absurd q hc) (fun _ => k)⟩
  next => cases e)
theorem ok_ifge {off : Int} {t : Nat} (hd : decode bytes pc = .ok (.ifCond .ge off, 3)) (ht : (pc : Int) + off = (t : Int)) : XOK mi y bytes mL ret pc (q_ifge t (pc + 3)) := xok0 (by
  intro la st h r e
  unfold q_ifge at e
  split at e
  next =>
    split at e
    next hc =>
      cases e
      exact ⟨_, _, rfl, fun K p l e R s m args below meth c H locs cells slots Q ls F G L _ _ k => lv_if_ge F.ex F.by hd ht (fun q => absurd hc (Int32.not_lt.mpr q)) (fun _ => k)⟩
    next hc =>
      cases e
      exact ⟨_, _, rfl, fun K p l e R s m args below meth c H locs cells slots Q ls F G L _ _ k => lv_if_ge F.ex F.by hd ht (fun _ => k) (fun q => absurd (Int32.not_lt.mp hc) q)⟩
  next => cases e)
theorem ok_ifgt {off : Int} {t : Nat} (hd : decode bytes pc = .ok (.ifCond .gt off, 3)) (ht : (pc : Int) + off = (t : Int)) : XOK mi y bytes mL ret pc (q_ifgt t (pc + 3)) := xok0 (by
  intro la st h r e
  unfold q_ifgt at e
  split at e
  next =>
    split at e
    next hc =>
      cases e
      exact ⟨_, _, rfl, fun K p l e R s m args below meth c H locs cells slots Q ls F G L _ _ k => lv_if_gt F.ex F.by hd ht (fun _ => k) (fun q => absurd hc q)⟩
    next hc =>
      cases e
      exact ⟨_, _, rfl, fun K p l e R s m args below meth c H locs cells slots Q ls F G L _ _ k => lv_if_gt F.ex F.by hd ht (fun q => absurd q hc) (fun _ => k)⟩
  next => cases e)
theorem ok_ifle {off : Int} {t : Nat} (hd : decode bytes pc = .ok (.ifCond .le off, 3)) (ht : (pc : Int) + off = (t : Int)) : XOK mi y bytes mL ret pc (q_ifle t (pc + 3)) := xok0 (by
  intro la st h r e
  unfold q_ifle at e
  split at e
  next =>
    split at e
    next hc =>
      cases e
      exact ⟨_, _, rfl, fun K p l e R s m args below meth c H locs cells slots Q ls F G L _ _ k => lv_if_le F.ex F.by hd ht (fun q => absurd hc (Int32.not_lt.mpr q)) (fun _ => k)⟩
    next hc =>
      cases e
      exact ⟨_, _, rfl, fun K p l e R s m args below meth c H locs cells slots Q ls F G L _ _ k => lv_if_le F.ex F.by hd ht (fun _ => k) (fun q => absurd (Int32.not_lt.mp hc) q)⟩
  next => cases e)
theorem ok_ceq {off : Int} {t : Nat} (hd : decode bytes pc = .ok (.if_icmp .eq off, 3)) (ht : (pc : Int) + off = (t : Int)) : XOK mi y bytes mL ret pc (q_ceq t (pc + 3)) := xok0 (by
  intro la st h r e
  unfold q_ceq at e
  split at e
  next =>
    split at e
    next hc =>
      cases e
      exact ⟨_, _, rfl, fun K p l e R s m args below meth c H locs cells slots Q ls F G L _ _ k => lv_icmp_eq F.ex F.by hd ht (fun _ => k) (fun q => absurd hc q)⟩
    next hc =>
      cases e
      exact ⟨_, _, rfl, fun K p l e R s m args below meth c H locs cells slots Q ls F G L _ _ k => lv_icmp_eq F.ex F.by hd ht (fun q => absurd q hc) (fun _ => k)⟩
  next => cases e)
theorem ok_cne {off : Int} {t : Nat} (hd : decode bytes pc = .ok (.if_icmp .ne off, 3)) (ht : (pc : Int) + off = (t : Int)) : XOK mi y bytes mL ret pc (q_cne t (pc + 3)) := xok0 (by
  intro la st h r e
  unfold q_cne at e
  split at e
  next =>
    split at e
    next hc =>
      cases e
      exact ⟨_, _, rfl, fun K p l e R s m args below meth c H locs cells slots Q ls F G L _ _ k => lv_icmp_ne F.ex F.by hd ht (fun q => absurd hc q) (fun _ => k)⟩
    next hc =>
      cases e
      exact ⟨_, _, rfl, fun K p l e R s m args below meth c H locs cells slots Q ls F G L _ _ k => lv_icmp_ne F.ex F.by hd ht (fun _ => k) (fun q => absurd q hc)⟩
  next => cases e)
theorem ok_clt {off : Int} {t : Nat} (hd : decode bytes pc = .ok (.if_icmp .lt off, 3)) (ht : (pc : Int) + off = (t : Int)) : XOK mi y bytes mL ret pc (q_clt t (pc + 3)) := xok0 (by
  intro la st h r e
  unfold q_clt at e
  split at e
  next =>
    split at e
    next hc =>
      cases e
      exact ⟨_, _, rfl, fun K p l e R s m args below meth c H locs cells slots Q ls F G L _ _ k => lv_icmp_lt F.ex F.by hd ht (fun _ => k) (fun q => absurd hc q)⟩
    next hc =>
      cases e
      exact ⟨_, _, rfl, fun K p l e R s m args below meth c H locs cells slots Q ls F G L _ _ k => lv_icmp_lt F.ex F.by hd ht (fun q => absurd q hc) (fun _ => k)⟩
  next => cases e)
theorem ok_cge {off : Int} {t : Nat} (hd : decode bytes pc = .ok (.if_icmp .ge off, 3)) (ht : (pc : Int) + off = (t : Int)) : XOK mi y bytes mL ret pc (q_cge t (pc + 3)) := xok0 (by
  intro la st h r e
  unfold q_cge at e
  split at e
  next =>
    split at e
    next hc =>
      cases e
      exact ⟨_, _, rfl, fun K p l e R s m args below meth c H locs cells slots Q ls F G L _ _ k => lv_icmp_ge F.ex F.by hd ht (fun q => absurd hc (Int32.not_lt.mpr q)) (fun _ => k)⟩
    next hc =>
      cases e
      exact ⟨_, _, rfl, fun K p l e R s m args below meth c H locs cells slots Q ls F G L _ _ k => lv_icmp_ge F.ex F.by hd ht (fun _ => k) (fun q => absurd (Int32.not_lt.mp hc) q)⟩
  next => cases e)
theorem ok_cgt {off : Int} {t : Nat} (hd : decode bytes pc = .ok (.if_icmp .gt off, 3)) (ht : (pc : Int) + off = (t : Int)) : XOK mi y bytes mL ret pc (q_cgt t (pc + 3)) := xok0 (by
  intro la st h r e
  unfold q_cgt at e
  split at e
  next =>
    split at e
    next hc =>
      cases e
      exact ⟨_, _, rfl, fun K p l e R s m args below meth c H locs cells slots Q ls F G L _ _ k => lv_icmp_gt F.ex F.by hd ht (fun _ => k) (fun q => absurd hc q)⟩
    next hc =>
      cases e
      exact ⟨_, _, rfl, fun K p l e R s m args below meth c H locs cells slots Q ls F G L _ _ k => lv_icmp_gt F.ex F.by hd ht (fun q => absurd q hc) (fun _ => k)⟩
  next => cases e)
theorem ok_cle {off : Int} {t : Nat} (hd : decode bytes pc = .ok (.if_icmp .le off, 3)) (ht : (pc : Int) + off = (t : Int)) : XOK mi y bytes mL ret pc (q_cle t (pc + 3)) := xok0 (by
  intro la st h r e
  unfold q_cle at e
  split at e
  next =>
    split at e
    next hc =>
      cases e
      exact ⟨_, _, rfl, fun K p l e R s m args below meth c H locs cells slots Q ls F G L _ _ k => lv_icmp_le F.ex F.by hd ht (fun q => absurd hc (Int32.not_lt.mpr q)) (fun _ => k)⟩
    next hc =>
      cases e
      exact ⟨_, _, rfl, fun K p l e R s m args below meth c H locs cells slots Q ls F G L _ _ k => lv_icmp_le F.ex F.by hd ht (fun _ => k) (fun q => absurd (Int32.not_lt.mp hc) q)⟩
  next => cases e)
theorem ok_ifnull {off : Int} {t : Nat} (hd : decode bytes pc = .ok (.ifnull off, 3)) (ht : (pc : Int) + off = (t : Int)) : XOK mi y bytes mL ret pc (q_ifnull t (pc + 3)) := xok0 (by
  intro la st h r e
  unfold q_ifnull at e
  split at e
  next =>
    cases e
    exact ⟨_, _, rfl, fun K p l e R s m args below meth c H locs cells slots Q ls F G L _ _ k => lv_ifnull F.ex F.by hd k⟩
  next =>
    cases e
    exact ⟨_, _, rfl, fun K p l e R s m args below meth c H locs cells slots Q ls F G L _ _ k => lv_ifnullN F.ex F.by hd ht k⟩
  next => cases e)
theorem ok_ifnon {off : Int} {t : Nat} (hd : decode bytes pc = .ok (.ifnonnull off, 3)) (ht : (pc : Int) + off = (t : Int)) : XOK mi y bytes mL ret pc (q_ifnon t (pc + 3)) := xok0 (by
  intro la st h r e
  unfold q_ifnon at e
  split at e
  next =>
    cases e
    exact ⟨_, _, rfl, fun K p l e R s m args below meth c H locs cells slots Q ls F G L _ _ k => lv_ifnonnull F.ex F.by hd ht k⟩
  next =>
    cases e
    exact ⟨_, _, rfl, fun K p l e R s m args below meth c H locs cells slots Q ls F G L _ _ k => lv_ifnonnullN F.ex F.by hd k⟩
  next => cases e)
end XO

