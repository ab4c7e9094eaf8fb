/-! ===== 17: from the entry of the law ===== -/
def R_law : String := "TwoBellsLaw"
def lw_P (b : Addr) (xs : List Int32) (args : Array Value) (s : State) : Prop := args = #[.ref b] ∧ s.IntsAt b xs ∧ xs.length ≤ 3072 ∧ (Jvm.Cond.and given_1 narrow_1).before args s = true
def lw_Q (_ : Array Value) (s : State) (o : Outcome) (t : State) : Prop := o = .returned (some (.int 1)) ∧ Framed s o t [] 600000 7302250
def lw_Z (below : List Frame) (a : Array Value) (s : State) : State → Prop := fun t => ∃ o, t.status = .running ∧ Ended t below o ∧ lw_Q a s o t
/-- the law's own end, with 1 on the stack, nothing written that was there before, its room as the claim has it -/
theorem lw_ret {p : Program} {l : Launch} {e : Env} {s : State} {m : MethodId} {below : List Frame} {meth : Method} {c : Code} {b : Nat} (hx : p.tables.exec = Jvm.exec) (hb : c.code = code) (hr : meth.sig.returnType = ret) (hlocks : meth.locks = false) {pc : Nat} {H : Heap} {ls : Array Slot} (hdg : decode code pc = .ok (.ireturn, 1)) : W p l e room_1 s m #[Value.ref b] below meth c H [] 600000 7302250 (lw_Z below #[Value.ref b] s) (F0 m pc ls [.int 1]) := by
  intro T hT X
  obtain ⟨fs, hret, hrun, hended, hW, hframe⟩ := X.leave (v := some (.int 1)) (hlocks := hlocks) (fun h => by rw [hr] at h; cases h)
  have hmeth' : T.vm.method? m = some meth := X.method'
  refine ⟨T.setFrames fs, ?_, .returned (some (.int 1)), hrun, hended, rfl, ⟨_, rfl⟩, hW, hframe⟩
  jvm_step X.here [X.here.top, hx, hb, hdg, hmeth', hr, ret, narrow_b1]
  (try refine ⟨rfl, ?_⟩); (try refine ⟨rfl, ?_⟩)
  first | (intro acts; rw [hret _ acts rfl rfl rfl]) | rw [hret _ _ rfl rfl rfl]
  exact Steps.refl _
/-- what holds at the law's entry: the machine, the code, the tables' words (any of lw_tbl by 'hts w (by decide +kernel)'), the script of L ints xs at the cell b, what the Statement gives of the start (any of its parts by flat_of_before) -/
def lw_At (p : Program) (s : State) (m : MethodId) (meth : Method) (c : Code) (b L : Nat) (xs : Nat → Int32) : Prop :=
  p.tables.exec = Jvm.exec ∧ c.code = code ∧ meth.sig.returnType = ret ∧ c.maxLocals = 4 ∧ s.vm.findClass R_law = some m.cls ∧ (∀ w ∈ lw_tbl, w.before #[Value.ref b] s = true) ∧ va_X b L xs s s.heap ∧ b < s.heap.size ∧ meth.locks = false ∧ (Jvm.Cond.and given_1 narrow_1).before #[Value.ref b] s = true ∧ meth.name = "law"
theorem x3 {i : Nat} : (100 + 3 * i - 100) / 3 = i ∧ (100 + 3 * i - 100) % 3 = 0 ∧ (101 + 3 * i - 100) / 3 = i ∧ (101 + 3 * i - 100) % 3 = 1 ∧ (102 + 3 * i - 100) / 3 = i ∧ (102 + 3 * i - 100) % 3 = 2 := by omega
set_option maxHeartbeats 4000000 in
theorem start_of (hp : xPure) {p : Program} {e : Env} {s : State} {m : MethodId} {below : List Frame} {meth : Method} {c : Code} (l : Launch) {b L : Nat} {xs : Nat → Int32} (hL : L ≤ 3072) (C0 : lw_At p s m meth c b L xs) : W p l e room_1 s m #[Value.ref b] below meth c s.heap [] 0 0 (lw_Z below #[Value.ref b] s) (entryFrame m ([Value.ref b] : List Value).toArray 4) := by
  obtain ⟨hx, hb, hr, hml, hown, hts, hX, hbl, hlocks, hgv0, hname⟩ := C0
  have hgv : ∀ w ∈ gvL, w.before #[Value.ref b] s = true := flat_of_before _ hgv0
  have hA : ∀ a : Nat, a < s.heap.size → ¬ (fun q : Nat => s.heap.size ≤ q) a := fun a h => Nat.not_le.mpr h
  have htsg : ∀ w ∈ gw, w.before #[Value.ref b] s = true := fun w h => hts w (gw_tbl h)
  obtain ⟨adK, adV, hS, hev⟩ := vk_Sof (args := #[Value.ref b]) (s := s) (N := 6) (tm := stm) (len := sln) (byt := sbt) (A := fun q : Nat => s.heap.size ≤ q) (fun i hi => (st_len i hi).2) (fun i hi => hgv _ (st_ex i hi)) (fun i hi => hgv _ (st_co i hi)) (fun i hi => hgv _ (st_ar i hi)) (fun i hi => hgv _ (st_le i hi)) (fun i hi j hj => hgv _ (st_el i hi j hj)) (fun i j hi hj hij => (st_ne i hi j hj hij).imp (hgv _) (hgv _)) hA
  -- the bytes of the constants are apart
  have hinjV : ∀ i j, i < 6 → j < 6 → adV i = adV j → i = j := by
    intro i j hi hj hij
    obtain ⟨ci, q1, -, -, -, -, q2, -⟩ := (hS.1 i hi).2.2.2
    obtain ⟨cj, q3, -, -, -, -, q4, -⟩ := (hS.1 j hj).2.2.2
    rw [hij] at q1
    cases q1.symm.trans q3
    have := (q2 0 (st_len i hi).1).symm.trans (q4 0 (st_len j hj).1)
    exact st_first i hi j hj (by simpa using this)
  have hVb : ∀ i, i < 6 → adV i ≠ b := by
    intro i hi hib
    obtain ⟨ci, q1, ⟨-, k1, hk1, cm1, hkk1⟩, -⟩ := (hS.1 i hi).2.2.2
    obtain ⟨scr, q3, ⟨-, k2, hk2, cm2, hkk2⟩, -⟩ := hX
    rw [hib] at q1
    cases q1.symm.trans q3
    cases hk1.symm.trans hk2
    rw [hkk1] at hkk2
    cases hkk2
  have hVl : ∀ i, i < 6 → adV i < s.heap.size := fun i hi => by
    obtain ⟨ci, q1, -⟩ := (hS.1 i hi).2.2.2
    exact (Array.getElem?_eq_some_iff.mp q1).1
  -- the formatter
  obtain ⟨v0, hv0, hz0⟩ : ∃ v0 : Value, xv1 v0 = true ∧ va_Z "jdk/internal/util/Preconditions" "SIOOBE_FORMATTER" "Ljava/util/function/BiFunction;" v0 (fun q : Nat => s.heap.size ≤ q) s s.heap := by
    rcases va_Zqof (hts _ st_lp) (hts _ st_ip) (hgv _ st_pf) hA with h | ⟨t, h⟩
    · exact ⟨_, rfl, h⟩
    · exact ⟨_, rfl, h⟩
  -- the classes
  obtain ⟨fC, hfC⟩ : ∃ f : Nat → ClassId × (Nat → Nat), ∀ ci r, vwC[ci]? = some r → u_Kn s r.1 r.2.1 r.2.2 (f ci).1 (f ci).2 := by
    have h0 : ∀ ci : Nat, ∃ q : ClassId × (Nat → Nat), ∀ r, vwC[ci]? = some r → u_Kn s r.1 r.2.1 r.2.2 q.1 q.2 := by
      intro ci
      by_cases hci : ci < 13
      · obtain ⟨r, n, hr1, hi⟩ := xinst hci
        obtain ⟨r', ty0, hr2, -, -, hin⟩ := xcls hci
        cases hr1.symm.trans hr2
        obtain ⟨cC, iS, hk⟩ := u_known htsg hin (htsg _ hi)
        exact ⟨(cC, iS), fun r hr3 => by cases hr1.symm.trans hr3; exact hk⟩
      · exact ⟨(0, fun _ => 0), fun r hr3 => absurd (List.getElem?_eq_some_iff.mp hr3).1 hci⟩
    exact ⟨fun ci => (h0 ci).choose, fun ci => (h0 ci).choose_spec⟩
  obtain ⟨a0, k0, c0, ha0, hk0, hkk0⟩ := Cond.arrayClass_spec (hts _ st_a0.1)
  obtain ⟨a1, k1, c1, ha1, hk1, hkk1⟩ := Cond.arrayClass_spec (hts _ st_a0.2.1)
  obtain ⟨a2, k2, c2, ha2, hk2, hkk2⟩ := Cond.arrayClass_spec (hts _ st_a0.2.2)
  obtain ⟨c3, a3, k3, hc3, -, hk3, hkk3, ha3⟩ := Cond.arrayOver_spec (hts _ (aol_in RX5 (by decide)))
  obtain ⟨c4, a4, k4, hc4, -, hk4, hkk4, ha4⟩ := Cond.arrayOver_spec (hts _ (aol_in RX6 (by decide)))
  obtain ⟨c5, a5, k5, hc5, -, hk5, hkk5, ha5⟩ := Cond.arrayOver_spec (hts _ (aol_in RX8 (by decide)))
  obtain ⟨c6, a6, k6, hc6, -, hk6, hkk6, ha6⟩ := Cond.arrayOver_spec (hts _ (aol_in RX9 (by decide)))
  have arr : ∀ {cA : ClassId} {k : Class} {cm : ClassId} {ty : FieldType}, s.vm.classes[cA]? = some k → k.kind = .array cm ty → ArrOfT s cA ty := fun h1 h2 n z => ⟨(fun _ h => by cases h), _, h1, _, h2⟩
  obtain ⟨aK, e0, e1, e2, e3, e4, e5, e6⟩ : ∃ aK : Nat → ClassId, aK 0 = a0 ∧ aK 1 = a1 ∧ aK 2 = a2 ∧ aK 3 = a3 ∧ aK 4 = a4 ∧ aK 5 = a5 ∧ aK 6 = a6 := ⟨fun i => [a0, a1, a2, a3, a4, a5, a6].getD i 0, rfl, rfl, rfl, rfl, rfl, rfl, rfl⟩
  obtain ⟨K, hKd⟩ : ∃ K : xK, K = (((fun ci => (fC ci).1), (fun ci => (fC ci).2)), aK, s.heap.size, xEf b L xs adV, xgf v0 adK adV) := ⟨_, rfl⟩
  have kK1 : K.1 = ((fun ci => (fC ci).1), (fun ci => (fC ci).2)) := by rw [hKd]
  have kK2 : K.2.1 = aK := by rw [hKd]
  have kK3 : K.2.2.1 = s.heap.size := by rw [hKd]
  have kK4 : K.2.2.2.1 = xEf b L xs adV := by rw [hKd]
  have kK5 : K.2.2.2.2 = xgf v0 adK adV := by rw [hKd]
  have hEb : xEf b L xs adV b = .inl (7, xis L xs) := by simp [xEf]
  have hEV : ∀ i, i < 6 → xEf b L xs adV (adV i) = sby i := fun i hi => by
    unfold xEf
    rw [if_neg (hVb i hi), xfind hi hinjV]
  have hEh : ∀ a, s.heap.size ≤ a → xEf b L xs adV a = .inr (99, []) := fun a ha => by
    unfold xEf
    rw [if_neg (by omega)]
    cases h : (List.range 6).find? (fun i => adV i == a) with
    | none => rfl
    | some i =>
      obtain ⟨h1, h2⟩ := xfind_some h
      have := hVl i h1
      omega
  have hg1 : ∀ i, i < 6 → xgf v0 adK adV (1 + i) = .ref (adK i) := fun i hi => by
    unfold xgf
    rw [if_neg (by omega), if_pos (by omega), Nat.add_sub_cancel_left]
  have hg2 : ∀ i, i < 6 → xgf v0 adK adV (100 + 3 * adK i) = .int 20 ∧ xgf v0 adK adV (101 + 3 * adK i) = .ref (adV i) ∧ xgf v0 adK adV (102 + 3 * adK i) = .int 0 := fun i hi => by
    obtain ⟨q1, q2, q3, q4, q5, q6⟩ := x3 (i := adK i)
    have hf := xfind (ad := adK) hi hS.2
    refine ⟨?_, ?_, ?_⟩ <;> unfold xgf <;> rw [if_neg (by omega), if_neg (by omega), if_neg (by omega), if_neg (by omega)]
    · rw [q1, q2, hf]; rfl
    · rw [q3, q4, hf]; rfl
    · rw [q5, q6, hf]; rfl
  have hg3 : ∀ a, xgf v0 adK adV (100 + 3 * a) = .int 20 → ∃ i, i < 6 ∧ adK i = a := fun a ha => by
    obtain ⟨q1, q2, -⟩ := x3 (i := a)
    unfold xgf at ha
    rw [if_neg (by omega), if_neg (by omega), if_neg (by omega), if_neg (by omega), q1, q2] at ha
    cases h : (List.range 6).find? (fun i => adK i == a) with
    | none => rw [h] at ha; cases ha
    | some i => exact ⟨i, xfind_some h⟩
  have hT : xT K s := by
    refine ⟨⟨fun ci r hr => ?_, fun k q hk => ?_⟩, fun w hw => va_Nw.of (nwl_on hw) (hts _ (nwl_in w hw)), fun C hC => va_AO.of (hts _ (aol_in C hC)), fun q hq => va_Nc.of (hgv _ (ncl_in q hq)), fun i q hq => ?_⟩
    · rw [kK1]; exact hfC ci r hr
    · rw [kK2] at hk
      unfold xtys at hk
      rw [e0, e1, e2, e3, e4, e5, e6] at hk
      match k, hk with
      | 0, hk => cases hk; exact ⟨arr hk0 hkk0, ha0⟩
      | 1, hk => cases hk; exact ⟨arr hk1 hkk1, ha1⟩
      | 2, hk => cases hk; exact ⟨arr hk2 hkk2, ha2⟩
      | 3, hk => cases hk; exact ⟨arr hk3 hkk3, k3, c3, hk3, hkk3, hc3, ha3⟩
      | 4, hk => cases hk; exact ⟨arr hk4 hkk4, k4, c4, hk4, hkk4, hc4, ha4⟩
      | 5, hk => cases hk; exact ⟨arr hk5 hkk5, k5, c5, hk5, hkk5, hc5, ha5⟩
      | 6, hk => cases hk; exact ⟨arr hk6 hkk6, k6, c6, hk6, hkk6, hc6, ha6⟩
      | n + 7, hk => simp at hk
    · rw [kK5]
      have hi6 : i < 6 := (List.getElem?_eq_some_iff.mp hq).1
      refine ⟨adK i, hg1 i hi6, vk_R.of (hts _ (xstr_in q (List.mem_of_getElem? hq))) ?_⟩
      have he := hev i hi6
      match i, hi6, hq, he with
      | 0, _, hq, he => cases hq; exact he
      | 1, _, hq, he => cases hq; exact he
      | 2, _, hq, he => cases hq; exact he
      | 3, _, hq, he => cases hq; exact he
      | 4, _, hq, he => cases hq; exact he
      | 5, _, hq, he => cases hq; exact he
  have hA0 : xA0 K = fun q : Nat => s.heap.size ≤ q := by funext q; show (K.2.2.1 ≤ q) = _; rw [kK3]
  have hLo : xL K s s.heap := by
    refine ⟨fun a ha => ?_, ⟨?_, ?_⟩, ⟨?_, ?_⟩, fun a ha => ?_⟩
    · rw [kK4]
      unfold xEf
      by_cases hab : a = b
      · subst hab
        rw [if_pos rfl]
        exact Or.inl ⟨L, xs, rfl, hX, hbl⟩
      · rw [if_neg hab]
        cases h : (List.range 6).find? (fun i => adV i == a) with
        | none => exact Or.inr (Or.inr rfl)
        | some i =>
          obtain ⟨h1, h2⟩ := xfind_some h
          refine Or.inr (Or.inl ⟨_, _, rfl, ?_⟩)
          rw [hA0, ← h2]
          exact (hS.1 i h1).2.2.2
    · rw [hA0, kK5]
      exact va_Zof (hts _ st_lc) (hts _ st_ic) (va_eqt (hgv _ st_cs)) hA
    · rw [kK5]; rfl
    · rw [hA0, kK5]; exact hz0
    · rw [kK5]; exact hv0
    · rw [kK5] at ha ⊢
      obtain ⟨i, hi, rfl⟩ := hg3 a ha
      obtain ⟨-, q2, q3⟩ := hg2 i hi
      rw [q2, q3, hA0]
      exact ⟨(hS.1 i hi).1, (hS.1 i hi).2.2.1, (hS.1 i hi).2.1⟩
  obtain ⟨n, v, h', hrun, hv, hc1, hc2⟩ := hp s.heap.size b L xs (xEf b L xs adV) (xgf v0 adK adV) adK adV hL hbl hEb hEh rfl hv0 (fun i hi => ⟨hg1 i hi, (hg2 i hi).1, (hg2 i hi).2.1, (hg2 i hi).2.2, hVl i hi, hEV i hi⟩)
  obtain ⟨z1, z2, hW⟩ := xsound tab_ok n 13 243 0 _ [] _ v h' hrun
  have hW1 := hW K p l e room_1 s m #[Value.ref b] below meth c s.heap [] 0 0 (fun _ _ o _ => o = .returned v) ((lg_sl [Value.ref b] ++ List.replicate (4 - (lg_sl [Value.ref b]).length) Slot.unset).toArray)
    ⟨hx, hb, hml, hr, hown, htsg, hlocks, hname, hT, hLo, Nat.le_of_ble_eq_true rfl, Nat.le_of_ble_eq_true rfl⟩
    ⟨⟨rfl, by show K.2.2.1 ≤ _; rw [kK3]; exact Nat.le_refl _, fun a h1 h2 => absurd h2 (by have h1' : K.2.2.1 ≤ a := h1; rw [kK3] at h1'; exact Nat.not_lt.mpr h1'), hEh⟩, fun a _ => by rw [kK4], by rw [kK5], va_S.rf, by show K.2.2.1 ≤ _; rw [kK3]; exact Nat.le_refl _⟩
    (xls_ent (as := [Value.ref b]) (n := 4) rfl (show 1 ≤ 4 by decide)) (Nat.le_of_ble_eq_true rfl) (Nat.le_of_ble_eq_true rfl) (by show 0 + _ ≤ 600000; have : h'.1 ≤ s.heap.size + 600000 := hc1; show 0 + (h'.1 - s.heap.size) ≤ 600000; omega) (by show 0 + (h'.2.1 - 0) ≤ 7302250; omega) (fun _ _ _ _ _ _ => rfl)
  rw [lg_entry_eq]
  intro T hTT X
  obtain ⟨t, a1, o, g1, g2, g3, Lc, ⟨⟨w, hw⟩, g4, g5⟩, g6⟩ := hW1 T hTT X
  refine ⟨t, a1, o, g1, g2, ?_, ⟨w, hw⟩, g4, ?_⟩
  · rw [g3, hv]
  · refine State.sameButNew.weaken g5 (fun y hy hlt => ?_) ?_ ?_
    · have h1 : K.2.2.1 ≤ y.base := g6 y hy
      rw [kK3] at h1
      exact absurd hlt (Nat.not_lt.mpr h1)
    · show 0 + (h'.1 - s.heap.size) ≤ 600000
      have : h'.1 ≤ s.heap.size + 600000 := hc1
      omega
    · show 0 + (h'.2.1 - 0) ≤ 7302250
      omega
