/-! ===== 12: a run of the small machine is one of the machine ===== -/
theorem xvs_sl : ∀ {as : List Value}, xvs as = true → lg_sl as = as.map Slot.val := by
  intro as
  induction as with
  | nil => intro _; rfl
  | cons v r ih =>
    intro h
    simp only [xvs, Bool.and_eq_true] at h
    have hv := xv1_cat h.1
    have e := ih h.2
    unfold lg_sl at e ⊢
    rw [List.flatMap_cons, e, if_neg (by rw [hv]; decide)]
    rfl
theorem xvs_mem : ∀ {as : List Value} {v : Value}, xvs as = true → v ∈ as → xv1 v = true := by
  intro as
  induction as with
  | nil => intro v _ h; cases h
  | cons w r ih =>
    intro v h hm
    simp only [xvs, Bool.and_eq_true] at h
    rcases List.mem_cons.mp hm with rfl | hm
    · exact h.1
    · exact ih h.2 hm
theorem xls_ent {as : List Value} {n : Nat} (h : xvs as = true) (hl : as.length ≤ n) : xls (as.map Slot.val ++ List.replicate (n - as.length) Slot.unset) ((lg_sl as ++ List.replicate (n - (lg_sl as).length) Slot.unset).toArray) n := by
  have e := xvs_sl h
  have hle : (lg_sl as).length ≤ n := by rw [e, List.length_map]; exact hl
  have h1 := lv_entry as hle
  refine ⟨h1.1, h1.2.1, by rw [List.length_append, List.length_map, List.length_replicate]; omega, fun i v hi => ?_⟩
  rw [e, List.length_map, List.getElem?_toArray]
  refine ⟨hi, ?_⟩
  by_cases hlt : i < (as.map Slot.val).length
  · rw [List.getElem?_append_left hlt, List.getElem?_map] at hi
    cases hv : as[i]? with
    | none => rw [hv] at hi; cases hi
    | some w =>
      rw [hv] at hi
      cases hi
      exact xv1_cat (xvs_mem h (List.mem_of_getElem? hv))
  · rw [List.getElem?_append_right (Nat.not_lt.mp hlt), List.getElem?_replicate] at hi
    split at hi <;> cases hi
/-- the start and the end of a method -/
def xPc (K : xK) (as : List Value) (h : xH) : Array Value → State → Prop := fun a U => a = as.toArray ∧ xT K U ∧ xL K U U.heap ∧ xw K h U.heap ∧ (∀ b, b < xb K → h.2.2.1 b = K.2.2.2.1 b) ∧ h.2.2.2 = K.2.2.2.2
def xQc (K : xK) (v : Option Value) (h : xH) : Array Value → State → Outcome → State → Prop := fun _ st o t => o = .returned v ∧ xw K h t.heap ∧ (∀ b, b < xb K → h.2.2.1 b = K.2.2.2.1 b) ∧ h.2.2.2 = K.2.2.2.2 ∧ va_F (xA0 K) st t
theorem xPc_blind {K : xK} {as : List Value} {h : xH} : FrameBlind (xPc K as h) := by
  intro a U g mk q
  obtain ⟨q1, q2, q3, q4, q5, q6⟩ := q
  exact ⟨q1, q2.calling, xL.moved (u := U) (U := U.calling g mk a) (Vm.Alike.refl U.vm) q3, q4, q5, q6⟩
def xrm (d c k : Nat) : Room := { frames := d + 1, cells := c, slots := k, locals := 60 + 31 * d }
section XS
variable {mi : Nat → xM} {tab : Nat → Nat → Option xA}
abbrev xmL (mi : Nat → xM) : Nat → Nat := fun m => (mi m).2.2.1
def xTab (mi : Nat → xM) (tab : Nat → Nat → Option xA) : Prop := ∀ (m pc : Nat) (a : xA), tab m pc = some a → XOK mi (mi m).1 (mi m).2.1 (mi m).2.2.1 (mi m).2.2.2 pc a
set_option maxHeartbeats 1000000 in
theorem xsound (hT : xTab mi tab) : ∀ (n d m pc : Nat) (la : List Slot) (st : List Value) (h : xH) (v : Option Value) (h' : xH), xrun tab (xmL mi) n d m pc la st h = some (v, h') →
    h.1 ≤ h'.1 ∧ h.2.1 ≤ h'.2.1 ∧ ∀ (K : xK) (p : Program) (l : Launch) (e : Env) (R : Room) (s : State) (mk : MethodId) (args : Array Value) (below : List Frame) (meth : Method) (c : Code) (H : Heap) (locs : List Loc) (cells slots : Nat) (Qc : Array Value → State → Outcome → State → Prop) (ls : Array Slot),
      xF K (mi m).1 (mi m).2.1 (mi m).2.2.1 (mi m).2.2.2 p R s mk args meth c → xG K s h H locs → xls la ls (mi m).2.2.1 → d + 1 ≤ R.frames → 60 + 31 * d ≤ R.locals → cells + (h'.1 - h.1) ≤ R.cells → slots + (h'.2.1 - h.2.1) ≤ R.slots →
      (∀ (H1 : Heap) (locs1 : List Loc) (t : State), xG K s h' H1 locs1 → t.heap = H1 → s.WarmedH t.vm → Qc args s (.returned v) t) →
      W p l e R s mk args below meth c H locs cells slots (MQ below Qc args s (cells + (h'.1 - h.1)) (slots + (h'.2.1 - h.2.1)) (xA0 K)) (F0 mk pc ls st) := by
  intro n
  induction n with
  | zero => intro d m pc la st h v h' e; simp [xrun] at e
  | succ n ih =>
    intro d m pc la st h v h' er
    rw [xrun] at er
    cases ht : tab m pc with
    | none => rw [ht] at er; cases er
    | some a =>
      rw [ht] at er
      dsimp only at er
      have hok := hT m pc a ht
      cases ha : a la st h with
      | none => rw [ha] at er; cases er
      | some x =>
        rw [ha] at er
        have hx := hok la st h x ha
        rcases x with ⟨pc', la', st', h2⟩ | w | ⟨m', as, pc', st'⟩
        · dsimp only at er
          obtain ⟨z1, z2, hrun⟩ := ih d m pc' la' st' h2 v h' er
          obtain ⟨y1, y2, hstep⟩ := hx
          refine ⟨Nat.le_trans y1 z1, Nat.le_trans y2 z2, ?_⟩
          intro K p l e R s mk args below meth c H locs cells slots Qc ls F G L hfr hlo hc hs hq
          refine hstep K p l e R s mk args below meth c H locs cells slots _ ls F G L (by omega) (by omega) fun H1 locs1 ls1 G1 L1 => ?_
          have := hrun K p l e R s mk args below meth c H1 locs1 (cells + (h2.1 - h.1)) (slots + (h2.2.1 - h.2.1)) Qc ls1 F G1 L1 hfr hlo (by omega) (by omega) hq
          rw [show cells + (h'.1 - h.1) = cells + (h2.1 - h.1) + (h'.1 - h2.1) by omega, show slots + (h'.2.1 - h.2.1) = slots + (h2.2.1 - h.2.1) + (h'.2.1 - h2.2.1) by omega]
          exact this
        · dsimp only at er
          cases er
          refine ⟨Nat.le_refl _, Nat.le_refl _, ?_⟩
          intro K p l e R s mk args below meth c H locs cells slots Qc ls F G L hfr hlo hc hs hq
          rw [Nat.sub_self, Nat.sub_self, Nat.add_zero, Nat.add_zero]
          exact hx K p l e R s mk args below meth c H locs cells slots Qc (xA0 K) ls F (fun t ht hW => hq H locs t G ht hW) G.2.2.2.1.2.2
        · cases d with
          | zero => dsimp only at er; cases er
          | succ d =>
            dsimp only at er
            cases hc0 : xrun tab (xmL mi) n d m' 0 (xent (xmL mi) m' as) [] h with
            | none => rw [hc0] at er; cases er
            | some yy =>
              obtain ⟨w, h2⟩ := yy
              rw [hc0] at er
              dsimp only at er
              obtain ⟨z1, z2, hrun⟩ := ih (d + 1) m pc' la (w.toList ++ st') h2 v h' er
              obtain ⟨y1, y2, hcal⟩ := ih d m' 0 (xent (xmL mi) m' as) [] h w h2 hc0
              obtain ⟨rfl, hvs, ⟨k, hm⟩, hlen, hcall⟩ := hx
              refine ⟨Nat.le_trans y1 z1, Nat.le_trans y2 z2, ?_⟩
              intro K p l e R s mk args below meth c H locs cells slots Qc ls F G L hfr hlo hc hs hq
              have hMet : Met l (mi m').1 (xws (mi m')) (xrm d (h2.1 - h.1) (h2.2.1 - h.2.1)) (xPc K as h) (xQc K w h2) (h2.1 - h.1) (h2.2.1 - h.2.1) (xA0 K) := by
                refine Met.ofW (cc := (mi m').2.1) (maxL := (mi m').2.2.1) (ret := (mi m').2.2.2) hm.2.2.2.2.1 rfl ?_
                intro p1 e1 s1 m1 args1 below1 meth1 c1 s2 B hml hP
                obtain ⟨rfl, q2, q3, q4, q5, q6⟩ := hP
                have hts : ∀ w ∈ xws (mi m'), w.before as.toArray s1 = true := atoms_spec (ws := xws (mi m')) B.pre
                rw [lg_entry_eq]
                have hR := hcal K p1 l e1 (headSpec (xws (mi m')) (xrm d (h2.1 - h.1) (h2.2.1 - h.2.1))).room s1 m1 as.toArray below1 meth1 c1 s1.heap [] 0 0 (xQc K w h2) _
                  ⟨B.exec, B.bytes, hml, B.returns, findClass_of_methodNamed B.named, fun w hw => hts w (List.mem_cons_of_mem _ hw), B.notSynchronized, (name_of_methodNamed B.named B.method).1, q2, q3, Nat.succ_le_succ (Nat.zero_le d), Nat.le_add_right 60 _⟩
                  ⟨q4, q5, q6, va_S.rf, by rw [q4.1]; exact q4.2.1⟩ (xls_ent hvs hlen) (Nat.le_refl _) (Nat.le_refl _) (by show 0 + _ ≤ h2.1 - h.1; omega) (by show 0 + _ ≤ h2.2.1 - h.2.1; omega)
                  (fun H1 locs1 t G1 ht _ => ⟨rfl, ht ▸ G1.1, G1.2.1, G1.2.2.1, G1.2.2.2.1.F ht⟩)
                rw [Nat.zero_add, Nat.zero_add] at hR
                exact hR
              have hml12 := hm.2.2.2.2.2
              have hr := hcall K p l e R s mk args below meth c H locs cells slots ls (xrm d (h2.1 - h.1) (h2.2.1 - h.2.1)) (xPc K as h) (xQc K w h2) (h2.1 - h.1) (h2.2.1 - h.2.1) (xA0 K) F G L hMet rfl rfl (by show d + 1 + 1 ≤ _; omega) (by show 8 + _ + (60 + 31 * d) ≤ _; omega) xPc_blind
                (fun U hU hW => ⟨rfl, F.tb.warm hW, by rw [hU]; exact xL.moved hW.alike (xL.kept G.2.2.2.1.1 F.lo G.2.2.2.1.2.1), by rw [hU]; exact G.1, G.2.1, G.2.2.1⟩) (by omega) (by omega)
              intro T hTT X
              obtain ⟨v0, st₀, t, T', L0, h0, X', hL, e1, e2, ⟨hv0, g1, g2, g3, g4⟩, stp⟩ := hr T hTT X
              cases hv0
              have G2 : xG K s h2 T'.heap (locs ++ L0) := by
                refine ⟨by rw [e1]; exact g1, g2, g3, ⟨Nat.le_trans G.2.2.2.1.1 ?_, fun q h1 h2 => ?_, fun q hq => ?_⟩, G.2.2.2.2⟩
                · rw [e1, ← h0]; exact g4.1
                · rw [e1, g4.2 q (by rw [h0]; exact Nat.lt_of_lt_of_le h1 G.2.2.2.1.1) h2, h0]
                  exact G.2.2.2.1.2.1 q h1 h2
                · rcases List.mem_append.mp hq with h | h
                  · exact G.2.2.2.1.2.2 q h
                  · exact hL q h
              have hW := hrun K p l e R s mk args below meth c T'.heap (locs ++ L0) (cells + (h2.1 - h.1)) (slots + (h2.2.1 - h.2.1)) Qc ls F G2 L hfr hlo (by omega) (by omega) hq
              rw [show cells + (h2.1 - h.1) + (h'.1 - h2.1) = cells + (h'.1 - h.1) by omega, show slots + (h2.2.1 - h.2.1) + (h'.2.1 - h2.2.1) = slots + (h'.2.1 - h.2.1) by omega] at hW
              obtain ⟨t2, a1, b1⟩ := hW T' rfl X'
              exact ⟨t2, stp t2 a1, b1⟩
end XS
