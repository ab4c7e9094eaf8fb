/-! ===== 08: arrays, making, classes ===== -/
theorem xG.mk {K : xK} {s : State} {h : xH} {H H1 : Heap} {locs : List Loc} {k : Nat} {e : va_E} (G : xG K s h H locs) (z : H1.size = H.size + 1) (o : ∀ q : Nat, q < H.size → H1[q]? = H[q]?) (hat : va_at K.1 vwC (h.1, xcv K.2.1 e) H1) (hgd : xgd e) : xG K s (xnew h k e) H1 locs := by
  obtain ⟨⟨g1, g2, g3, g4⟩, g5, g6, g7, g8⟩ := G
  refine ⟨⟨by rw [z, g1]; rfl, Nat.le_succ_of_le g2, fun b hb1 hb2 => ?_, fun b hb => ?_⟩, fun b hb => ?_, g6, ⟨Nat.le_trans g7.1 (by omega), fun x h1 h2 => (o x (Nat.lt_of_lt_of_le h1 g7.1)).trans (g7.2.1 x h1 h2), g7.2.2⟩, g8⟩
  · show va_at K.1 vwC (b, xcv K.2.1 (va_up h.2.2.1 h.1 e b)) H1 ∧ xgd (va_up h.2.2.1 h.1 e b)
    by_cases hba : b = h.1
    · subst hba
      rw [xup_s]
      exact ⟨hat, hgd⟩
    · rw [xup_n hba]
      have hb3 : b < h.1 := by have : b < h.1 + 1 := hb2; omega
      exact ⟨(g3 b hb1 hb3).1.kept (o b (by rw [g1]; exact hb3)), (g3 b hb1 hb3).2⟩
  · show va_up h.2.2.1 h.1 e b = _
    have hb' : h.1 + 1 ≤ b := hb
    rw [xup_n (by omega)]
    exact g4 b (by omega)
  · show va_up h.2.2.1 h.1 e b = _
    rw [xup_n (by omega)]
    exact g5 b hb
theorem xin_in {i : Int32} {N : Nat} (h : xin i N) : vp_in i N := fun q => by
  rcases q with q | q
  · exact absurd q (Int32.not_lt.mpr h.1)
  · exact absurd h.2 (Nat.not_lt.mpr q)
theorem xty0 {K : xK} {U : State} (h : xT K U) : va_K K.1 vwC (xtys K.2.1) U := h.1
section XO4
variable {mi : Nat → xM} {y : MethodName} {bytes : ByteArray} {mL : Nat} {ret : Option FieldType} {pc : Nat}
/-- a step that makes a cell -/
theorem xok3 {a : xA} (hk : ∀ (la : List Slot) (st : List Value) (h : xH) (r : xR), a la st h = some r → ∃ n st' k e1, r = .inl (n, la, st', xnew h k e1) ∧ ∀ (K : xK) (p : Program) (l : Launch) (e : Env) (R : Room) (s : State) (m : MethodId) (args : Array Value) (below : List Frame) (meth : Method) (c : Code) (H : Heap) (locs : List Loc) (cells slots : Nat) (Q : State → Prop) (ls : Array Slot),
      xF K y bytes mL ret p R s m args meth c → xG K s h H locs → xls la ls mL → cells + 1 ≤ R.cells → slots + k ≤ R.slots → (∀ (H1 : Heap), xG K s (xnew h k e1) H1 locs → W p l e R s m args below meth c H1 locs (cells + 1) (slots + k) Q (F0 m n ls st')) → W p l e R s m args below meth c H locs cells slots Q (F0 m pc ls st)) : XOK mi y bytes mL ret pc a := by
  intro la st h r e
  obtain ⟨n, st', k, e1, rfl, hw⟩ := hk la st h r e
  refine ⟨Nat.le_succ _, Nat.le_add_right _ _, ?_⟩
  intro K p l e R s m args below meth c H locs cells slots Q ls F G L hc hs kk
  have z1 : (xnew h k e1).1 - h.1 = 1 := Nat.add_sub_cancel_left _ _
  have z2 : (xnew h k e1).2.1 - h.2.1 = k := Nat.add_sub_cancel_left _ _
  rw [z1] at hc kk
  rw [z2] at hs kk
  exact hw K p l e R s m args below meth c H locs cells slots Q ls F G L hc hs (fun H1 G1 => kk H1 locs ls G1 L)
theorem ok_new {ci N i : Nat} {fs : List Value} {C : String} {T : u_T} {ty0 : Nat → FieldType} (hd : decode bytes pc = .ok (.new i, 3)) (hl : Cond.classLink y.cls i C ∈ gw) (hin : ∀ w ∈ u_ws C T N, w ∈ gw) (hty : ∀ k, k < N → parseFieldDescriptor (T k).2.2.1 = some (ty0 k)) (hi : Cond.instantiable C N ∈ gw) (hini : Cond.initialized C ∈ gw) (hc : vwC[ci]? = some (C, T, N)) (hci : ci < 13) (hfs : ∀ j, j < N → defaultValue (ty0 j) = vp_V fs j) : XOK mi y bytes mL ret pc (q_new ci N fs (pc + 3)) := xok3 (by
  intro la st h r e
  cases e
  refine ⟨_, _, _, _, rfl, fun K p l e R s m args below meth c H locs cells slots Q ls F G L hcl hsl k => ?_⟩
  have hKn := F.tb.1.1 ci _ hc
  refine W.newcK F.ex F.by F.own (F.ts _ hl) (F.ts _ hi) (F.ts _ hini) rfl hd hcl hsl hKn.2.1 G.1.1 fun H1 kC hkC e1 z1 o1 => ?_
  refine k H1 (G.mk (z1.trans (by rw [G.1.1])) (by rw [G.1.1]; exact o1) ⟨_, hc, (u_born ty0 F.ts hin hKn hkC e1 hty).to hfs⟩ hci))
theorem xnat {x : Int32} (h : 0 ≤ x) : ¬ x < 0 := Int32.not_lt.mpr h
theorem ok_newa {ka : Nat} {at0 : ArrayType} {ty : FieldType} (hd : decode bytes pc = .ok (.newarray at0, 2)) (hty : newarray.typeOf at0 = ty) (hw : Cond.arrayClass ty ∈ gw) (hk : (ka = 0 ∧ ty = .int) ∨ (ka = 1 ∧ ty = .boolean) ∨ (ka = 2 ∧ ty = .char)) : XOK mi y bytes mL ret pc (q_newa ka (pc + 2)) := xok3 (by
  intro la st h r e
  unfold q_newa at e
  split at e
  next x r1 =>
    split at e
    next hx =>
      cases e
      subst hty
      refine ⟨_, _, _, _, rfl, fun K p l e R s m args below meth c H locs cells slots Q ls F G L hcl hsl k => ?_⟩
      have hcb : componentBytes (newarray.typeOf at0) ≤ 4 := by rcases hk with ⟨-, q⟩ | ⟨-, q⟩ | ⟨-, q⟩ <;> rw [q] <;> decide
      refine va_newaK (atype := at0) F.ex F.by (F.ts _ hw) rfl hd rfl (xnat hx.1) rfl (Nat.le_trans (Nat.mul_le_mul hx.2 hcb) (Nat.le_of_ble_eq_true rfl)) hcl hsl G.1.1 fun H1 cA e1 z1 o1 hAr hNm => ?_
      refine k H1 (G.mk (z1.trans (by rw [G.1.1])) (by rw [G.1.1]; exact o1) ?_ (show ka < 7 by rcases hk with ⟨q, -⟩ | ⟨q, -⟩ | ⟨q, -⟩ <;> rw [q] <;> decide))
      show H1[h.1]? = some (vp_cell _ _)
      have hdv : defaultValue (newarray.typeOf at0) = .int 0 := by rcases hk with ⟨-, q⟩ | ⟨-, q⟩ | ⟨-, q⟩ <;> rw [q] <;> rfl
      have hcA : K.2.1 ka = cA := by
        rcases hk with ⟨rfl, q⟩ | ⟨rfl, q⟩ | ⟨rfl, q⟩ <;> rw [q] at hNm
        · exact Option.some.inj (((F.tb.1.2 0 _ rfl).2).symm.trans hNm)
        · exact Option.some.inj (((F.tb.1.2 1 _ rfl).2).symm.trans hNm)
        · exact Option.some.inj (((F.tb.1.2 2 _ rfl).2).symm.trans hNm)
      rw [e1, hdv, vp_cell_i, hcA]
    next => cases e
  next => cases e)
theorem ok_anew {ka i : Nat} {C : String} (hd : decode bytes pc = .ok (.anewarray i, 3)) (hl : Cond.classLink y.cls i C ∈ gw) (ho : C ∈ aol) (hk7 : ka < 7) (hk : ∀ aK : Nat → ClassId, (xtys aK)[ka]? = some (aK ka, .object C)) : XOK mi y bytes mL ret pc (q_anew ka (pc + 3)) := xok3 (by
  intro la st h r e
  unfold q_anew at e
  split at e
  next x r1 =>
    split at e
    next hx =>
      cases e
      refine ⟨_, _, _, _, rfl, fun K p l e R s m args below meth c H locs cells slots Q ls F G L hcl hsl k => ?_⟩
      refine W.anew F.ex F.by F.own (F.ts _ hl) (va_AO.use (F.tb.2.2.1 C ho)) rfl hd rfl (xnat hx.1) (Nat.le_trans (Nat.mul_le_mul_right 4 hx.2) (Nat.le_of_ble_eq_true rfl)) hcl hsl fun cA kA comp f1 f2 f3 f4 => ?_
      have hcA : K.2.1 ka = cA := by
        obtain ⟨_, _, -, -, -, q⟩ := (F.tb.1.2 ka _ (hk K.2.1)).2
        exact Option.some.inj (q.symm.trans f1)
      rw [G.1.1]
      refine k _ (G.mk (by rw [Array.size_push]) (fun q hq => by rw [Array.getElem?_push, if_neg (Nat.ne_of_lt hq)]) ?_ hk7)
      show (H.push _)[h.1]? = some (vp_cell _ _)
      rw [← G.1.1, Array.getElem?_push_size, vp_cell_q, hcA, ← arrV_new]
      rfl
    next => cases e
  next => cases e)
/-- what lies below the world is still there -/
theorem xlow {K : xK} {p : Program} {R : Room} {s : State} {m : MethodId} {args : Array Value} {meth : Method} {c : Code} {h : xH} {H : Heap} {locs : List Loc} {a : Nat} (F : xF K y bytes mL ret p R s m args meth c) (G : xG K s h H locs) (ha : a < xb K) : xlc K a (h.2.2.1 a) s H := by
  rw [G.2.1 a ha]
  exact (F.lo.1 a ha).kept ha G.2.2.2.1.1 G.2.2.2.1.2.1
theorem xscr {K : xK} {p : Program} {R : Room} {s : State} {m : MethodId} {args : Array Value} {meth : Method} {c : Code} {h : xH} {H : Heap} {locs : List Loc} {a : Nat} {x : vp_A} (F : xF K y bytes mL ret p R s m args meth c) (G : xG K s h H locs) (he : h.2.2.1 a = .inl (7, x)) : ∃ L xs, x = xis L xs ∧ va_X a L xs s s.heap ∧ a < s.heap.size ∧ ¬ xA0 K a := by
  have ha : a < xb K := Nat.not_le.mp fun hle => by
    by_cases hlt : a < h.1
    · have h9 := (G.1.2.2.1 a hle hlt).2
      rw [he] at h9
      have h8 : 7 < 7 := h9
      omega
    · have := G.1.2.2.2 a (Nat.not_lt.mp hlt)
      rw [he] at this
      cases this
  have h1 := F.lo.1 a ha
  rw [← G.2.1 a ha, he] at h1
  rcases h1 with ⟨L, xs, h1, h2, h3⟩ | ⟨N, f, h1, h2⟩ | h1
  · cases h1; exact ⟨L, xs, rfl, h2, h3, Nat.not_le.mpr ha⟩
  · cases h1
  · cases h1
theorem xbyt {K : xK} {p : Program} {R : Room} {s : State} {m : MethodId} {args : Array Value} {meth : Method} {c : Code} {h : xH} {H : Heap} {locs : List Loc} {a : Nat} {x : vp_A} (F : xF K y bytes mL ret p R s m args meth c) (G : xG K s h H locs) (he : h.2.2.1 a = .inl (8, x)) : ∃ N f, x = xis N f ∧ va_T .byte a N (fun j => .int (f j)) (xA0 K) s s.heap := by
  have ha : a < xb K := Nat.not_le.mp fun hle => by
    by_cases hlt : a < h.1
    · have h9 := (G.1.2.2.1 a hle hlt).2
      rw [he] at h9
      have h8 : 8 < 7 := h9
      omega
    · have := G.1.2.2.2 a (Nat.not_lt.mp hlt)
      rw [he] at this
      cases this
  have h1 := F.lo.1 a ha
  rw [← G.2.1 a ha, he] at h1
  rcases h1 with ⟨L, xs, h1, h2, h3⟩ | ⟨N, f, h1, h2⟩ | h1
  · cases h1
  · cases h1; exact ⟨N, f, rfl, h2⟩
  · cases h1
theorem xstg {K : xK} {p : Program} {R : Room} {s : State} {m : MethodId} {args : Array Value} {meth : Method} {c : Code} {h : xH} {H : Heap} {locs : List Loc} {a : Nat} (F : xF K y bytes mL ret p R s m args meth c) (G : xG K s h H locs) (he : h.2.2.2 (100 + 3 * a) = .int 20) : va_O "java/lang/String" a (xA0 K) s H ∧ va_OF "java/lang/String" "value" "[B" (h.2.2.2 (101 + 3 * a)) a (xA0 K) s s.heap ∧ va_OF "java/lang/String" "coder" "B" (h.2.2.2 (102 + 3 * a)) a (xA0 K) s s.heap := by
  rw [G.2.2.1] at he ⊢
  obtain ⟨h2, h3, h4⟩ := F.lo.2.2.2 a he
  exact ⟨h2.kept G.2.2.2.1.2.1, h3, h4⟩
end XO4
