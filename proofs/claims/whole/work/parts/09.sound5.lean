/-! ===== 09: loads, stores, copies ===== -/
def xkty : List (Nat × FieldType) := [(0, .int), (1, .boolean), (2, .char)]
theorem xtyK {aK : Nat → ClassId} {ka : Nat} (h : ka < 7) : ∃ ty, (xtys aK)[ka]? = some (aK ka, ty) := by
  match ka, h with
  | 0, _ => exact ⟨_, rfl⟩
  | 1, _ => exact ⟨_, rfl⟩
  | 2, _ => exact ⟨_, rfl⟩
  | 3, _ => exact ⟨_, rfl⟩
  | 4, _ => exact ⟨_, rfl⟩
  | 5, _ => exact ⟨_, rfl⟩
  | 6, _ => exact ⟨_, rfl⟩
  | n + 7, h => omega
theorem xtyR {aK : Nat → ClassId} {ka : Nat} (h : ka < 7) (h3 : 3 ≤ ka) : ∃ C, (xtys aK)[ka]? = some (aK ka, .object C) := by
  match ka, h with
  | 0, _ => omega
  | 1, _ => omega
  | 2, _ => omega
  | 3, _ => exact ⟨_, rfl⟩
  | 4, _ => exact ⟨_, rfl⟩
  | 5, _ => exact ⟨_, rfl⟩
  | 6, _ => exact ⟨_, rfl⟩
  | n + 7, h => omega
section XO5
variable {mi : Nat → xM} {y : MethodName} {bytes : ByteArray} {mL : Nat} {ret : Option FieldType} {pc : Nat}
theorem ok_alen (hd : decode bytes pc = .ok (.arraylength, 1)) : XOK mi y bytes mL ret pc (q_alen (pc + 1)) := xok0 (by
  intro la st h r e
  unfold q_alen at e
  split at e
  next a r1 =>
    split at e
    next ka x he =>
      split at e
      next hk =>
        cases e
        refine ⟨_, _, rfl, fun K p l e R s m args below meth c H locs cells slots Q ls F G L _ _ k => ?_⟩
        by_cases h7 : ka < 7
        · obtain ⟨ty, hty⟩ := xtyK (aK := K.2.1) h7
          exact va_alen F.ex F.by F.tb.1 (xatA G F.lo he h7) 0 ka rfl hty rfl hd k
        · by_cases h8 : ka = 7
          · subst h8
            obtain ⟨L0, xs, rfl, hX, hbl, hbA⟩ := xscr F G he
            exact va_slen F.ex F.by hX hbl hbA G.2.2.2.1 hd k
          · have h9 : ka = 8 := Nat.le_antisymm (Nat.le_of_lt_succ hk) (Nat.lt_of_le_of_ne (Nat.not_lt.mp h7) (Ne.symm h8))
            subst h9
            obtain ⟨N, f, rfl, hT⟩ := xbyt F G he
            exact va_tlen F.ex F.by hT G.2.2.2.1 rfl hd k
      next => cases e
    next => cases e
  next => cases e)
theorem ok_iald (hd : decode bytes pc = .ok (.iaload, 1)) : XOK mi y bytes mL ret pc (q_ald [0, 7] (pc + 1)) := xok0 (by
  intro la st h r e
  unfold q_ald at e
  split at e
  next i a r1 =>
    split at e
    next ka N f he =>
      split at e
      next hk =>
        cases e
        refine ⟨_, _, rfl, fun K p l e R s m args below meth c H locs cells slots Q ls F G L _ _ k => ?_⟩
        by_cases h0 : ka = 0
        · subst h0
          exact va_iald F.ex F.by F.tb.1 (xatA G F.lo he (by decide)) 0 0 rfl rfl (xin_in hk.2) hd k
        · have h7 : ka = 7 := by have := hk.1; simp only [List.mem_cons, List.not_mem_nil, or_false] at this; exact this.resolve_left h0
          subst h7
          obtain ⟨L0, xs, h1, hX, hbl, hbA⟩ := xscr F G he
          cases h1
          exact va_sld F.ex F.by hX hbl hbA G.2.2.2.1 (xin_in hk.2) hd k
      next => cases e
    next => cases e
  next => cases e)
theorem ok_bald (hd : decode bytes pc = .ok (.baload, 1)) : XOK mi y bytes mL ret pc (q_ald [1, 8] (pc + 1)) := xok0 (by
  intro la st h r e
  unfold q_ald at e
  split at e
  next i a r1 =>
    split at e
    next ka N f he =>
      split at e
      next hk =>
        cases e
        refine ⟨_, _, rfl, fun K p l e R s m args below meth c H locs cells slots Q ls F G L _ _ k => ?_⟩
        by_cases h0 : ka = 1
        · subst h0
          exact va_zald F.ex F.by F.tb.1 (xatA G F.lo he (by decide)) 0 1 rfl rfl (xin_in hk.2) hd k
        · have h8 : ka = 8 := by have := hk.1; simp only [List.mem_cons, List.not_mem_nil, or_false] at this; exact this.resolve_left h0
          subst h8
          obtain ⟨N0, f0, h1, hT⟩ := xbyt F G he
          cases h1
          exact va_tb F.ex F.by hT G.2.2.2.1 (xin_in hk.2) rfl hd k
      next => cases e
    next => cases e
  next => cases e)
theorem ok_cald (hd : decode bytes pc = .ok (.caload, 1)) : XOK mi y bytes mL ret pc (q_ald [2] (pc + 1)) := xok0 (by
  intro la st h r e
  unfold q_ald at e
  split at e
  next i a r1 =>
    split at e
    next ka N f he =>
      split at e
      next hk =>
        cases e
        refine ⟨_, _, rfl, fun K p l e R s m args below meth c H locs cells slots Q ls F G L _ _ k => ?_⟩
        have h0 : ka = 2 := by have := hk.1; simp only [List.mem_cons, List.not_mem_nil, or_false] at this; exact this
        subst h0
        exact va_cald F.ex F.by F.tb.1 (xatA G F.lo he (by decide)) 0 2 rfl rfl (xin_in hk.2) hd k
      next => cases e
    next => cases e
  next => cases e)
theorem ok_aald (hd : decode bytes pc = .ok (.aaload, 1)) : XOK mi y bytes mL ret pc (q_aald (pc + 1)) := xok0 (by
  intro la st h r e
  unfold q_aald at e
  split at e
  next i a r1 =>
    split at e
    next ka N f he =>
      split at e
      next hk =>
        cases e
        refine ⟨_, _, rfl, fun K p l e R s m args below meth c H locs cells slots Q ls F G L _ _ k => ?_⟩
        obtain ⟨C, hC⟩ := xtyR (aK := K.2.1) hk.2.1 hk.1
        exact va_aldq F.ex F.by F.tb.1 (xatA G F.lo he hk.2.1) 0 ka rfl hC (xin_in hk.2.2) hd k
      next => cases e
    next => cases e
  next => cases e)
theorem xupd_i {cA : ClassId} {N : Nat} {f : Nat → Int32} {j : Nat} {x : Int32} : (arrV cA N (fun q => .int (f q))).setSlot j (.int x) = vp_cell cA (xis N (upd f j x)) := by
  rw [vp_cell_i, arrV_store]
  congr 1
  funext q
  by_cases hq : q = j
  · subst hq
    simp [updV, upd]
  · simp [updV, upd, hq]
theorem ok_iast (hd : decode bytes pc = .ok (.iastore, 1)) : XOK mi y bytes mL ret pc (q_iast (pc + 1)) := xok2 (by
  intro la st h r e
  unfold q_iast at e
  split at e
  next x i a r1 =>
    split at e
    next ka N f he =>
      split at e
      next hk =>
        cases e
        refine ⟨_, _, _, _, rfl, fun K p l e R s m args below meth c H locs cells slots Q ls F G L k => ?_⟩
        obtain ⟨h0, hi⟩ := hk
        subst h0
        have hat := xatA G F.lo he (by decide) 0 _ rfl
        refine W.iast F.ex F.by hat ((F.tb.1.2 0 _ rfl).1 N (fun j => .int (f j))) (fun q => by cases q) (by show ¬ (i < 0 ∨ (arrV _ _ _).slots.size ≤ _); rw [arrV_size]; exact xin_in hi) rfl rfl hd fun H1 e z oq => ?_
        exact k H1 _ (G.put (xregA G F.lo he (by decide)) z oq (e.trans (congrArg some xupd_i)) (show (0 : Nat) < 7 by decide))
      next => cases e
    next => cases e
  next => cases e)
theorem ok_zast (hd : decode bytes pc = .ok (.bastore, 1)) : XOK mi y bytes mL ret pc (q_zast (pc + 1)) := xok2 (by
  intro la st h r e
  unfold q_zast at e
  split at e
  next x i a r1 =>
    split at e
    next ka N f he =>
      split at e
      next hk =>
        cases e
        refine ⟨_, _, _, _, rfl, fun K p l e R s m args below meth c H locs cells slots Q ls F G L k => ?_⟩
        obtain ⟨h0, hi, hx⟩ := hk
        subst h0
        have hn : narrow .boolean (.int x) = .int x := by rcases hx with rfl | rfl <;> decide
        have hat := xatA G F.lo he (by decide) 0 _ rfl
        refine W.zast F.ex F.by hat ((F.tb.1.2 1 _ rfl).1 N (fun j => .int (f j))) (fun q => by cases q) (by show ¬ (i < 0 ∨ (arrV _ _ _).slots.size ≤ _); rw [arrV_size]; exact xin_in hi) rfl rfl hd fun H1 e z oq => ?_
        rw [hn] at e
        exact k H1 _ (G.put (xregA G F.lo he (by decide)) z oq (e.trans (congrArg some xupd_i)) (show (1 : Nat) < 7 by decide))
      next => cases e
    next => cases e
  next => cases e)
theorem ok_cast (hd : decode bytes pc = .ok (.castore, 1)) : XOK mi y bytes mL ret pc (q_cast (pc + 1)) := xok2 (by
  intro la st h r e
  unfold q_cast at e
  split at e
  next x i a r1 =>
    split at e
    next ka N f he =>
      split at e
      next hk =>
        cases e
        refine ⟨_, _, _, _, rfl, fun K p l e R s m args below meth c H locs cells slots Q ls F G L k => ?_⟩
        obtain ⟨h0, hi, hn⟩ := hk
        subst h0
        have hat := xatA G F.lo he (by decide) 0 _ rfl
        refine W.cast F.ex F.by hat ((F.tb.1.2 2 _ rfl).1 N (fun j => .int (f j))) (fun q => by cases q) (by show ¬ (i < 0 ∨ (arrV _ _ _).slots.size ≤ _); rw [arrV_size]; exact xin_in hi) rfl rfl hd fun H1 e z oq => ?_
        rw [hn] at e
        exact k H1 _ (G.put (xregA G F.lo he (by decide)) z oq (e.trans (congrArg some xupd_i)) (show (2 : Nat) < 7 by decide))
      next => cases e
    next => cases e
  next => cases e)
end XO5
