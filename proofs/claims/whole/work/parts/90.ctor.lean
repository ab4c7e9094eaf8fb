/-! ===== 90: what is made at the start ===== -/
def hbf (n0 : Nat) (E : Nat → va_E) (l : List va_E) : Nat → va_E := fun a => if a < n0 then E a else l.getD (a - n0) (.inr (99, []))
def hb (n0 : Nat) (E : Nat → va_E) (g : Nat → Value) (s : Nat) (l : List va_E) : xH := (n0 + l.length, s, hbf n0 E l, g)
section HB
variable {n0 s : Nat} {E : Nat → va_E} {g : Nat → Value} {l : List va_E} {x e : va_E}
theorem hb_1 : (hb n0 E g s l).1 = n0 + l.length := rfl
theorem hb_at {j : Nat} : (hb n0 E g s l).2.2.1 (n0 + j) = l.getD j (.inr (99, [])) := by
  show (if n0 + j < n0 then E (n0 + j) else l.getD (n0 + j - n0) (.inr (99, []))) = _
  rw [if_neg (by omega), show n0 + j - n0 = j by omega]
theorem hb_a0 : (hb n0 E g s (x :: l)).2.2.1 n0 = x := hb_at (j := 0)
theorem hb_lo {a : Nat} (ha : a < n0) : (hb n0 E g s l).2.2.1 a = E a := if_pos ha
theorem hb_hi {a : Nat} (ha : n0 + l.length ≤ a) : (hb n0 E g s l).2.2.1 a = .inr (99, []) := by
  show (if a < n0 then E a else l.getD (a - n0) (.inr (99, []))) = _
  rw [if_neg (by omega), List.getD_eq_getElem?_getD, List.getElem?_eq_none (by omega)]
  rfl
theorem hb_new {k : Nat} : xnew (hb n0 E g s l) k e = hb n0 E g (s + k) (l ++ [e]) := by
  unfold xnew hb
  dsimp only
  refine Prod.ext ?_ (Prod.ext rfl (Prod.ext ?_ rfl))
  · show n0 + l.length + 1 = n0 + (l ++ [e]).length
    rw [List.length_append]; rfl
  · show va_up (hbf n0 E l) (n0 + l.length) e = hbf n0 E (l ++ [e])
    funext a
    by_cases c : a = n0 + l.length
    · rw [c, vau_at]
      show e = (if n0 + l.length < n0 then E (n0 + l.length) else (l ++ [e]).getD (n0 + l.length - n0) (.inr (99, [])))
      rw [if_neg (by omega), show n0 + l.length - n0 = l.length by omega, List.getD_eq_getElem?_getD, List.getElem?_append_right (Nat.le_refl _), Nat.sub_self]
      rfl
    · rw [vau_ne c]
      show (if a < n0 then E a else l.getD (a - n0) (.inr (99, []))) = (if a < n0 then E a else (l ++ [e]).getD (a - n0) (.inr (99, [])))
      by_cases c2 : a < n0
      · rw [if_pos c2, if_pos c2]
      · rw [if_neg c2, if_neg c2, List.getD_eq_getElem?_getD, List.getD_eq_getElem?_getD]
        by_cases c3 : a - n0 < l.length
        · rw [List.getElem?_append_left c3]
        · rw [List.getElem?_eq_none (by omega), List.getElem?_eq_none (by rw [List.length_append]; show l.length + 1 ≤ a - n0; omega)]
theorem hb_set {j : Nat} (hj : j < l.length) : xset (hb n0 E g s l) (n0 + j) e = hb n0 E g s (l.set j e) := by
  unfold xset hb
  dsimp only
  refine Prod.ext ?_ (Prod.ext rfl (Prod.ext ?_ rfl))
  · show n0 + l.length = n0 + (l.set j e).length
    rw [List.length_set]
  · show va_up (hbf n0 E l) (n0 + j) e = hbf n0 E (l.set j e)
    funext a
    by_cases c : a = n0 + j
    · rw [c, vau_at]
      show e = (if n0 + j < n0 then E (n0 + j) else (l.set j e).getD (n0 + j - n0) (.inr (99, [])))
      rw [if_neg (by omega), show n0 + j - n0 = j by omega, List.getD_eq_getElem?_getD, List.getElem?_set_self hj]
      rfl
    · rw [vau_ne c]
      show (if a < n0 then E a else l.getD (a - n0) (.inr (99, []))) = (if a < n0 then E a else (l.set j e).getD (a - n0) (.inr (99, [])))
      by_cases c2 : a < n0
      · rw [if_pos c2, if_pos c2]
      · rw [if_neg c2, if_neg c2, List.getD_eq_getElem?_getD, List.getD_eq_getElem?_getD, List.getElem?_set_ne (by omega)]
theorem hb_s0 : xset (hb n0 E g s (x :: l)) n0 e = hb n0 E g s (e :: l) := hb_set (j := 0) (by show 0 < l.length + 1; omega)
theorem hb_app {l2 : List va_E} {s2 : Nat} : hb n0 E g s (l ++ l2) = hb (n0 + l.length) (hb n0 E g s2 l).2.2.1 g s l2 := by
  refine Prod.ext ?_ (Prod.ext rfl (Prod.ext ?_ rfl))
  · show n0 + (l ++ l2).length = n0 + l.length + l2.length
    rw [List.length_append]; omega
  · show hbf n0 E (l ++ l2) = hbf (n0 + l.length) (hbf n0 E l) l2
    funext a
    unfold hbf
    by_cases c : a < n0
    · rw [if_pos c, if_pos (by omega), if_pos c]
    · rw [if_neg c]
      by_cases c2 : a < n0 + l.length
      · rw [if_pos c2, if_neg c, List.getD_eq_getElem?_getD, List.getD_eq_getElem?_getD, List.getElem?_append_left (by omega)]
      · rw [if_neg c2, List.getD_eq_getElem?_getD, List.getD_eq_getElem?_getD, List.getElem?_append_right (by omega), show a - n0 - l.length = a - (n0 + l.length) by omega]
end HB
theorem nw4 : ((0 : Int32) ≤ 4) = True := eq_true (by decide)
theorem nu4 : (4 ≤ 100000) = True := eq_true (by decide)
theorem nc4 : (4 : Int32).toNatClampNeg = 4 := rfl
theorem nw5 : ((0 : Int32) ≤ 5) = True := eq_true (by decide)
theorem nu5 : (5 ≤ 100000) = True := eq_true (by decide)
theorem nc5 : (5 : Int32).toNatClampNeg = 5 := rfl
theorem nw6 : ((0 : Int32) ≤ 6) = True := eq_true (by decide)
theorem nu6 : (6 ≤ 100000) = True := eq_true (by decide)
theorem nc6 : (6 : Int32).toNatClampNeg = 6 := rfl
theorem nw10 : ((0 : Int32) ≤ 10) = True := eq_true (by decide)
theorem nu10 : (10 ≤ 100000) = True := eq_true (by decide)
theorem nc10 : (10 : Int32).toNatClampNeg = 10 := rfl
theorem nw11 : ((0 : Int32) ≤ 11) = True := eq_true (by decide)
theorem nu11 : (11 ≤ 100000) = True := eq_true (by decide)
theorem nc11 : (11 : Int32).toNatClampNeg = 11 := rfl
theorem nw12 : ((0 : Int32) ≤ 12) = True := eq_true (by decide)
theorem nu12 : (12 ≤ 100000) = True := eq_true (by decide)
theorem nc12 : (12 : Int32).toNatClampNeg = 12 := rfl
theorem nw14 : ((0 : Int32) ≤ 14) = True := eq_true (by decide)
theorem nu14 : (14 ≤ 100000) = True := eq_true (by decide)
theorem nc14 : (14 : Int32).toNatClampNeg = 14 := rfl
theorem nw24 : ((0 : Int32) ≤ 24) = True := eq_true (by decide)
theorem nu24 : (24 ≤ 100000) = True := eq_true (by decide)
theorem nc24 : (24 : Int32).toNatClampNeg = 24 := rfl
theorem nw60 : ((0 : Int32) ≤ 60) = True := eq_true (by decide)
theorem nu60 : (60 ≤ 100000) = True := eq_true (by decide)
theorem nc60 : (60 : Int32).toNatClampNeg = 60 := rfl
theorem nw72 : ((0 : Int32) ≤ 72) = True := eq_true (by decide)
theorem nu72 : (72 ≤ 100000) = True := eq_true (by decide)
theorem nc72 : (72 : Int32).toNatClampNeg = 72 := rfl
theorem nw96 : ((0 : Int32) ≤ 96) = True := eq_true (by decide)
theorem nu96 : (96 ≤ 100000) = True := eq_true (by decide)
theorem nc96 : (96 : Int32).toNatClampNeg = 96 := rfl
theorem nw120 : ((0 : Int32) ≤ 120) = True := eq_true (by decide)
theorem nu120 : (120 ≤ 100000) = True := eq_true (by decide)
theorem nc120 : (120 : Int32).toNatClampNeg = 120 := rfl
theorem nw1482 : ((0 : Int32) ≤ 1482) = True := eq_true (by decide)
theorem nu1482 : (1482 ≤ 100000) = True := eq_true (by decide)
theorem nc1482 : (1482 : Int32).toNatClampNeg = 1482 := rfl
def ob_5 (v0 v1 v2 : Value) : List Value := [v0, v1, v2]
section OB5
variable {v0 v1 v2 v : Value} {P : va_E → Prop} {F : Value → Prop}
theorem op_5_0 : XP [5] 0 v (.inr (5, ob_5 v0 v1 v2)) P ↔ P (.inr (5, ob_5 v v1 v2)) := XP_1 (fs := ob_5 v0 v1 v2) (by show 0 < 3; decide)
theorem og_5_0 : (ob_5 v0 v1 v2)[0]? = some v0 := rfl
theorem op_5_1 : XP [5] 1 v (.inr (5, ob_5 v0 v1 v2)) P ↔ P (.inr (5, ob_5 v0 v v2)) := XP_1 (fs := ob_5 v0 v1 v2) (by show 1 < 3; decide)
theorem og_5_1 : (ob_5 v0 v1 v2)[1]? = some v1 := rfl
theorem op_5_2 : XP [5] 2 v (.inr (5, ob_5 v0 v1 v2)) P ↔ P (.inr (5, ob_5 v0 v1 v)) := XP_1 (fs := ob_5 v0 v1 v2) (by show 2 < 3; decide)
theorem og_5_2 : (ob_5 v0 v1 v2)[2]? = some v2 := rfl
end OB5
def ob_6 (v0 v1 v2 v3 : Value) : List Value := [v0, v1, v2, v3]
section OB6
variable {v0 v1 v2 v3 v : Value} {P : va_E → Prop} {F : Value → Prop}
theorem op_6_0 : XP [6] 0 v (.inr (6, ob_6 v0 v1 v2 v3)) P ↔ P (.inr (6, ob_6 v v1 v2 v3)) := XP_1 (fs := ob_6 v0 v1 v2 v3) (by show 0 < 4; decide)
theorem og_6_0 : (ob_6 v0 v1 v2 v3)[0]? = some v0 := rfl
theorem op_6_1 : XP [6] 1 v (.inr (6, ob_6 v0 v1 v2 v3)) P ↔ P (.inr (6, ob_6 v0 v v2 v3)) := XP_1 (fs := ob_6 v0 v1 v2 v3) (by show 1 < 4; decide)
theorem og_6_1 : (ob_6 v0 v1 v2 v3)[1]? = some v1 := rfl
theorem op_6_2 : XP [6] 2 v (.inr (6, ob_6 v0 v1 v2 v3)) P ↔ P (.inr (6, ob_6 v0 v1 v v3)) := XP_1 (fs := ob_6 v0 v1 v2 v3) (by show 2 < 4; decide)
theorem og_6_2 : (ob_6 v0 v1 v2 v3)[2]? = some v2 := rfl
theorem op_6_3 : XP [6] 3 v (.inr (6, ob_6 v0 v1 v2 v3)) P ↔ P (.inr (6, ob_6 v0 v1 v2 v)) := XP_1 (fs := ob_6 v0 v1 v2 v3) (by show 3 < 4; decide)
theorem og_6_3 : (ob_6 v0 v1 v2 v3)[3]? = some v3 := rfl
end OB6
def ob_7 (v0 v1 v2 v3 v4 v5 v6 v7 v8 v9 v10 v11 v12 v13 : Value) : List Value := [v0, v1, v2, v3, v4, v5, v6, v7, v8, v9, v10, v11, v12, v13]
section OB7
variable {v0 v1 v2 v3 v4 v5 v6 v7 v8 v9 v10 v11 v12 v13 v : Value} {P : va_E → Prop} {F : Value → Prop}
theorem op_7_0 : XP [7] 0 v (.inr (7, ob_7 v0 v1 v2 v3 v4 v5 v6 v7 v8 v9 v10 v11 v12 v13)) P ↔ P (.inr (7, ob_7 v v1 v2 v3 v4 v5 v6 v7 v8 v9 v10 v11 v12 v13)) := XP_1 (fs := ob_7 v0 v1 v2 v3 v4 v5 v6 v7 v8 v9 v10 v11 v12 v13) (by show 0 < 14; decide)
theorem og_7_0 : (ob_7 v0 v1 v2 v3 v4 v5 v6 v7 v8 v9 v10 v11 v12 v13)[0]? = some v0 := rfl
theorem op_7_1 : XP [7] 1 v (.inr (7, ob_7 v0 v1 v2 v3 v4 v5 v6 v7 v8 v9 v10 v11 v12 v13)) P ↔ P (.inr (7, ob_7 v0 v v2 v3 v4 v5 v6 v7 v8 v9 v10 v11 v12 v13)) := XP_1 (fs := ob_7 v0 v1 v2 v3 v4 v5 v6 v7 v8 v9 v10 v11 v12 v13) (by show 1 < 14; decide)
theorem og_7_1 : (ob_7 v0 v1 v2 v3 v4 v5 v6 v7 v8 v9 v10 v11 v12 v13)[1]? = some v1 := rfl
theorem op_7_2 : XP [7] 2 v (.inr (7, ob_7 v0 v1 v2 v3 v4 v5 v6 v7 v8 v9 v10 v11 v12 v13)) P ↔ P (.inr (7, ob_7 v0 v1 v v3 v4 v5 v6 v7 v8 v9 v10 v11 v12 v13)) := XP_1 (fs := ob_7 v0 v1 v2 v3 v4 v5 v6 v7 v8 v9 v10 v11 v12 v13) (by show 2 < 14; decide)
theorem og_7_2 : (ob_7 v0 v1 v2 v3 v4 v5 v6 v7 v8 v9 v10 v11 v12 v13)[2]? = some v2 := rfl
theorem op_7_3 : XP [7] 3 v (.inr (7, ob_7 v0 v1 v2 v3 v4 v5 v6 v7 v8 v9 v10 v11 v12 v13)) P ↔ P (.inr (7, ob_7 v0 v1 v2 v v4 v5 v6 v7 v8 v9 v10 v11 v12 v13)) := XP_1 (fs := ob_7 v0 v1 v2 v3 v4 v5 v6 v7 v8 v9 v10 v11 v12 v13) (by show 3 < 14; decide)
theorem og_7_3 : (ob_7 v0 v1 v2 v3 v4 v5 v6 v7 v8 v9 v10 v11 v12 v13)[3]? = some v3 := rfl
theorem op_7_4 : XP [7] 4 v (.inr (7, ob_7 v0 v1 v2 v3 v4 v5 v6 v7 v8 v9 v10 v11 v12 v13)) P ↔ P (.inr (7, ob_7 v0 v1 v2 v3 v v5 v6 v7 v8 v9 v10 v11 v12 v13)) := XP_1 (fs := ob_7 v0 v1 v2 v3 v4 v5 v6 v7 v8 v9 v10 v11 v12 v13) (by show 4 < 14; decide)
theorem og_7_4 : (ob_7 v0 v1 v2 v3 v4 v5 v6 v7 v8 v9 v10 v11 v12 v13)[4]? = some v4 := rfl
theorem op_7_5 : XP [7] 5 v (.inr (7, ob_7 v0 v1 v2 v3 v4 v5 v6 v7 v8 v9 v10 v11 v12 v13)) P ↔ P (.inr (7, ob_7 v0 v1 v2 v3 v4 v v6 v7 v8 v9 v10 v11 v12 v13)) := XP_1 (fs := ob_7 v0 v1 v2 v3 v4 v5 v6 v7 v8 v9 v10 v11 v12 v13) (by show 5 < 14; decide)
theorem og_7_5 : (ob_7 v0 v1 v2 v3 v4 v5 v6 v7 v8 v9 v10 v11 v12 v13)[5]? = some v5 := rfl
theorem op_7_6 : XP [7] 6 v (.inr (7, ob_7 v0 v1 v2 v3 v4 v5 v6 v7 v8 v9 v10 v11 v12 v13)) P ↔ P (.inr (7, ob_7 v0 v1 v2 v3 v4 v5 v v7 v8 v9 v10 v11 v12 v13)) := XP_1 (fs := ob_7 v0 v1 v2 v3 v4 v5 v6 v7 v8 v9 v10 v11 v12 v13) (by show 6 < 14; decide)
theorem og_7_6 : (ob_7 v0 v1 v2 v3 v4 v5 v6 v7 v8 v9 v10 v11 v12 v13)[6]? = some v6 := rfl
theorem op_7_7 : XP [7] 7 v (.inr (7, ob_7 v0 v1 v2 v3 v4 v5 v6 v7 v8 v9 v10 v11 v12 v13)) P ↔ P (.inr (7, ob_7 v0 v1 v2 v3 v4 v5 v6 v v8 v9 v10 v11 v12 v13)) := XP_1 (fs := ob_7 v0 v1 v2 v3 v4 v5 v6 v7 v8 v9 v10 v11 v12 v13) (by show 7 < 14; decide)
theorem og_7_7 : (ob_7 v0 v1 v2 v3 v4 v5 v6 v7 v8 v9 v10 v11 v12 v13)[7]? = some v7 := rfl
theorem op_7_8 : XP [7] 8 v (.inr (7, ob_7 v0 v1 v2 v3 v4 v5 v6 v7 v8 v9 v10 v11 v12 v13)) P ↔ P (.inr (7, ob_7 v0 v1 v2 v3 v4 v5 v6 v7 v v9 v10 v11 v12 v13)) := XP_1 (fs := ob_7 v0 v1 v2 v3 v4 v5 v6 v7 v8 v9 v10 v11 v12 v13) (by show 8 < 14; decide)
theorem og_7_8 : (ob_7 v0 v1 v2 v3 v4 v5 v6 v7 v8 v9 v10 v11 v12 v13)[8]? = some v8 := rfl
theorem op_7_9 : XP [7] 9 v (.inr (7, ob_7 v0 v1 v2 v3 v4 v5 v6 v7 v8 v9 v10 v11 v12 v13)) P ↔ P (.inr (7, ob_7 v0 v1 v2 v3 v4 v5 v6 v7 v8 v v10 v11 v12 v13)) := XP_1 (fs := ob_7 v0 v1 v2 v3 v4 v5 v6 v7 v8 v9 v10 v11 v12 v13) (by show 9 < 14; decide)
theorem og_7_9 : (ob_7 v0 v1 v2 v3 v4 v5 v6 v7 v8 v9 v10 v11 v12 v13)[9]? = some v9 := rfl
theorem op_7_10 : XP [7] 10 v (.inr (7, ob_7 v0 v1 v2 v3 v4 v5 v6 v7 v8 v9 v10 v11 v12 v13)) P ↔ P (.inr (7, ob_7 v0 v1 v2 v3 v4 v5 v6 v7 v8 v9 v v11 v12 v13)) := XP_1 (fs := ob_7 v0 v1 v2 v3 v4 v5 v6 v7 v8 v9 v10 v11 v12 v13) (by show 10 < 14; decide)
theorem og_7_10 : (ob_7 v0 v1 v2 v3 v4 v5 v6 v7 v8 v9 v10 v11 v12 v13)[10]? = some v10 := rfl
theorem op_7_11 : XP [7] 11 v (.inr (7, ob_7 v0 v1 v2 v3 v4 v5 v6 v7 v8 v9 v10 v11 v12 v13)) P ↔ P (.inr (7, ob_7 v0 v1 v2 v3 v4 v5 v6 v7 v8 v9 v10 v v12 v13)) := XP_1 (fs := ob_7 v0 v1 v2 v3 v4 v5 v6 v7 v8 v9 v10 v11 v12 v13) (by show 11 < 14; decide)
theorem og_7_11 : (ob_7 v0 v1 v2 v3 v4 v5 v6 v7 v8 v9 v10 v11 v12 v13)[11]? = some v11 := rfl
theorem op_7_12 : XP [7] 12 v (.inr (7, ob_7 v0 v1 v2 v3 v4 v5 v6 v7 v8 v9 v10 v11 v12 v13)) P ↔ P (.inr (7, ob_7 v0 v1 v2 v3 v4 v5 v6 v7 v8 v9 v10 v11 v v13)) := XP_1 (fs := ob_7 v0 v1 v2 v3 v4 v5 v6 v7 v8 v9 v10 v11 v12 v13) (by show 12 < 14; decide)
theorem og_7_12 : (ob_7 v0 v1 v2 v3 v4 v5 v6 v7 v8 v9 v10 v11 v12 v13)[12]? = some v12 := rfl
theorem op_7_13 : XP [7] 13 v (.inr (7, ob_7 v0 v1 v2 v3 v4 v5 v6 v7 v8 v9 v10 v11 v12 v13)) P ↔ P (.inr (7, ob_7 v0 v1 v2 v3 v4 v5 v6 v7 v8 v9 v10 v11 v12 v)) := XP_1 (fs := ob_7 v0 v1 v2 v3 v4 v5 v6 v7 v8 v9 v10 v11 v12 v13) (by show 13 < 14; decide)
theorem og_7_13 : (ob_7 v0 v1 v2 v3 v4 v5 v6 v7 v8 v9 v10 v11 v12 v13)[13]? = some v13 := rfl
end OB7
def ob_10 (v0 v1 v2 v3 v4 v5 v6 v7 v8 v9 v10 v11 v12 v13 v14 v15 v16 v17 v18 v19 : Value) : List Value := [v0, v1, v2, v3, v4, v5, v6, v7, v8, v9, v10, v11, v12, v13, v14, v15, v16, v17, v18, v19]
section OB10
variable {v0 v1 v2 v3 v4 v5 v6 v7 v8 v9 v10 v11 v12 v13 v14 v15 v16 v17 v18 v19 v : Value} {P : va_E → Prop} {F : Value → Prop}
theorem op_10_0 : XP [10] 0 v (.inr (10, ob_10 v0 v1 v2 v3 v4 v5 v6 v7 v8 v9 v10 v11 v12 v13 v14 v15 v16 v17 v18 v19)) P ↔ P (.inr (10, ob_10 v v1 v2 v3 v4 v5 v6 v7 v8 v9 v10 v11 v12 v13 v14 v15 v16 v17 v18 v19)) := XP_1 (fs := ob_10 v0 v1 v2 v3 v4 v5 v6 v7 v8 v9 v10 v11 v12 v13 v14 v15 v16 v17 v18 v19) (by show 0 < 20; decide)
theorem og_10_0 : (ob_10 v0 v1 v2 v3 v4 v5 v6 v7 v8 v9 v10 v11 v12 v13 v14 v15 v16 v17 v18 v19)[0]? = some v0 := rfl
theorem op_10_1 : XP [10] 1 v (.inr (10, ob_10 v0 v1 v2 v3 v4 v5 v6 v7 v8 v9 v10 v11 v12 v13 v14 v15 v16 v17 v18 v19)) P ↔ P (.inr (10, ob_10 v0 v v2 v3 v4 v5 v6 v7 v8 v9 v10 v11 v12 v13 v14 v15 v16 v17 v18 v19)) := XP_1 (fs := ob_10 v0 v1 v2 v3 v4 v5 v6 v7 v8 v9 v10 v11 v12 v13 v14 v15 v16 v17 v18 v19) (by show 1 < 20; decide)
theorem og_10_1 : (ob_10 v0 v1 v2 v3 v4 v5 v6 v7 v8 v9 v10 v11 v12 v13 v14 v15 v16 v17 v18 v19)[1]? = some v1 := rfl
theorem op_10_2 : XP [10] 2 v (.inr (10, ob_10 v0 v1 v2 v3 v4 v5 v6 v7 v8 v9 v10 v11 v12 v13 v14 v15 v16 v17 v18 v19)) P ↔ P (.inr (10, ob_10 v0 v1 v v3 v4 v5 v6 v7 v8 v9 v10 v11 v12 v13 v14 v15 v16 v17 v18 v19)) := XP_1 (fs := ob_10 v0 v1 v2 v3 v4 v5 v6 v7 v8 v9 v10 v11 v12 v13 v14 v15 v16 v17 v18 v19) (by show 2 < 20; decide)
theorem og_10_2 : (ob_10 v0 v1 v2 v3 v4 v5 v6 v7 v8 v9 v10 v11 v12 v13 v14 v15 v16 v17 v18 v19)[2]? = some v2 := rfl
theorem op_10_3 : XP [10] 3 v (.inr (10, ob_10 v0 v1 v2 v3 v4 v5 v6 v7 v8 v9 v10 v11 v12 v13 v14 v15 v16 v17 v18 v19)) P ↔ P (.inr (10, ob_10 v0 v1 v2 v v4 v5 v6 v7 v8 v9 v10 v11 v12 v13 v14 v15 v16 v17 v18 v19)) := XP_1 (fs := ob_10 v0 v1 v2 v3 v4 v5 v6 v7 v8 v9 v10 v11 v12 v13 v14 v15 v16 v17 v18 v19) (by show 3 < 20; decide)
theorem og_10_3 : (ob_10 v0 v1 v2 v3 v4 v5 v6 v7 v8 v9 v10 v11 v12 v13 v14 v15 v16 v17 v18 v19)[3]? = some v3 := rfl
theorem op_10_4 : XP [10] 4 v (.inr (10, ob_10 v0 v1 v2 v3 v4 v5 v6 v7 v8 v9 v10 v11 v12 v13 v14 v15 v16 v17 v18 v19)) P ↔ P (.inr (10, ob_10 v0 v1 v2 v3 v v5 v6 v7 v8 v9 v10 v11 v12 v13 v14 v15 v16 v17 v18 v19)) := XP_1 (fs := ob_10 v0 v1 v2 v3 v4 v5 v6 v7 v8 v9 v10 v11 v12 v13 v14 v15 v16 v17 v18 v19) (by show 4 < 20; decide)
theorem og_10_4 : (ob_10 v0 v1 v2 v3 v4 v5 v6 v7 v8 v9 v10 v11 v12 v13 v14 v15 v16 v17 v18 v19)[4]? = some v4 := rfl
theorem op_10_5 : XP [10] 5 v (.inr (10, ob_10 v0 v1 v2 v3 v4 v5 v6 v7 v8 v9 v10 v11 v12 v13 v14 v15 v16 v17 v18 v19)) P ↔ P (.inr (10, ob_10 v0 v1 v2 v3 v4 v v6 v7 v8 v9 v10 v11 v12 v13 v14 v15 v16 v17 v18 v19)) := XP_1 (fs := ob_10 v0 v1 v2 v3 v4 v5 v6 v7 v8 v9 v10 v11 v12 v13 v14 v15 v16 v17 v18 v19) (by show 5 < 20; decide)
theorem og_10_5 : (ob_10 v0 v1 v2 v3 v4 v5 v6 v7 v8 v9 v10 v11 v12 v13 v14 v15 v16 v17 v18 v19)[5]? = some v5 := rfl
theorem op_10_6 : XP [10] 6 v (.inr (10, ob_10 v0 v1 v2 v3 v4 v5 v6 v7 v8 v9 v10 v11 v12 v13 v14 v15 v16 v17 v18 v19)) P ↔ P (.inr (10, ob_10 v0 v1 v2 v3 v4 v5 v v7 v8 v9 v10 v11 v12 v13 v14 v15 v16 v17 v18 v19)) := XP_1 (fs := ob_10 v0 v1 v2 v3 v4 v5 v6 v7 v8 v9 v10 v11 v12 v13 v14 v15 v16 v17 v18 v19) (by show 6 < 20; decide)
theorem og_10_6 : (ob_10 v0 v1 v2 v3 v4 v5 v6 v7 v8 v9 v10 v11 v12 v13 v14 v15 v16 v17 v18 v19)[6]? = some v6 := rfl
theorem op_10_7 : XP [10] 7 v (.inr (10, ob_10 v0 v1 v2 v3 v4 v5 v6 v7 v8 v9 v10 v11 v12 v13 v14 v15 v16 v17 v18 v19)) P ↔ P (.inr (10, ob_10 v0 v1 v2 v3 v4 v5 v6 v v8 v9 v10 v11 v12 v13 v14 v15 v16 v17 v18 v19)) := XP_1 (fs := ob_10 v0 v1 v2 v3 v4 v5 v6 v7 v8 v9 v10 v11 v12 v13 v14 v15 v16 v17 v18 v19) (by show 7 < 20; decide)
theorem og_10_7 : (ob_10 v0 v1 v2 v3 v4 v5 v6 v7 v8 v9 v10 v11 v12 v13 v14 v15 v16 v17 v18 v19)[7]? = some v7 := rfl
theorem op_10_8 : XP [10] 8 v (.inr (10, ob_10 v0 v1 v2 v3 v4 v5 v6 v7 v8 v9 v10 v11 v12 v13 v14 v15 v16 v17 v18 v19)) P ↔ P (.inr (10, ob_10 v0 v1 v2 v3 v4 v5 v6 v7 v v9 v10 v11 v12 v13 v14 v15 v16 v17 v18 v19)) := XP_1 (fs := ob_10 v0 v1 v2 v3 v4 v5 v6 v7 v8 v9 v10 v11 v12 v13 v14 v15 v16 v17 v18 v19) (by show 8 < 20; decide)
theorem og_10_8 : (ob_10 v0 v1 v2 v3 v4 v5 v6 v7 v8 v9 v10 v11 v12 v13 v14 v15 v16 v17 v18 v19)[8]? = some v8 := rfl
theorem op_10_9 : XP [10] 9 v (.inr (10, ob_10 v0 v1 v2 v3 v4 v5 v6 v7 v8 v9 v10 v11 v12 v13 v14 v15 v16 v17 v18 v19)) P ↔ P (.inr (10, ob_10 v0 v1 v2 v3 v4 v5 v6 v7 v8 v v10 v11 v12 v13 v14 v15 v16 v17 v18 v19)) := XP_1 (fs := ob_10 v0 v1 v2 v3 v4 v5 v6 v7 v8 v9 v10 v11 v12 v13 v14 v15 v16 v17 v18 v19) (by show 9 < 20; decide)
theorem og_10_9 : (ob_10 v0 v1 v2 v3 v4 v5 v6 v7 v8 v9 v10 v11 v12 v13 v14 v15 v16 v17 v18 v19)[9]? = some v9 := rfl
theorem op_10_10 : XP [10] 10 v (.inr (10, ob_10 v0 v1 v2 v3 v4 v5 v6 v7 v8 v9 v10 v11 v12 v13 v14 v15 v16 v17 v18 v19)) P ↔ P (.inr (10, ob_10 v0 v1 v2 v3 v4 v5 v6 v7 v8 v9 v v11 v12 v13 v14 v15 v16 v17 v18 v19)) := XP_1 (fs := ob_10 v0 v1 v2 v3 v4 v5 v6 v7 v8 v9 v10 v11 v12 v13 v14 v15 v16 v17 v18 v19) (by show 10 < 20; decide)
theorem og_10_10 : (ob_10 v0 v1 v2 v3 v4 v5 v6 v7 v8 v9 v10 v11 v12 v13 v14 v15 v16 v17 v18 v19)[10]? = some v10 := rfl
theorem op_10_11 : XP [10] 11 v (.inr (10, ob_10 v0 v1 v2 v3 v4 v5 v6 v7 v8 v9 v10 v11 v12 v13 v14 v15 v16 v17 v18 v19)) P ↔ P (.inr (10, ob_10 v0 v1 v2 v3 v4 v5 v6 v7 v8 v9 v10 v v12 v13 v14 v15 v16 v17 v18 v19)) := XP_1 (fs := ob_10 v0 v1 v2 v3 v4 v5 v6 v7 v8 v9 v10 v11 v12 v13 v14 v15 v16 v17 v18 v19) (by show 11 < 20; decide)
theorem og_10_11 : (ob_10 v0 v1 v2 v3 v4 v5 v6 v7 v8 v9 v10 v11 v12 v13 v14 v15 v16 v17 v18 v19)[11]? = some v11 := rfl
theorem op_10_12 : XP [10] 12 v (.inr (10, ob_10 v0 v1 v2 v3 v4 v5 v6 v7 v8 v9 v10 v11 v12 v13 v14 v15 v16 v17 v18 v19)) P ↔ P (.inr (10, ob_10 v0 v1 v2 v3 v4 v5 v6 v7 v8 v9 v10 v11 v v13 v14 v15 v16 v17 v18 v19)) := XP_1 (fs := ob_10 v0 v1 v2 v3 v4 v5 v6 v7 v8 v9 v10 v11 v12 v13 v14 v15 v16 v17 v18 v19) (by show 12 < 20; decide)
theorem og_10_12 : (ob_10 v0 v1 v2 v3 v4 v5 v6 v7 v8 v9 v10 v11 v12 v13 v14 v15 v16 v17 v18 v19)[12]? = some v12 := rfl
theorem op_10_13 : XP [10] 13 v (.inr (10, ob_10 v0 v1 v2 v3 v4 v5 v6 v7 v8 v9 v10 v11 v12 v13 v14 v15 v16 v17 v18 v19)) P ↔ P (.inr (10, ob_10 v0 v1 v2 v3 v4 v5 v6 v7 v8 v9 v10 v11 v12 v v14 v15 v16 v17 v18 v19)) := XP_1 (fs := ob_10 v0 v1 v2 v3 v4 v5 v6 v7 v8 v9 v10 v11 v12 v13 v14 v15 v16 v17 v18 v19) (by show 13 < 20; decide)
theorem og_10_13 : (ob_10 v0 v1 v2 v3 v4 v5 v6 v7 v8 v9 v10 v11 v12 v13 v14 v15 v16 v17 v18 v19)[13]? = some v13 := rfl
theorem op_10_14 : XP [10] 14 v (.inr (10, ob_10 v0 v1 v2 v3 v4 v5 v6 v7 v8 v9 v10 v11 v12 v13 v14 v15 v16 v17 v18 v19)) P ↔ P (.inr (10, ob_10 v0 v1 v2 v3 v4 v5 v6 v7 v8 v9 v10 v11 v12 v13 v v15 v16 v17 v18 v19)) := XP_1 (fs := ob_10 v0 v1 v2 v3 v4 v5 v6 v7 v8 v9 v10 v11 v12 v13 v14 v15 v16 v17 v18 v19) (by show 14 < 20; decide)
theorem og_10_14 : (ob_10 v0 v1 v2 v3 v4 v5 v6 v7 v8 v9 v10 v11 v12 v13 v14 v15 v16 v17 v18 v19)[14]? = some v14 := rfl
theorem op_10_15 : XP [10] 15 v (.inr (10, ob_10 v0 v1 v2 v3 v4 v5 v6 v7 v8 v9 v10 v11 v12 v13 v14 v15 v16 v17 v18 v19)) P ↔ P (.inr (10, ob_10 v0 v1 v2 v3 v4 v5 v6 v7 v8 v9 v10 v11 v12 v13 v14 v v16 v17 v18 v19)) := XP_1 (fs := ob_10 v0 v1 v2 v3 v4 v5 v6 v7 v8 v9 v10 v11 v12 v13 v14 v15 v16 v17 v18 v19) (by show 15 < 20; decide)
theorem og_10_15 : (ob_10 v0 v1 v2 v3 v4 v5 v6 v7 v8 v9 v10 v11 v12 v13 v14 v15 v16 v17 v18 v19)[15]? = some v15 := rfl
theorem op_10_16 : XP [10] 16 v (.inr (10, ob_10 v0 v1 v2 v3 v4 v5 v6 v7 v8 v9 v10 v11 v12 v13 v14 v15 v16 v17 v18 v19)) P ↔ P (.inr (10, ob_10 v0 v1 v2 v3 v4 v5 v6 v7 v8 v9 v10 v11 v12 v13 v14 v15 v v17 v18 v19)) := XP_1 (fs := ob_10 v0 v1 v2 v3 v4 v5 v6 v7 v8 v9 v10 v11 v12 v13 v14 v15 v16 v17 v18 v19) (by show 16 < 20; decide)
theorem og_10_16 : (ob_10 v0 v1 v2 v3 v4 v5 v6 v7 v8 v9 v10 v11 v12 v13 v14 v15 v16 v17 v18 v19)[16]? = some v16 := rfl
theorem op_10_17 : XP [10] 17 v (.inr (10, ob_10 v0 v1 v2 v3 v4 v5 v6 v7 v8 v9 v10 v11 v12 v13 v14 v15 v16 v17 v18 v19)) P ↔ P (.inr (10, ob_10 v0 v1 v2 v3 v4 v5 v6 v7 v8 v9 v10 v11 v12 v13 v14 v15 v16 v v18 v19)) := XP_1 (fs := ob_10 v0 v1 v2 v3 v4 v5 v6 v7 v8 v9 v10 v11 v12 v13 v14 v15 v16 v17 v18 v19) (by show 17 < 20; decide)
theorem og_10_17 : (ob_10 v0 v1 v2 v3 v4 v5 v6 v7 v8 v9 v10 v11 v12 v13 v14 v15 v16 v17 v18 v19)[17]? = some v17 := rfl
theorem op_10_18 : XP [10] 18 v (.inr (10, ob_10 v0 v1 v2 v3 v4 v5 v6 v7 v8 v9 v10 v11 v12 v13 v14 v15 v16 v17 v18 v19)) P ↔ P (.inr (10, ob_10 v0 v1 v2 v3 v4 v5 v6 v7 v8 v9 v10 v11 v12 v13 v14 v15 v16 v17 v v19)) := XP_1 (fs := ob_10 v0 v1 v2 v3 v4 v5 v6 v7 v8 v9 v10 v11 v12 v13 v14 v15 v16 v17 v18 v19) (by show 18 < 20; decide)
theorem og_10_18 : (ob_10 v0 v1 v2 v3 v4 v5 v6 v7 v8 v9 v10 v11 v12 v13 v14 v15 v16 v17 v18 v19)[18]? = some v18 := rfl
theorem op_10_19 : XP [10] 19 v (.inr (10, ob_10 v0 v1 v2 v3 v4 v5 v6 v7 v8 v9 v10 v11 v12 v13 v14 v15 v16 v17 v18 v19)) P ↔ P (.inr (10, ob_10 v0 v1 v2 v3 v4 v5 v6 v7 v8 v9 v10 v11 v12 v13 v14 v15 v16 v17 v18 v)) := XP_1 (fs := ob_10 v0 v1 v2 v3 v4 v5 v6 v7 v8 v9 v10 v11 v12 v13 v14 v15 v16 v17 v18 v19) (by show 19 < 20; decide)
theorem og_10_19 : (ob_10 v0 v1 v2 v3 v4 v5 v6 v7 v8 v9 v10 v11 v12 v13 v14 v15 v16 v17 v18 v19)[19]? = some v19 := rfl
end OB10
def ob_11 (v0 v1 v2 v3 v4 v5 v6 v7 v8 : Value) : List Value := [v0, v1, v2, v3, v4, v5, v6, v7, v8]
section OB11
variable {v0 v1 v2 v3 v4 v5 v6 v7 v8 v : Value} {P : va_E → Prop} {F : Value → Prop}
theorem op_11_0 : XP [11] 0 v (.inr (11, ob_11 v0 v1 v2 v3 v4 v5 v6 v7 v8)) P ↔ P (.inr (11, ob_11 v v1 v2 v3 v4 v5 v6 v7 v8)) := XP_1 (fs := ob_11 v0 v1 v2 v3 v4 v5 v6 v7 v8) (by show 0 < 9; decide)
theorem og_11_0 : (ob_11 v0 v1 v2 v3 v4 v5 v6 v7 v8)[0]? = some v0 := rfl
theorem op_11_1 : XP [11] 1 v (.inr (11, ob_11 v0 v1 v2 v3 v4 v5 v6 v7 v8)) P ↔ P (.inr (11, ob_11 v0 v v2 v3 v4 v5 v6 v7 v8)) := XP_1 (fs := ob_11 v0 v1 v2 v3 v4 v5 v6 v7 v8) (by show 1 < 9; decide)
theorem og_11_1 : (ob_11 v0 v1 v2 v3 v4 v5 v6 v7 v8)[1]? = some v1 := rfl
theorem op_11_2 : XP [11] 2 v (.inr (11, ob_11 v0 v1 v2 v3 v4 v5 v6 v7 v8)) P ↔ P (.inr (11, ob_11 v0 v1 v v3 v4 v5 v6 v7 v8)) := XP_1 (fs := ob_11 v0 v1 v2 v3 v4 v5 v6 v7 v8) (by show 2 < 9; decide)
theorem og_11_2 : (ob_11 v0 v1 v2 v3 v4 v5 v6 v7 v8)[2]? = some v2 := rfl
theorem op_11_3 : XP [11] 3 v (.inr (11, ob_11 v0 v1 v2 v3 v4 v5 v6 v7 v8)) P ↔ P (.inr (11, ob_11 v0 v1 v2 v v4 v5 v6 v7 v8)) := XP_1 (fs := ob_11 v0 v1 v2 v3 v4 v5 v6 v7 v8) (by show 3 < 9; decide)
theorem og_11_3 : (ob_11 v0 v1 v2 v3 v4 v5 v6 v7 v8)[3]? = some v3 := rfl
theorem op_11_4 : XP [11] 4 v (.inr (11, ob_11 v0 v1 v2 v3 v4 v5 v6 v7 v8)) P ↔ P (.inr (11, ob_11 v0 v1 v2 v3 v v5 v6 v7 v8)) := XP_1 (fs := ob_11 v0 v1 v2 v3 v4 v5 v6 v7 v8) (by show 4 < 9; decide)
theorem og_11_4 : (ob_11 v0 v1 v2 v3 v4 v5 v6 v7 v8)[4]? = some v4 := rfl
theorem op_11_5 : XP [11] 5 v (.inr (11, ob_11 v0 v1 v2 v3 v4 v5 v6 v7 v8)) P ↔ P (.inr (11, ob_11 v0 v1 v2 v3 v4 v v6 v7 v8)) := XP_1 (fs := ob_11 v0 v1 v2 v3 v4 v5 v6 v7 v8) (by show 5 < 9; decide)
theorem og_11_5 : (ob_11 v0 v1 v2 v3 v4 v5 v6 v7 v8)[5]? = some v5 := rfl
theorem op_11_6 : XP [11] 6 v (.inr (11, ob_11 v0 v1 v2 v3 v4 v5 v6 v7 v8)) P ↔ P (.inr (11, ob_11 v0 v1 v2 v3 v4 v5 v v7 v8)) := XP_1 (fs := ob_11 v0 v1 v2 v3 v4 v5 v6 v7 v8) (by show 6 < 9; decide)
theorem og_11_6 : (ob_11 v0 v1 v2 v3 v4 v5 v6 v7 v8)[6]? = some v6 := rfl
theorem op_11_7 : XP [11] 7 v (.inr (11, ob_11 v0 v1 v2 v3 v4 v5 v6 v7 v8)) P ↔ P (.inr (11, ob_11 v0 v1 v2 v3 v4 v5 v6 v v8)) := XP_1 (fs := ob_11 v0 v1 v2 v3 v4 v5 v6 v7 v8) (by show 7 < 9; decide)
theorem og_11_7 : (ob_11 v0 v1 v2 v3 v4 v5 v6 v7 v8)[7]? = some v7 := rfl
theorem op_11_8 : XP [11] 8 v (.inr (11, ob_11 v0 v1 v2 v3 v4 v5 v6 v7 v8)) P ↔ P (.inr (11, ob_11 v0 v1 v2 v3 v4 v5 v6 v7 v)) := XP_1 (fs := ob_11 v0 v1 v2 v3 v4 v5 v6 v7 v8) (by show 8 < 9; decide)
theorem og_11_8 : (ob_11 v0 v1 v2 v3 v4 v5 v6 v7 v8)[8]? = some v8 := rfl
end OB11
def ob_12 (v0 v1 v2 v3 v4 v5 v6 v7 v8 v9 v10 v11 v12 v13 v14 v15 v16 v17 v18 v19 v20 v21 v22 v23 v24 v25 v26 v27 v28 v29 v30 v31 : Value) : List Value := [v0, v1, v2, v3, v4, v5, v6, v7, v8, v9, v10, v11, v12, v13, v14, v15, v16, v17, v18, v19, v20, v21, v22, v23, v24, v25, v26, v27, v28, v29, v30, v31]
section OB12
variable {v0 v1 v2 v3 v4 v5 v6 v7 v8 v9 v10 v11 v12 v13 v14 v15 v16 v17 v18 v19 v20 v21 v22 v23 v24 v25 v26 v27 v28 v29 v30 v31 v : Value} {P : va_E → Prop} {F : Value → Prop}
theorem op_12_0 : XP [12] 0 v (.inr (12, ob_12 v0 v1 v2 v3 v4 v5 v6 v7 v8 v9 v10 v11 v12 v13 v14 v15 v16 v17 v18 v19 v20 v21 v22 v23 v24 v25 v26 v27 v28 v29 v30 v31)) P ↔ P (.inr (12, ob_12 v v1 v2 v3 v4 v5 v6 v7 v8 v9 v10 v11 v12 v13 v14 v15 v16 v17 v18 v19 v20 v21 v22 v23 v24 v25 v26 v27 v28 v29 v30 v31)) := XP_1 (fs := ob_12 v0 v1 v2 v3 v4 v5 v6 v7 v8 v9 v10 v11 v12 v13 v14 v15 v16 v17 v18 v19 v20 v21 v22 v23 v24 v25 v26 v27 v28 v29 v30 v31) (by show 0 < 32; decide)
theorem og_12_0 : (ob_12 v0 v1 v2 v3 v4 v5 v6 v7 v8 v9 v10 v11 v12 v13 v14 v15 v16 v17 v18 v19 v20 v21 v22 v23 v24 v25 v26 v27 v28 v29 v30 v31)[0]? = some v0 := rfl
theorem op_12_1 : XP [12] 1 v (.inr (12, ob_12 v0 v1 v2 v3 v4 v5 v6 v7 v8 v9 v10 v11 v12 v13 v14 v15 v16 v17 v18 v19 v20 v21 v22 v23 v24 v25 v26 v27 v28 v29 v30 v31)) P ↔ P (.inr (12, ob_12 v0 v v2 v3 v4 v5 v6 v7 v8 v9 v10 v11 v12 v13 v14 v15 v16 v17 v18 v19 v20 v21 v22 v23 v24 v25 v26 v27 v28 v29 v30 v31)) := XP_1 (fs := ob_12 v0 v1 v2 v3 v4 v5 v6 v7 v8 v9 v10 v11 v12 v13 v14 v15 v16 v17 v18 v19 v20 v21 v22 v23 v24 v25 v26 v27 v28 v29 v30 v31) (by show 1 < 32; decide)
theorem og_12_1 : (ob_12 v0 v1 v2 v3 v4 v5 v6 v7 v8 v9 v10 v11 v12 v13 v14 v15 v16 v17 v18 v19 v20 v21 v22 v23 v24 v25 v26 v27 v28 v29 v30 v31)[1]? = some v1 := rfl
theorem op_12_2 : XP [12] 2 v (.inr (12, ob_12 v0 v1 v2 v3 v4 v5 v6 v7 v8 v9 v10 v11 v12 v13 v14 v15 v16 v17 v18 v19 v20 v21 v22 v23 v24 v25 v26 v27 v28 v29 v30 v31)) P ↔ P (.inr (12, ob_12 v0 v1 v v3 v4 v5 v6 v7 v8 v9 v10 v11 v12 v13 v14 v15 v16 v17 v18 v19 v20 v21 v22 v23 v24 v25 v26 v27 v28 v29 v30 v31)) := XP_1 (fs := ob_12 v0 v1 v2 v3 v4 v5 v6 v7 v8 v9 v10 v11 v12 v13 v14 v15 v16 v17 v18 v19 v20 v21 v22 v23 v24 v25 v26 v27 v28 v29 v30 v31) (by show 2 < 32; decide)
theorem og_12_2 : (ob_12 v0 v1 v2 v3 v4 v5 v6 v7 v8 v9 v10 v11 v12 v13 v14 v15 v16 v17 v18 v19 v20 v21 v22 v23 v24 v25 v26 v27 v28 v29 v30 v31)[2]? = some v2 := rfl
theorem op_12_3 : XP [12] 3 v (.inr (12, ob_12 v0 v1 v2 v3 v4 v5 v6 v7 v8 v9 v10 v11 v12 v13 v14 v15 v16 v17 v18 v19 v20 v21 v22 v23 v24 v25 v26 v27 v28 v29 v30 v31)) P ↔ P (.inr (12, ob_12 v0 v1 v2 v v4 v5 v6 v7 v8 v9 v10 v11 v12 v13 v14 v15 v16 v17 v18 v19 v20 v21 v22 v23 v24 v25 v26 v27 v28 v29 v30 v31)) := XP_1 (fs := ob_12 v0 v1 v2 v3 v4 v5 v6 v7 v8 v9 v10 v11 v12 v13 v14 v15 v16 v17 v18 v19 v20 v21 v22 v23 v24 v25 v26 v27 v28 v29 v30 v31) (by show 3 < 32; decide)
theorem og_12_3 : (ob_12 v0 v1 v2 v3 v4 v5 v6 v7 v8 v9 v10 v11 v12 v13 v14 v15 v16 v17 v18 v19 v20 v21 v22 v23 v24 v25 v26 v27 v28 v29 v30 v31)[3]? = some v3 := rfl
theorem op_12_4 : XP [12] 4 v (.inr (12, ob_12 v0 v1 v2 v3 v4 v5 v6 v7 v8 v9 v10 v11 v12 v13 v14 v15 v16 v17 v18 v19 v20 v21 v22 v23 v24 v25 v26 v27 v28 v29 v30 v31)) P ↔ P (.inr (12, ob_12 v0 v1 v2 v3 v v5 v6 v7 v8 v9 v10 v11 v12 v13 v14 v15 v16 v17 v18 v19 v20 v21 v22 v23 v24 v25 v26 v27 v28 v29 v30 v31)) := XP_1 (fs := ob_12 v0 v1 v2 v3 v4 v5 v6 v7 v8 v9 v10 v11 v12 v13 v14 v15 v16 v17 v18 v19 v20 v21 v22 v23 v24 v25 v26 v27 v28 v29 v30 v31) (by show 4 < 32; decide)
theorem og_12_4 : (ob_12 v0 v1 v2 v3 v4 v5 v6 v7 v8 v9 v10 v11 v12 v13 v14 v15 v16 v17 v18 v19 v20 v21 v22 v23 v24 v25 v26 v27 v28 v29 v30 v31)[4]? = some v4 := rfl
theorem op_12_5 : XP [12] 5 v (.inr (12, ob_12 v0 v1 v2 v3 v4 v5 v6 v7 v8 v9 v10 v11 v12 v13 v14 v15 v16 v17 v18 v19 v20 v21 v22 v23 v24 v25 v26 v27 v28 v29 v30 v31)) P ↔ P (.inr (12, ob_12 v0 v1 v2 v3 v4 v v6 v7 v8 v9 v10 v11 v12 v13 v14 v15 v16 v17 v18 v19 v20 v21 v22 v23 v24 v25 v26 v27 v28 v29 v30 v31)) := XP_1 (fs := ob_12 v0 v1 v2 v3 v4 v5 v6 v7 v8 v9 v10 v11 v12 v13 v14 v15 v16 v17 v18 v19 v20 v21 v22 v23 v24 v25 v26 v27 v28 v29 v30 v31) (by show 5 < 32; decide)
theorem og_12_5 : (ob_12 v0 v1 v2 v3 v4 v5 v6 v7 v8 v9 v10 v11 v12 v13 v14 v15 v16 v17 v18 v19 v20 v21 v22 v23 v24 v25 v26 v27 v28 v29 v30 v31)[5]? = some v5 := rfl
theorem op_12_6 : XP [12] 6 v (.inr (12, ob_12 v0 v1 v2 v3 v4 v5 v6 v7 v8 v9 v10 v11 v12 v13 v14 v15 v16 v17 v18 v19 v20 v21 v22 v23 v24 v25 v26 v27 v28 v29 v30 v31)) P ↔ P (.inr (12, ob_12 v0 v1 v2 v3 v4 v5 v v7 v8 v9 v10 v11 v12 v13 v14 v15 v16 v17 v18 v19 v20 v21 v22 v23 v24 v25 v26 v27 v28 v29 v30 v31)) := XP_1 (fs := ob_12 v0 v1 v2 v3 v4 v5 v6 v7 v8 v9 v10 v11 v12 v13 v14 v15 v16 v17 v18 v19 v20 v21 v22 v23 v24 v25 v26 v27 v28 v29 v30 v31) (by show 6 < 32; decide)
theorem og_12_6 : (ob_12 v0 v1 v2 v3 v4 v5 v6 v7 v8 v9 v10 v11 v12 v13 v14 v15 v16 v17 v18 v19 v20 v21 v22 v23 v24 v25 v26 v27 v28 v29 v30 v31)[6]? = some v6 := rfl
theorem op_12_7 : XP [12] 7 v (.inr (12, ob_12 v0 v1 v2 v3 v4 v5 v6 v7 v8 v9 v10 v11 v12 v13 v14 v15 v16 v17 v18 v19 v20 v21 v22 v23 v24 v25 v26 v27 v28 v29 v30 v31)) P ↔ P (.inr (12, ob_12 v0 v1 v2 v3 v4 v5 v6 v v8 v9 v10 v11 v12 v13 v14 v15 v16 v17 v18 v19 v20 v21 v22 v23 v24 v25 v26 v27 v28 v29 v30 v31)) := XP_1 (fs := ob_12 v0 v1 v2 v3 v4 v5 v6 v7 v8 v9 v10 v11 v12 v13 v14 v15 v16 v17 v18 v19 v20 v21 v22 v23 v24 v25 v26 v27 v28 v29 v30 v31) (by show 7 < 32; decide)
theorem og_12_7 : (ob_12 v0 v1 v2 v3 v4 v5 v6 v7 v8 v9 v10 v11 v12 v13 v14 v15 v16 v17 v18 v19 v20 v21 v22 v23 v24 v25 v26 v27 v28 v29 v30 v31)[7]? = some v7 := rfl
theorem op_12_8 : XP [12] 8 v (.inr (12, ob_12 v0 v1 v2 v3 v4 v5 v6 v7 v8 v9 v10 v11 v12 v13 v14 v15 v16 v17 v18 v19 v20 v21 v22 v23 v24 v25 v26 v27 v28 v29 v30 v31)) P ↔ P (.inr (12, ob_12 v0 v1 v2 v3 v4 v5 v6 v7 v v9 v10 v11 v12 v13 v14 v15 v16 v17 v18 v19 v20 v21 v22 v23 v24 v25 v26 v27 v28 v29 v30 v31)) := XP_1 (fs := ob_12 v0 v1 v2 v3 v4 v5 v6 v7 v8 v9 v10 v11 v12 v13 v14 v15 v16 v17 v18 v19 v20 v21 v22 v23 v24 v25 v26 v27 v28 v29 v30 v31) (by show 8 < 32; decide)
theorem og_12_8 : (ob_12 v0 v1 v2 v3 v4 v5 v6 v7 v8 v9 v10 v11 v12 v13 v14 v15 v16 v17 v18 v19 v20 v21 v22 v23 v24 v25 v26 v27 v28 v29 v30 v31)[8]? = some v8 := rfl
theorem op_12_9 : XP [12] 9 v (.inr (12, ob_12 v0 v1 v2 v3 v4 v5 v6 v7 v8 v9 v10 v11 v12 v13 v14 v15 v16 v17 v18 v19 v20 v21 v22 v23 v24 v25 v26 v27 v28 v29 v30 v31)) P ↔ P (.inr (12, ob_12 v0 v1 v2 v3 v4 v5 v6 v7 v8 v v10 v11 v12 v13 v14 v15 v16 v17 v18 v19 v20 v21 v22 v23 v24 v25 v26 v27 v28 v29 v30 v31)) := XP_1 (fs := ob_12 v0 v1 v2 v3 v4 v5 v6 v7 v8 v9 v10 v11 v12 v13 v14 v15 v16 v17 v18 v19 v20 v21 v22 v23 v24 v25 v26 v27 v28 v29 v30 v31) (by show 9 < 32; decide)
theorem og_12_9 : (ob_12 v0 v1 v2 v3 v4 v5 v6 v7 v8 v9 v10 v11 v12 v13 v14 v15 v16 v17 v18 v19 v20 v21 v22 v23 v24 v25 v26 v27 v28 v29 v30 v31)[9]? = some v9 := rfl
theorem op_12_10 : XP [12] 10 v (.inr (12, ob_12 v0 v1 v2 v3 v4 v5 v6 v7 v8 v9 v10 v11 v12 v13 v14 v15 v16 v17 v18 v19 v20 v21 v22 v23 v24 v25 v26 v27 v28 v29 v30 v31)) P ↔ P (.inr (12, ob_12 v0 v1 v2 v3 v4 v5 v6 v7 v8 v9 v v11 v12 v13 v14 v15 v16 v17 v18 v19 v20 v21 v22 v23 v24 v25 v26 v27 v28 v29 v30 v31)) := XP_1 (fs := ob_12 v0 v1 v2 v3 v4 v5 v6 v7 v8 v9 v10 v11 v12 v13 v14 v15 v16 v17 v18 v19 v20 v21 v22 v23 v24 v25 v26 v27 v28 v29 v30 v31) (by show 10 < 32; decide)
theorem og_12_10 : (ob_12 v0 v1 v2 v3 v4 v5 v6 v7 v8 v9 v10 v11 v12 v13 v14 v15 v16 v17 v18 v19 v20 v21 v22 v23 v24 v25 v26 v27 v28 v29 v30 v31)[10]? = some v10 := rfl
theorem op_12_11 : XP [12] 11 v (.inr (12, ob_12 v0 v1 v2 v3 v4 v5 v6 v7 v8 v9 v10 v11 v12 v13 v14 v15 v16 v17 v18 v19 v20 v21 v22 v23 v24 v25 v26 v27 v28 v29 v30 v31)) P ↔ P (.inr (12, ob_12 v0 v1 v2 v3 v4 v5 v6 v7 v8 v9 v10 v v12 v13 v14 v15 v16 v17 v18 v19 v20 v21 v22 v23 v24 v25 v26 v27 v28 v29 v30 v31)) := XP_1 (fs := ob_12 v0 v1 v2 v3 v4 v5 v6 v7 v8 v9 v10 v11 v12 v13 v14 v15 v16 v17 v18 v19 v20 v21 v22 v23 v24 v25 v26 v27 v28 v29 v30 v31) (by show 11 < 32; decide)
theorem og_12_11 : (ob_12 v0 v1 v2 v3 v4 v5 v6 v7 v8 v9 v10 v11 v12 v13 v14 v15 v16 v17 v18 v19 v20 v21 v22 v23 v24 v25 v26 v27 v28 v29 v30 v31)[11]? = some v11 := rfl
theorem op_12_12 : XP [12] 12 v (.inr (12, ob_12 v0 v1 v2 v3 v4 v5 v6 v7 v8 v9 v10 v11 v12 v13 v14 v15 v16 v17 v18 v19 v20 v21 v22 v23 v24 v25 v26 v27 v28 v29 v30 v31)) P ↔ P (.inr (12, ob_12 v0 v1 v2 v3 v4 v5 v6 v7 v8 v9 v10 v11 v v13 v14 v15 v16 v17 v18 v19 v20 v21 v22 v23 v24 v25 v26 v27 v28 v29 v30 v31)) := XP_1 (fs := ob_12 v0 v1 v2 v3 v4 v5 v6 v7 v8 v9 v10 v11 v12 v13 v14 v15 v16 v17 v18 v19 v20 v21 v22 v23 v24 v25 v26 v27 v28 v29 v30 v31) (by show 12 < 32; decide)
theorem og_12_12 : (ob_12 v0 v1 v2 v3 v4 v5 v6 v7 v8 v9 v10 v11 v12 v13 v14 v15 v16 v17 v18 v19 v20 v21 v22 v23 v24 v25 v26 v27 v28 v29 v30 v31)[12]? = some v12 := rfl
theorem op_12_13 : XP [12] 13 v (.inr (12, ob_12 v0 v1 v2 v3 v4 v5 v6 v7 v8 v9 v10 v11 v12 v13 v14 v15 v16 v17 v18 v19 v20 v21 v22 v23 v24 v25 v26 v27 v28 v29 v30 v31)) P ↔ P (.inr (12, ob_12 v0 v1 v2 v3 v4 v5 v6 v7 v8 v9 v10 v11 v12 v v14 v15 v16 v17 v18 v19 v20 v21 v22 v23 v24 v25 v26 v27 v28 v29 v30 v31)) := XP_1 (fs := ob_12 v0 v1 v2 v3 v4 v5 v6 v7 v8 v9 v10 v11 v12 v13 v14 v15 v16 v17 v18 v19 v20 v21 v22 v23 v24 v25 v26 v27 v28 v29 v30 v31) (by show 13 < 32; decide)
theorem og_12_13 : (ob_12 v0 v1 v2 v3 v4 v5 v6 v7 v8 v9 v10 v11 v12 v13 v14 v15 v16 v17 v18 v19 v20 v21 v22 v23 v24 v25 v26 v27 v28 v29 v30 v31)[13]? = some v13 := rfl
theorem op_12_14 : XP [12] 14 v (.inr (12, ob_12 v0 v1 v2 v3 v4 v5 v6 v7 v8 v9 v10 v11 v12 v13 v14 v15 v16 v17 v18 v19 v20 v21 v22 v23 v24 v25 v26 v27 v28 v29 v30 v31)) P ↔ P (.inr (12, ob_12 v0 v1 v2 v3 v4 v5 v6 v7 v8 v9 v10 v11 v12 v13 v v15 v16 v17 v18 v19 v20 v21 v22 v23 v24 v25 v26 v27 v28 v29 v30 v31)) := XP_1 (fs := ob_12 v0 v1 v2 v3 v4 v5 v6 v7 v8 v9 v10 v11 v12 v13 v14 v15 v16 v17 v18 v19 v20 v21 v22 v23 v24 v25 v26 v27 v28 v29 v30 v31) (by show 14 < 32; decide)
theorem og_12_14 : (ob_12 v0 v1 v2 v3 v4 v5 v6 v7 v8 v9 v10 v11 v12 v13 v14 v15 v16 v17 v18 v19 v20 v21 v22 v23 v24 v25 v26 v27 v28 v29 v30 v31)[14]? = some v14 := rfl
theorem op_12_15 : XP [12] 15 v (.inr (12, ob_12 v0 v1 v2 v3 v4 v5 v6 v7 v8 v9 v10 v11 v12 v13 v14 v15 v16 v17 v18 v19 v20 v21 v22 v23 v24 v25 v26 v27 v28 v29 v30 v31)) P ↔ P (.inr (12, ob_12 v0 v1 v2 v3 v4 v5 v6 v7 v8 v9 v10 v11 v12 v13 v14 v v16 v17 v18 v19 v20 v21 v22 v23 v24 v25 v26 v27 v28 v29 v30 v31)) := XP_1 (fs := ob_12 v0 v1 v2 v3 v4 v5 v6 v7 v8 v9 v10 v11 v12 v13 v14 v15 v16 v17 v18 v19 v20 v21 v22 v23 v24 v25 v26 v27 v28 v29 v30 v31) (by show 15 < 32; decide)
theorem og_12_15 : (ob_12 v0 v1 v2 v3 v4 v5 v6 v7 v8 v9 v10 v11 v12 v13 v14 v15 v16 v17 v18 v19 v20 v21 v22 v23 v24 v25 v26 v27 v28 v29 v30 v31)[15]? = some v15 := rfl
theorem op_12_16 : XP [12] 16 v (.inr (12, ob_12 v0 v1 v2 v3 v4 v5 v6 v7 v8 v9 v10 v11 v12 v13 v14 v15 v16 v17 v18 v19 v20 v21 v22 v23 v24 v25 v26 v27 v28 v29 v30 v31)) P ↔ P (.inr (12, ob_12 v0 v1 v2 v3 v4 v5 v6 v7 v8 v9 v10 v11 v12 v13 v14 v15 v v17 v18 v19 v20 v21 v22 v23 v24 v25 v26 v27 v28 v29 v30 v31)) := XP_1 (fs := ob_12 v0 v1 v2 v3 v4 v5 v6 v7 v8 v9 v10 v11 v12 v13 v14 v15 v16 v17 v18 v19 v20 v21 v22 v23 v24 v25 v26 v27 v28 v29 v30 v31) (by show 16 < 32; decide)
theorem og_12_16 : (ob_12 v0 v1 v2 v3 v4 v5 v6 v7 v8 v9 v10 v11 v12 v13 v14 v15 v16 v17 v18 v19 v20 v21 v22 v23 v24 v25 v26 v27 v28 v29 v30 v31)[16]? = some v16 := rfl
theorem op_12_17 : XP [12] 17 v (.inr (12, ob_12 v0 v1 v2 v3 v4 v5 v6 v7 v8 v9 v10 v11 v12 v13 v14 v15 v16 v17 v18 v19 v20 v21 v22 v23 v24 v25 v26 v27 v28 v29 v30 v31)) P ↔ P (.inr (12, ob_12 v0 v1 v2 v3 v4 v5 v6 v7 v8 v9 v10 v11 v12 v13 v14 v15 v16 v v18 v19 v20 v21 v22 v23 v24 v25 v26 v27 v28 v29 v30 v31)) := XP_1 (fs := ob_12 v0 v1 v2 v3 v4 v5 v6 v7 v8 v9 v10 v11 v12 v13 v14 v15 v16 v17 v18 v19 v20 v21 v22 v23 v24 v25 v26 v27 v28 v29 v30 v31) (by show 17 < 32; decide)
theorem og_12_17 : (ob_12 v0 v1 v2 v3 v4 v5 v6 v7 v8 v9 v10 v11 v12 v13 v14 v15 v16 v17 v18 v19 v20 v21 v22 v23 v24 v25 v26 v27 v28 v29 v30 v31)[17]? = some v17 := rfl
theorem op_12_18 : XP [12] 18 v (.inr (12, ob_12 v0 v1 v2 v3 v4 v5 v6 v7 v8 v9 v10 v11 v12 v13 v14 v15 v16 v17 v18 v19 v20 v21 v22 v23 v24 v25 v26 v27 v28 v29 v30 v31)) P ↔ P (.inr (12, ob_12 v0 v1 v2 v3 v4 v5 v6 v7 v8 v9 v10 v11 v12 v13 v14 v15 v16 v17 v v19 v20 v21 v22 v23 v24 v25 v26 v27 v28 v29 v30 v31)) := XP_1 (fs := ob_12 v0 v1 v2 v3 v4 v5 v6 v7 v8 v9 v10 v11 v12 v13 v14 v15 v16 v17 v18 v19 v20 v21 v22 v23 v24 v25 v26 v27 v28 v29 v30 v31) (by show 18 < 32; decide)
theorem og_12_18 : (ob_12 v0 v1 v2 v3 v4 v5 v6 v7 v8 v9 v10 v11 v12 v13 v14 v15 v16 v17 v18 v19 v20 v21 v22 v23 v24 v25 v26 v27 v28 v29 v30 v31)[18]? = some v18 := rfl
theorem op_12_19 : XP [12] 19 v (.inr (12, ob_12 v0 v1 v2 v3 v4 v5 v6 v7 v8 v9 v10 v11 v12 v13 v14 v15 v16 v17 v18 v19 v20 v21 v22 v23 v24 v25 v26 v27 v28 v29 v30 v31)) P ↔ P (.inr (12, ob_12 v0 v1 v2 v3 v4 v5 v6 v7 v8 v9 v10 v11 v12 v13 v14 v15 v16 v17 v18 v v20 v21 v22 v23 v24 v25 v26 v27 v28 v29 v30 v31)) := XP_1 (fs := ob_12 v0 v1 v2 v3 v4 v5 v6 v7 v8 v9 v10 v11 v12 v13 v14 v15 v16 v17 v18 v19 v20 v21 v22 v23 v24 v25 v26 v27 v28 v29 v30 v31) (by show 19 < 32; decide)
theorem og_12_19 : (ob_12 v0 v1 v2 v3 v4 v5 v6 v7 v8 v9 v10 v11 v12 v13 v14 v15 v16 v17 v18 v19 v20 v21 v22 v23 v24 v25 v26 v27 v28 v29 v30 v31)[19]? = some v19 := rfl
theorem op_12_20 : XP [12] 20 v (.inr (12, ob_12 v0 v1 v2 v3 v4 v5 v6 v7 v8 v9 v10 v11 v12 v13 v14 v15 v16 v17 v18 v19 v20 v21 v22 v23 v24 v25 v26 v27 v28 v29 v30 v31)) P ↔ P (.inr (12, ob_12 v0 v1 v2 v3 v4 v5 v6 v7 v8 v9 v10 v11 v12 v13 v14 v15 v16 v17 v18 v19 v v21 v22 v23 v24 v25 v26 v27 v28 v29 v30 v31)) := XP_1 (fs := ob_12 v0 v1 v2 v3 v4 v5 v6 v7 v8 v9 v10 v11 v12 v13 v14 v15 v16 v17 v18 v19 v20 v21 v22 v23 v24 v25 v26 v27 v28 v29 v30 v31) (by show 20 < 32; decide)
theorem og_12_20 : (ob_12 v0 v1 v2 v3 v4 v5 v6 v7 v8 v9 v10 v11 v12 v13 v14 v15 v16 v17 v18 v19 v20 v21 v22 v23 v24 v25 v26 v27 v28 v29 v30 v31)[20]? = some v20 := rfl
theorem op_12_21 : XP [12] 21 v (.inr (12, ob_12 v0 v1 v2 v3 v4 v5 v6 v7 v8 v9 v10 v11 v12 v13 v14 v15 v16 v17 v18 v19 v20 v21 v22 v23 v24 v25 v26 v27 v28 v29 v30 v31)) P ↔ P (.inr (12, ob_12 v0 v1 v2 v3 v4 v5 v6 v7 v8 v9 v10 v11 v12 v13 v14 v15 v16 v17 v18 v19 v20 v v22 v23 v24 v25 v26 v27 v28 v29 v30 v31)) := XP_1 (fs := ob_12 v0 v1 v2 v3 v4 v5 v6 v7 v8 v9 v10 v11 v12 v13 v14 v15 v16 v17 v18 v19 v20 v21 v22 v23 v24 v25 v26 v27 v28 v29 v30 v31) (by show 21 < 32; decide)
theorem og_12_21 : (ob_12 v0 v1 v2 v3 v4 v5 v6 v7 v8 v9 v10 v11 v12 v13 v14 v15 v16 v17 v18 v19 v20 v21 v22 v23 v24 v25 v26 v27 v28 v29 v30 v31)[21]? = some v21 := rfl
theorem op_12_22 : XP [12] 22 v (.inr (12, ob_12 v0 v1 v2 v3 v4 v5 v6 v7 v8 v9 v10 v11 v12 v13 v14 v15 v16 v17 v18 v19 v20 v21 v22 v23 v24 v25 v26 v27 v28 v29 v30 v31)) P ↔ P (.inr (12, ob_12 v0 v1 v2 v3 v4 v5 v6 v7 v8 v9 v10 v11 v12 v13 v14 v15 v16 v17 v18 v19 v20 v21 v v23 v24 v25 v26 v27 v28 v29 v30 v31)) := XP_1 (fs := ob_12 v0 v1 v2 v3 v4 v5 v6 v7 v8 v9 v10 v11 v12 v13 v14 v15 v16 v17 v18 v19 v20 v21 v22 v23 v24 v25 v26 v27 v28 v29 v30 v31) (by show 22 < 32; decide)
theorem og_12_22 : (ob_12 v0 v1 v2 v3 v4 v5 v6 v7 v8 v9 v10 v11 v12 v13 v14 v15 v16 v17 v18 v19 v20 v21 v22 v23 v24 v25 v26 v27 v28 v29 v30 v31)[22]? = some v22 := rfl
theorem op_12_23 : XP [12] 23 v (.inr (12, ob_12 v0 v1 v2 v3 v4 v5 v6 v7 v8 v9 v10 v11 v12 v13 v14 v15 v16 v17 v18 v19 v20 v21 v22 v23 v24 v25 v26 v27 v28 v29 v30 v31)) P ↔ P (.inr (12, ob_12 v0 v1 v2 v3 v4 v5 v6 v7 v8 v9 v10 v11 v12 v13 v14 v15 v16 v17 v18 v19 v20 v21 v22 v v24 v25 v26 v27 v28 v29 v30 v31)) := XP_1 (fs := ob_12 v0 v1 v2 v3 v4 v5 v6 v7 v8 v9 v10 v11 v12 v13 v14 v15 v16 v17 v18 v19 v20 v21 v22 v23 v24 v25 v26 v27 v28 v29 v30 v31) (by show 23 < 32; decide)
theorem og_12_23 : (ob_12 v0 v1 v2 v3 v4 v5 v6 v7 v8 v9 v10 v11 v12 v13 v14 v15 v16 v17 v18 v19 v20 v21 v22 v23 v24 v25 v26 v27 v28 v29 v30 v31)[23]? = some v23 := rfl
theorem op_12_24 : XP [12] 24 v (.inr (12, ob_12 v0 v1 v2 v3 v4 v5 v6 v7 v8 v9 v10 v11 v12 v13 v14 v15 v16 v17 v18 v19 v20 v21 v22 v23 v24 v25 v26 v27 v28 v29 v30 v31)) P ↔ P (.inr (12, ob_12 v0 v1 v2 v3 v4 v5 v6 v7 v8 v9 v10 v11 v12 v13 v14 v15 v16 v17 v18 v19 v20 v21 v22 v23 v v25 v26 v27 v28 v29 v30 v31)) := XP_1 (fs := ob_12 v0 v1 v2 v3 v4 v5 v6 v7 v8 v9 v10 v11 v12 v13 v14 v15 v16 v17 v18 v19 v20 v21 v22 v23 v24 v25 v26 v27 v28 v29 v30 v31) (by show 24 < 32; decide)
theorem og_12_24 : (ob_12 v0 v1 v2 v3 v4 v5 v6 v7 v8 v9 v10 v11 v12 v13 v14 v15 v16 v17 v18 v19 v20 v21 v22 v23 v24 v25 v26 v27 v28 v29 v30 v31)[24]? = some v24 := rfl
theorem op_12_25 : XP [12] 25 v (.inr (12, ob_12 v0 v1 v2 v3 v4 v5 v6 v7 v8 v9 v10 v11 v12 v13 v14 v15 v16 v17 v18 v19 v20 v21 v22 v23 v24 v25 v26 v27 v28 v29 v30 v31)) P ↔ P (.inr (12, ob_12 v0 v1 v2 v3 v4 v5 v6 v7 v8 v9 v10 v11 v12 v13 v14 v15 v16 v17 v18 v19 v20 v21 v22 v23 v24 v v26 v27 v28 v29 v30 v31)) := XP_1 (fs := ob_12 v0 v1 v2 v3 v4 v5 v6 v7 v8 v9 v10 v11 v12 v13 v14 v15 v16 v17 v18 v19 v20 v21 v22 v23 v24 v25 v26 v27 v28 v29 v30 v31) (by show 25 < 32; decide)
theorem og_12_25 : (ob_12 v0 v1 v2 v3 v4 v5 v6 v7 v8 v9 v10 v11 v12 v13 v14 v15 v16 v17 v18 v19 v20 v21 v22 v23 v24 v25 v26 v27 v28 v29 v30 v31)[25]? = some v25 := rfl
theorem op_12_26 : XP [12] 26 v (.inr (12, ob_12 v0 v1 v2 v3 v4 v5 v6 v7 v8 v9 v10 v11 v12 v13 v14 v15 v16 v17 v18 v19 v20 v21 v22 v23 v24 v25 v26 v27 v28 v29 v30 v31)) P ↔ P (.inr (12, ob_12 v0 v1 v2 v3 v4 v5 v6 v7 v8 v9 v10 v11 v12 v13 v14 v15 v16 v17 v18 v19 v20 v21 v22 v23 v24 v25 v v27 v28 v29 v30 v31)) := XP_1 (fs := ob_12 v0 v1 v2 v3 v4 v5 v6 v7 v8 v9 v10 v11 v12 v13 v14 v15 v16 v17 v18 v19 v20 v21 v22 v23 v24 v25 v26 v27 v28 v29 v30 v31) (by show 26 < 32; decide)
theorem og_12_26 : (ob_12 v0 v1 v2 v3 v4 v5 v6 v7 v8 v9 v10 v11 v12 v13 v14 v15 v16 v17 v18 v19 v20 v21 v22 v23 v24 v25 v26 v27 v28 v29 v30 v31)[26]? = some v26 := rfl
theorem op_12_27 : XP [12] 27 v (.inr (12, ob_12 v0 v1 v2 v3 v4 v5 v6 v7 v8 v9 v10 v11 v12 v13 v14 v15 v16 v17 v18 v19 v20 v21 v22 v23 v24 v25 v26 v27 v28 v29 v30 v31)) P ↔ P (.inr (12, ob_12 v0 v1 v2 v3 v4 v5 v6 v7 v8 v9 v10 v11 v12 v13 v14 v15 v16 v17 v18 v19 v20 v21 v22 v23 v24 v25 v26 v v28 v29 v30 v31)) := XP_1 (fs := ob_12 v0 v1 v2 v3 v4 v5 v6 v7 v8 v9 v10 v11 v12 v13 v14 v15 v16 v17 v18 v19 v20 v21 v22 v23 v24 v25 v26 v27 v28 v29 v30 v31) (by show 27 < 32; decide)
theorem og_12_27 : (ob_12 v0 v1 v2 v3 v4 v5 v6 v7 v8 v9 v10 v11 v12 v13 v14 v15 v16 v17 v18 v19 v20 v21 v22 v23 v24 v25 v26 v27 v28 v29 v30 v31)[27]? = some v27 := rfl
theorem op_12_28 : XP [12] 28 v (.inr (12, ob_12 v0 v1 v2 v3 v4 v5 v6 v7 v8 v9 v10 v11 v12 v13 v14 v15 v16 v17 v18 v19 v20 v21 v22 v23 v24 v25 v26 v27 v28 v29 v30 v31)) P ↔ P (.inr (12, ob_12 v0 v1 v2 v3 v4 v5 v6 v7 v8 v9 v10 v11 v12 v13 v14 v15 v16 v17 v18 v19 v20 v21 v22 v23 v24 v25 v26 v27 v v29 v30 v31)) := XP_1 (fs := ob_12 v0 v1 v2 v3 v4 v5 v6 v7 v8 v9 v10 v11 v12 v13 v14 v15 v16 v17 v18 v19 v20 v21 v22 v23 v24 v25 v26 v27 v28 v29 v30 v31) (by show 28 < 32; decide)
theorem og_12_28 : (ob_12 v0 v1 v2 v3 v4 v5 v6 v7 v8 v9 v10 v11 v12 v13 v14 v15 v16 v17 v18 v19 v20 v21 v22 v23 v24 v25 v26 v27 v28 v29 v30 v31)[28]? = some v28 := rfl
theorem op_12_29 : XP [12] 29 v (.inr (12, ob_12 v0 v1 v2 v3 v4 v5 v6 v7 v8 v9 v10 v11 v12 v13 v14 v15 v16 v17 v18 v19 v20 v21 v22 v23 v24 v25 v26 v27 v28 v29 v30 v31)) P ↔ P (.inr (12, ob_12 v0 v1 v2 v3 v4 v5 v6 v7 v8 v9 v10 v11 v12 v13 v14 v15 v16 v17 v18 v19 v20 v21 v22 v23 v24 v25 v26 v27 v28 v v30 v31)) := XP_1 (fs := ob_12 v0 v1 v2 v3 v4 v5 v6 v7 v8 v9 v10 v11 v12 v13 v14 v15 v16 v17 v18 v19 v20 v21 v22 v23 v24 v25 v26 v27 v28 v29 v30 v31) (by show 29 < 32; decide)
theorem og_12_29 : (ob_12 v0 v1 v2 v3 v4 v5 v6 v7 v8 v9 v10 v11 v12 v13 v14 v15 v16 v17 v18 v19 v20 v21 v22 v23 v24 v25 v26 v27 v28 v29 v30 v31)[29]? = some v29 := rfl
theorem op_12_30 : XP [12] 30 v (.inr (12, ob_12 v0 v1 v2 v3 v4 v5 v6 v7 v8 v9 v10 v11 v12 v13 v14 v15 v16 v17 v18 v19 v20 v21 v22 v23 v24 v25 v26 v27 v28 v29 v30 v31)) P ↔ P (.inr (12, ob_12 v0 v1 v2 v3 v4 v5 v6 v7 v8 v9 v10 v11 v12 v13 v14 v15 v16 v17 v18 v19 v20 v21 v22 v23 v24 v25 v26 v27 v28 v29 v v31)) := XP_1 (fs := ob_12 v0 v1 v2 v3 v4 v5 v6 v7 v8 v9 v10 v11 v12 v13 v14 v15 v16 v17 v18 v19 v20 v21 v22 v23 v24 v25 v26 v27 v28 v29 v30 v31) (by show 30 < 32; decide)
theorem og_12_30 : (ob_12 v0 v1 v2 v3 v4 v5 v6 v7 v8 v9 v10 v11 v12 v13 v14 v15 v16 v17 v18 v19 v20 v21 v22 v23 v24 v25 v26 v27 v28 v29 v30 v31)[30]? = some v30 := rfl
theorem op_12_31 : XP [12] 31 v (.inr (12, ob_12 v0 v1 v2 v3 v4 v5 v6 v7 v8 v9 v10 v11 v12 v13 v14 v15 v16 v17 v18 v19 v20 v21 v22 v23 v24 v25 v26 v27 v28 v29 v30 v31)) P ↔ P (.inr (12, ob_12 v0 v1 v2 v3 v4 v5 v6 v7 v8 v9 v10 v11 v12 v13 v14 v15 v16 v17 v18 v19 v20 v21 v22 v23 v24 v25 v26 v27 v28 v29 v30 v)) := XP_1 (fs := ob_12 v0 v1 v2 v3 v4 v5 v6 v7 v8 v9 v10 v11 v12 v13 v14 v15 v16 v17 v18 v19 v20 v21 v22 v23 v24 v25 v26 v27 v28 v29 v30 v31) (by show 31 < 32; decide)
theorem og_12_31 : (ob_12 v0 v1 v2 v3 v4 v5 v6 v7 v8 v9 v10 v11 v12 v13 v14 v15 v16 v17 v18 v19 v20 v21 v22 v23 v24 v25 v26 v27 v28 v29 v30 v31)[31]? = some v31 := rfl
end OB12
section CT
variable {d t s : Nat} {f : Nat → va_E} {g : Nat → Value} {Q : Option Value → xH → Prop}
theorem c_town0 : XC (d + 1) 50 [.ref t] (hb t f g s [.inr (10, ob_10 (.int 0) (.int 0) (.int 0) (.int 0) (.int 0) (.int 0) (.int 0) (.int 0) .null .null .null .null .null .null .null .null .null .null .null .null)]) Q ↔ Q none (hb t f g (s + 264) [.inr (10, ob_10 (.int 0) (.int 0) (.int 0) (.int 0) (.int 3) (.int 0) (.int 0) (.int 1) (.ref (t + 1)) (.ref (t + 2)) (.ref (t + 3)) (.ref (t + 4)) (.ref (t + 5)) (.ref (t + 6)) (.ref (t + 7)) (.ref (t + 8)) (.ref (t + 9)) (.ref (t + 10)) (.ref (t + 11)) (.ref (t + 12))), .inl (0, xis 10 (fun _ => 0)), .inl (0, xis 10 (fun _ => 0)), .inl (0, xis 10 (fun _ => 0)), .inl (0, xis 12 (fun _ => 0)), .inl (0, xis 12 (fun _ => 0)), .inl (0, xis 12 (fun _ => 0)), .inl (0, xis 24 (fun _ => 0)), .inl (6, xrs 6 (fun _ => none)), .inl (5, xrs 14 (fun _ => none)), .inl (0, xis 10 (fun _ => 0)), .inl (0, xis 72 (fun _ => 0)), .inl (0, xis 72 (fun _ => 0))]) := by
  rw [e50]
  simp only [s50_0, s50_1, s50_4, s50_5, s50_6, s50_9, s50_10, s50_11, s50_14, s50_15, s50_16, s50_19, s50_20, s50_21, s50_24, s50_25, s50_26, s50_29, s50_30, s50_31, s50_34, s50_35, s50_36, s50_39, s50_40, s50_41, s50_44, s50_45, s50_47, s50_49, s50_49n, s50_52, s50_53, s50_55, s50_57, s50_57n, s50_60, s50_61, s50_63, s50_65, s50_65n, s50_68, s50_69, s50_71, s50_73, s50_73n, s50_76, s50_77, s50_79, s50_81, s50_81n, s50_84, s50_85, s50_87, s50_89, s50_89n, s50_92, s50_93, s50_95, s50_97, s50_97n, s50_100, s50_101, s50_103, s50_106, s50_106n, s50_109, s50_110, s50_112, s50_115, s50_115n, s50_118, s50_119, s50_121, s50_123, s50_123n, s50_126, s50_127, s50_129, s50_131, s50_131n, s50_134, s50_135, s50_137, s50_139, s50_139n, s50_142, hb_a0, hb_s0, hb_new, hb_1, op_10_0, op_10_1, op_10_2, op_10_3, op_10_4, op_10_5, op_10_6, op_10_7, op_10_8, op_10_9, op_10_10, op_10_11, op_10_12, op_10_13, op_10_14, op_10_15, op_10_16, op_10_17, op_10_18, op_10_19, and_self, nw4, nc4, nu4, nw5, nc5, nu5, nw6, nc6, nu6, nw10, nc10, nu10, nw11, nc11, nu11, nw12, nc12, nu12, nw14, nc14, nu14, nw24, nc24, nu24, nw60, nc60, nu60, nw72, nc72, nu72, nw96, nc96, nu96, nw120, nc120, nu120, nw1482, nc1482, nu1482, Nat.add_assoc, List.cons_append, List.nil_append, List.length_cons, List.length_nil, Nat.zero_add, Nat.reduceAdd, XG_1, XO_some, XV_1, xo_n, xo_i8, xo_r8, xo_i7, xo_r7, xo_i6, xo_r6, xo_i5, xo_r5, xo_i4, xo_r4, xo_i3, xo_r3, xo_i2, xo_r2, Option.toList_some, Option.toList_none, List.cons_append, List.nil_append, bI_t, bI_f, bI_0, bI_n0, if_true, if_false, true_and, and_true, ne_eq, not_true_eq_false, not_false_eq_true, one_ne0, reduceCtorEq]
theorem c_tape0 : XC (d + 1) 20 [.ref t] (hb t f g s [.inr (7, ob_7 (.int 0) .null (.int 0) (.int 0) (.int 0) (.int 0) (.int 0) .null (.int 0) .null (.int 0) (.int 0) (.int 0) (.int 0))]) Q ↔ Q none (hb t f g (s + 288) [.inr (7, ob_7 (.int 0) (.ref (t + 1)) (.int 0) (.int 0) (.int 0) (.int 0) (.int 0) (.ref (t + 2)) (.int 0) (.ref (t + 3)) (.int 0) (.int 0) (.int 0) (.int 0)), .inl (0, xis 96 (fun _ => 0)), .inl (0, xis 96 (fun _ => 0)), .inl (0, xis 96 (fun _ => 0))]) := by
  rw [e20]
  simp only [s20_0, s20_1, s20_4, s20_5, s20_6, s20_9, s20_10, s20_12, s20_14, s20_14n, s20_17, s20_18, s20_20, s20_22, s20_22n, s20_25, s20_26, s20_28, s20_30, s20_30n, s20_33, hb_a0, hb_s0, hb_new, hb_1, op_7_0, op_7_1, op_7_2, op_7_3, op_7_4, op_7_5, op_7_6, op_7_7, op_7_8, op_7_9, op_7_10, op_7_11, op_7_12, op_7_13, and_self, nw4, nc4, nu4, nw5, nc5, nu5, nw6, nc6, nu6, nw10, nc10, nu10, nw11, nc11, nu11, nw12, nc12, nu12, nw14, nc14, nu14, nw24, nc24, nu24, nw60, nc60, nu60, nw72, nc72, nu72, nw96, nc96, nu96, nw120, nc120, nu120, nw1482, nc1482, nu1482, Nat.add_assoc, List.cons_append, List.nil_append, List.length_cons, List.length_nil, Nat.zero_add, Nat.reduceAdd, XG_1, XO_some, XV_1, xo_n, xo_i8, xo_r8, xo_i7, xo_r7, xo_i6, xo_r6, xo_i5, xo_r5, xo_i4, xo_r4, xo_i3, xo_r3, xo_i2, xo_r2, Option.toList_some, Option.toList_none, List.cons_append, List.nil_append, bI_t, bI_f, bI_0, bI_n0, if_true, if_false, true_and, and_true, ne_eq, not_true_eq_false, not_false_eq_true, one_ne0, reduceCtorEq]
theorem c_sheet0 : XC (d + 1) 15 [.ref t] (hb t f g s [.inr (5, ob_5 (.int 0) (.int 0) .null)]) Q ↔ Q none (hb t f g (s + 24) [.inr (5, ob_5 (.int (-1)) (.int 0) (.ref (t + 1))), .inl (0, xis 24 (fun _ => 0))]) := by
  rw [e15]
  simp only [s15_0, s15_1, s15_4, s15_5, s15_6, s15_9, s15_10, s15_11, s15_14, s15_15, s15_17, s15_19, s15_19n, s15_22, hb_a0, hb_s0, hb_new, hb_1, op_5_0, op_5_1, op_5_2, and_self, nw4, nc4, nu4, nw5, nc5, nu5, nw6, nc6, nu6, nw10, nc10, nu10, nw11, nc11, nu11, nw12, nc12, nu12, nw14, nc14, nu14, nw24, nc24, nu24, nw60, nc60, nu60, nw72, nc72, nu72, nw96, nc96, nu96, nw120, nc120, nu120, nw1482, nc1482, nu1482, Nat.add_assoc, List.cons_append, List.nil_append, List.length_cons, List.length_nil, Nat.zero_add, Nat.reduceAdd, XG_1, XO_some, XV_1, xo_n, xo_i8, xo_r8, xo_i7, xo_r7, xo_i6, xo_r6, xo_i5, xo_r5, xo_i4, xo_r4, xo_i3, xo_r3, xo_i2, xo_r2, Option.toList_some, Option.toList_none, List.cons_append, List.nil_append, bI_t, bI_f, bI_0, bI_n0, if_true, if_false, true_and, and_true, ne_eq, not_true_eq_false, not_false_eq_true, one_ne0, reduceCtorEq]
theorem c_slot0 : XC (d + 2) 19 [.ref t] (hb t f g s [.inr (6, ob_6 (.int 0) .null .null (.int 0))]) Q ↔ Q none (hb t f g (s + 27) [.inr (6, ob_6 (.int 0) .null (.ref (t + 1)) (.int 0)), .inr (5, ob_5 (.int (-1)) (.int 0) (.ref (t + 1 + 1))), .inl (0, xis 24 (fun _ => 0))]) := by
  have a1 : ∀ x y : va_E, hb t f g (s + 3) [x, y] = hb (t + 1) (hb t f g s [x]).2.2.1 g (s + 3) [y] := fun x y => hb_app (l := [x]) (l2 := [y])
  have a2 : ∀ x y z : va_E, hb (t + 1) (hb t f g s [x]).2.2.1 g (s + 3 + 24) [y, z] = hb t f g (s + 27) [x, y, z] := fun x y z => (hb_app (l := [x]) (l2 := [y, z])).symm
  have e1 : ∀ x y : va_E, (hb t f g (s + 3) [x, y]).2.2.1 (t + 1) = y := fun x y => hb_at (j := 1)
  rw [e19]
  simp only [s19_0, s19_1, s19_4, s19_5, s19_6, s19_9, s19_10, s19_11, s19_11n, s19_14, s19_15, s19_18, s19_18r, hb_a0, hb_s0, hb_new, hb_1, op_6_0, op_6_1, op_6_2, op_6_3, List.cons_append, List.nil_append, List.length_cons, List.length_nil, Nat.zero_add, Nat.reduceAdd, XG_1, XO_some, XV_1, xo_n, xo_i8, xo_r8, xo_i7, xo_r7, xo_i6, xo_r6, xo_i5, xo_r5, xo_i4, xo_r4, xo_i3, xo_r3, xo_i2, xo_r2, Option.toList_some, Option.toList_none, List.cons_append, List.nil_append, bI_t, bI_f, bI_0, bI_n0, if_true, if_false, true_and, and_true, ne_eq, not_true_eq_false, not_false_eq_true, one_ne0, reduceCtorEq]
  rw [s19_19]
  rw [show (hb t f g (s + 3) [.inr (6, ob_6 (.int 0) .null .null (.int 0)), .inr (5, [.int 0, .int 0, .null])]).2.2.1 (t + 1) = .inr (5, [.int 0, .int 0, .null]) from e1 _ _, a1]
  refine ⟨fun q => ?_, fun q => ⟨rfl, XV_1.mpr ?_⟩⟩
  · have q2 := c_sheet0.mp (XV_1.mp q.2)
    rw [a2] at q2
    simp only [s19_22, s19_22n, s19_25, s19_26, s19_27, s19_30, hb_a0, hb_s0, op_6_0, op_6_1, op_6_2, op_6_3, XG_1, XO_some, XV_1, xo_n, xo_i8, xo_r8, xo_i7, xo_r7, xo_i6, xo_r6, xo_i5, xo_r5, xo_i4, xo_r4, xo_i3, xo_r3, xo_i2, xo_r2, Option.toList_some, Option.toList_none, List.cons_append, List.nil_append, bI_t, bI_f, bI_0, bI_n0, if_true, if_false, true_and, and_true, ne_eq, not_true_eq_false, not_false_eq_true, one_ne0, reduceCtorEq] at q2
    exact q2
  · refine c_sheet0.mpr ?_
    rw [a2]
    simp only [s19_22, s19_22n, s19_25, s19_26, s19_27, s19_30, hb_a0, hb_s0, op_6_0, op_6_1, op_6_2, op_6_3, XG_1, XO_some, XV_1, xo_n, xo_i8, xo_r8, xo_i7, xo_r7, xo_i6, xo_r6, xo_i5, xo_r5, xo_i4, xo_r4, xo_i3, xo_r3, xo_i2, xo_r2, Option.toList_some, Option.toList_none, List.cons_append, List.nil_append, bI_t, bI_f, bI_0, bI_n0, if_true, if_false, true_and, and_true, ne_eq, not_true_eq_false, not_false_eq_true, one_ne0, reduceCtorEq]
    exact q
end CT
