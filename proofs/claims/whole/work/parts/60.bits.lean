/-! ===== 60: counting bits ===== -/
def bc1 (x : Int32) : Int32 := x - (xushr x 1 &&& 1431655765)
def bc2 (x : Int32) : Int32 := (x &&& 858993459) + (xushr x 2 &&& 858993459)
def bc3 (x : Int32) : Int32 := (x + xushr x 4) &&& 252645135
def bc4 (x : Int32) : Int32 := x + xushr x 8
def bc5 (x : Int32) : Int32 := x + xushr x 16
def bcF (x : Int32) : Int32 := bc5 (bc4 (bc3 (bc2 (bc1 x)))) &&& 63
/-- the reference's count: how often the lowest bit can be taken away -/
def btF : Nat → Int32 → Int32 → Int32
  | 0, _, v => v
  | k + 1, x, v => if x = 0 then v else btF k (x &&& (x - 1)) (v + 1)
section BIT
variable {d : Nat} {h : xH} {Q : Option Value → xH → Prop} {x v : Int32}
theorem c_bitCount : XC (d + 1) 226 [.int x] h Q ↔ Q (some (.int (bcF x))) h := by
  rw [e226]
  simp only [s226_0, s226_1, s226_2, s226_3, s226_4, s226_7, s226_8, s226_9, s226_10, s226_11, s226_14, s226_15, s226_16, s226_17, s226_18, s226_21, s226_22, s226_23, s226_24, s226_25, s226_26, s226_27, s226_28, s226_29, s226_32, s226_33, s226_34, s226_35, s226_36, s226_38, s226_39, s226_40, s226_41, s226_42, s226_43, s226_45, s226_46, s226_47, s226_48, s226_49, s226_51, s226_52]
  rfl
end BIT
