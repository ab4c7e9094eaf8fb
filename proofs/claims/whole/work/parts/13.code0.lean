/-! ===== 13: the methods, by their numbers ===== -/
def xtl {α : Type} (k : Nat) (a : α) : Nat → Option α := fun pc => cond (Nat.beq pc k) (some a) none
def xtn {α : Type} (k : Nat) (A B : Nat → Option α) : Nat → Option α := fun pc => cond (Nat.ble k pc) (B pc) (A pc)
def miT : Nat → Option xM := (xtn 122 ((xtn 61 ((xtn 30 ((xtn 15 ((xtn 7 ((xtn 3 ((xtn 1 (xtl 0 (yX0_init, cX0_init, 3, none)) ((xtn 2 (xtl 1 (yX0_heeds, cX0_heeds, 4, (Option.some Jvm.ClassFile.FieldType.int))) (xtl 2 (yX0_value, cX0_value, 1, (Option.some Jvm.ClassFile.FieldType.int))))))) ((xtn 5 ((xtn 4 (xtl 3 (yX1_init, cX1_init, 3, none)) (xtl 4 (yX1_heeds, cX1_heeds, 4, (Option.some Jvm.ClassFile.FieldType.int))))) ((xtn 6 (xtl 5 (yX1_value, cX1_value, 1, (Option.some Jvm.ClassFile.FieldType.int))) (xtl 6 (yX2_init, cX2_init, 3, none)))))))) ((xtn 11 ((xtn 9 ((xtn 8 (xtl 7 (yX2_picks, cX2_picks, 3, (Option.some Jvm.ClassFile.FieldType.int))) (xtl 8 (yX2_value, cX2_value, 1, (Option.some Jvm.ClassFile.FieldType.int))))) ((xtn 10 (xtl 9 (yX3_init, cX3_init, 3, none)) (xtl 10 (yX3_heeds, cX3_heeds, 4, (Option.some Jvm.ClassFile.FieldType.int))))))) ((xtn 13 ((xtn 12 (xtl 11 (yX3_value, cX3_value, 1, (Option.some Jvm.ClassFile.FieldType.int))) (xtl 12 (yX4_init, cX4_init, 3, none)))) ((xtn 14 (xtl 13 (yX4_picks, cX4_picks, 3, (Option.some Jvm.ClassFile.FieldType.int))) (xtl 14 (yX4_value, cX4_value, 1, (Option.some Jvm.ClassFile.FieldType.int))))))))))) ((xtn 22 ((xtn 18 ((xtn 16 (xtl 15 (yX5_init, cX5_init, 1, none)) ((xtn 17 (xtl 16 (yX5_become, cX5_become, 2, none)) (xtl 17 (yX5_hasPlace, cX5_hasPlace, 2, (Option.some Jvm.ClassFile.FieldType.boolean))))))) ((xtn 20 ((xtn 19 (xtl 18 (yX5_hasPlaces, cX5_hasPlaces, 3, (Option.some Jvm.ClassFile.FieldType.boolean))) (xtl 19 (yX6_init, cX6_init, 1, none)))) ((xtn 21 (xtl 20 (yX7_init, cX7_init, 1, none)) (xtl 21 (yX7_addFour, cX7_addFour, 3, none)))))))) ((xtn 26 ((xtn 24 ((xtn 23 (xtl 22 (yX7_fault, cX7_fault, 2, (Option.some Jvm.ClassFile.FieldType.int))) (xtl 23 (yX7_asText, cX7_asText, 1, (Option.some (Jvm.ClassFile.FieldType.object "TwoBells$Text")))))) ((xtn 25 (xtl 24 (yX7_byteAt, cX7_byteAt, 2, (Option.some Jvm.ClassFile.FieldType.int))) (xtl 25 (yX7_sortOf, cX7_sortOf, 1, (Option.some Jvm.ClassFile.FieldType.int))))))) ((xtn 28 ((xtn 27 (xtl 26 (yX7_step, cX7_step, 1, none)) (xtl 27 (yX7_isWord, cX7_isWord, 3, (Option.some Jvm.ClassFile.FieldType.boolean))))) ((xtn 29 (xtl 28 (yX7_keyHere, cX7_keyHere, 1, (Option.some Jvm.ClassFile.FieldType.int))) (xtl 29 (yX7_nameHere, cX7_nameHere, 2, (Option.some Jvm.ClassFile.FieldType.int))))))))))))) ((xtn 45 ((xtn 37 ((xtn 33 ((xtn 31 (xtl 30 (yX7_numberHere, cX7_numberHere, 3, (Option.some Jvm.ClassFile.FieldType.int))) ((xtn 32 (xtl 31 (yX7_takesPiece, cX7_takesPiece, 2, (Option.some Jvm.ClassFile.FieldType.boolean))) (xtl 32 (yX7_takesTerm, cX7_takesTerm, 2, (Option.some Jvm.ClassFile.FieldType.boolean))))))) ((xtn 35 ((xtn 34 (xtl 33 (yX7_takesJoin, cX7_takesJoin, 4, (Option.some Jvm.ClassFile.FieldType.boolean))) (xtl 34 (yX7_takesEnd, cX7_takesEnd, 1, (Option.some Jvm.ClassFile.FieldType.boolean))))) ((xtn 36 (xtl 35 (yX7_endPiece, cX7_endPiece, 1, none)) (xtl 36 (yX7_rankOf, cX7_rankOf, 1, (Option.some Jvm.ClassFile.FieldType.int))))))))) ((xtn 41 ((xtn 39 ((xtn 38 (xtl 37 (yX7_top, cX7_top, 1, (Option.some Jvm.ClassFile.FieldType.int))) (xtl 38 (yX7_push, cX7_push, 2, none)))) ((xtn 40 (xtl 39 (yX7_emit, cX7_emit, 2, none)) (xtl 40 (yX8_init, cX8_init, 4, none)))))) ((xtn 43 ((xtn 42 (xtl 41 (yX8_gives, cX8_gives, 8, (Option.some Jvm.ClassFile.FieldType.int))) (xtl 42 (yX8_named, cX8_named, 5, (Option.some Jvm.ClassFile.FieldType.int))))) ((xtn 44 (xtl 43 (yX8_joined, cX8_joined, 3, (Option.some Jvm.ClassFile.FieldType.int))) (xtl 44 (yX9_init, cX9_init, 3, none)))))))))) ((xtn 53 ((xtn 49 ((xtn 47 ((xtn 46 (xtl 45 (yX9_ofKind, cX9_ofKind, 2, (Option.some (Jvm.ClassFile.FieldType.object "TwoBells$Thief")))) (xtl 46 (yX9_isOf, cX9_isOf, 2, (Option.some Jvm.ClassFile.FieldType.boolean))))) ((xtn 48 (xtl 47 (yX9_heeds, cX9_heeds, 4, (Option.some Jvm.ClassFile.FieldType.int))) (xtl 48 (yX9_picks, cX9_picks, 3, (Option.some Jvm.ClassFile.FieldType.int))))))) ((xtn 51 ((xtn 50 (xtl 49 (yX9_value, cX9_value, 1, (Option.some Jvm.ClassFile.FieldType.int))) (xtl 50 (yX10_init, cX10_init, 1, none)))) ((xtn 52 (xtl 51 (yX10_become, cX10_become, 3, none)) (xtl 52 (yX10_isHouse, cX10_isHouse, 2, (Option.some Jvm.ClassFile.FieldType.boolean))))))))) ((xtn 57 ((xtn 55 ((xtn 54 (xtl 53 (yX10_isDoor, cX10_isDoor, 2, (Option.some Jvm.ClassFile.FieldType.boolean))) (xtl 54 (yX10_thiefAt, cX10_thiefAt, 2, (Option.some (Jvm.ClassFile.FieldType.object "TwoBells$Thief")))))) ((xtn 56 (xtl 55 (yX10_textAt, cX10_textAt, 2, (Option.some (Jvm.ClassFile.FieldType.object "TwoBells$Text")))) (xtl 56 (yX10_addHouse, cX10_addHouse, 3, (Option.some Jvm.ClassFile.FieldType.int))))))) ((xtn 59 ((xtn 58 (xtl 57 (yX10_addDoor, cX10_addDoor, 3, (Option.some Jvm.ClassFile.FieldType.int))) (xtl 58 (yX10_draw, cX10_draw, 1, (Option.some Jvm.ClassFile.FieldType.int))))) ((xtn 60 (xtl 59 (yX10_doAgree, cX10_doAgree, 3, (Option.some Jvm.ClassFile.FieldType.boolean))) (xtl 60 (yX10_load, cX10_load, 5, (Option.some Jvm.ClassFile.FieldType.int))))))))))))))) ((xtn 91 ((xtn 76 ((xtn 68 ((xtn 64 ((xtn 62 (xtl 61 (yX10_hears, cX10_hears, 4, (Option.some Jvm.ClassFile.FieldType.int))) ((xtn 63 (xtl 62 (yX10_rings, cX10_rings, 5, (Option.some Jvm.ClassFile.FieldType.int))) (xtl 63 (yX10_lastOf, cX10_lastOf, 4, (Option.some Jvm.ClassFile.FieldType.int))))))) ((xtn 66 ((xtn 65 (xtl 64 (yX10_comesNow, cX10_comesNow, 5, (Option.some Jvm.ClassFile.FieldType.int))) (xtl 65 (yX10_listen, cX10_listen, 2, none)))) ((xtn 67 (xtl 66 (yX10_missedBy, cX10_missedBy, 6, (Option.some Jvm.ClassFile.FieldType.int))) (xtl 67 (yX10_gainOf, cX10_gainOf, 5, (Option.some Jvm.ClassFile.FieldType.int))))))))) ((xtn 72 ((xtn 70 ((xtn 69 (xtl 68 (yX10_weigh, cX10_weigh, 5, none)) (xtl 69 (yX10_greatest, cX10_greatest, 6, (Option.some Jvm.ClassFile.FieldType.int))))) ((xtn 71 (xtl 70 (yX10_byLot, cX10_byLot, 5, (Option.some Jvm.ClassFile.FieldType.int))) (xtl 71 (yX10_night, cX10_night, 4, none)))))) ((xtn 74 ((xtn 73 (xtl 72 (yX10_wouldBeLawful, cX10_wouldBeLawful, 6, (Option.some Jvm.ClassFile.FieldType.boolean))) (xtl 73 (yX10_isLawful, cX10_isLawful, 2, (Option.some Jvm.ClassFile.FieldType.boolean))))) ((xtn 75 (xtl 74 (yX10_howManyUnlawful, cX10_howManyUnlawful, 3, (Option.some Jvm.ClassFile.FieldType.int))) (xtl 75 (yX10_firstUnlawful, cX10_firstUnlawful, 2, (Option.some Jvm.ClassFile.FieldType.int))))))))))) ((xtn 83 ((xtn 79 ((xtn 77 (xtl 76 (yX10_bestPair, cX10_bestPair, 7, (Option.some Jvm.ClassFile.FieldType.int))) ((xtn 78 (xtl 77 (yX11_init, cX11_init, 2, none)) (xtl 78 (yX11_house, cX11_house, 3, (Option.some Jvm.ClassFile.FieldType.int))))))) ((xtn 81 ((xtn 80 (xtl 79 (yX11_houseTold, cX11_houseTold, 3, (Option.some Jvm.ClassFile.FieldType.int))) (xtl 80 (yX11_change, cX11_change, 6, (Option.some Jvm.ClassFile.FieldType.int))))) ((xtn 82 (xtl 81 (yX11_agree, cX11_agree, 5, (Option.some Jvm.ClassFile.FieldType.int))) (xtl 82 (yX11_patience, cX11_patience, 3, (Option.some Jvm.ClassFile.FieldType.int))))))))) ((xtn 87 ((xtn 85 ((xtn 84 (xtl 83 (yX11_deal, cX11_deal, 5, (Option.some Jvm.ClassFile.FieldType.int))) (xtl 84 (yX11_door, cX11_door, 3, (Option.some Jvm.ClassFile.FieldType.int))))) ((xtn 86 (xtl 85 (yX11_doorTold, cX11_doorTold, 3, (Option.some Jvm.ClassFile.FieldType.int))) (xtl 86 (yX11_set, cX11_set, 6, (Option.some Jvm.ClassFile.FieldType.int))))))) ((xtn 89 ((xtn 88 (xtl 87 (yX11_wire, cX11_wire, 5, (Option.some Jvm.ClassFile.FieldType.int))) (xtl 88 (yX11_thief, cX11_thief, 3, (Option.some Jvm.ClassFile.FieldType.int))))) ((xtn 90 (xtl 89 (yX11_told, cX11_told, 4, (Option.some Jvm.ClassFile.FieldType.int))) (xtl 90 (yX11_as, cX11_as, 4, (Option.some Jvm.ClassFile.FieldType.int))))))))))))) ((xtn 106 ((xtn 98 ((xtn 94 ((xtn 92 (xtl 91 (yX11_turns, cX11_turns, 4, (Option.some Jvm.ClassFile.FieldType.int))) ((xtn 93 (xtl 92 (yX11_at, cX11_at, 6, (Option.some Jvm.ClassFile.FieldType.int))) (xtl 93 (yX11_heed, cX11_heed, 4, (Option.some Jvm.ClassFile.FieldType.int))))))) ((xtn 96 ((xtn 95 (xtl 94 (yX11_choice, cX11_choice, 3, (Option.some Jvm.ClassFile.FieldType.int))) (xtl 95 (yX11_nights, cX11_nights, 3, (Option.some Jvm.ClassFile.FieldType.int))))) ((xtn 97 (xtl 96 (yX11_seed, cX11_seed, 3, (Option.some Jvm.ClassFile.FieldType.int))) (xtl 97 (yX11_pair, cX11_pair, 2, (Option.some Jvm.ClassFile.FieldType.int))))))))) ((xtn 102 ((xtn 100 ((xtn 99 (xtl 98 (yX11_wiring, cX11_wiring, 3, (Option.some Jvm.ClassFile.FieldType.int))) (xtl 99 (yX11_unlawful, cX11_unlawful, 2, (Option.some Jvm.ClassFile.FieldType.int))))) ((xtn 101 (xtl 100 (yX11_worst, cX11_worst, 6, (Option.some Jvm.ClassFile.FieldType.int))) (xtl 101 (yX11_heard, cX11_heard, 4, (Option.some Jvm.ClassFile.FieldType.int))))))) ((xtn 104 ((xtn 103 (xtl 102 (yX11_fewest, cX11_fewest, 3, (Option.some Jvm.ClassFile.FieldType.int))) (xtl 103 (yX11_alike, cX11_alike, 4, (Option.some Jvm.ClassFile.FieldType.int))))) ((xtn 105 (xtl 104 (yX11_feed, cX11_feed, 4, (Option.some Jvm.ClassFile.FieldType.int))) (xtl 105 (yX11_trim, cX11_trim, 2, (Option.some Jvm.ClassFile.FieldType.int))))))))))) ((xtn 114 ((xtn 110 ((xtn 108 ((xtn 107 (xtl 106 (yX11_text, cX11_text, 2, (Option.some Jvm.ClassFile.FieldType.int))) (xtl 107 (yX11_textTold, cX11_textTold, 4, (Option.some Jvm.ClassFile.FieldType.int))))) ((xtn 109 (xtl 108 (yX11_why, cX11_why, 2, (Option.some Jvm.ClassFile.FieldType.int))) (xtl 109 (yX11_sheet, cX11_sheet, 5, (Option.some Jvm.ClassFile.FieldType.int))))))) ((xtn 112 ((xtn 111 (xtl 110 (yX11_mark, cX11_mark, 5, (Option.some Jvm.ClassFile.FieldType.int))) (xtl 111 (yX11_pour, cX11_pour, 6, (Option.some Jvm.ClassFile.FieldType.int))))) ((xtn 113 (xtl 112 (yX11_reads, cX11_reads, 5, (Option.some Jvm.ClassFile.FieldType.int))) (xtl 113 (yX11_copy, cX11_copy, 8, (Option.some Jvm.ClassFile.FieldType.int))))))))) ((xtn 118 ((xtn 116 ((xtn 115 (xtl 114 (yX11_lay, cX11_lay, 8, (Option.some Jvm.ClassFile.FieldType.int))) (xtl 115 (yX11_ask, cX11_ask, 5, (Option.some Jvm.ClassFile.FieldType.int))))) ((xtn 117 (xtl 116 (yX11_item, cX11_item, 5, (Option.some Jvm.ClassFile.FieldType.int))) (xtl 117 (yX11_rest, cX11_rest, 4, (Option.some Jvm.ClassFile.FieldType.int))))))) ((xtn 120 ((xtn 119 (xtl 118 (yX11_tell, cX11_tell, 2, (Option.some Jvm.ClassFile.FieldType.int))) (xtl 119 (yX11_check, cX11_check, 4, (Option.some Jvm.ClassFile.FieldType.int))))) ((xtn 121 (xtl 120 (yX11_keep, cX11_keep, 1, (Option.some Jvm.ClassFile.FieldType.int))) (xtl 121 (yX11_back, cX11_back, 1, (Option.some Jvm.ClassFile.FieldType.int))))))))))))))))) ((xtn 183 ((xtn 152 ((xtn 137 ((xtn 129 ((xtn 125 ((xtn 123 (xtl 122 (yX11_count, cX11_count, 2, (Option.some Jvm.ClassFile.FieldType.int))) ((xtn 124 (xtl 123 (yX11_within, cX11_within, 3, (Option.some Jvm.ClassFile.FieldType.boolean))) (xtl 124 (yX11_held, cX11_held, 3, (Option.some Jvm.ClassFile.FieldType.int))))))) ((xtn 127 ((xtn 126 (xtl 125 (yX11_isKind, cX11_isKind, 1, (Option.some Jvm.ClassFile.FieldType.boolean))) (xtl 126 (yX11_sheetAt, cX11_sheetAt, 2, (Option.some (Jvm.ClassFile.FieldType.object "TwoBells$Sheet")))))) ((xtn 128 (xtl 127 (yX11_slotAt, cX11_slotAt, 2, (Option.some (Jvm.ClassFile.FieldType.object "TwoBells$Slot")))) (xtl 128 (yX11_hearsAllRung, cX11_hearsAllRung, 3, (Option.some Jvm.ClassFile.FieldType.boolean))))))))) ((xtn 133 ((xtn 131 ((xtn 130 (xtl 129 (yX11_howManyRight, cX11_howManyRight, 8, (Option.some Jvm.ClassFile.FieldType.int))) (xtl 130 (yX11_waitsAt, cX11_waitsAt, 4, (Option.some Jvm.ClassFile.FieldType.boolean))))) ((xtn 132 (xtl 131 (yX12_init, cX12_init, 1, none)) (xtl 132 (yX12_in, cX12_in, 3, (Option.some Jvm.ClassFile.FieldType.boolean))))))) ((xtn 135 ((xtn 134 (xtl 133 (yX12_within, cX12_within, 3, (Option.some Jvm.ClassFile.FieldType.int))) (xtl 134 (yX12_copyAll, cX12_copyAll, 3, none)))) ((xtn 136 (xtl 135 (yX12_told0, cX12_told0, 1, (Option.some Jvm.ClassFile.FieldType.int))) (xtl 136 (yX12_isHouse, cX12_isHouse, 2, (Option.some Jvm.ClassFile.FieldType.boolean))))))))))) ((xtn 144 ((xtn 140 ((xtn 138 (xtl 137 (yX12_isDoor, cX12_isDoor, 2, (Option.some Jvm.ClassFile.FieldType.boolean))) ((xtn 139 (xtl 138 (yX12_isThief, cX12_isThief, 2, (Option.some Jvm.ClassFile.FieldType.boolean))) (xtl 139 (yX12_houseOf, cX12_houseOf, 3, (Option.some Jvm.ClassFile.FieldType.int))))))) ((xtn 142 ((xtn 141 (xtl 140 (yX12_doorOf, cX12_doorOf, 3, (Option.some Jvm.ClassFile.FieldType.int))) (xtl 141 (yX12_kindOf, cX12_kindOf, 2, (Option.some Jvm.ClassFile.FieldType.int))))) ((xtn 143 (xtl 142 (yX12_homeOf, cX12_homeOf, 2, (Option.some Jvm.ClassFile.FieldType.int))) (xtl 143 (yX12_becomes, cX12_becomes, 4, (Option.some Jvm.ClassFile.FieldType.int))))))))) ((xtn 148 ((xtn 146 ((xtn 145 (xtl 144 (yX12_draw, cX12_draw, 1, (Option.some Jvm.ClassFile.FieldType.int))) (xtl 145 (yX12_comes, cX12_comes, 4, (Option.some Jvm.ClassFile.FieldType.int))))) ((xtn 147 (xtl 146 (yX12_house, cX12_house, 3, (Option.some Jvm.ClassFile.FieldType.int))) (xtl 147 (yX12_bellsIn, cX12_bellsIn, 7, (Option.some Jvm.ClassFile.FieldType.int))))))) ((xtn 150 ((xtn 149 (xtl 148 (yX12_comesOf, cX12_comesOf, 5, (Option.some Jvm.ClassFile.FieldType.int))) (xtl 149 (yX12_houseTold, cX12_houseTold, 3, (Option.some Jvm.ClassFile.FieldType.int))))) ((xtn 151 (xtl 150 (yX12_change, cX12_change, 4, (Option.some Jvm.ClassFile.FieldType.int))) (xtl 151 (yX12_doAgree, cX12_doAgree, 3, (Option.some Jvm.ClassFile.FieldType.boolean))))))))))))) ((xtn 167 ((xtn 159 ((xtn 155 ((xtn 153 (xtl 152 (yX12_agree, cX12_agree, 5, (Option.some Jvm.ClassFile.FieldType.int))) ((xtn 154 (xtl 153 (yX12_patience, cX12_patience, 2, (Option.some Jvm.ClassFile.FieldType.int))) (xtl 154 (yX12_deal, cX12_deal, 5, (Option.some Jvm.ClassFile.FieldType.int))))))) ((xtn 157 ((xtn 156 (xtl 155 (yX12_door, cX12_door, 4, (Option.some Jvm.ClassFile.FieldType.int))) (xtl 156 (yX12_isLawfulWith, cX12_isLawfulWith, 6, (Option.some Jvm.ClassFile.FieldType.boolean))))) ((xtn 158 (xtl 157 (yX12_isLawful, cX12_isLawful, 2, (Option.some Jvm.ClassFile.FieldType.boolean))) (xtl 158 (yX12_doorTold, cX12_doorTold, 3, (Option.some Jvm.ClassFile.FieldType.int))))))))) ((xtn 163 ((xtn 161 ((xtn 160 (xtl 159 (yX12_set, cX12_set, 4, (Option.some Jvm.ClassFile.FieldType.int))) (xtl 160 (yX12_wire, cX12_wire, 4, (Option.some Jvm.ClassFile.FieldType.int))))) ((xtn 162 (xtl 161 (yX12_thief, cX12_thief, 3, (Option.some Jvm.ClassFile.FieldType.int))) (xtl 162 (yX12_worthOf, cX12_worthOf, 3, (Option.some Jvm.ClassFile.FieldType.int))))))) ((xtn 165 ((xtn 164 (xtl 163 (yX12_told, cX12_told, 3, (Option.some Jvm.ClassFile.FieldType.int))) (xtl 164 (yX12_isUnder, cX12_isUnder, 2, (Option.some Jvm.ClassFile.FieldType.boolean))))) ((xtn 166 (xtl 165 (yX12_as, cX12_as, 3, (Option.some Jvm.ClassFile.FieldType.int))) (xtl 166 (yX12_turns, cX12_turns, 3, (Option.some Jvm.ClassFile.FieldType.int))))))))))) ((xtn 175 ((xtn 171 ((xtn 169 ((xtn 168 (xtl 167 (yX12_heedOf, cX12_heedOf, 5, (Option.some Jvm.ClassFile.FieldType.int))) (xtl 168 (yX12_missedAt, cX12_missedAt, 6, (Option.some Jvm.ClassFile.FieldType.int))))) ((xtn 170 (xtl 169 (yX12_gainAt, cX12_gainAt, 5, (Option.some Jvm.ClassFile.FieldType.int))) (xtl 170 (yX12_isOpen, cX12_isOpen, 3, (Option.some Jvm.ClassFile.FieldType.boolean))))))) ((xtn 173 ((xtn 172 (xtl 171 (yX12_at, cX12_at, 4, (Option.some Jvm.ClassFile.FieldType.int))) (xtl 172 (yX12_heed, cX12_heed, 3, (Option.some Jvm.ClassFile.FieldType.int))))) ((xtn 174 (xtl 173 (yX12_bestFor, cX12_bestFor, 7, (Option.some Jvm.ClassFile.FieldType.int))) (xtl 174 (yX12_choiceOf, cX12_choiceOf, 5, (Option.some Jvm.ClassFile.FieldType.int))))))))) ((xtn 179 ((xtn 177 ((xtn 176 (xtl 175 (yX12_choice, cX12_choice, 2, (Option.some Jvm.ClassFile.FieldType.int))) (xtl 176 (yX12_night, cX12_night, 4, none)))) ((xtn 178 (xtl 177 (yX12_nights, cX12_nights, 3, (Option.some Jvm.ClassFile.FieldType.int))) (xtl 178 (yX12_seed, cX12_seed, 3, (Option.some Jvm.ClassFile.FieldType.int))))))) ((xtn 181 ((xtn 180 (xtl 179 (yX12_pairOf, cX12_pairOf, 7, (Option.some Jvm.ClassFile.FieldType.int))) (xtl 180 (yX12_pair, cX12_pair, 2, (Option.some Jvm.ClassFile.FieldType.int))))) ((xtn 182 (xtl 181 (yX12_unlawfulMany, cX12_unlawfulMany, 3, (Option.some Jvm.ClassFile.FieldType.int))) (xtl 182 (yX12_wiring, cX12_wiring, 3, (Option.some Jvm.ClassFile.FieldType.int))))))))))))))) ((xtn 213 ((xtn 198 ((xtn 190 ((xtn 186 ((xtn 184 (xtl 183 (yX12_unlawful, cX12_unlawful, 3, (Option.some Jvm.ClassFile.FieldType.int))) ((xtn 185 (xtl 184 (yX12_worst, cX12_worst, 8, (Option.some Jvm.ClassFile.FieldType.int))) (xtl 185 (yX12_setOf, cX12_setOf, 4, (Option.some Jvm.ClassFile.FieldType.int))))))) ((xtn 188 ((xtn 187 (xtl 186 (yX12_heardBy, cX12_heardBy, 4, (Option.some Jvm.ClassFile.FieldType.int))) (xtl 187 (yX12_heard, cX12_heard, 2, (Option.some Jvm.ClassFile.FieldType.int))))) ((xtn 189 (xtl 188 (yX12_bitsOf, cX12_bitsOf, 3, (Option.some Jvm.ClassFile.FieldType.int))) (xtl 189 (yX12_fewest, cX12_fewest, 5, (Option.some Jvm.ClassFile.FieldType.int))))))))) ((xtn 194 ((xtn 192 ((xtn 191 (xtl 190 (yX12_alike, cX12_alike, 4, (Option.some Jvm.ClassFile.FieldType.int))) (xtl 191 (yX12_feed, cX12_feed, 6, (Option.some Jvm.ClassFile.FieldType.int))))) ((xtn 193 (xtl 192 (yX12_trim, cX12_trim, 2, (Option.some Jvm.ClassFile.FieldType.int))) (xtl 193 (yX12_isLetter, cX12_isLetter, 2, (Option.some Jvm.ClassFile.FieldType.boolean))))))) ((xtn 196 ((xtn 195 (xtl 194 (yX12_isFigure, cX12_isFigure, 2, (Option.some Jvm.ClassFile.FieldType.boolean))) (xtl 195 (yX12_go, cX12_go, 2, none)))) ((xtn 197 (xtl 196 (yX12_takesKey, cX12_takesKey, 5, (Option.some Jvm.ClassFile.FieldType.boolean))) (xtl 197 (yX12_nameOf, cX12_nameOf, 2, (Option.some Jvm.ClassFile.FieldType.int))))))))))) ((xtn 205 ((xtn 201 ((xtn 199 (xtl 198 (yX12_rank, cX12_rank, 1, (Option.some Jvm.ClassFile.FieldType.int))) ((xtn 200 (xtl 199 (yX12_settle, cX12_settle, 2, none)) (xtl 200 (yX12_signHere, cX12_signHere, 1, (Option.some Jvm.ClassFile.FieldType.int))))))) ((xtn 203 ((xtn 202 (xtl 201 (yX12_takesPart, cX12_takesPart, 2, (Option.some Jvm.ClassFile.FieldType.boolean))) (xtl 202 (yX12_takesE, cX12_takesE, 5, (Option.some Jvm.ClassFile.FieldType.boolean))))) ((xtn 204 (xtl 203 (yX12_notsOpen, cX12_notsOpen, 3, (Option.some Jvm.ClassFile.FieldType.int))) (xtl 204 (yX12_text, cX12_text, 4, (Option.some Jvm.ClassFile.FieldType.int))))))))) ((xtn 209 ((xtn 207 ((xtn 206 (xtl 205 (yX12_textTold, cX12_textTold, 3, (Option.some Jvm.ClassFile.FieldType.int))) (xtl 206 (yX12_counts, cX12_counts, 3, (Option.some Jvm.ClassFile.FieldType.int))))) ((xtn 208 (xtl 207 (yX12_why, cX12_why, 3, (Option.some Jvm.ClassFile.FieldType.int))) (xtl 208 (yX12_two, cX12_two, 3, (Option.some Jvm.ClassFile.FieldType.int))))))) ((xtn 211 ((xtn 210 (xtl 209 (yX12_worksOut, cX12_worksOut, 6, (Option.some Jvm.ClassFile.FieldType.int))) (xtl 210 (yX12_isSheet, cX12_isSheet, 1, (Option.some Jvm.ClassFile.FieldType.boolean))))) ((xtn 212 (xtl 211 (yX12_isSlot, cX12_isSlot, 1, (Option.some Jvm.ClassFile.FieldType.boolean))) (xtl 212 (yX12_sheet, cX12_sheet, 5, (Option.some Jvm.ClassFile.FieldType.int))))))))))))) ((xtn 228 ((xtn 220 ((xtn 216 ((xtn 214 (xtl 213 (yX12_mark, cX12_mark, 4, (Option.some Jvm.ClassFile.FieldType.int))) ((xtn 215 (xtl 214 (yX12_pour, cX12_pour, 6, (Option.some Jvm.ClassFile.FieldType.int))) (xtl 215 (yX12_reads, cX12_reads, 4, (Option.some Jvm.ClassFile.FieldType.int))))))) ((xtn 218 ((xtn 217 (xtl 216 (yX12_copy, cX12_copy, 7, (Option.some Jvm.ClassFile.FieldType.int))) (xtl 217 (yX12_lay, cX12_lay, 6, (Option.some Jvm.ClassFile.FieldType.int))))) ((xtn 219 (xtl 218 (yX12_ask, cX12_ask, 3, (Option.some Jvm.ClassFile.FieldType.int))) (xtl 219 (yX12_item, cX12_item, 4, (Option.some Jvm.ClassFile.FieldType.int))))))))) ((xtn 224 ((xtn 222 ((xtn 221 (xtl 220 (yX12_rest, cX12_rest, 3, (Option.some Jvm.ClassFile.FieldType.int))) (xtl 221 (yX12_tell, cX12_tell, 2, (Option.some Jvm.ClassFile.FieldType.int))))) ((xtn 223 (xtl 222 (yX12_check, cX12_check, 5, (Option.some Jvm.ClassFile.FieldType.int))) (xtl 223 (yX12_keep, cX12_keep, 1, (Option.some Jvm.ClassFile.FieldType.int))))))) ((xtn 226 ((xtn 225 (xtl 224 (yX12_back, cX12_back, 1, (Option.some Jvm.ClassFile.FieldType.int))) (xtl 225 (yX12_count, cX12_count, 2, (Option.some Jvm.ClassFile.FieldType.int))))) ((xtn 227 (xtl 226 (yJ6_bitCount_0f7a4, cJ6_bitCount_0f7a4, 1, (Option.some Jvm.ClassFile.FieldType.int))) (xtl 227 (yJ9_max_7cf53, cJ9_max_7cf53, 2, (Option.some Jvm.ClassFile.FieldType.int))))))))))) ((xtn 236 ((xtn 232 ((xtn 230 ((xtn 229 (xtl 228 (yJ9_min_7cf53, cJ9_min_7cf53, 2, (Option.some Jvm.ClassFile.FieldType.int))) (xtl 229 (yJ0_length_8abf5, cJ0_length_8abf5, 1, (Option.some Jvm.ClassFile.FieldType.int))))) ((xtn 231 (xtl 230 (yJ0_charAt_5068e, cJ0_charAt_5068e, 2, (Option.some Jvm.ClassFile.FieldType.char))) (xtl 231 (yJ0_indexOf_0f7a4, cJ0_indexOf_0f7a4, 2, (Option.some Jvm.ClassFile.FieldType.int))))))) ((xtn 234 ((xtn 233 (xtl 232 (yJ0_indexOf_7cf53, cJ0_indexOf_7cf53, 3, (Option.some Jvm.ClassFile.FieldType.int))) (xtl 233 (yJ0_coder_7d493, cJ0_coder_7d493, 1, (Option.some Jvm.ClassFile.FieldType.byte))))) ((xtn 235 (xtl 234 (yJ0_isLatin1_aae02, cJ0_isLatin1_aae02, 1, (Option.some Jvm.ClassFile.FieldType.boolean))) (xtl 235 (yJ0_checkIndex_df160, cJ0_checkIndex_df160, 2, none)))))))) ((xtn 240 ((xtn 238 ((xtn 237 (xtl 236 (yJ1_charAt_3b067, cJ1_charAt_3b067, 2, (Option.some Jvm.ClassFile.FieldType.char))) (xtl 237 (yJ1_canEncode_9a6ad, cJ1_canEncode_9a6ad, 1, (Option.some Jvm.ClassFile.FieldType.boolean))))) ((xtn 239 (xtl 238 (yJ1_indexOf_4cfef, cJ1_indexOf_4cfef, 4, (Option.some Jvm.ClassFile.FieldType.int))) (xtl 239 (yJ1_indexOfChar_4cfef, cJ1_indexOfChar_4cfef, 6, (Option.some Jvm.ClassFile.FieldType.int))))))) ((xtn 242 ((xtn 241 (xtl 240 (yJ7_fill_53178, cJ7_fill_53178, 4, none)) (xtl 241 (yJ7_copyOf_59c91, cJ7_copyOf_59c91, 3, (Option.some (Jvm.ClassFile.FieldType.array Jvm.ClassFile.FieldType.int)))))) ((xtn 243 (xtl 242 (yJ3_checkIndex_8e157, cJ3_checkIndex_8e157, 3, (Option.some Jvm.ClassFile.FieldType.int))) (xtl 243 (yL_law, cL_law, 4, some .boolean)))))))))))))))))
def mi (m : Nat) : xM := (miT m).getD (yL_law, cL_law, 4, some .boolean)
theorem xf0 : xfc [2, 3] 1 "TwoBells$Thief" "home" "I" true = true := by decide +kernel
theorem xf1 : xfc [10] 19 "TwoBells$Town" "gains" "[I" true = true := by decide +kernel
theorem xf2 : xfc [3] 1 "TwoBells$Thief" "home" "I" true = true := by decide +kernel
theorem xf3 : xfc [4] 1 "TwoBells$Thief" "home" "I" true = true := by decide +kernel
theorem xf4 : xfc [10] 12 "TwoBells$Town" "worth" "[I" true = true := by decide +kernel
theorem xf5 : xfc [5] 0 "TwoBells$Sheet" "sort" "I" false = true := by decide +kernel
theorem xf6 : xfc [5] 1 "TwoBells$Sheet" "size" "I" false = true := by decide +kernel
theorem xf7 : xfc [5] 2 "TwoBells$Sheet" "places" "[I" true = true := by decide +kernel
theorem xf8 : xfc [6] 0 "TwoBells$Slot" "holds" "I" false = true := by decide +kernel
theorem xf9 : xfc [6] 1 "TwoBells$Slot" "thief" "LTwoBells$Thief;" false = true := by decide +kernel
theorem xf10 : xfc [6] 2 "TwoBells$Slot" "row" "LTwoBells$Sheet;" true = true := by decide +kernel
theorem xf11 : xfc [6] 3 "TwoBells$Slot" "number" "I" false = true := by decide +kernel
theorem xf12 : xfc [7] 0 "TwoBells$Tape" "size" "I" false = true := by decide +kernel
theorem xf13 : xfc [7] 1 "TwoBells$Tape" "bytes" "[I" true = true := by decide +kernel
theorem xf14 : xfc [7] 7 "TwoBells$Tape" "code" "[I" true = true := by decide +kernel
theorem xf15 : xfc [7] 9 "TwoBells$Tape" "open" "[I" true = true := by decide +kernel
theorem xf16 : xfc [7] 3 "TwoBells$Tape" "to" "I" false = true := by decide +kernel
theorem xf17 : xfc [7] 6 "TwoBells$Tape" "terms" "I" false = true := by decide +kernel
theorem xf18 : xfc [7] 8 "TwoBells$Tape" "used" "I" false = true := by decide +kernel
theorem xf19 : xfc [7] 10 "TwoBells$Tape" "depth" "I" false = true := by decide +kernel
theorem xf20 : xfc [7] 11 "TwoBells$Tape" "openBraces" "I" false = true := by decide +kernel
theorem xf21 : xfc [7] 12 "TwoBells$Tape" "openNots" "I" false = true := by decide +kernel
theorem xf22 : xfc [7] 13 "TwoBells$Tape" "wantsPiece" "Z" false = true := by decide +kernel
theorem xf23 : xfc [7] 5 "TwoBells$Tape" "key" "I" false = true := by decide +kernel
theorem xf24 : xfc [7] 2 "TwoBells$Tape" "from" "I" false = true := by decide +kernel
theorem xf25 : xfc [7] 4 "TwoBells$Tape" "sort" "I" false = true := by decide +kernel
theorem xf26 : xfc [8] 0 "TwoBells$Text" "key" "I" true = true := by decide +kernel
theorem xf27 : xfc [8] 1 "TwoBells$Text" "terms" "I" true = true := by decide +kernel
theorem xf28 : xfc [8] 2 "TwoBells$Text" "code" "[I" true = true := by decide +kernel
theorem xf29 : xfc [8] 3 "TwoBells$Text" "stack" "[I" true = true := by decide +kernel
theorem xf30 : xfc [0, 1, 2, 3, 4, 9] 0 "TwoBells$Thief" "kind" "I" true = true := by decide +kernel
theorem xf31 : xfc [0, 1, 2, 3, 4, 9] 1 "TwoBells$Thief" "home" "I" true = true := by decide +kernel
theorem xf32 : xfc [10] 0 "TwoBells$Town" "houses" "I" false = true := by decide +kernel
theorem xf33 : xfc [10] 1 "TwoBells$Town" "doors" "I" false = true := by decide +kernel
theorem xf34 : xfc [10] 2 "TwoBells$Town" "thieves" "I" false = true := by decide +kernel
theorem xf35 : xfc [10] 3 "TwoBells$Town" "texts" "I" false = true := by decide +kernel
theorem xf36 : xfc [10] 4 "TwoBells$Town" "patience" "I" false = true := by decide +kernel
theorem xf37 : xfc [10] 5 "TwoBells$Town" "taken" "I" false = true := by decide +kernel
theorem xf38 : xfc [10] 6 "TwoBells$Town" "caught" "I" false = true := by decide +kernel
theorem xf39 : xfc [10] 7 "TwoBells$Town" "z" "I" false = true := by decide +kernel
theorem xf40 : xfc [10] 8 "TwoBells$Town" "awake" "[I" true = true := by decide +kernel
theorem xf41 : xfc [10] 9 "TwoBells$Town" "cares" "[I" true = true := by decide +kernel
theorem xf42 : xfc [10] 10 "TwoBells$Town" "agrees" "[I" true = true := by decide +kernel
theorem xf43 : xfc [10] 11 "TwoBells$Town" "owner" "[I" true = true := by decide +kernel
theorem xf44 : xfc [10] 13 "TwoBells$Town" "noise" "[I" true = true := by decide +kernel
theorem xf45 : xfc [10] 14 "TwoBells$Town" "bells" "[I" true = true := by decide +kernel
theorem xf46 : xfc [10] 15 "TwoBells$Town" "band" "[LTwoBells$Thief;" true = true := by decide +kernel
theorem xf47 : xfc [10] 16 "TwoBells$Town" "laws" "[LTwoBells$Text;" true = true := by decide +kernel
theorem xf48 : xfc [10] 17 "TwoBells$Town" "comes" "[I" true = true := by decide +kernel
theorem xf49 : xfc [10] 18 "TwoBells$Town" "missed" "[I" true = true := by decide +kernel
theorem xf50 : xfc [11] 0 "TwoBells" "now" "LTwoBells$Town;" true = true := by decide +kernel
theorem xf51 : xfc [11] 1 "TwoBells" "image" "LTwoBells$Town;" true = true := by decide +kernel
theorem xf52 : xfc [11] 2 "TwoBells" "kept" "Z" false = true := by decide +kernel
theorem xf53 : xfc [11] 3 "TwoBells" "tape" "LTwoBells$Tape;" true = true := by decide +kernel
theorem xf54 : xfc [11] 4 "TwoBells" "waits" "[I" true = true := by decide +kernel
theorem xf55 : xfc [11] 5 "TwoBells" "waiting" "I" false = true := by decide +kernel
theorem xf56 : xfc [11] 6 "TwoBells" "sheets" "[LTwoBells$Sheet;" true = true := by decide +kernel
theorem xf57 : xfc [11] 7 "TwoBells" "slots" "[LTwoBells$Slot;" true = true := by decide +kernel
theorem xf58 : xfc [11] 8 "TwoBells" "rung" "[I" true = true := by decide +kernel
theorem xf59 : xfc [12] 0 "TwoBellsModel" "now" "[I" true = true := by decide +kernel
theorem xf60 : xfc [12] 1 "TwoBellsModel" "image" "[I" true = true := by decide +kernel
theorem xf61 : xfc [12] 2 "TwoBellsModel" "aside" "[I" true = true := by decide +kernel
theorem xf62 : xfc [12] 4 "TwoBellsModel" "tape" "[I" true = true := by decide +kernel
theorem xf63 : xfc [12] 12 "TwoBellsModel" "keys" "[C" true = true := by decide +kernel
theorem xf64 : xfc [12] 13 "TwoBellsModel" "keyAt" "[I" true = true := by decide +kernel
theorem xf65 : xfc [12] 14 "TwoBellsModel" "code" "[I" true = true := by decide +kernel
theorem xf66 : xfc [12] 17 "TwoBellsModel" "waits" "[I" true = true := by decide +kernel
theorem xf67 : xfc [12] 19 "TwoBellsModel" "tested" "[Z" true = true := by decide +kernel
theorem xf68 : xfc [12] 20 "TwoBellsModel" "stack" "[I" true = true := by decide +kernel
theorem xf69 : xfc [12] 21 "TwoBellsModel" "facts" "[I" true = true := by decide +kernel
theorem xf70 : xfc [12] 22 "TwoBellsModel" "sorts" "[I" true = true := by decide +kernel
theorem xf71 : xfc [12] 23 "TwoBellsModel" "sizes" "[I" true = true := by decide +kernel
theorem xf72 : xfc [12] 24 "TwoBellsModel" "cells" "[I" true = true := by decide +kernel
theorem xf73 : xfc [12] 25 "TwoBellsModel" "holds" "[I" true = true := by decide +kernel
theorem xf74 : xfc [12] 26 "TwoBellsModel" "holdsA" "[I" true = true := by decide +kernel
theorem xf75 : xfc [12] 27 "TwoBellsModel" "holdsB" "[I" true = true := by decide +kernel
theorem xf76 : xfc [12] 28 "TwoBellsModel" "heldCells" "[I" true = true := by decide +kernel
theorem xf77 : xfc [12] 29 "TwoBellsModel" "moved" "[I" true = true := by decide +kernel
theorem xf78 : xfc [12] 30 "TwoBellsModel" "tells" "[I" true = true := by decide +kernel
theorem xf79 : xfc [12] 5 "TwoBellsModel" "taped" "I" false = true := by decide +kernel
theorem xf80 : xfc [12] 6 "TwoBellsModel" "next" "I" false = true := by decide +kernel
theorem xf81 : xfc [12] 7 "TwoBellsModel" "from" "I" false = true := by decide +kernel
theorem xf82 : xfc [12] 10 "TwoBellsModel" "ended" "I" false = true := by decide +kernel
theorem xf83 : xfc [12] 8 "TwoBellsModel" "token" "I" false = true := by decide +kernel
theorem xf84 : xfc [12] 9 "TwoBellsModel" "value" "I" false = true := by decide +kernel
theorem xf85 : xfc [12] 11 "TwoBellsModel" "key" "I" false = true := by decide +kernel
theorem xf86 : xfc [12] 18 "TwoBellsModel" "held" "I" false = true := by decide +kernel
theorem xf87 : xfc [12] 15 "TwoBellsModel" "codes" "I" false = true := by decide +kernel
theorem xf88 : xfc [12] 16 "TwoBellsModel" "atoms" "I" false = true := by decide +kernel
theorem xf89 : xfc [12] 31 "TwoBellsModel" "waiting" "I" false = true := by decide +kernel
theorem xf90 : xfc [12] 3 "TwoBellsModel" "hasImage" "Z" false = true := by decide +kernel
theorem nf0 : ∀ j, j < 2 → defaultValue (tyX0 j) = vp_V [.int 0, .int 0] j := by decide +kernel
theorem nf1 : ∀ j, j < 2 → defaultValue (tyX1 j) = vp_V [.int 0, .int 0] j := by decide +kernel
theorem nf2 : ∀ j, j < 2 → defaultValue (tyX2 j) = vp_V [.int 0, .int 0] j := by decide +kernel
theorem nf3 : ∀ j, j < 2 → defaultValue (tyX3 j) = vp_V [.int 0, .int 0] j := by decide +kernel
theorem nf4 : ∀ j, j < 2 → defaultValue (tyX4 j) = vp_V [.int 0, .int 0] j := by decide +kernel
theorem nf5 : ∀ j, j < 3 → defaultValue (tyX5 j) = vp_V [.int 0, .int 0, .null] j := by decide +kernel
theorem nf6 : ∀ j, j < 4 → defaultValue (tyX6 j) = vp_V [.int 0, .null, .null, .int 0] j := by decide +kernel
theorem nf7 : ∀ j, j < 14 → defaultValue (tyX7 j) = vp_V [.int 0, .null, .int 0, .int 0, .int 0, .int 0, .int 0, .null, .int 0, .null, .int 0, .int 0, .int 0, .int 0] j := by decide +kernel
theorem nf8 : ∀ j, j < 4 → defaultValue (tyX8 j) = vp_V [.int 0, .int 0, .null, .null] j := by decide +kernel
theorem nf9 : ∀ j, j < 2 → defaultValue (tyX9 j) = vp_V [.int 0, .int 0] j := by decide +kernel
theorem nf10 : ∀ j, j < 20 → defaultValue (tyX10 j) = vp_V [.int 0, .int 0, .int 0, .int 0, .int 0, .int 0, .int 0, .int 0, .null, .null, .null, .null, .null, .null, .null, .null, .null, .null, .null, .null] j := by decide +kernel
theorem nf11 : ∀ j, j < 9 → defaultValue (tyX11 j) = vp_V [.null, .null, .int 0, .null, .null, .int 0, .null, .null, .null] j := by decide +kernel
theorem nf12 : ∀ j, j < 32 → defaultValue (tyX12 j) = vp_V [.null, .null, .null, .int 0, .null, .int 0, .int 0, .int 0, .int 0, .int 0, .int 0, .int 0, .null, .null, .null, .int 0, .int 0, .null, .int 0, .null, .null, .null, .null, .null, .null, .null, .null, .null, .null, .null, .null, .int 0] j := by decide +kernel
theorem xcan3 : xcan RX5 [5] := List.forall_mem_cons.mpr ⟨⟨by decide, _, rfl, Or.inl rfl⟩, fun q h => absurd h List.not_mem_nil⟩
theorem xcan4 : xcan RX6 [6] := List.forall_mem_cons.mpr ⟨⟨by decide, _, rfl, Or.inl rfl⟩, fun q h => absurd h List.not_mem_nil⟩
theorem xcan5 : xcan RX8 [8] := List.forall_mem_cons.mpr ⟨⟨by decide, _, rfl, Or.inl rfl⟩, fun q h => absurd h List.not_mem_nil⟩
theorem xcan6 : xcan RX9 [0, 1, 2, 3, 4, 9] := List.forall_mem_cons.mpr ⟨⟨by decide, _, rfl, Or.inr (by decide +kernel)⟩, List.forall_mem_cons.mpr ⟨⟨by decide, _, rfl, Or.inr (by decide +kernel)⟩, List.forall_mem_cons.mpr ⟨⟨by decide, _, rfl, Or.inr (by decide +kernel)⟩, List.forall_mem_cons.mpr ⟨⟨by decide, _, rfl, Or.inr (by decide +kernel)⟩, List.forall_mem_cons.mpr ⟨⟨by decide, _, rfl, Or.inr (by decide +kernel)⟩, List.forall_mem_cons.mpr ⟨⟨by decide, _, rfl, Or.inl rfl⟩, fun q h => absurd h List.not_mem_nil⟩⟩⟩⟩⟩⟩
theorem xisY0 : xisY RX0 [0, 4] := List.forall_mem_cons.mpr ⟨⟨by decide, _, rfl, Or.inl rfl⟩, List.forall_mem_cons.mpr ⟨⟨by decide, _, rfl, Or.inr (by decide +kernel)⟩, fun q h => absurd h List.not_mem_nil⟩⟩
theorem xisN0 : xisN RX0 [1, 2, 3, 9] := List.forall_mem_cons.mpr ⟨⟨by decide, _, rfl, by decide +kernel⟩, List.forall_mem_cons.mpr ⟨⟨by decide, _, rfl, by decide +kernel⟩, List.forall_mem_cons.mpr ⟨⟨by decide, _, rfl, by decide +kernel⟩, List.forall_mem_cons.mpr ⟨⟨by decide, _, rfl, by decide +kernel⟩, fun q h => absurd h List.not_mem_nil⟩⟩⟩⟩
theorem xisY1 : xisY RX1 [1] := List.forall_mem_cons.mpr ⟨⟨by decide, _, rfl, Or.inl rfl⟩, fun q h => absurd h List.not_mem_nil⟩
theorem xisN1 : xisN RX1 [0, 2, 3, 4, 9] := List.forall_mem_cons.mpr ⟨⟨by decide, _, rfl, by decide +kernel⟩, List.forall_mem_cons.mpr ⟨⟨by decide, _, rfl, by decide +kernel⟩, List.forall_mem_cons.mpr ⟨⟨by decide, _, rfl, by decide +kernel⟩, List.forall_mem_cons.mpr ⟨⟨by decide, _, rfl, by decide +kernel⟩, List.forall_mem_cons.mpr ⟨⟨by decide, _, rfl, by decide +kernel⟩, fun q h => absurd h List.not_mem_nil⟩⟩⟩⟩⟩
theorem xisY2 : xisY RX2 [2, 3] := List.forall_mem_cons.mpr ⟨⟨by decide, _, rfl, Or.inl rfl⟩, List.forall_mem_cons.mpr ⟨⟨by decide, _, rfl, Or.inr (by decide +kernel)⟩, fun q h => absurd h List.not_mem_nil⟩⟩
theorem xisN2 : xisN RX2 [0, 1, 4, 9] := List.forall_mem_cons.mpr ⟨⟨by decide, _, rfl, by decide +kernel⟩, List.forall_mem_cons.mpr ⟨⟨by decide, _, rfl, by decide +kernel⟩, List.forall_mem_cons.mpr ⟨⟨by decide, _, rfl, by decide +kernel⟩, List.forall_mem_cons.mpr ⟨⟨by decide, _, rfl, by decide +kernel⟩, fun q h => absurd h List.not_mem_nil⟩⟩⟩⟩
theorem xisY3 : xisY RX3 [3] := List.forall_mem_cons.mpr ⟨⟨by decide, _, rfl, Or.inl rfl⟩, fun q h => absurd h List.not_mem_nil⟩
theorem xisN3 : xisN RX3 [0, 1, 2, 4, 9] := List.forall_mem_cons.mpr ⟨⟨by decide, _, rfl, by decide +kernel⟩, List.forall_mem_cons.mpr ⟨⟨by decide, _, rfl, by decide +kernel⟩, List.forall_mem_cons.mpr ⟨⟨by decide, _, rfl, by decide +kernel⟩, List.forall_mem_cons.mpr ⟨⟨by decide, _, rfl, by decide +kernel⟩, List.forall_mem_cons.mpr ⟨⟨by decide, _, rfl, by decide +kernel⟩, fun q h => absurd h List.not_mem_nil⟩⟩⟩⟩⟩
theorem xisY4 : xisY RX4 [4] := List.forall_mem_cons.mpr ⟨⟨by decide, _, rfl, Or.inl rfl⟩, fun q h => absurd h List.not_mem_nil⟩
theorem xisN4 : xisN RX4 [0, 1, 2, 3, 9] := List.forall_mem_cons.mpr ⟨⟨by decide, _, rfl, by decide +kernel⟩, List.forall_mem_cons.mpr ⟨⟨by decide, _, rfl, by decide +kernel⟩, List.forall_mem_cons.mpr ⟨⟨by decide, _, rfl, by decide +kernel⟩, List.forall_mem_cons.mpr ⟨⟨by decide, _, rfl, by decide +kernel⟩, List.forall_mem_cons.mpr ⟨⟨by decide, _, rfl, by decide +kernel⟩, fun q h => absurd h List.not_mem_nil⟩⟩⟩⟩⟩
theorem mo0 : mOk (mi 0) 2 := ⟨w412, w11, by decide +kernel, by decide +kernel, by decide +kernel, Nat.le_of_ble_eq_true rfl⟩
theorem mo1 : mOk (mi 1) 3 := ⟨w520, w11, by decide +kernel, by decide +kernel, by decide +kernel, Nat.le_of_ble_eq_true rfl⟩
theorem mo2 : mOk (mi 2) 0 := ⟨w464, w11, by decide +kernel, by decide +kernel, by decide +kernel, Nat.le_of_ble_eq_true rfl⟩
theorem mo3 : mOk (mi 3) 2 := ⟨w439, w14, by decide +kernel, by decide +kernel, by decide +kernel, Nat.le_of_ble_eq_true rfl⟩
theorem mo4 : mOk (mi 4) 3 := ⟨w524, w14, by decide +kernel, by decide +kernel, by decide +kernel, Nat.le_of_ble_eq_true rfl⟩
theorem mo5 : mOk (mi 5) 0 := ⟨w468, w14, by decide +kernel, by decide +kernel, by decide +kernel, Nat.le_of_ble_eq_true rfl⟩
theorem mo6 : mOk (mi 6) 2 := ⟨w388, w10, by decide +kernel, by decide +kernel, by decide +kernel, Nat.le_of_ble_eq_true rfl⟩
theorem mo7 : mOk (mi 7) 2 := ⟨w566, w10, by decide +kernel, by decide +kernel, by decide +kernel, Nat.le_of_ble_eq_true rfl⟩
theorem mo8 : mOk (mi 8) 0 := ⟨w471, w10, by decide +kernel, by decide +kernel, by decide +kernel, Nat.le_of_ble_eq_true rfl⟩
theorem mo9 : mOk (mi 9) 2 := ⟨w421, w12, by decide +kernel, by decide +kernel, by decide +kernel, Nat.le_of_ble_eq_true rfl⟩
theorem mo10 : mOk (mi 10) 3 := ⟨w530, w12, by decide +kernel, by decide +kernel, by decide +kernel, Nat.le_of_ble_eq_true rfl⟩
theorem mo11 : mOk (mi 11) 0 := ⟨w475, w12, by decide +kernel, by decide +kernel, by decide +kernel, Nat.le_of_ble_eq_true rfl⟩
theorem mo12 : mOk (mi 12) 2 := ⟨w430, w13, by decide +kernel, by decide +kernel, by decide +kernel, Nat.le_of_ble_eq_true rfl⟩
theorem mo13 : mOk (mi 13) 2 := ⟨w574, w13, by decide +kernel, by decide +kernel, by decide +kernel, Nat.le_of_ble_eq_true rfl⟩
theorem mo14 : mOk (mi 14) 0 := ⟨w479, w13, by decide +kernel, by decide +kernel, by decide +kernel, Nat.le_of_ble_eq_true rfl⟩
theorem mo15 : mOk (mi 15) 0 := ⟨w180, w4, by decide +kernel, by decide +kernel, by decide +kernel, Nat.le_of_ble_eq_true rfl⟩
theorem mo16 : mOk (mi 16) 1 := ⟨w948, w4, by decide +kernel, by decide +kernel, by decide +kernel, Nat.le_of_ble_eq_true rfl⟩
theorem mo17 : mOk (mi 17) 1 := ⟨w915, w4, by decide +kernel, by decide +kernel, by decide +kernel, Nat.le_of_ble_eq_true rfl⟩
theorem mo18 : mOk (mi 18) 2 := ⟨w935, w4, by decide +kernel, by decide +kernel, by decide +kernel, Nat.le_of_ble_eq_true rfl⟩
theorem mo19 : mOk (mi 19) 0 := ⟨w198, w5, by decide +kernel, by decide +kernel, by decide +kernel, Nat.le_of_ble_eq_true rfl⟩
theorem mo20 : mOk (mi 20) 0 := ⟨w127, w3, by decide +kernel, by decide +kernel, by decide +kernel, Nat.le_of_ble_eq_true rfl⟩
theorem mo21 : mOk (mi 21) 1 := ⟨w659, w3, by decide +kernel, by decide +kernel, by decide +kernel, Nat.le_of_ble_eq_true rfl⟩
theorem mo22 : mOk (mi 22) 0 := ⟨w671, w3, by decide +kernel, by decide +kernel, by decide +kernel, Nat.le_of_ble_eq_true rfl⟩
theorem mo23 : mOk (mi 23) 0 := ⟨w847, w3, by decide +kernel, by decide +kernel, by decide +kernel, Nat.le_of_ble_eq_true rfl⟩
theorem mo24 : mOk (mi 24) 1 := ⟨w679, w3, by decide +kernel, by decide +kernel, by decide +kernel, Nat.le_of_ble_eq_true rfl⟩
theorem mo25 : mOk (mi 25) 1 := ⟨w682, w3, by decide +kernel, by decide +kernel, by decide +kernel, Nat.le_of_ble_eq_true rfl⟩
theorem mo26 : mOk (mi 26) 0 := ⟨w675, w3, by decide +kernel, by decide +kernel, by decide +kernel, Nat.le_of_ble_eq_true rfl⟩
theorem mo27 : mOk (mi 27) 1 := ⟨w691, w3, by decide +kernel, by decide +kernel, by decide +kernel, Nat.le_of_ble_eq_true rfl⟩
theorem mo28 : mOk (mi 28) 0 := ⟨w686, w3, by decide +kernel, by decide +kernel, by decide +kernel, Nat.le_of_ble_eq_true rfl⟩
theorem mo29 : mOk (mi 29) 0 := ⟨w762, w3, by decide +kernel, by decide +kernel, by decide +kernel, Nat.le_of_ble_eq_true rfl⟩
theorem mo30 : mOk (mi 30) 0 := ⟨w754, w3, by decide +kernel, by decide +kernel, by decide +kernel, Nat.le_of_ble_eq_true rfl⟩
theorem mo31 : mOk (mi 31) 0 := ⟨w746, w3, by decide +kernel, by decide +kernel, by decide +kernel, Nat.le_of_ble_eq_true rfl⟩
theorem mo32 : mOk (mi 32) 0 := ⟨w750, w3, by decide +kernel, by decide +kernel, by decide +kernel, Nat.le_of_ble_eq_true rfl⟩
theorem mo33 : mOk (mi 33) 0 := ⟨w836, w3, by decide +kernel, by decide +kernel, by decide +kernel, Nat.le_of_ble_eq_true rfl⟩
theorem mo34 : mOk (mi 34) 0 := ⟨w840, w3, by decide +kernel, by decide +kernel, by decide +kernel, Nat.le_of_ble_eq_true rfl⟩
theorem mo35 : mOk (mi 35) 0 := ⟨w824, w3, by decide +kernel, by decide +kernel, by decide +kernel, Nat.le_of_ble_eq_true rfl⟩
theorem mo36 : mOk (mi 36) 1 := ⟨w843, w3, by decide +kernel, by decide +kernel, by decide +kernel, Nat.le_of_ble_eq_true rfl⟩
theorem mo37 : mOk (mi 37) 0 := ⟨w828, w3, by decide +kernel, by decide +kernel, by decide +kernel, Nat.le_of_ble_eq_true rfl⟩
theorem mo38 : mOk (mi 38) 1 := ⟨w832, w3, by decide +kernel, by decide +kernel, by decide +kernel, Nat.le_of_ble_eq_true rfl⟩
theorem mo39 : mOk (mi 39) 1 := ⟨w758, w3, by decide +kernel, by decide +kernel, by decide +kernel, Nat.le_of_ble_eq_true rfl⟩
theorem mo40 : mOk (mi 40) 3 := ⟨w866, w7, by decide +kernel, by decide +kernel, by decide +kernel, Nat.le_of_ble_eq_true rfl⟩
theorem mo41 : mOk (mi 41) 4 := ⟨w296, w7, by decide +kernel, by decide +kernel, by decide +kernel, Nat.le_of_ble_eq_true rfl⟩
theorem mo42 : mOk (mi 42) 5 := ⟨w299, w7, by decide +kernel, by decide +kernel, by decide +kernel, Nat.le_of_ble_eq_true rfl⟩
theorem mo43 : mOk (mi 43) 3 := ⟨w302, w7, by decide +kernel, by decide +kernel, by decide +kernel, Nat.le_of_ble_eq_true rfl⟩
theorem mo44 : mOk (mi 44) 2 := ⟨w391, w9, by decide +kernel, by decide +kernel, by decide +kernel, Nat.le_of_ble_eq_true rfl⟩
theorem mo45 : mOk (mi 45) 2 := ⟨w383, w9, by decide +kernel, by decide +kernel, by decide +kernel, Nat.le_of_ble_eq_true rfl⟩
theorem mo46 : mOk (mi 46) 1 := ⟨w495, w9, by decide +kernel, by decide +kernel, by decide +kernel, Nat.le_of_ble_eq_true rfl⟩
theorem mo47 : mOk (mi 47) 3 := ⟨w536, w9, by decide +kernel, by decide +kernel, by decide +kernel, Nat.le_of_ble_eq_true rfl⟩
theorem mo48 : mOk (mi 48) 2 := ⟨w576, w9, by decide +kernel, by decide +kernel, by decide +kernel, Nat.le_of_ble_eq_true rfl⟩
theorem mo49 : mOk (mi 49) 0 := ⟨w481, w9, by decide +kernel, by decide +kernel, by decide +kernel, Nat.le_of_ble_eq_true rfl⟩
theorem mo50 : mOk (mi 50) 0 := ⟨w35, w2, by decide +kernel, by decide +kernel, by decide +kernel, Nat.le_of_ble_eq_true rfl⟩
theorem mo51 : mOk (mi 51) 1 := ⟨w986, w2, by decide +kernel, by decide +kernel, by decide +kernel, Nat.le_of_ble_eq_true rfl⟩
theorem mo52 : mOk (mi 52) 1 := ⟨w267, w2, by decide +kernel, by decide +kernel, by decide +kernel, Nat.le_of_ble_eq_true rfl⟩
theorem mo53 : mOk (mi 53) 1 := ⟨w353, w2, by decide +kernel, by decide +kernel, by decide +kernel, Nat.le_of_ble_eq_true rfl⟩
theorem mo54 : mOk (mi 54) 1 := ⟨w457, w2, by decide +kernel, by decide +kernel, by decide +kernel, Nat.le_of_ble_eq_true rfl⟩
theorem mo55 : mOk (mi 55) 1 := ⟨w290, w2, by decide +kernel, by decide +kernel, by decide +kernel, Nat.le_of_ble_eq_true rfl⟩
theorem mo56 : mOk (mi 56) 2 := ⟨w258, w2, by decide +kernel, by decide +kernel, by decide +kernel, Nat.le_of_ble_eq_true rfl⟩
theorem mo57 : mOk (mi 57) 2 := ⟨w345, w2, by decide +kernel, by decide +kernel, by decide +kernel, Nat.le_of_ble_eq_true rfl⟩
theorem mo58 : mOk (mi 58) 0 := ⟨w336, w2, by decide +kernel, by decide +kernel, by decide +kernel, Nat.le_of_ble_eq_true rfl⟩
theorem mo59 : mOk (mi 59) 2 := ⟨w324, w2, by decide +kernel, by decide +kernel, by decide +kernel, Nat.le_of_ble_eq_true rfl⟩
theorem mo60 : mOk (mi 60) 2 := ⟨w272, w2, by decide +kernel, by decide +kernel, by decide +kernel, Nat.le_of_ble_eq_true rfl⟩
theorem mo61 : mOk (mi 61) 1 := ⟨w276, w2, by decide +kernel, by decide +kernel, by decide +kernel, Nat.le_of_ble_eq_true rfl⟩
theorem mo62 : mOk (mi 62) 1 := ⟨w633, w2, by decide +kernel, by decide +kernel, by decide +kernel, Nat.le_of_ble_eq_true rfl⟩
theorem mo63 : mOk (mi 63) 1 := ⟨w285, w2, by decide +kernel, by decide +kernel, by decide +kernel, Nat.le_of_ble_eq_true rfl⟩
theorem mo64 : mOk (mi 64) 1 := ⟨w280, w2, by decide +kernel, by decide +kernel, by decide +kernel, Nat.le_of_ble_eq_true rfl⟩
theorem mo65 : mOk (mi 65) 0 := ⟨w508, w2, by decide +kernel, by decide +kernel, by decide +kernel, Nat.le_of_ble_eq_true rfl⟩
theorem mo66 : mOk (mi 66) 2 := ⟨w513, w2, by decide +kernel, by decide +kernel, by decide +kernel, Nat.le_of_ble_eq_true rfl⟩
theorem mo67 : mOk (mi 67) 2 := ⟨w540, w2, by decide +kernel, by decide +kernel, by decide +kernel, Nat.le_of_ble_eq_true rfl⟩
theorem mo68 : mOk (mi 68) 0 := ⟨w554, w2, by decide +kernel, by decide +kernel, by decide +kernel, Nat.le_of_ble_eq_true rfl⟩
theorem mo69 : mOk (mi 69) 3 := ⟨w570, w2, by decide +kernel, by decide +kernel, by decide +kernel, Nat.le_of_ble_eq_true rfl⟩
theorem mo70 : mOk (mi 70) 1 := ⟨w580, w2, by decide +kernel, by decide +kernel, by decide +kernel, Nat.le_of_ble_eq_true rfl⟩
theorem mo71 : mOk (mi 71) 0 := ⟨w590, w2, by decide +kernel, by decide +kernel, by decide +kernel, Nat.le_of_ble_eq_true rfl⟩
theorem mo72 : mOk (mi 72) 3 := ⟨w362, w2, by decide +kernel, by decide +kernel, by decide +kernel, Nat.le_of_ble_eq_true rfl⟩
theorem mo73 : mOk (mi 73) 1 := ⟨w357, w2, by decide +kernel, by decide +kernel, by decide +kernel, Nat.le_of_ble_eq_true rfl⟩
theorem mo74 : mOk (mi 74) 0 := ⟨w611, w2, by decide +kernel, by decide +kernel, by decide +kernel, Nat.le_of_ble_eq_true rfl⟩
theorem mo75 : mOk (mi 75) 0 := ⟨w620, w2, by decide +kernel, by decide +kernel, by decide +kernel, Nat.le_of_ble_eq_true rfl⟩
theorem mo76 : mOk (mi 76) 1 := ⟨w603, w2, by decide +kernel, by decide +kernel, by decide +kernel, Nat.le_of_ble_eq_true rfl⟩
theorem mo77 : mOk (mi 77) 0 := ⟨w27, w1, by decide +kernel, by decide +kernel, by decide +kernel, Nat.le_of_ble_eq_true rfl⟩
theorem mo78 : mOk (mi 78) 2 := ⟨w250, w1, by decide +kernel, by decide +kernel, by decide +kernel, Nat.le_of_ble_eq_true rfl⟩
theorem mo79 : mOk (mi 79) 2 := ⟨w263, w1, by decide +kernel, by decide +kernel, by decide +kernel, Nat.le_of_ble_eq_true rfl⟩
theorem mo80 : mOk (mi 80) 3 := ⟨w316, w1, by decide +kernel, by decide +kernel, by decide +kernel, Nat.le_of_ble_eq_true rfl⟩
theorem mo81 : mOk (mi 81) 3 := ⟨w320, w1, by decide +kernel, by decide +kernel, by decide +kernel, Nat.le_of_ble_eq_true rfl⟩
theorem mo82 : mOk (mi 82) 1 := ⟨w328, w1, by decide +kernel, by decide +kernel, by decide +kernel, Nat.le_of_ble_eq_true rfl⟩
theorem mo83 : mOk (mi 83) 1 := ⟨w332, w1, by decide +kernel, by decide +kernel, by decide +kernel, Nat.le_of_ble_eq_true rfl⟩
theorem mo84 : mOk (mi 84) 2 := ⟨w341, w1, by decide +kernel, by decide +kernel, by decide +kernel, Nat.le_of_ble_eq_true rfl⟩
theorem mo85 : mOk (mi 85) 2 := ⟨w349, w1, by decide +kernel, by decide +kernel, by decide +kernel, Nat.le_of_ble_eq_true rfl⟩
theorem mo86 : mOk (mi 86) 3 := ⟨w368, w1, by decide +kernel, by decide +kernel, by decide +kernel, Nat.le_of_ble_eq_true rfl⟩
theorem mo87 : mOk (mi 87) 3 := ⟨w372, w1, by decide +kernel, by decide +kernel, by decide +kernel, Nat.le_of_ble_eq_true rfl⟩
theorem mo88 : mOk (mi 88) 2 := ⟨w376, w1, by decide +kernel, by decide +kernel, by decide +kernel, Nat.le_of_ble_eq_true rfl⟩
theorem mo89 : mOk (mi 89) 2 := ⟨w453, w1, by decide +kernel, by decide +kernel, by decide +kernel, Nat.le_of_ble_eq_true rfl⟩
theorem mo90 : mOk (mi 90) 2 := ⟨w485, w1, by decide +kernel, by decide +kernel, by decide +kernel, Nat.le_of_ble_eq_true rfl⟩
theorem mo91 : mOk (mi 91) 2 := ⟨w500, w1, by decide +kernel, by decide +kernel, by decide +kernel, Nat.le_of_ble_eq_true rfl⟩
theorem mo92 : mOk (mi 92) 3 := ⟨w504, w1, by decide +kernel, by decide +kernel, by decide +kernel, Nat.le_of_ble_eq_true rfl⟩
theorem mo93 : mOk (mi 93) 2 := ⟨w545, w1, by decide +kernel, by decide +kernel, by decide +kernel, Nat.le_of_ble_eq_true rfl⟩
theorem mo94 : mOk (mi 94) 1 := ⟨w550, w1, by decide +kernel, by decide +kernel, by decide +kernel, Nat.le_of_ble_eq_true rfl⟩
theorem mo95 : mOk (mi 95) 1 := ⟨w586, w1, by decide +kernel, by decide +kernel, by decide +kernel, Nat.le_of_ble_eq_true rfl⟩
theorem mo96 : mOk (mi 96) 1 := ⟨w595, w1, by decide +kernel, by decide +kernel, by decide +kernel, Nat.le_of_ble_eq_true rfl⟩
theorem mo97 : mOk (mi 97) 1 := ⟨w599, w1, by decide +kernel, by decide +kernel, by decide +kernel, Nat.le_of_ble_eq_true rfl⟩
theorem mo98 : mOk (mi 98) 0 := ⟨w607, w1, by decide +kernel, by decide +kernel, by decide +kernel, Nat.le_of_ble_eq_true rfl⟩
theorem mo99 : mOk (mi 99) 1 := ⟨w616, w1, by decide +kernel, by decide +kernel, by decide +kernel, Nat.le_of_ble_eq_true rfl⟩
theorem mo100 : mOk (mi 100) 1 := ⟨w624, w1, by decide +kernel, by decide +kernel, by decide +kernel, Nat.le_of_ble_eq_true rfl⟩
theorem mo101 : mOk (mi 101) 1 := ⟨w629, w1, by decide +kernel, by decide +kernel, by decide +kernel, Nat.le_of_ble_eq_true rfl⟩
theorem mo102 : mOk (mi 102) 0 := ⟨w637, w1, by decide +kernel, by decide +kernel, by decide +kernel, Nat.le_of_ble_eq_true rfl⟩
theorem mo103 : mOk (mi 103) 0 := ⟨w651, w1, by decide +kernel, by decide +kernel, by decide +kernel, Nat.le_of_ble_eq_true rfl⟩
theorem mo104 : mOk (mi 104) 3 := ⟨w655, w1, by decide +kernel, by decide +kernel, by decide +kernel, Nat.le_of_ble_eq_true rfl⟩
theorem mo105 : mOk (mi 105) 1 := ⟨w663, w1, by decide +kernel, by decide +kernel, by decide +kernel, Nat.le_of_ble_eq_true rfl⟩
theorem mo106 : mOk (mi 106) 0 := ⟨w667, w1, by decide +kernel, by decide +kernel, by decide +kernel, Nat.le_of_ble_eq_true rfl⟩
theorem mo107 : mOk (mi 107) 2 := ⟨w888, w1, by decide +kernel, by decide +kernel, by decide +kernel, Nat.le_of_ble_eq_true rfl⟩
theorem mo108 : mOk (mi 108) 1 := ⟨w893, w1, by decide +kernel, by decide +kernel, by decide +kernel, Nat.le_of_ble_eq_true rfl⟩
theorem mo109 : mOk (mi 109) 3 := ⟨w898, w1, by decide +kernel, by decide +kernel, by decide +kernel, Nat.le_of_ble_eq_true rfl⟩
theorem mo110 : mOk (mi 110) 3 := ⟨w910, w1, by decide +kernel, by decide +kernel, by decide +kernel, Nat.le_of_ble_eq_true rfl⟩
theorem mo111 : mOk (mi 111) 1 := ⟨w923, w1, by decide +kernel, by decide +kernel, by decide +kernel, Nat.le_of_ble_eq_true rfl⟩
theorem mo112 : mOk (mi 112) 1 := ⟨w927, w1, by decide +kernel, by decide +kernel, by decide +kernel, Nat.le_of_ble_eq_true rfl⟩
theorem mo113 : mOk (mi 113) 5 := ⟨w931, w1, by decide +kernel, by decide +kernel, by decide +kernel, Nat.le_of_ble_eq_true rfl⟩
theorem mo114 : mOk (mi 114) 3 := ⟨w940, w1, by decide +kernel, by decide +kernel, by decide +kernel, Nat.le_of_ble_eq_true rfl⟩
theorem mo115 : mOk (mi 115) 2 := ⟨w953, w1, by decide +kernel, by decide +kernel, by decide +kernel, Nat.le_of_ble_eq_true rfl⟩
theorem mo116 : mOk (mi 116) 2 := ⟨w957, w1, by decide +kernel, by decide +kernel, by decide +kernel, Nat.le_of_ble_eq_true rfl⟩
theorem mo117 : mOk (mi 117) 2 := ⟨w961, w1, by decide +kernel, by decide +kernel, by decide +kernel, Nat.le_of_ble_eq_true rfl⟩
theorem mo118 : mOk (mi 118) 1 := ⟨w966, w1, by decide +kernel, by decide +kernel, by decide +kernel, Nat.le_of_ble_eq_true rfl⟩
theorem mo119 : mOk (mi 119) 1 := ⟨w970, w1, by decide +kernel, by decide +kernel, by decide +kernel, Nat.le_of_ble_eq_true rfl⟩
theorem mo120 : mOk (mi 120) 0 := ⟨w982, w1, by decide +kernel, by decide +kernel, by decide +kernel, Nat.le_of_ble_eq_true rfl⟩
theorem mo121 : mOk (mi 121) 0 := ⟨w991, w1, by decide +kernel, by decide +kernel, by decide +kernel, Nat.le_of_ble_eq_true rfl⟩
theorem mo122 : mOk (mi 122) 1 := ⟨w995, w1, by decide +kernel, by decide +kernel, by decide +kernel, Nat.le_of_ble_eq_true rfl⟩
theorem mo123 : mOk (mi 123) 3 := ⟨w253, w1, by decide +kernel, by decide +kernel, by decide +kernel, Nat.le_of_ble_eq_true rfl⟩
theorem mo124 : mOk (mi 124) 3 := ⟨w305, w1, by decide +kernel, by decide +kernel, by decide +kernel, Nat.le_of_ble_eq_true rfl⟩
theorem mo125 : mOk (mi 125) 1 := ⟨w379, w1, by decide +kernel, by decide +kernel, by decide +kernel, Nat.le_of_ble_eq_true rfl⟩
theorem mo126 : mOk (mi 126) 1 := ⟨w902, w1, by decide +kernel, by decide +kernel, by decide +kernel, Nat.le_of_ble_eq_true rfl⟩
theorem mo127 : mOk (mi 127) 1 := ⟨w944, w1, by decide +kernel, by decide +kernel, by decide +kernel, Nat.le_of_ble_eq_true rfl⟩
theorem mo128 : mOk (mi 128) 1 := ⟨w647, w1, by decide +kernel, by decide +kernel, by decide +kernel, Nat.le_of_ble_eq_true rfl⟩
theorem mo129 : mOk (mi 129) 2 := ⟨w974, w1, by decide +kernel, by decide +kernel, by decide +kernel, Nat.le_of_ble_eq_true rfl⟩
theorem mo130 : mOk (mi 130) 3 := ⟨w978, w1, by decide +kernel, by decide +kernel, by decide +kernel, Nat.le_of_ble_eq_true rfl⟩
theorem mo131 : mOk (mi 131) 0 := ⟨w1000, w6, by decide +kernel, by decide +kernel, by decide +kernel, Nat.le_of_ble_eq_true rfl⟩
theorem mo132 : mOk (mi 132) 3 := ⟨w1107, w6, by decide +kernel, by decide +kernel, by decide +kernel, Nat.le_of_ble_eq_true rfl⟩
theorem mo133 : mOk (mi 133) 3 := ⟨w1144, w6, by decide +kernel, by decide +kernel, by decide +kernel, Nat.le_of_ble_eq_true rfl⟩
theorem mo134 : mOk (mi 134) 2 := ⟨w1465, w6, by decide +kernel, by decide +kernel, by decide +kernel, Nat.le_of_ble_eq_true rfl⟩
theorem mo135 : mOk (mi 135) 1 := ⟨w1203, w6, by decide +kernel, by decide +kernel, by decide +kernel, Nat.le_of_ble_eq_true rfl⟩
theorem mo136 : mOk (mi 136) 1 := ⟨w1121, w6, by decide +kernel, by decide +kernel, by decide +kernel, Nat.le_of_ble_eq_true rfl⟩
theorem mo137 : mOk (mi 137) 1 := ⟨w1192, w6, by decide +kernel, by decide +kernel, by decide +kernel, Nat.le_of_ble_eq_true rfl⟩
theorem mo138 : mOk (mi 138) 1 := ⟨w1224, w6, by decide +kernel, by decide +kernel, by decide +kernel, Nat.le_of_ble_eq_true rfl⟩
theorem mo139 : mOk (mi 139) 2 := ⟨w1125, w6, by decide +kernel, by decide +kernel, by decide +kernel, Nat.le_of_ble_eq_true rfl⟩
theorem mo140 : mOk (mi 140) 2 := ⟨w1133, w6, by decide +kernel, by decide +kernel, by decide +kernel, Nat.le_of_ble_eq_true rfl⟩
theorem mo141 : mOk (mi 141) 1 := ⟨w1228, w6, by decide +kernel, by decide +kernel, by decide +kernel, Nat.le_of_ble_eq_true rfl⟩
theorem mo142 : mOk (mi 142) 1 := ⟨w1232, w6, by decide +kernel, by decide +kernel, by decide +kernel, Nat.le_of_ble_eq_true rfl⟩
theorem mo143 : mOk (mi 143) 2 := ⟨w1159, w6, by decide +kernel, by decide +kernel, by decide +kernel, Nat.le_of_ble_eq_true rfl⟩
theorem mo144 : mOk (mi 144) 0 := ⟨w1179, w6, by decide +kernel, by decide +kernel, by decide +kernel, Nat.le_of_ble_eq_true rfl⟩
theorem mo145 : mOk (mi 145) 2 := ⟨w1113, w6, by decide +kernel, by decide +kernel, by decide +kernel, Nat.le_of_ble_eq_true rfl⟩
theorem mo146 : mOk (mi 146) 2 := ⟨w1104, w6, by decide +kernel, by decide +kernel, by decide +kernel, Nat.le_of_ble_eq_true rfl⟩
theorem mo147 : mOk (mi 147) 3 := ⟨w1129, w6, by decide +kernel, by decide +kernel, by decide +kernel, Nat.le_of_ble_eq_true rfl⟩
theorem mo148 : mOk (mi 148) 1 := ⟨w1137, w6, by decide +kernel, by decide +kernel, by decide +kernel, Nat.le_of_ble_eq_true rfl⟩
theorem mo149 : mOk (mi 149) 2 := ⟨w1117, w6, by decide +kernel, by decide +kernel, by decide +kernel, Nat.le_of_ble_eq_true rfl⟩
theorem mo150 : mOk (mi 150) 3 := ⟨w1155, w6, by decide +kernel, by decide +kernel, by decide +kernel, Nat.le_of_ble_eq_true rfl⟩
theorem mo151 : mOk (mi 151) 2 := ⟨w1167, w6, by decide +kernel, by decide +kernel, by decide +kernel, Nat.le_of_ble_eq_true rfl⟩
theorem mo152 : mOk (mi 152) 3 := ⟨w1163, w6, by decide +kernel, by decide +kernel, by decide +kernel, Nat.le_of_ble_eq_true rfl⟩
theorem mo153 : mOk (mi 153) 1 := ⟨w1171, w6, by decide +kernel, by decide +kernel, by decide +kernel, Nat.le_of_ble_eq_true rfl⟩
theorem mo154 : mOk (mi 154) 1 := ⟨w1175, w6, by decide +kernel, by decide +kernel, by decide +kernel, Nat.le_of_ble_eq_true rfl⟩
theorem mo155 : mOk (mi 155) 2 := ⟨w1184, w6, by decide +kernel, by decide +kernel, by decide +kernel, Nat.le_of_ble_eq_true rfl⟩
theorem mo156 : mOk (mi 156) 3 := ⟨w1200, w6, by decide +kernel, by decide +kernel, by decide +kernel, Nat.le_of_ble_eq_true rfl⟩
theorem mo157 : mOk (mi 157) 1 := ⟨w1196, w6, by decide +kernel, by decide +kernel, by decide +kernel, Nat.le_of_ble_eq_true rfl⟩
theorem mo158 : mOk (mi 158) 2 := ⟨w1188, w6, by decide +kernel, by decide +kernel, by decide +kernel, Nat.le_of_ble_eq_true rfl⟩
theorem mo159 : mOk (mi 159) 3 := ⟨w1208, w6, by decide +kernel, by decide +kernel, by decide +kernel, Nat.le_of_ble_eq_true rfl⟩
theorem mo160 : mOk (mi 160) 3 := ⟨w1212, w6, by decide +kernel, by decide +kernel, by decide +kernel, Nat.le_of_ble_eq_true rfl⟩
theorem mo161 : mOk (mi 161) 2 := ⟨w1216, w6, by decide +kernel, by decide +kernel, by decide +kernel, Nat.le_of_ble_eq_true rfl⟩
theorem mo162 : mOk (mi 162) 1 := ⟨w1236, w6, by decide +kernel, by decide +kernel, by decide +kernel, Nat.le_of_ble_eq_true rfl⟩
theorem mo163 : mOk (mi 163) 2 := ⟨w1220, w6, by decide +kernel, by decide +kernel, by decide +kernel, Nat.le_of_ble_eq_true rfl⟩
theorem mo164 : mOk (mi 164) 2 := ⟨w1243, w6, by decide +kernel, by decide +kernel, by decide +kernel, Nat.le_of_ble_eq_true rfl⟩
theorem mo165 : mOk (mi 165) 2 := ⟨w1240, w6, by decide +kernel, by decide +kernel, by decide +kernel, Nat.le_of_ble_eq_true rfl⟩
theorem mo166 : mOk (mi 166) 2 := ⟨w1248, w6, by decide +kernel, by decide +kernel, by decide +kernel, Nat.le_of_ble_eq_true rfl⟩
theorem mo167 : mOk (mi 167) 2 := ⟨w1260, w6, by decide +kernel, by decide +kernel, by decide +kernel, Nat.le_of_ble_eq_true rfl⟩
theorem mo168 : mOk (mi 168) 2 := ⟨w1256, w6, by decide +kernel, by decide +kernel, by decide +kernel, Nat.le_of_ble_eq_true rfl⟩
theorem mo169 : mOk (mi 169) 2 := ⟨w1264, w6, by decide +kernel, by decide +kernel, by decide +kernel, Nat.le_of_ble_eq_true rfl⟩
theorem mo170 : mOk (mi 170) 2 := ⟨w1269, w6, by decide +kernel, by decide +kernel, by decide +kernel, Nat.le_of_ble_eq_true rfl⟩
theorem mo171 : mOk (mi 171) 3 := ⟨w1252, w6, by decide +kernel, by decide +kernel, by decide +kernel, Nat.le_of_ble_eq_true rfl⟩
theorem mo172 : mOk (mi 172) 2 := ⟨w1273, w6, by decide +kernel, by decide +kernel, by decide +kernel, Nat.le_of_ble_eq_true rfl⟩
theorem mo173 : mOk (mi 173) 2 := ⟨w1285, w6, by decide +kernel, by decide +kernel, by decide +kernel, Nat.le_of_ble_eq_true rfl⟩
theorem mo174 : mOk (mi 174) 1 := ⟨w1281, w6, by decide +kernel, by decide +kernel, by decide +kernel, Nat.le_of_ble_eq_true rfl⟩
theorem mo175 : mOk (mi 175) 1 := ⟨w1277, w6, by decide +kernel, by decide +kernel, by decide +kernel, Nat.le_of_ble_eq_true rfl⟩
theorem mo176 : mOk (mi 176) 0 := ⟨w1293, w6, by decide +kernel, by decide +kernel, by decide +kernel, Nat.le_of_ble_eq_true rfl⟩
theorem mo177 : mOk (mi 177) 1 := ⟨w1289, w6, by decide +kernel, by decide +kernel, by decide +kernel, Nat.le_of_ble_eq_true rfl⟩
theorem mo178 : mOk (mi 178) 1 := ⟨w1297, w6, by decide +kernel, by decide +kernel, by decide +kernel, Nat.le_of_ble_eq_true rfl⟩
theorem mo179 : mOk (mi 179) 1 := ⟨w1305, w6, by decide +kernel, by decide +kernel, by decide +kernel, Nat.le_of_ble_eq_true rfl⟩
theorem mo180 : mOk (mi 180) 1 := ⟨w1301, w6, by decide +kernel, by decide +kernel, by decide +kernel, Nat.le_of_ble_eq_true rfl⟩
theorem mo181 : mOk (mi 181) 0 := ⟨w1313, w6, by decide +kernel, by decide +kernel, by decide +kernel, Nat.le_of_ble_eq_true rfl⟩
theorem mo182 : mOk (mi 182) 0 := ⟨w1309, w6, by decide +kernel, by decide +kernel, by decide +kernel, Nat.le_of_ble_eq_true rfl⟩
theorem mo183 : mOk (mi 183) 1 := ⟨w1317, w6, by decide +kernel, by decide +kernel, by decide +kernel, Nat.le_of_ble_eq_true rfl⟩
theorem mo184 : mOk (mi 184) 1 := ⟨w1321, w6, by decide +kernel, by decide +kernel, by decide +kernel, Nat.le_of_ble_eq_true rfl⟩
theorem mo185 : mOk (mi 185) 1 := ⟨w1333, w6, by decide +kernel, by decide +kernel, by decide +kernel, Nat.le_of_ble_eq_true rfl⟩
theorem mo186 : mOk (mi 186) 1 := ⟨w1329, w6, by decide +kernel, by decide +kernel, by decide +kernel, Nat.le_of_ble_eq_true rfl⟩
theorem mo187 : mOk (mi 187) 1 := ⟨w1325, w6, by decide +kernel, by decide +kernel, by decide +kernel, Nat.le_of_ble_eq_true rfl⟩
theorem mo188 : mOk (mi 188) 1 := ⟨w1340, w6, by decide +kernel, by decide +kernel, by decide +kernel, Nat.le_of_ble_eq_true rfl⟩
theorem mo189 : mOk (mi 189) 0 := ⟨w1337, w6, by decide +kernel, by decide +kernel, by decide +kernel, Nat.le_of_ble_eq_true rfl⟩
theorem mo190 : mOk (mi 190) 0 := ⟨w1344, w6, by decide +kernel, by decide +kernel, by decide +kernel, Nat.le_of_ble_eq_true rfl⟩
theorem mo191 : mOk (mi 191) 3 := ⟨w1348, w6, by decide +kernel, by decide +kernel, by decide +kernel, Nat.le_of_ble_eq_true rfl⟩
theorem mo192 : mOk (mi 192) 1 := ⟨w1352, w6, by decide +kernel, by decide +kernel, by decide +kernel, Nat.le_of_ble_eq_true rfl⟩
theorem mo193 : mOk (mi 193) 1 := ⟨w1364, w6, by decide +kernel, by decide +kernel, by decide +kernel, Nat.le_of_ble_eq_true rfl⟩
theorem mo194 : mOk (mi 194) 1 := ⟨w1368, w6, by decide +kernel, by decide +kernel, by decide +kernel, Nat.le_of_ble_eq_true rfl⟩
theorem mo195 : mOk (mi 195) 0 := ⟨w1360, w6, by decide +kernel, by decide +kernel, by decide +kernel, Nat.le_of_ble_eq_true rfl⟩
theorem mo196 : mOk (mi 196) 0 := ⟨w1372, w6, by decide +kernel, by decide +kernel, by decide +kernel, Nat.le_of_ble_eq_true rfl⟩
theorem mo197 : mOk (mi 197) 1 := ⟨w1384, w6, by decide +kernel, by decide +kernel, by decide +kernel, Nat.le_of_ble_eq_true rfl⟩
theorem mo198 : mOk (mi 198) 1 := ⟨w1391, w6, by decide +kernel, by decide +kernel, by decide +kernel, Nat.le_of_ble_eq_true rfl⟩
theorem mo199 : mOk (mi 199) 1 := ⟨w1388, w6, by decide +kernel, by decide +kernel, by decide +kernel, Nat.le_of_ble_eq_true rfl⟩
theorem mo200 : mOk (mi 200) 0 := ⟨w1399, w6, by decide +kernel, by decide +kernel, by decide +kernel, Nat.le_of_ble_eq_true rfl⟩
theorem mo201 : mOk (mi 201) 0 := ⟨w1380, w6, by decide +kernel, by decide +kernel, by decide +kernel, Nat.le_of_ble_eq_true rfl⟩
theorem mo202 : mOk (mi 202) 0 := ⟨w1376, w6, by decide +kernel, by decide +kernel, by decide +kernel, Nat.le_of_ble_eq_true rfl⟩
theorem mo203 : mOk (mi 203) 0 := ⟨w1395, w6, by decide +kernel, by decide +kernel, by decide +kernel, Nat.le_of_ble_eq_true rfl⟩
theorem mo204 : mOk (mi 204) 0 := ⟨w1356, w6, by decide +kernel, by decide +kernel, by decide +kernel, Nat.le_of_ble_eq_true rfl⟩
theorem mo205 : mOk (mi 205) 2 := ⟨w1403, w6, by decide +kernel, by decide +kernel, by decide +kernel, Nat.le_of_ble_eq_true rfl⟩
theorem mo206 : mOk (mi 206) 1 := ⟨w1141, w6, by decide +kernel, by decide +kernel, by decide +kernel, Nat.le_of_ble_eq_true rfl⟩
theorem mo207 : mOk (mi 207) 1 := ⟨w1407, w6, by decide +kernel, by decide +kernel, by decide +kernel, Nat.le_of_ble_eq_true rfl⟩
theorem mo208 : mOk (mi 208) 3 := ⟨w1151, w6, by decide +kernel, by decide +kernel, by decide +kernel, Nat.le_of_ble_eq_true rfl⟩
theorem mo209 : mOk (mi 209) 1 := ⟨w1148, w6, by decide +kernel, by decide +kernel, by decide +kernel, Nat.le_of_ble_eq_true rfl⟩
theorem mo210 : mOk (mi 210) 1 := ⟨w1414, w6, by decide +kernel, by decide +kernel, by decide +kernel, Nat.le_of_ble_eq_true rfl⟩
theorem mo211 : mOk (mi 211) 1 := ⟨w1441, w6, by decide +kernel, by decide +kernel, by decide +kernel, Nat.le_of_ble_eq_true rfl⟩
theorem mo212 : mOk (mi 212) 3 := ⟨w1411, w6, by decide +kernel, by decide +kernel, by decide +kernel, Nat.le_of_ble_eq_true rfl⟩
theorem mo213 : mOk (mi 213) 3 := ⟨w1419, w6, by decide +kernel, by decide +kernel, by decide +kernel, Nat.le_of_ble_eq_true rfl⟩
theorem mo214 : mOk (mi 214) 1 := ⟨w1426, w6, by decide +kernel, by decide +kernel, by decide +kernel, Nat.le_of_ble_eq_true rfl⟩
theorem mo215 : mOk (mi 215) 1 := ⟨w1430, w6, by decide +kernel, by decide +kernel, by decide +kernel, Nat.le_of_ble_eq_true rfl⟩
theorem mo216 : mOk (mi 216) 5 := ⟨w1434, w6, by decide +kernel, by decide +kernel, by decide +kernel, Nat.le_of_ble_eq_true rfl⟩
theorem mo217 : mOk (mi 217) 3 := ⟨w1438, w6, by decide +kernel, by decide +kernel, by decide +kernel, Nat.le_of_ble_eq_true rfl⟩
theorem mo218 : mOk (mi 218) 2 := ⟨w1445, w6, by decide +kernel, by decide +kernel, by decide +kernel, Nat.le_of_ble_eq_true rfl⟩
theorem mo219 : mOk (mi 219) 2 := ⟨w1449, w6, by decide +kernel, by decide +kernel, by decide +kernel, Nat.le_of_ble_eq_true rfl⟩
theorem mo220 : mOk (mi 220) 2 := ⟨w1453, w6, by decide +kernel, by decide +kernel, by decide +kernel, Nat.le_of_ble_eq_true rfl⟩
theorem mo221 : mOk (mi 221) 1 := ⟨w1458, w6, by decide +kernel, by decide +kernel, by decide +kernel, Nat.le_of_ble_eq_true rfl⟩
theorem mo222 : mOk (mi 222) 1 := ⟨w1462, w6, by decide +kernel, by decide +kernel, by decide +kernel, Nat.le_of_ble_eq_true rfl⟩
theorem mo223 : mOk (mi 223) 0 := ⟨w1469, w6, by decide +kernel, by decide +kernel, by decide +kernel, Nat.le_of_ble_eq_true rfl⟩
theorem mo224 : mOk (mi 224) 0 := ⟨w1473, w6, by decide +kernel, by decide +kernel, by decide +kernel, Nat.le_of_ble_eq_true rfl⟩
theorem mo225 : mOk (mi 225) 1 := ⟨w1477, w6, by decide +kernel, by decide +kernel, by decide +kernel, Nat.le_of_ble_eq_true rfl⟩
theorem mo226 : mOk (mi 226) 1 := ⟨w640, w15, by decide +kernel, by decide +kernel, by decide +kernel, Nat.le_of_ble_eq_true rfl⟩
theorem mo229 : mOk (mi 229) 0 := ⟨w695, w16, by decide +kernel, by decide +kernel, by decide +kernel, Nat.le_of_ble_eq_true rfl⟩
theorem mo230 : mOk (mi 230) 1 := ⟨w705, w16, by decide +kernel, by decide +kernel, by decide +kernel, Nat.le_of_ble_eq_true rfl⟩
theorem mo231 : mOk (mi 231) 1 := ⟨w767, w16, by decide +kernel, by decide +kernel, by decide +kernel, Nat.le_of_ble_eq_true rfl⟩
theorem mo232 : mOk (mi 232) 2 := ⟨w771, w16, by decide +kernel, by decide +kernel, by decide +kernel, Nat.le_of_ble_eq_true rfl⟩
theorem mo233 : mOk (mi 233) 0 := ⟨w699, w16, by decide +kernel, by decide +kernel, by decide +kernel, Nat.le_of_ble_eq_true rfl⟩
theorem mo234 : mOk (mi 234) 0 := ⟨w709, w16, by decide +kernel, by decide +kernel, by decide +kernel, Nat.le_of_ble_eq_true rfl⟩
theorem mo235 : mOk (mi 235) 2 := ⟨w715, w16, by decide +kernel, by decide +kernel, by decide +kernel, Nat.le_of_ble_eq_true rfl⟩
theorem mo236 : mOk (mi 236) 2 := ⟨w712, w17, by decide +kernel, by decide +kernel, by decide +kernel, Nat.le_of_ble_eq_true rfl⟩
theorem mo237 : mOk (mi 237) 1 := ⟨w778, w17, by decide +kernel, by decide +kernel, by decide +kernel, Nat.le_of_ble_eq_true rfl⟩
theorem mo238 : mOk (mi 238) 4 := ⟨w775, w17, by decide +kernel, by decide +kernel, by decide +kernel, Nat.le_of_ble_eq_true rfl⟩
theorem mo239 : mOk (mi 239) 4 := ⟨w783, w17, by decide +kernel, by decide +kernel, by decide +kernel, Nat.le_of_ble_eq_true rfl⟩
theorem mo240 : mOk (mi 240) 2 := ⟨w906, w21, by decide +kernel, by decide +kernel, by decide +kernel, Nat.le_of_ble_eq_true rfl⟩
theorem mo241 : mOk (mi 241) 2 := ⟨w852, w21, by decide +kernel, by decide +kernel, by decide +kernel, Nat.le_of_ble_eq_true rfl⟩
theorem mo242 : mOk (mi 242) 3 := ⟨w720, w18, by decide +kernel, by decide +kernel, by decide +kernel, Nat.le_of_ble_eq_true rfl⟩
theorem xtl_ok {P : Nat → xA → Prop} {k : Nat} {a : xA} (h : P k a) : ∀ pc b, xtl k a pc = some b → P pc b := fun pc b e => by
  unfold xtl at e
  cases hk : Nat.beq pc k with
  | true => rw [hk] at e; cases e; rw [Nat.eq_of_beq_eq_true hk]; exact h
  | false => rw [hk] at e; cases e
theorem xtn_ok {P : Nat → xA → Prop} {k : Nat} {A B : Nat → Option xA} (h1 : ∀ pc b, A pc = some b → P pc b) (h2 : ∀ pc b, B pc = some b → P pc b) : ∀ pc b, xtn k A B pc = some b → P pc b := fun pc b e => by
  unfold xtn at e
  cases hk : Nat.ble k pc with
  | true => rw [hk] at e; exact h2 pc b e
  | false => rw [hk] at e; exact h1 pc b e
