/-! TABLES: the methods, and the words of the links by their places -/
def sn_Rs : List String := [RX0, RX1, RX2, RX3, RX4, RX5, RX6, RJ6, RL]
def sn_R (c : Nat) : String := sn_Rs.getD c ""
def sn_T (c : Nat) : u_T := ([TX0, TX1, TX2, TX3, TX4, TX5, TX6] : List u_T).getD c TX0
def sn_NF (c : Nat) : Nat := ([1, 3, 5, 4, 11, 12, 21] : List Nat).getD c 0
def sn_ty (c : Nat) : Nat → FieldType := ([tyX0, tyX1, tyX2, tyX3, tyX4, tyX5, tyX6] : List (Nat → FieldType)).getD c tyX0
abbrev sn_cl : List vw_C := [(RX0, TX0, 1), (RX1, TX1, 3), (RX2, TX2, 5), (RX3, TX3, 4), (RX4, TX4, 11), (RX5, TX5, 12), (RX6, TX6, 21)]
def sn_fts : List (List (Option (Option Nat))) := [[some (some 7)], [some (some 7), some (some 7), none], [some (some 10), none, none, none, none], [some (some 7), some (some 7), none, none], [none, none, none, none, some none, none, none, none, none, none, none], [some (some 3), some (some 1), some (some 0), some (some 2), some (some 9), some (some 9), some (some 9), none, none, none, none, none], [none, some (some 7), some (some 7), some (some 7), none, some (some 7), some (some 7), some (some 7), some (some 7), none, none, none, some (some 8), none, none, some none, none, some (some 7), some (some 7), some (some 7), some (some 7)]]
def sn_ft (c k : Nat) : Option (Option Nat) := (sn_fts.getD c []).getD k none
def pYs : List MethodName := [yX0_init, yX0_fit, yX0_fitFrom, yX0_isFree, yX1_init, yX1_append, yX1_clear, yX1_fit, yX2_init, yX2_clear, yX2_setTo, yX2_append, yX2_canCast, yX2_castBell, yX2_meltBell, yX2_loudestOther, yX2_coverersOf, yX2_drowns, yX2_isHeardToday, yX2_othersReached, yX2_heardBits, yX2_forgivenBits, yX2_bellsAtLeast, yX2_goDay, yX2_hearOnce, yX3_init, yX3_append, yX3_clear, yX3_readInto, yX3_readItem, yX3_readNumbers, yX3_letterHere, yX3_nextLetter, yX3_isDigit, yX3_tellWrong, yX3_tellStore, yX3_tellBell, yX4_init, yX4_setTo, yX4_begin, yX4_hasBell, yX4_hangs, yX4_giveBell, yX4_hangBell, yX4_loudAt, yX4_loudAtHome, yX4_isReachedBy, yX4_hears, yX5_init, yX5_write, yX5_wipe, yX5_fault, yX5_lay, yX5_wrong, yX5_bell, yX5_loud, yX5_covered, yX5_heard, yX5_cast, yX5_hang, yX5_takeDown, yX5_melt, yX5_pass, yX5_undo, yX5_forgives, yX5_by, yX5_cheap, yX5_best, yX5_hours, yX5_hush, yX5_note, yX5_forget, yX5_which, yX5_casts, yX5_snow, yX5_year, yX5_keep, yX5_back, yX5_count, yX5_isWrong, yX5_isPlace, yX5_isHour, yX5_isWithin, yX5_isCracked, yX5_loudnessOf, yX5_loudFrom, yX5_freshTrial, yX5_remember, yX5_dropOldest, yX5_findBest, yX5_firstHourHeard, yX5_forgivenShares, yX5_tenToThe, yX5_commonDivisor, yX5_drawOf, yX5_actByDraw, yX6_init, yX6_in, yX6_has, yX6_larger, yX6_bits, yX6_clears, yX6_comes, yX6_hangs, yX6_settles, yX6_copies, yX6_isOne, yX6_write, yX6_wipe, yX6_next, yX6_number, yX6_more, yX6_wrongItem, yX6_bellItem, yX6_item, yX6_reads, yX6_fault, yX6_lay, yX6_loudOf, yX6_apart, yX6_isHung, yX6_isBell, yX6_loudAt, yX6_isSounding, yX6_covers, yX6_isHeard, yX6_isEven, yX6_state, yX6_wrong, yX6_bell, yX6_loud, yX6_covered, yX6_heard, yX6_known, yX6_canCast, yX6_pours, yX6_melts, yX6_cast, yX6_others, yX6_isWhere, yX6_hang, yX6_takeDown, yX6_melt, yX6_goesOn, yX6_pass, yX6_undo, yX6_forgives, yX6_by, yX6_cheap, yX6_best, yX6_drowns, yX6_hoursOf, yX6_hours, yX6_hush, yX6_note, yX6_forget, yX6_which, yX6_casts, yX6_snow, yX6_does, yX6_year, yX6_keep, yX6_back, yX6_manyOf, yX6_count, yJ6_bitCount_0f7a4, yL_law]
def pY (k : Nat) : MethodName := pYs.getD k yX0_init
def pCds : List ByteArray := [cX0_init, cX0_fit, cX0_fitFrom, cX0_isFree, cX1_init, cX1_append, cX1_clear, cX1_fit, cX2_init, cX2_clear, cX2_setTo, cX2_append, cX2_canCast, cX2_castBell, cX2_meltBell, cX2_loudestOther, cX2_coverersOf, cX2_drowns, cX2_isHeardToday, cX2_othersReached, cX2_heardBits, cX2_forgivenBits, cX2_bellsAtLeast, cX2_goDay, cX2_hearOnce, cX3_init, cX3_append, cX3_clear, cX3_readInto, cX3_readItem, cX3_readNumbers, cX3_letterHere, cX3_nextLetter, cX3_isDigit, cX3_tellWrong, cX3_tellStore, cX3_tellBell, cX4_init, cX4_setTo, cX4_begin, cX4_hasBell, cX4_hangs, cX4_giveBell, cX4_hangBell, cX4_loudAt, cX4_loudAtHome, cX4_isReachedBy, cX4_hears, cX5_init, cX5_write, cX5_wipe, cX5_fault, cX5_lay, cX5_wrong, cX5_bell, cX5_loud, cX5_covered, cX5_heard, cX5_cast, cX5_hang, cX5_takeDown, cX5_melt, cX5_pass, cX5_undo, cX5_forgives, cX5_by, cX5_cheap, cX5_best, cX5_hours, cX5_hush, cX5_note, cX5_forget, cX5_which, cX5_casts, cX5_snow, cX5_year, cX5_keep, cX5_back, cX5_count, cX5_isWrong, cX5_isPlace, cX5_isHour, cX5_isWithin, cX5_isCracked, cX5_loudnessOf, cX5_loudFrom, cX5_freshTrial, cX5_remember, cX5_dropOldest, cX5_findBest, cX5_firstHourHeard, cX5_forgivenShares, cX5_tenToThe, cX5_commonDivisor, cX5_drawOf, cX5_actByDraw, cX6_init, cX6_in, cX6_has, cX6_larger, cX6_bits, cX6_clears, cX6_comes, cX6_hangs, cX6_settles, cX6_copies, cX6_isOne, cX6_write, cX6_wipe, cX6_next, cX6_number, cX6_more, cX6_wrongItem, cX6_bellItem, cX6_item, cX6_reads, cX6_fault, cX6_lay, cX6_loudOf, cX6_apart, cX6_isHung, cX6_isBell, cX6_loudAt, cX6_isSounding, cX6_covers, cX6_isHeard, cX6_isEven, cX6_state, cX6_wrong, cX6_bell, cX6_loud, cX6_covered, cX6_heard, cX6_known, cX6_canCast, cX6_pours, cX6_melts, cX6_cast, cX6_others, cX6_isWhere, cX6_hang, cX6_takeDown, cX6_melt, cX6_goesOn, cX6_pass, cX6_undo, cX6_forgives, cX6_by, cX6_cheap, cX6_best, cX6_drowns, cX6_hoursOf, cX6_hours, cX6_hush, cX6_note, cX6_forget, cX6_which, cX6_casts, cX6_snow, cX6_does, cX6_year, cX6_keep, cX6_back, cX6_manyOf, cX6_count, cJ6_bitCount_0f7a4, cL_law]
def pCd (k : Nat) : ByteArray := pCds.getD k cX0_init
def pRets : List (Option FieldType) := [none, (some .int), (some .boolean), (some .boolean), none, (some .boolean), none, (some .boolean), none, none, none, (some .boolean), (some .boolean), none, none, (some .int), (some .int), (some .boolean), (some .boolean), (some .int), (some .int), (some .int), (some .int), none, none, none, (some .boolean), none, (some .int), (some .boolean), (some .boolean), (some .int), (some .int), (some .boolean), (some .boolean), (some .boolean), (some .boolean), none, none, none, (some .boolean), (some .boolean), none, none, (some .int), (some .int), (some .boolean), (some .boolean), none, (some .int), (some .int), (some .int), (some .int), (some .int), (some .int), (some .int), (some .int), (some .int), (some .int), (some .int), (some .int), (some .int), (some .int), (some .int), (some .int), (some .int), (some .int), (some .int), (some .int), (some .int), (some .int), (some .int), (some .int), (some .int), (some .int), (some .int), (some .int), (some .int), (some .int), (some .boolean), (some .boolean), (some .boolean), (some .boolean), (some .boolean), (some .int), (some .int), (some (.object "ApologyBells$Street")), none, none, none, (some .int), (some .int), (some .int), (some .int), (some .int), none, none, (some .boolean), (some .boolean), (some .int), (some .int), none, none, none, none, none, (some .boolean), (some .int), (some .int), (some .int), (some .int), (some .int), none, none, none, (some .boolean), (some .int), (some .int), (some .int), (some .int), (some .boolean), (some .boolean), (some .int), (some .boolean), (some .int), (some .boolean), (some .boolean), (some .int), (some .int), (some .int), (some .int), (some .int), (some .int), none, (some .boolean), none, none, (some .int), (some .int), (some .boolean), (some .int), (some .int), (some .int), none, (some .int), (some .int), (some .int), (some .int), (some .int), (some .int), (some .boolean), (some .int), (some .int), (some .int), (some .int), (some .int), (some .int), (some .int), (some .int), none, (some .int), (some .int), (some .int), (some .int), (some .int), (some .int), (some .boolean)]
def pRet (k : Nat) : Option FieldType := pRets.getD k none
def pOcs : List Nat := [0, 0, 0, 0, 1, 1, 1, 1, 2, 2, 2, 2, 2, 2, 2, 2, 2, 2, 2, 2, 2, 2, 2, 2, 2, 3, 3, 3, 3, 3, 3, 3, 3, 3, 3, 3, 3, 4, 4, 4, 4, 4, 4, 4, 4, 4, 4, 4, 5, 5, 5, 5, 5, 5, 5, 5, 5, 5, 5, 5, 5, 5, 5, 5, 5, 5, 5, 5, 5, 5, 5, 5, 5, 5, 5, 5, 5, 5, 5, 5, 5, 5, 5, 5, 5, 5, 5, 5, 5, 5, 5, 5, 5, 5, 5, 5, 6, 6, 6, 6, 6, 6, 6, 6, 6, 6, 6, 6, 6, 6, 6, 6, 6, 6, 6, 6, 6, 6, 6, 6, 6, 6, 6, 6, 6, 6, 6, 6, 6, 6, 6, 6, 6, 6, 6, 6, 6, 6, 6, 6, 6, 6, 6, 6, 6, 6, 6, 6, 6, 6, 6, 6, 6, 6, 6, 6, 6, 6, 6, 6, 6, 6, 6, 6, 6, 7, 8]
def pOc (k : Nat) : Nat := pOcs.getD k 0
/-- 0: by its receiver, 1: static, 2: a constructor -/
def pSts : List Nat := [2, 0, 0, 0, 2, 0, 0, 0, 2, 0, 0, 0, 0, 0, 0, 0, 0, 0, 0, 0, 0, 0, 0, 0, 0, 2, 0, 0, 0, 0, 0, 0, 0, 1, 0, 0, 0, 2, 0, 0, 0, 0, 0, 0, 0, 0, 0, 0, 2, 0, 0, 0, 0, 0, 0, 0, 0, 0, 0, 0, 0, 0, 0, 0, 0, 0, 0, 0, 0, 0, 0, 0, 0, 0, 0, 0, 0, 0, 0, 0, 1, 1, 1, 1, 1, 1, 0, 0, 0, 0, 0, 0, 1, 1, 1, 1, 2, 1, 1, 1, 1, 0, 0, 0, 0, 0, 0, 0, 0, 0, 0, 0, 0, 0, 0, 0, 0, 0, 1, 1, 0, 0, 0, 0, 0, 0, 0, 0, 0, 0, 0, 0, 0, 0, 0, 0, 0, 0, 0, 1, 0, 0, 0, 0, 0, 0, 0, 0, 0, 0, 0, 0, 0, 0, 0, 0, 0, 0, 0, 0, 0, 0, 0, 0, 0, 1, 1]
def pSt (k : Nat) : Nat := pSts.getD k 0
def pNps : List Nat := [0, 1, 4, 2, 0, 2, 0, 1, 0, 0, 1, 3, 3, 3, 1, 2, 1, 2, 1, 3, 0, 0, 1, 0, 1, 0, 1, 0, 1, 1, 1, 0, 0, 1, 1, 1, 1, 0, 1, 3, 0, 0, 2, 2, 1, 0, 3, 4, 0, 1, 0, 0, 0, 2, 2, 2, 1, 1, 3, 3, 1, 1, 1, 0, 1, 1, 3, 2, 1, 1, 2, 0, 0, 2, 4, 3, 0, 0, 1, 1, 1, 1, 3, 2, 2, 3, 0, 0, 0, 1, 2, 4, 1, 2, 2, 2, 0, 3, 2, 2, 1, 0, 3, 6, 0, 2, 1, 1, 0, 0, 2, 2, 0, 0, 1, 0, 0, 0, 2, 2, 2, 2, 3, 3, 2, 3, 1, 1, 2, 2, 2, 1, 1, 0, 4, 4, 2, 3, 3, 2, 3, 1, 1, 2, 1, 0, 1, 1, 3, 2, 2, 0, 1, 1, 2, 0, 0, 2, 4, 2, 3, 0, 0, 1, 1, 1, 1]
def pNp (k : Nat) : Nat := pNps.getD k 0
def pPcs : List (List Nat) := [[0], [0, 2, 21, 27], [0, 14, 16, 48, 51, 104, 110], [0, 2, 40, 42, 48], [0], [0, 11], [0], [0, 2, 31, 37], [0, 15, 40], [0], [0, 34, 69], [0, 11], [0, 44, 45], [0], [0], [0, 16, 78, 84], [0, 4, 65, 71], [0, 38, 39], [0, 45, 46, 56, 57], [0, 6, 38, 42, 43, 80, 86], [0, 4, 26, 32], [0, 4, 30, 36], [0, 4, 28, 34], [0, 7, 29, 35], [0, 51], [0], [0, 12], [0], [0, 11, 44, 50], [0, 40, 60, 61, 62, 82, 83, 84, 104, 105, 106], [0, 2, 19, 50, 73, 75, 80, 86], [0, 23, 25], [0], [0], [0, 45, 46, 80, 81], [0], [0, 27, 29, 59, 61, 85, 87], [0], [0], [0], [0, 12, 13], [0, 12, 13], [0], [0], [0], [0], [0, 32, 42, 43, 44, 57, 58, 59, 72, 73, 74, 83, 84], [0, 20, 21], [0, 76, 101, 103, 127, 129, 154, 156, 185], [0, 13, 34, 36], [0], [0], [0, 27, 30], [0, 17, 19, 64, 69, 74, 79, 84, 95, 96, 97], [0, 17, 19, 39, 76, 81, 86, 100, 102, 103, 117, 119, 120, 125, 143, 144], [0, 15, 17, 42, 44], [0, 10, 36, 38], [0, 10, 28, 43, 44], [0, 28, 30, 46], [0, 22, 24, 42], [0, 10, 28], [0, 10, 28], [0, 12, 18, 36], [0, 11], [0, 10, 17, 37, 47], [0, 12, 19, 34], [0, 22, 24, 46, 60, 78, 140, 146, 152], [0, 17, 19, 37, 68, 73, 78], [0, 15, 36, 45], [0, 10, 30, 57, 59], [0, 17, 19, 41, 43], [0], [0, 4, 55, 61], [0, 19, 21, 30, 40, 77, 79, 81, 87, 93, 101, 103], [0, 38, 40, 80, 82, 97, 99], [0, 30, 32, 41, 69, 84, 89], [0, 11], [0, 11], [0, 64, 72, 80, 88, 96, 105, 114, 125, 136, 144, 149, 154, 162], [0], [0], [0], [0, 14, 15], [0, 9, 10], [0, 20, 21], [0, 11, 14, 26, 27], [0], [0, 13], [0, 9, 35], [0, 30, 66, 109, 115], [0, 13, 46, 52], [0, 24, 35, 37, 96, 141], [0, 4, 26], [0, 7, 34], [0], [0, 9, 64, 108, 137, 152], [0], [0, 17, 18], [0, 13, 14], [0, 9, 10], [0, 4, 24], [0, 7, 30, 32, 55], [0], [0], [0, 10, 58], [0, 2, 30], [0], [0, 16, 29], [0], [0, 23, 24], [0, 5, 57, 88, 92, 93, 107, 108], [0, 17, 21, 22, 46, 52], [0, 14, 15, 29, 35, 66], [0, 67, 71, 72, 96], [0, 13, 26, 66, 67, 86, 87, 91, 96], [0, 14, 77, 81, 82, 98, 109, 110], [0, 12, 16], [0, 14, 17], [0, 15, 20], [0, 11, 14], [0, 18, 19], [0, 18, 19], [0], [0, 11, 46, 50, 70, 94, 98, 99], [0, 5, 60, 61, 84, 85, 123, 124, 132], [0, 23, 24], [0, 18, 19], [0, 13, 26, 27], [0, 20, 22, 35, 49, 63, 77, 96, 101], [0, 20, 22, 34, 72, 81, 91, 101, 115, 130, 134, 148, 150], [0, 20, 22, 41, 43], [0, 10, 28, 30], [0, 10, 24, 42, 43], [0, 12, 40, 46], [0, 58, 59], [0], [0], [0, 32, 34, 48], [0, 6, 44, 65, 66, 75], [0, 28, 29], [0, 16, 18, 30], [0, 10, 22], [0, 10, 22], [0, 5, 41, 42, 50, 53, 126, 132], [0, 14, 20, 37], [0, 10], [0, 10, 20, 43, 57], [0, 14, 24, 43], [0, 16, 18, 35, 46, 56, 120, 126, 132], [0, 20, 22, 34, 52, 114, 116, 130, 131, 144, 146, 154, 163, 174, 186, 188], [0, 38, 39], [0, 4, 34, 49, 96, 99, 105, 111], [0, 20, 22, 48, 53, 75, 102, 110, 137, 151, 160, 161, 177, 180, 188, 206, 208], [0, 10, 24, 43, 45], [0, 24, 26, 38], [0], [0, 4, 22, 62, 63, 70, 81, 82, 90], [0, 22, 24, 34, 43, 63, 64, 76, 77, 95, 97, 105, 111, 119, 121], [0, 43, 45, 54, 76, 98, 102, 125, 154, 155, 164, 172, 195, 208, 213], [0, 72, 136, 157], [0, 34, 36, 47, 102, 120, 128], [0, 11], [0, 10], [0, 4, 25, 39, 50, 62, 63, 71], [0, 11, 26, 41, 56, 69, 82, 101, 115, 128, 141, 154, 167, 168], [0], [0, 18, 168, 191, 204, 217, 230, 263, 296, 329, 352, 375, 418, 461, 484, 507, 530, 543, 566, 589, 632, 665, 688, 711, 744, 757, 770, 803, 856, 899, 912, 925, 948, 954]]
def pPc (k j : Nat) : Nat := (pPcs.getD k []).getD j 0
def sn_gw : List Cond := lw_tbl.filter goodWord
theorem tb_f0 : Cond.fieldLink (sn_R 0) 9 ((sn_T 0) 0).1 ((sn_T 0) 0).2.1 ((sn_T 0) 0).2.2.1 ∈ lw_tbl := List.mem_of_getElem? (i := 114) (by decide +kernel)
theorem tb_f1 : Cond.fieldLink (sn_R 0) 19 ((sn_T 2) 1).1 ((sn_T 2) 1).2.1 ((sn_T 2) 1).2.2.1 ∈ lw_tbl := List.mem_of_getElem? (i := 192) (by decide +kernel)
theorem tb_f2 : Cond.fieldLink (sn_R 0) 25 ((sn_T 2) 0).1 ((sn_T 2) 0).2.1 ((sn_T 2) 0).2.2.1 ∈ lw_tbl := List.mem_of_getElem? (i := 188) (by decide +kernel)
theorem tb_f3 : Cond.fieldLink (sn_R 1) 9 ((sn_T 1) 0).1 ((sn_T 1) 0).2.1 ((sn_T 1) 0).2.2.1 ∈ lw_tbl := List.mem_of_getElem? (i := 97) (by decide +kernel)
theorem tb_f4 : Cond.fieldLink (sn_R 1) 15 ((sn_T 1) 1).1 ((sn_T 1) 1).2.1 ((sn_T 1) 1).2.2.1 ∈ lw_tbl := List.mem_of_getElem? (i := 98) (by decide +kernel)
theorem tb_f5 : Cond.fieldLink (sn_R 1) 18 ((sn_T 1) 2).1 ((sn_T 1) 2).2.1 ((sn_T 1) 2).2.2.1 ∈ lw_tbl := List.mem_of_getElem? (i := 99) (by decide +kernel)
theorem tb_f6 : Cond.fieldLink (sn_R 2) 11 ((sn_T 2) 0).1 ((sn_T 2) 0).2.1 ((sn_T 2) 0).2.2.1 ∈ lw_tbl := List.mem_of_getElem? (i := 187) (by decide +kernel)
theorem tb_f7 : Cond.fieldLink (sn_R 2) 18 ((sn_T 2) 1).1 ((sn_T 2) 1).2.1 ((sn_T 2) 1).2.2.1 ∈ lw_tbl := List.mem_of_getElem? (i := 191) (by decide +kernel)
theorem tb_f8 : Cond.fieldLink (sn_R 2) 22 ((sn_T 2) 2).1 ((sn_T 2) 2).2.1 ((sn_T 2) 2).2.2.1 ∈ lw_tbl := List.mem_of_getElem? (i := 195) (by decide +kernel)
theorem tb_f9 : Cond.fieldLink (sn_R 2) 25 ((sn_T 2) 3).1 ((sn_T 2) 3).2.1 ((sn_T 2) 3).2.2.1 ∈ lw_tbl := List.mem_of_getElem? (i := 197) (by decide +kernel)
theorem tb_f10 : Cond.fieldLink (sn_R 2) 28 ((sn_T 2) 4).1 ((sn_T 2) 4).2.1 ((sn_T 2) 4).2.2.1 ∈ lw_tbl := List.mem_of_getElem? (i := 200) (by decide +kernel)
theorem tb_f11 : Cond.fieldLink (sn_R 2) 43 ((sn_T 4) 4).1 ((sn_T 4) 4).2.1 ((sn_T 4) 4).2.2.1 ∈ lw_tbl := List.mem_of_getElem? (i := 144) (by decide +kernel)
theorem tb_f12 : Cond.fieldLink (sn_R 2) 51 ((sn_T 4) 6).1 ((sn_T 4) 6).2.1 ((sn_T 4) 6).2.2.1 ∈ lw_tbl := List.mem_of_getElem? (i := 150) (by decide +kernel)
theorem tb_f13 : Cond.fieldLink (sn_R 2) 52 ((sn_T 4) 7).1 ((sn_T 4) 7).2.1 ((sn_T 4) 7).2.2.1 ∈ lw_tbl := List.mem_of_getElem? (i := 153) (by decide +kernel)
theorem tb_f14 : Cond.fieldLink (sn_R 2) 53 ((sn_T 4) 5).1 ((sn_T 4) 5).2.1 ((sn_T 4) 5).2.2.1 ∈ lw_tbl := List.mem_of_getElem? (i := 148) (by decide +kernel)
theorem tb_f15 : Cond.fieldLink (sn_R 2) 56 ((sn_T 4) 1).1 ((sn_T 4) 1).2.1 ((sn_T 4) 1).2.2.1 ∈ lw_tbl := List.mem_of_getElem? (i := 136) (by decide +kernel)
theorem tb_f16 : Cond.fieldLink (sn_R 2) 62 ((sn_T 4) 10).1 ((sn_T 4) 10).2.1 ((sn_T 4) 10).2.2.1 ∈ lw_tbl := List.mem_of_getElem? (i := 163) (by decide +kernel)
theorem tb_f17 : Cond.fieldLink (sn_R 2) 65 ((sn_T 4) 8).1 ((sn_T 4) 8).2.1 ((sn_T 4) 8).2.2.1 ∈ lw_tbl := List.mem_of_getElem? (i := 157) (by decide +kernel)
theorem tb_f18 : Cond.fieldLink (sn_R 2) 68 ((sn_T 4) 9).1 ((sn_T 4) 9).2.1 ((sn_T 4) 9).2.2.1 ∈ lw_tbl := List.mem_of_getElem? (i := 160) (by decide +kernel)
theorem tb_f19 : Cond.fieldLink (sn_R 2) 111 ((sn_T 4) 3).1 ((sn_T 4) 3).2.1 ((sn_T 4) 3).2.2.1 ∈ lw_tbl := List.mem_of_getElem? (i := 142) (by decide +kernel)
theorem tb_f20 : Cond.fieldLink (sn_R 2) 114 ((sn_T 4) 2).1 ((sn_T 4) 2).2.1 ((sn_T 4) 2).2.2.1 ∈ lw_tbl := List.mem_of_getElem? (i := 139) (by decide +kernel)
theorem tb_f21 : Cond.fieldLink (sn_R 3) 9 ((sn_T 3) 0).1 ((sn_T 3) 0).2.1 ((sn_T 3) 0).2.2.1 ∈ lw_tbl := List.mem_of_getElem? (i := 76) (by decide +kernel)
theorem tb_f22 : Cond.fieldLink (sn_R 3) 15 ((sn_T 3) 1).1 ((sn_T 3) 1).2.1 ((sn_T 3) 1).2.2.1 ∈ lw_tbl := List.mem_of_getElem? (i := 77) (by decide +kernel)
theorem tb_f23 : Cond.fieldLink (sn_R 3) 18 ((sn_T 3) 3).1 ((sn_T 3) 3).2.1 ((sn_T 3) 3).2.2.1 ∈ lw_tbl := List.mem_of_getElem? (i := 79) (by decide +kernel)
theorem tb_f24 : Cond.fieldLink (sn_R 3) 27 ((sn_T 3) 2).1 ((sn_T 3) 2).2.1 ((sn_T 3) 2).2.2.1 ∈ lw_tbl := List.mem_of_getElem? (i := 78) (by decide +kernel)
theorem tb_f25 : Cond.fieldLink (sn_R 3) 67 ((sn_T 2) 3).1 ((sn_T 2) 3).2.1 ((sn_T 2) 3).2.2.1 ∈ lw_tbl := List.mem_of_getElem? (i := 198) (by decide +kernel)
theorem tb_f26 : Cond.fieldLink (sn_R 3) 70 ((sn_T 2) 4).1 ((sn_T 2) 4).2.1 ((sn_T 2) 4).2.2.1 ∈ lw_tbl := List.mem_of_getElem? (i := 201) (by decide +kernel)
theorem tb_f27 : Cond.fieldLink (sn_R 3) 73 ((sn_T 2) 1).1 ((sn_T 2) 1).2.1 ((sn_T 2) 1).2.2.1 ∈ lw_tbl := List.mem_of_getElem? (i := 194) (by decide +kernel)
theorem tb_f28 : Cond.fieldLink (sn_R 3) 76 ((sn_T 2) 0).1 ((sn_T 2) 0).2.1 ((sn_T 2) 0).2.2.1 ∈ lw_tbl := List.mem_of_getElem? (i := 190) (by decide +kernel)
theorem tb_f29 : Cond.fieldLink (sn_R 4) 9 ((sn_T 4) 0).1 ((sn_T 4) 0).2.1 ((sn_T 4) 0).2.2.1 ∈ lw_tbl := List.mem_of_getElem? (i := 132) (by decide +kernel)
theorem tb_f30 : Cond.fieldLink (sn_R 4) 15 ((sn_T 4) 1).1 ((sn_T 4) 1).2.1 ((sn_T 4) 1).2.2.1 ∈ lw_tbl := List.mem_of_getElem? (i := 134) (by decide +kernel)
theorem tb_f31 : Cond.fieldLink (sn_R 4) 18 ((sn_T 4) 2).1 ((sn_T 4) 2).2.1 ((sn_T 4) 2).2.2.1 ∈ lw_tbl := List.mem_of_getElem? (i := 137) (by decide +kernel)
theorem tb_f32 : Cond.fieldLink (sn_R 4) 21 ((sn_T 4) 3).1 ((sn_T 4) 3).2.1 ((sn_T 4) 3).2.2.1 ∈ lw_tbl := List.mem_of_getElem? (i := 140) (by decide +kernel)
theorem tb_f33 : Cond.fieldLink (sn_R 4) 24 ((sn_T 4) 4).1 ((sn_T 4) 4).2.1 ((sn_T 4) 4).2.2.1 ∈ lw_tbl := List.mem_of_getElem? (i := 143) (by decide +kernel)
theorem tb_f34 : Cond.fieldLink (sn_R 4) 28 ((sn_T 4) 5).1 ((sn_T 4) 5).2.1 ((sn_T 4) 5).2.2.1 ∈ lw_tbl := List.mem_of_getElem? (i := 146) (by decide +kernel)
theorem tb_f35 : Cond.fieldLink (sn_R 4) 31 ((sn_T 4) 6).1 ((sn_T 4) 6).2.1 ((sn_T 4) 6).2.2.1 ∈ lw_tbl := List.mem_of_getElem? (i := 149) (by decide +kernel)
theorem tb_f36 : Cond.fieldLink (sn_R 4) 34 ((sn_T 4) 7).1 ((sn_T 4) 7).2.1 ((sn_T 4) 7).2.2.1 ∈ lw_tbl := List.mem_of_getElem? (i := 152) (by decide +kernel)
theorem tb_f37 : Cond.fieldLink (sn_R 4) 37 ((sn_T 4) 8).1 ((sn_T 4) 8).2.1 ((sn_T 4) 8).2.2.1 ∈ lw_tbl := List.mem_of_getElem? (i := 155) (by decide +kernel)
theorem tb_f38 : Cond.fieldLink (sn_R 4) 40 ((sn_T 4) 9).1 ((sn_T 4) 9).2.1 ((sn_T 4) 9).2.2.1 ∈ lw_tbl := List.mem_of_getElem? (i := 158) (by decide +kernel)
theorem tb_f39 : Cond.fieldLink (sn_R 4) 43 ((sn_T 4) 10).1 ((sn_T 4) 10).2.1 ((sn_T 4) 10).2.2.1 ∈ lw_tbl := List.mem_of_getElem? (i := 161) (by decide +kernel)
theorem tb_f40 : Cond.fieldLink (sn_R 5) 10 ((sn_T 5) 0).1 ((sn_T 5) 0).2.1 ((sn_T 5) 0).2.2.1 ∈ lw_tbl := List.mem_of_getElem? (i := 347) (by decide +kernel)
theorem tb_f41 : Cond.fieldLink (sn_R 5) 19 ((sn_T 5) 1).1 ((sn_T 5) 1).2.1 ((sn_T 5) 1).2.2.1 ∈ lw_tbl := List.mem_of_getElem? (i := 348) (by decide +kernel)
theorem tb_f42 : Cond.fieldLink (sn_R 5) 26 ((sn_T 5) 2).1 ((sn_T 5) 2).2.1 ((sn_T 5) 2).2.2.1 ∈ lw_tbl := List.mem_of_getElem? (i := 349) (by decide +kernel)
theorem tb_f43 : Cond.fieldLink (sn_R 5) 33 ((sn_T 5) 3).1 ((sn_T 5) 3).2.1 ((sn_T 5) 3).2.2.1 ∈ lw_tbl := List.mem_of_getElem? (i := 350) (by decide +kernel)
theorem tb_f44 : Cond.fieldLink (sn_R 5) 37 ((sn_T 5) 4).1 ((sn_T 5) 4).2.1 ((sn_T 5) 4).2.2.1 ∈ lw_tbl := List.mem_of_getElem? (i := 351) (by decide +kernel)
theorem tb_f45 : Cond.fieldLink (sn_R 5) 41 ((sn_T 5) 5).1 ((sn_T 5) 5).2.1 ((sn_T 5) 5).2.2.1 ∈ lw_tbl := List.mem_of_getElem? (i := 352) (by decide +kernel)
theorem tb_f46 : Cond.fieldLink (sn_R 5) 44 ((sn_T 5) 6).1 ((sn_T 5) 6).2.1 ((sn_T 5) 6).2.2.1 ∈ lw_tbl := List.mem_of_getElem? (i := 353) (by decide +kernel)
theorem tb_f47 : Cond.fieldLink (sn_R 5) 74 ((sn_T 3) 3).1 ((sn_T 3) 3).2.1 ((sn_T 3) 3).2.2.1 ∈ lw_tbl := List.mem_of_getElem? (i := 80) (by decide +kernel)
theorem tb_f48 : Cond.fieldLink (sn_R 5) 77 ((sn_T 2) 1).1 ((sn_T 2) 1).2.1 ((sn_T 2) 1).2.2.1 ∈ lw_tbl := List.mem_of_getElem? (i := 193) (by decide +kernel)
theorem tb_f49 : Cond.fieldLink (sn_R 5) 85 ((sn_T 5) 7).1 ((sn_T 5) 7).2.1 ((sn_T 5) 7).2.2.1 ∈ lw_tbl := List.mem_of_getElem? (i := 354) (by decide +kernel)
theorem tb_f50 : Cond.fieldLink (sn_R 5) 88 ((sn_T 5) 8).1 ((sn_T 5) 8).2.1 ((sn_T 5) 8).2.2.1 ∈ lw_tbl := List.mem_of_getElem? (i := 355) (by decide +kernel)
theorem tb_f51 : Cond.fieldLink (sn_R 5) 94 ((sn_T 2) 0).1 ((sn_T 2) 0).2.1 ((sn_T 2) 0).2.2.1 ∈ lw_tbl := List.mem_of_getElem? (i := 189) (by decide +kernel)
theorem tb_f52 : Cond.fieldLink (sn_R 5) 98 ((sn_T 4) 0).1 ((sn_T 4) 0).2.1 ((sn_T 4) 0).2.2.1 ∈ lw_tbl := List.mem_of_getElem? (i := 133) (by decide +kernel)
theorem tb_f53 : Cond.fieldLink (sn_R 5) 103 ((sn_T 4) 1).1 ((sn_T 4) 1).2.1 ((sn_T 4) 1).2.2.1 ∈ lw_tbl := List.mem_of_getElem? (i := 135) (by decide +kernel)
theorem tb_f54 : Cond.fieldLink (sn_R 5) 106 ((sn_T 4) 2).1 ((sn_T 4) 2).2.1 ((sn_T 4) 2).2.2.1 ∈ lw_tbl := List.mem_of_getElem? (i := 138) (by decide +kernel)
theorem tb_f55 : Cond.fieldLink (sn_R 5) 109 ((sn_T 4) 3).1 ((sn_T 4) 3).2.1 ((sn_T 4) 3).2.2.1 ∈ lw_tbl := List.mem_of_getElem? (i := 141) (by decide +kernel)
theorem tb_f56 : Cond.fieldLink (sn_R 5) 112 ((sn_T 4) 4).1 ((sn_T 4) 4).2.1 ((sn_T 4) 4).2.2.1 ∈ lw_tbl := List.mem_of_getElem? (i := 145) (by decide +kernel)
theorem tb_f57 : Cond.fieldLink (sn_R 5) 116 ((sn_T 4) 5).1 ((sn_T 4) 5).2.1 ((sn_T 4) 5).2.2.1 ∈ lw_tbl := List.mem_of_getElem? (i := 147) (by decide +kernel)
theorem tb_f58 : Cond.fieldLink (sn_R 5) 123 ((sn_T 4) 6).1 ((sn_T 4) 6).2.1 ((sn_T 4) 6).2.2.1 ∈ lw_tbl := List.mem_of_getElem? (i := 151) (by decide +kernel)
theorem tb_f59 : Cond.fieldLink (sn_R 5) 126 ((sn_T 4) 7).1 ((sn_T 4) 7).2.1 ((sn_T 4) 7).2.2.1 ∈ lw_tbl := List.mem_of_getElem? (i := 154) (by decide +kernel)
theorem tb_f60 : Cond.fieldLink (sn_R 5) 132 ((sn_T 4) 9).1 ((sn_T 4) 9).2.1 ((sn_T 4) 9).2.2.1 ∈ lw_tbl := List.mem_of_getElem? (i := 159) (by decide +kernel)
theorem tb_f61 : Cond.fieldLink (sn_R 5) 135 ((sn_T 4) 10).1 ((sn_T 4) 10).2.1 ((sn_T 4) 10).2.2.1 ∈ lw_tbl := List.mem_of_getElem? (i := 162) (by decide +kernel)
theorem tb_f62 : Cond.fieldLink (sn_R 5) 138 ((sn_T 4) 8).1 ((sn_T 4) 8).2.1 ((sn_T 4) 8).2.2.1 ∈ lw_tbl := List.mem_of_getElem? (i := 156) (by decide +kernel)
theorem tb_f63 : Cond.fieldLink (sn_R 5) 187 ((sn_T 2) 3).1 ((sn_T 2) 3).2.1 ((sn_T 2) 3).2.2.1 ∈ lw_tbl := List.mem_of_getElem? (i := 199) (by decide +kernel)
theorem tb_f64 : Cond.fieldLink (sn_R 5) 191 ((sn_T 2) 2).1 ((sn_T 2) 2).2.1 ((sn_T 2) 2).2.2.1 ∈ lw_tbl := List.mem_of_getElem? (i := 196) (by decide +kernel)
theorem tb_f65 : Cond.fieldLink (sn_R 5) 220 ((sn_T 5) 9).1 ((sn_T 5) 9).2.1 ((sn_T 5) 9).2.2.1 ∈ lw_tbl := List.mem_of_getElem? (i := 356) (by decide +kernel)
theorem tb_f66 : Cond.fieldLink (sn_R 5) 223 ((sn_T 5) 10).1 ((sn_T 5) 10).2.1 ((sn_T 5) 10).2.2.1 ∈ lw_tbl := List.mem_of_getElem? (i := 357) (by decide +kernel)
theorem tb_f67 : Cond.fieldLink (sn_R 5) 226 ((sn_T 5) 11).1 ((sn_T 5) 11).2.1 ((sn_T 5) 11).2.2.1 ∈ lw_tbl := List.mem_of_getElem? (i := 358) (by decide +kernel)
theorem tb_f68 : Cond.fieldLink (sn_R 5) 232 ((sn_T 0) 0).1 ((sn_T 0) 0).2.1 ((sn_T 0) 0).2.2.1 ∈ lw_tbl := List.mem_of_getElem? (i := 115) (by decide +kernel)
theorem tb_f69 : Cond.fieldLink (sn_R 5) 245 ((sn_T 1) 2).1 ((sn_T 1) 2).2.1 ((sn_T 1) 2).2.2.1 ∈ lw_tbl := List.mem_of_getElem? (i := 100) (by decide +kernel)
theorem tb_f70 : Cond.fieldLink (sn_R 5) 271 ((sn_T 2) 4).1 ((sn_T 2) 4).2.1 ((sn_T 2) 4).2.2.1 ∈ lw_tbl := List.mem_of_getElem? (i := 202) (by decide +kernel)
theorem tb_f71 : Cond.fieldLink (sn_R 6) 7 ((sn_T 6) 1).1 ((sn_T 6) 1).2.1 ((sn_T 6) 1).2.2.1 ∈ lw_tbl := List.mem_of_getElem? (i := 714) (by decide +kernel)
theorem tb_f72 : Cond.fieldLink (sn_R 6) 13 ((sn_T 6) 2).1 ((sn_T 6) 2).2.1 ((sn_T 6) 2).2.2.1 ∈ lw_tbl := List.mem_of_getElem? (i := 715) (by decide +kernel)
theorem tb_f73 : Cond.fieldLink (sn_R 6) 16 ((sn_T 6) 3).1 ((sn_T 6) 3).2.1 ((sn_T 6) 3).2.2.1 ∈ lw_tbl := List.mem_of_getElem? (i := 716) (by decide +kernel)
theorem tb_f74 : Cond.fieldLink (sn_R 6) 19 ((sn_T 6) 5).1 ((sn_T 6) 5).2.1 ((sn_T 6) 5).2.2.1 ∈ lw_tbl := List.mem_of_getElem? (i := 718) (by decide +kernel)
theorem tb_f75 : Cond.fieldLink (sn_R 6) 22 ((sn_T 6) 6).1 ((sn_T 6) 6).2.1 ((sn_T 6) 6).2.2.1 ∈ lw_tbl := List.mem_of_getElem? (i := 719) (by decide +kernel)
theorem tb_f76 : Cond.fieldLink (sn_R 6) 25 ((sn_T 6) 7).1 ((sn_T 6) 7).2.1 ((sn_T 6) 7).2.2.1 ∈ lw_tbl := List.mem_of_getElem? (i := 720) (by decide +kernel)
theorem tb_f77 : Cond.fieldLink (sn_R 6) 28 ((sn_T 6) 8).1 ((sn_T 6) 8).2.1 ((sn_T 6) 8).2.2.1 ∈ lw_tbl := List.mem_of_getElem? (i := 721) (by decide +kernel)
theorem tb_f78 : Cond.fieldLink (sn_R 6) 31 ((sn_T 6) 12).1 ((sn_T 6) 12).2.1 ((sn_T 6) 12).2.2.1 ∈ lw_tbl := List.mem_of_getElem? (i := 725) (by decide +kernel)
theorem tb_f79 : Cond.fieldLink (sn_R 6) 35 ((sn_T 6) 17).1 ((sn_T 6) 17).2.1 ((sn_T 6) 17).2.2.1 ∈ lw_tbl := List.mem_of_getElem? (i := 730) (by decide +kernel)
theorem tb_f80 : Cond.fieldLink (sn_R 6) 38 ((sn_T 6) 18).1 ((sn_T 6) 18).2.1 ((sn_T 6) 18).2.2.1 ∈ lw_tbl := List.mem_of_getElem? (i := 731) (by decide +kernel)
theorem tb_f81 : Cond.fieldLink (sn_R 6) 41 ((sn_T 6) 19).1 ((sn_T 6) 19).2.1 ((sn_T 6) 19).2.2.1 ∈ lw_tbl := List.mem_of_getElem? (i := 732) (by decide +kernel)
theorem tb_f82 : Cond.fieldLink (sn_R 6) 44 ((sn_T 6) 20).1 ((sn_T 6) 20).2.1 ((sn_T 6) 20).2.2.1 ∈ lw_tbl := List.mem_of_getElem? (i := 733) (by decide +kernel)
theorem tb_f83 : Cond.fieldLink (sn_R 6) 61 ((sn_T 6) 4).1 ((sn_T 6) 4).2.1 ((sn_T 6) 4).2.2.1 ∈ lw_tbl := List.mem_of_getElem? (i := 717) (by decide +kernel)
theorem tb_f84 : Cond.fieldLink (sn_R 6) 65 ((sn_T 6) 0).1 ((sn_T 6) 0).2.1 ((sn_T 6) 0).2.2.1 ∈ lw_tbl := List.mem_of_getElem? (i := 713) (by decide +kernel)
theorem tb_f85 : Cond.fieldLink (sn_R 6) 80 ((sn_T 6) 11).1 ((sn_T 6) 11).2.1 ((sn_T 6) 11).2.2.1 ∈ lw_tbl := List.mem_of_getElem? (i := 724) (by decide +kernel)
theorem tb_f86 : Cond.fieldLink (sn_R 6) 83 ((sn_T 6) 13).1 ((sn_T 6) 13).2.1 ((sn_T 6) 13).2.2.1 ∈ lw_tbl := List.mem_of_getElem? (i := 726) (by decide +kernel)
theorem tb_f87 : Cond.fieldLink (sn_R 6) 94 ((sn_T 6) 15).1 ((sn_T 6) 15).2.1 ((sn_T 6) 15).2.2.1 ∈ lw_tbl := List.mem_of_getElem? (i := 728) (by decide +kernel)
theorem tb_f88 : Cond.fieldLink (sn_R 6) 111 ((sn_T 6) 14).1 ((sn_T 6) 14).2.1 ((sn_T 6) 14).2.2.1 ∈ lw_tbl := List.mem_of_getElem? (i := 727) (by decide +kernel)
theorem tb_f89 : Cond.fieldLink (sn_R 6) 122 ((sn_T 6) 9).1 ((sn_T 6) 9).2.1 ((sn_T 6) 9).2.2.1 ∈ lw_tbl := List.mem_of_getElem? (i := 722) (by decide +kernel)
theorem tb_f90 : Cond.fieldLink (sn_R 6) 125 ((sn_T 6) 10).1 ((sn_T 6) 10).2.1 ((sn_T 6) 10).2.2.1 ∈ lw_tbl := List.mem_of_getElem? (i := 723) (by decide +kernel)
theorem tb_f91 : Cond.fieldLink (sn_R 6) 128 ((sn_T 6) 16).1 ((sn_T 6) 16).2.1 ((sn_T 6) 16).2.2.1 ∈ lw_tbl := List.mem_of_getElem? (i := 729) (by decide +kernel)
def tb_fl : List (Nat × Nat × Nat × Nat) := [(0, 9, 0, 0), (0, 19, 2, 1), (0, 25, 2, 0), (1, 9, 1, 0), (1, 15, 1, 1), (1, 18, 1, 2), (2, 11, 2, 0), (2, 18, 2, 1), (2, 22, 2, 2), (2, 25, 2, 3), (2, 28, 2, 4), (2, 43, 4, 4), (2, 51, 4, 6), (2, 52, 4, 7), (2, 53, 4, 5), (2, 56, 4, 1), (2, 62, 4, 10), (2, 65, 4, 8), (2, 68, 4, 9), (2, 111, 4, 3), (2, 114, 4, 2), (3, 9, 3, 0), (3, 15, 3, 1), (3, 18, 3, 3), (3, 27, 3, 2), (3, 67, 2, 3), (3, 70, 2, 4), (3, 73, 2, 1), (3, 76, 2, 0), (4, 9, 4, 0), (4, 15, 4, 1), (4, 18, 4, 2), (4, 21, 4, 3), (4, 24, 4, 4), (4, 28, 4, 5), (4, 31, 4, 6), (4, 34, 4, 7), (4, 37, 4, 8), (4, 40, 4, 9), (4, 43, 4, 10), (5, 10, 5, 0), (5, 19, 5, 1), (5, 26, 5, 2), (5, 33, 5, 3), (5, 37, 5, 4), (5, 41, 5, 5), (5, 44, 5, 6), (5, 74, 3, 3), (5, 77, 2, 1), (5, 85, 5, 7), (5, 88, 5, 8), (5, 94, 2, 0), (5, 98, 4, 0), (5, 103, 4, 1), (5, 106, 4, 2), (5, 109, 4, 3), (5, 112, 4, 4), (5, 116, 4, 5), (5, 123, 4, 6), (5, 126, 4, 7), (5, 132, 4, 9), (5, 135, 4, 10), (5, 138, 4, 8), (5, 187, 2, 3), (5, 191, 2, 2), (5, 220, 5, 9), (5, 223, 5, 10), (5, 226, 5, 11), (5, 232, 0, 0), (5, 245, 1, 2), (5, 271, 2, 4), (6, 7, 6, 1), (6, 13, 6, 2), (6, 16, 6, 3), (6, 19, 6, 5), (6, 22, 6, 6), (6, 25, 6, 7), (6, 28, 6, 8), (6, 31, 6, 12), (6, 35, 6, 17), (6, 38, 6, 18), (6, 41, 6, 19), (6, 44, 6, 20), (6, 61, 6, 4), (6, 65, 6, 0), (6, 80, 6, 11), (6, 83, 6, 13), (6, 94, 6, 15), (6, 111, 6, 14), (6, 122, 6, 9), (6, 125, 6, 10), (6, 128, 6, 16)]
set_option maxRecDepth 100000 in
theorem tb_fl_ok : ∀ q ∈ tb_fl, Cond.fieldLink (sn_R q.1) q.2.1 ((sn_T q.2.2.1) q.2.2.2).1 ((sn_T q.2.2.1) q.2.2.2).2.1 ((sn_T q.2.2.1) q.2.2.2).2.2.1 ∈ lw_tbl := List.forall_mem_cons.mpr ⟨tb_f0, List.forall_mem_cons.mpr ⟨tb_f1, List.forall_mem_cons.mpr ⟨tb_f2, List.forall_mem_cons.mpr ⟨tb_f3, List.forall_mem_cons.mpr ⟨tb_f4, List.forall_mem_cons.mpr ⟨tb_f5, List.forall_mem_cons.mpr ⟨tb_f6, List.forall_mem_cons.mpr ⟨tb_f7, List.forall_mem_cons.mpr ⟨tb_f8, List.forall_mem_cons.mpr ⟨tb_f9, List.forall_mem_cons.mpr ⟨tb_f10, List.forall_mem_cons.mpr ⟨tb_f11, List.forall_mem_cons.mpr ⟨tb_f12, List.forall_mem_cons.mpr ⟨tb_f13, List.forall_mem_cons.mpr ⟨tb_f14, List.forall_mem_cons.mpr ⟨tb_f15, List.forall_mem_cons.mpr ⟨tb_f16, List.forall_mem_cons.mpr ⟨tb_f17, List.forall_mem_cons.mpr ⟨tb_f18, List.forall_mem_cons.mpr ⟨tb_f19, List.forall_mem_cons.mpr ⟨tb_f20, List.forall_mem_cons.mpr ⟨tb_f21, List.forall_mem_cons.mpr ⟨tb_f22, List.forall_mem_cons.mpr ⟨tb_f23, List.forall_mem_cons.mpr ⟨tb_f24, List.forall_mem_cons.mpr ⟨tb_f25, List.forall_mem_cons.mpr ⟨tb_f26, List.forall_mem_cons.mpr ⟨tb_f27, List.forall_mem_cons.mpr ⟨tb_f28, List.forall_mem_cons.mpr ⟨tb_f29, List.forall_mem_cons.mpr ⟨tb_f30, List.forall_mem_cons.mpr ⟨tb_f31, List.forall_mem_cons.mpr ⟨tb_f32, List.forall_mem_cons.mpr ⟨tb_f33, List.forall_mem_cons.mpr ⟨tb_f34, List.forall_mem_cons.mpr ⟨tb_f35, List.forall_mem_cons.mpr ⟨tb_f36, List.forall_mem_cons.mpr ⟨tb_f37, List.forall_mem_cons.mpr ⟨tb_f38, List.forall_mem_cons.mpr ⟨tb_f39, List.forall_mem_cons.mpr ⟨tb_f40, List.forall_mem_cons.mpr ⟨tb_f41, List.forall_mem_cons.mpr ⟨tb_f42, List.forall_mem_cons.mpr ⟨tb_f43, List.forall_mem_cons.mpr ⟨tb_f44, List.forall_mem_cons.mpr ⟨tb_f45, List.forall_mem_cons.mpr ⟨tb_f46, List.forall_mem_cons.mpr ⟨tb_f47, List.forall_mem_cons.mpr ⟨tb_f48, List.forall_mem_cons.mpr ⟨tb_f49, List.forall_mem_cons.mpr ⟨tb_f50, List.forall_mem_cons.mpr ⟨tb_f51, List.forall_mem_cons.mpr ⟨tb_f52, List.forall_mem_cons.mpr ⟨tb_f53, List.forall_mem_cons.mpr ⟨tb_f54, List.forall_mem_cons.mpr ⟨tb_f55, List.forall_mem_cons.mpr ⟨tb_f56, List.forall_mem_cons.mpr ⟨tb_f57, List.forall_mem_cons.mpr ⟨tb_f58, List.forall_mem_cons.mpr ⟨tb_f59, List.forall_mem_cons.mpr ⟨tb_f60, List.forall_mem_cons.mpr ⟨tb_f61, List.forall_mem_cons.mpr ⟨tb_f62, List.forall_mem_cons.mpr ⟨tb_f63, List.forall_mem_cons.mpr ⟨tb_f64, List.forall_mem_cons.mpr ⟨tb_f65, List.forall_mem_cons.mpr ⟨tb_f66, List.forall_mem_cons.mpr ⟨tb_f67, List.forall_mem_cons.mpr ⟨tb_f68, List.forall_mem_cons.mpr ⟨tb_f69, List.forall_mem_cons.mpr ⟨tb_f70, List.forall_mem_cons.mpr ⟨tb_f71, List.forall_mem_cons.mpr ⟨tb_f72, List.forall_mem_cons.mpr ⟨tb_f73, List.forall_mem_cons.mpr ⟨tb_f74, List.forall_mem_cons.mpr ⟨tb_f75, List.forall_mem_cons.mpr ⟨tb_f76, List.forall_mem_cons.mpr ⟨tb_f77, List.forall_mem_cons.mpr ⟨tb_f78, List.forall_mem_cons.mpr ⟨tb_f79, List.forall_mem_cons.mpr ⟨tb_f80, List.forall_mem_cons.mpr ⟨tb_f81, List.forall_mem_cons.mpr ⟨tb_f82, List.forall_mem_cons.mpr ⟨tb_f83, List.forall_mem_cons.mpr ⟨tb_f84, List.forall_mem_cons.mpr ⟨tb_f85, List.forall_mem_cons.mpr ⟨tb_f86, List.forall_mem_cons.mpr ⟨tb_f87, List.forall_mem_cons.mpr ⟨tb_f88, List.forall_mem_cons.mpr ⟨tb_f89, List.forall_mem_cons.mpr ⟨tb_f90, List.forall_mem_cons.mpr ⟨tb_f91, fun _ h => absurd h List.not_mem_nil⟩⟩⟩⟩⟩⟩⟩⟩⟩⟩⟩⟩⟩⟩⟩⟩⟩⟩⟩⟩⟩⟩⟩⟩⟩⟩⟩⟩⟩⟩⟩⟩⟩⟩⟩⟩⟩⟩⟩⟩⟩⟩⟩⟩⟩⟩⟩⟩⟩⟩⟩⟩⟩⟩⟩⟩⟩⟩⟩⟩⟩⟩⟩⟩⟩⟩⟩⟩⟩⟩⟩⟩⟩⟩⟩⟩⟩⟩⟩⟩⟩⟩⟩⟩⟩⟩⟩⟩⟩⟩⟩⟩
theorem tb_m0 : Cond.methodLink (sn_R 0) 15 (pY 2) ∈ lw_tbl := List.mem_of_getElem? (i := 595) (by decide +kernel)
theorem tb_m1 : Cond.methodLink (sn_R 0) 29 (pY 41) ∈ lw_tbl := List.mem_of_getElem? (i := 599) (by decide +kernel)
theorem tb_m2 : Cond.methodLink (sn_R 0) 35 (pY 3) ∈ lw_tbl := List.mem_of_getElem? (i := 600) (by decide +kernel)
theorem tb_m3 : Cond.methodLink (sn_R 0) 45 (pY 17) ∈ lw_tbl := List.mem_of_getElem? (i := 604) (by decide +kernel)
theorem tb_m4 : Cond.methodLink (sn_R 1) 22 (pY 44) ∈ lw_tbl := List.mem_of_getElem? (i := 632) (by decide +kernel)
theorem tb_m5 : Cond.methodLink (sn_R 2) 31 (pY 38) ∈ lw_tbl := List.mem_of_getElem? (i := 405) (by decide +kernel)
theorem tb_m6 : Cond.methodLink (sn_R 2) 35 (pY 39) ∈ lw_tbl := List.mem_of_getElem? (i := 310) (by decide +kernel)
theorem tb_m7 : Cond.methodLink (sn_R 2) 39 (pY 40) ∈ lw_tbl := List.mem_of_getElem? (i := 492) (by decide +kernel)
theorem tb_m8 : Cond.methodLink (sn_R 2) 47 (pY 42) ∈ lw_tbl := List.mem_of_getElem? (i := 505) (by decide +kernel)
theorem tb_m9 : Cond.methodLink (sn_R 2) 59 (pY 41) ∈ lw_tbl := List.mem_of_getElem? (i := 450) (by decide +kernel)
theorem tb_m10 : Cond.methodLink (sn_R 2) 81 (pY 17) ∈ lw_tbl := List.mem_of_getElem? (i := 451) (by decide +kernel)
theorem tb_m11 : Cond.methodLink (sn_R 2) 85 (pY 44) ∈ lw_tbl := List.mem_of_getElem? (i := 455) (by decide +kernel)
theorem tb_m12 : Cond.methodLink (sn_R 2) 89 (pY 45) ∈ lw_tbl := List.mem_of_getElem? (i := 456) (by decide +kernel)
theorem tb_m13 : Cond.methodLink (sn_R 2) 93 (pY 15) ∈ lw_tbl := List.mem_of_getElem? (i := 471) (by decide +kernel)
theorem tb_m14 : Cond.methodLink (sn_R 2) 96 (pY 47) ∈ lw_tbl := List.mem_of_getElem? (i := 476) (by decide +kernel)
theorem tb_m15 : Cond.methodLink (sn_R 2) 100 (pY 18) ∈ lw_tbl := List.mem_of_getElem? (i := 541) (by decide +kernel)
theorem tb_m16 : Cond.methodLink (sn_R 2) 104 (pY 20) ∈ lw_tbl := List.mem_of_getElem? (i := 537) (by decide +kernel)
theorem tb_m17 : Cond.methodLink (sn_R 2) 107 (pY 24) ∈ lw_tbl := List.mem_of_getElem? (i := 542) (by decide +kernel)
theorem tb_m18 : Cond.methodLink (sn_R 2) 117 (pY 14) ∈ lw_tbl := List.mem_of_getElem? (i := 546) (by decide +kernel)
theorem tb_m19 : Cond.methodLink (sn_R 3) 22 (pY 9) ∈ lw_tbl := List.mem_of_getElem? (i := 272) (by decide +kernel)
theorem tb_m20 : Cond.methodLink (sn_R 3) 30 (pY 29) ∈ lw_tbl := List.mem_of_getElem? (i := 276) (by decide +kernel)
theorem tb_m21 : Cond.methodLink (sn_R 3) 34 (pY 32) ∈ lw_tbl := List.mem_of_getElem? (i := 280) (by decide +kernel)
theorem tb_m22 : Cond.methodLink (sn_R 3) 38 (pY 30) ∈ lw_tbl := List.mem_of_getElem? (i := 288) (by decide +kernel)
theorem tb_m23 : Cond.methodLink (sn_R 3) 42 (pY 34) ∈ lw_tbl := List.mem_of_getElem? (i := 298) (by decide +kernel)
theorem tb_m24 : Cond.methodLink (sn_R 3) 45 (pY 35) ∈ lw_tbl := List.mem_of_getElem? (i := 314) (by decide +kernel)
theorem tb_m25 : Cond.methodLink (sn_R 3) 48 (pY 36) ∈ lw_tbl := List.mem_of_getElem? (i := 318) (by decide +kernel)
theorem tb_m26 : Cond.methodLink (sn_R 3) 51 (pY 31) ∈ lw_tbl := List.mem_of_getElem? (i := 284) (by decide +kernel)
theorem tb_m27 : Cond.methodLink (sn_R 3) 54 (pY 33) ∈ lw_tbl := List.mem_of_getElem? (i := 292) (by decide +kernel)
theorem tb_m28 : Cond.methodLink (sn_R 3) 64 (pY 11) ∈ lw_tbl := List.mem_of_getElem? (i := 306) (by decide +kernel)
theorem tb_m29 : Cond.methodLink (sn_R 3) 80 (pY 40) ∈ lw_tbl := List.mem_of_getElem? (i := 322) (by decide +kernel)
theorem tb_m30 : Cond.methodLink (sn_R 3) 89 (pY 42) ∈ lw_tbl := List.mem_of_getElem? (i := 329) (by decide +kernel)
theorem tb_m31 : Cond.methodLink (sn_R 3) 93 (pY 43) ∈ lw_tbl := List.mem_of_getElem? (i := 339) (by decide +kernel)
theorem tb_m32 : Cond.methodLink (sn_R 4) 54 (pY 46) ∈ lw_tbl := List.mem_of_getElem? (i := 480) (by decide +kernel)
theorem tb_m33 : Cond.methodLink (sn_R 5) 32 (pY 8) ∈ lw_tbl := List.mem_of_getElem? (i := 121) (by decide +kernel)
theorem tb_m34 : Cond.methodLink (sn_R 5) 59 (pY 26) ∈ lw_tbl := List.mem_of_getElem? (i := 264) (by decide +kernel)
theorem tb_m35 : Cond.methodLink (sn_R 5) 63 (pY 28) ∈ lw_tbl := List.mem_of_getElem? (i := 268) (by decide +kernel)
theorem tb_m36 : Cond.methodLink (sn_R 5) 67 (pY 27) ∈ lw_tbl := List.mem_of_getElem? (i := 343) (by decide +kernel)
theorem tb_m37 : Cond.methodLink (sn_R 5) 70 (pY 82) ∈ lw_tbl := List.mem_of_getElem? (i := 305) (by decide +kernel)
theorem tb_m38 : Cond.methodLink (sn_R 5) 80 (pY 10) ∈ lw_tbl := List.mem_of_getElem? (i := 401) (by decide +kernel)
theorem tb_m39 : Cond.methodLink (sn_R 5) 84 (pY 6) ∈ lw_tbl := List.mem_of_getElem? (i := 409) (by decide +kernel)
theorem tb_m40 : Cond.methodLink (sn_R 5) 91 (pY 79) ∈ lw_tbl := List.mem_of_getElem? (i := 417) (by decide +kernel)
theorem tb_m41 : Cond.methodLink (sn_R 5) 119 (pY 40) ∈ lw_tbl := List.mem_of_getElem? (i := 425) (by decide +kernel)
theorem tb_m42 : Cond.methodLink (sn_R 5) 129 (pY 41) ∈ lw_tbl := List.mem_of_getElem? (i := 426) (by decide +kernel)
theorem tb_m43 : Cond.methodLink (sn_R 5) 141 (pY 83) ∈ lw_tbl := List.mem_of_getElem? (i := 336) (by decide +kernel)
theorem tb_m44 : Cond.methodLink (sn_R 5) 145 (pY 80) ∈ lw_tbl := List.mem_of_getElem? (i := 434) (by decide +kernel)
theorem tb_m45 : Cond.methodLink (sn_R 5) 148 (pY 44) ∈ lw_tbl := List.mem_of_getElem? (i := 435) (by decide +kernel)
theorem tb_m46 : Cond.methodLink (sn_R 5) 152 (pY 16) ∈ lw_tbl := List.mem_of_getElem? (i := 446) (by decide +kernel)
theorem tb_m47 : Cond.methodLink (sn_R 5) 155 (pY 18) ∈ lw_tbl := List.mem_of_getElem? (i := 467) (by decide +kernel)
theorem tb_m48 : Cond.methodLink (sn_R 5) 158 (pY 12) ∈ lw_tbl := List.mem_of_getElem? (i := 488) (by decide +kernel)
theorem tb_m49 : Cond.methodLink (sn_R 5) 161 (pY 87) ∈ lw_tbl := List.mem_of_getElem? (i := 493) (by decide +kernel)
theorem tb_m50 : Cond.methodLink (sn_R 5) 164 (pY 13) ∈ lw_tbl := List.mem_of_getElem? (i := 501) (by decide +kernel)
theorem tb_m51 : Cond.methodLink (sn_R 5) 168 (pY 84) ∈ lw_tbl := List.mem_of_getElem? (i := 506) (by decide +kernel)
theorem tb_m52 : Cond.methodLink (sn_R 5) 172 (pY 81) ∈ lw_tbl := List.mem_of_getElem? (i := 511) (by decide +kernel)
theorem tb_m53 : Cond.methodLink (sn_R 5) 175 (pY 43) ∈ lw_tbl := List.mem_of_getElem? (i := 512) (by decide +kernel)
theorem tb_m54 : Cond.methodLink (sn_R 5) 179 (pY 19) ∈ lw_tbl := List.mem_of_getElem? (i := 513) (by decide +kernel)
theorem tb_m55 : Cond.methodLink (sn_R 5) 183 (pY 14) ∈ lw_tbl := List.mem_of_getElem? (i := 525) (by decide +kernel)
theorem tb_m56 : Cond.methodLink (sn_R 5) 188 (pY 23) ∈ lw_tbl := List.mem_of_getElem? (i := 533) (by decide +kernel)
theorem tb_m57 : Cond.methodLink (sn_R 5) 194 (pY 86) ∈ lw_tbl := List.mem_of_getElem? (i := 555) (by decide +kernel)
theorem tb_m58 : Cond.methodLink (sn_R 5) 198 (pY 21) ∈ lw_tbl := List.mem_of_getElem? (i := 563) (by decide +kernel)
theorem tb_m59 : Cond.methodLink (sn_R 5) 201 (pY 15) ∈ lw_tbl := List.mem_of_getElem? (i := 571) (by decide +kernel)
theorem tb_m60 : Cond.methodLink (sn_R 5) 209 (pY 85) ∈ lw_tbl := List.mem_of_getElem? (i := 573) (by decide +kernel)
theorem tb_m61 : Cond.methodLink (sn_R 5) 213 (pY 47) ∈ lw_tbl := List.mem_of_getElem? (i := 574) (by decide +kernel)
theorem tb_m62 : Cond.methodLink (sn_R 5) 217 (pY 89) ∈ lw_tbl := List.mem_of_getElem? (i := 579) (by decide +kernel)
theorem tb_m63 : Cond.methodLink (sn_R 5) 229 (pY 1) ∈ lw_tbl := List.mem_of_getElem? (i := 591) (by decide +kernel)
theorem tb_m64 : Cond.methodLink (sn_R 5) 236 (pY 45) ∈ lw_tbl := List.mem_of_getElem? (i := 610) (by decide +kernel)
theorem tb_m65 : Cond.methodLink (sn_R 5) 239 (pY 46) ∈ lw_tbl := List.mem_of_getElem? (i := 611) (by decide +kernel)
theorem tb_m66 : Cond.methodLink (sn_R 5) 243 (pY 5) ∈ lw_tbl := List.mem_of_getElem? (i := 616) (by decide +kernel)
theorem tb_m67 : Cond.methodLink (sn_R 5) 246 (pY 7) ∈ lw_tbl := List.mem_of_getElem? (i := 628) (by decide +kernel)
theorem tb_m68 : Cond.methodLink (sn_R 5) 249 (pY 91) ∈ lw_tbl := List.mem_of_getElem? (i := 641) (by decide +kernel)
theorem tb_m69 : Cond.methodLink (sn_R 5) 253 (pY 92) ∈ lw_tbl := List.mem_of_getElem? (i := 645) (by decide +kernel)
theorem tb_m70 : Cond.methodLink (sn_R 5) 256 (pY 93) ∈ lw_tbl := List.mem_of_getElem? (i := 648) (by decide +kernel)
theorem tb_m71 : Cond.methodLink (sn_R 5) 259 (pY 94) ∈ lw_tbl := List.mem_of_getElem? (i := 655) (by decide +kernel)
theorem tb_m72 : Cond.methodLink (sn_R 5) 262 (pY 95) ∈ lw_tbl := List.mem_of_getElem? (i := 661) (by decide +kernel)
theorem tb_m73 : Cond.methodLink (sn_R 5) 266 (pY 165) ∈ lw_tbl := List.mem_of_getElem? (i := 664) (by decide +kernel)
theorem tb_m74 : Cond.methodLink (sn_R 5) 272 (pY 22) ∈ lw_tbl := List.mem_of_getElem? (i := 682) (by decide +kernel)
theorem tb_m75 : Cond.methodLink (sn_R 5) 275 (pY 20) ∈ lw_tbl := List.mem_of_getElem? (i := 686) (by decide +kernel)
theorem tb_m76 : Cond.methodLink (sn_R 5) 278 (pY 88) ∈ lw_tbl := List.mem_of_getElem? (i := 497) (by decide +kernel)
theorem tb_m77 : Cond.methodLink (sn_R 5) 281 (pY 90) ∈ lw_tbl := List.mem_of_getElem? (i := 583) (by decide +kernel)
theorem tb_m78 : Cond.methodLink (sn_R 6) 47 (pY 101) ∈ lw_tbl := List.mem_of_getElem? (i := 693) (by decide +kernel)
theorem tb_m79 : Cond.methodLink (sn_R 6) 50 (pY 102) ∈ lw_tbl := List.mem_of_getElem? (i := 697) (by decide +kernel)
theorem tb_m80 : Cond.methodLink (sn_R 6) 54 (pY 103) ∈ lw_tbl := List.mem_of_getElem? (i := 701) (by decide +kernel)
theorem tb_m81 : Cond.methodLink (sn_R 6) 58 (pY 104) ∈ lw_tbl := List.mem_of_getElem? (i := 705) (by decide +kernel)
theorem tb_m82 : Cond.methodLink (sn_R 6) 68 (pY 105) ∈ lw_tbl := List.mem_of_getElem? (i := 709) (by decide +kernel)
theorem tb_m83 : Cond.methodLink (sn_R 6) 72 (pY 97) ∈ lw_tbl := List.mem_of_getElem? (i := 783) (by decide +kernel)
theorem tb_m84 : Cond.methodLink (sn_R 6) 86 (pY 109) ∈ lw_tbl := List.mem_of_getElem? (i := 798) (by decide +kernel)
theorem tb_m85 : Cond.methodLink (sn_R 6) 98 (pY 110) ∈ lw_tbl := List.mem_of_getElem? (i := 810) (by decide +kernel)
theorem tb_m86 : Cond.methodLink (sn_R 6) 102 (pY 111) ∈ lw_tbl := List.mem_of_getElem? (i := 816) (by decide +kernel)
theorem tb_m87 : Cond.methodLink (sn_R 6) 105 (pY 112) ∈ lw_tbl := List.mem_of_getElem? (i := 806) (by decide +kernel)
theorem tb_m88 : Cond.methodLink (sn_R 6) 108 (pY 113) ∈ lw_tbl := List.mem_of_getElem? (i := 820) (by decide +kernel)
theorem tb_m89 : Cond.methodLink (sn_R 6) 114 (pY 114) ∈ lw_tbl := List.mem_of_getElem? (i := 802) (by decide +kernel)
theorem tb_m90 : Cond.methodLink (sn_R 6) 118 (pY 115) ∈ lw_tbl := List.mem_of_getElem? (i := 794) (by decide +kernel)
theorem tb_m91 : Cond.methodLink (sn_R 6) 131 (pY 118) ∈ lw_tbl := List.mem_of_getElem? (i := 853) (by decide +kernel)
theorem tb_m92 : Cond.methodLink (sn_R 6) 134 (pY 119) ∈ lw_tbl := List.mem_of_getElem? (i := 865) (by decide +kernel)
theorem tb_m93 : Cond.methodLink (sn_R 6) 137 (pY 99) ∈ lw_tbl := List.mem_of_getElem? (i := 868) (by decide +kernel)
theorem tb_m94 : Cond.methodLink (sn_R 6) 140 (pY 120) ∈ lw_tbl := List.mem_of_getElem? (i := 845) (by decide +kernel)
theorem tb_m95 : Cond.methodLink (sn_R 6) 144 (pY 122) ∈ lw_tbl := List.mem_of_getElem? (i := 861) (by decide +kernel)
theorem tb_m96 : Cond.methodLink (sn_R 6) 148 (pY 123) ∈ lw_tbl := List.mem_of_getElem? (i := 891) (by decide +kernel)
theorem tb_m97 : Cond.methodLink (sn_R 6) 152 (pY 124) ∈ lw_tbl := List.mem_of_getElem? (i := 875) (by decide +kernel)
theorem tb_m98 : Cond.methodLink (sn_R 6) 155 (pY 121) ∈ lw_tbl := List.mem_of_getElem? (i := 841) (by decide +kernel)
theorem tb_m99 : Cond.methodLink (sn_R 6) 158 (pY 106) ∈ lw_tbl := List.mem_of_getElem? (i := 832) (by decide +kernel)
theorem tb_m100 : Cond.methodLink (sn_R 6) 164 (pY 127) ∈ lw_tbl := List.mem_of_getElem? (i := 837) (by decide +kernel)
theorem tb_m101 : Cond.methodLink (sn_R 6) 170 (pY 126) ∈ lw_tbl := List.mem_of_getElem? (i := 883) (by decide +kernel)
theorem tb_m102 : Cond.methodLink (sn_R 6) 173 (pY 125) ∈ lw_tbl := List.mem_of_getElem? (i := 887) (by decide +kernel)
theorem tb_m103 : Cond.methodLink (sn_R 6) 176 (pY 98) ∈ lw_tbl := List.mem_of_getElem? (i := 904) (by decide +kernel)
theorem tb_m104 : Cond.methodLink (sn_R 6) 181 (pY 134) ∈ lw_tbl := List.mem_of_getElem? (i := 900) (by decide +kernel)
theorem tb_m105 : Cond.methodLink (sn_R 6) 185 (pY 133) ∈ lw_tbl := List.mem_of_getElem? (i := 907) (by decide +kernel)
theorem tb_m106 : Cond.methodLink (sn_R 6) 188 (pY 135) ∈ lw_tbl := List.mem_of_getElem? (i := 911) (by decide +kernel)
theorem tb_m107 : Cond.methodLink (sn_R 6) 194 (pY 139) ∈ lw_tbl := List.mem_of_getElem? (i := 919) (by decide +kernel)
theorem tb_m108 : Cond.methodLink (sn_R 6) 197 (pY 138) ∈ lw_tbl := List.mem_of_getElem? (i := 923) (by decide +kernel)
theorem tb_m109 : Cond.methodLink (sn_R 6) 201 (pY 136) ∈ lw_tbl := List.mem_of_getElem? (i := 935) (by decide +kernel)
theorem tb_m110 : Cond.methodLink (sn_R 6) 206 (pY 143) ∈ lw_tbl := List.mem_of_getElem? (i := 944) (by decide +kernel)
theorem tb_m111 : Cond.methodLink (sn_R 6) 214 (pY 150) ∈ lw_tbl := List.mem_of_getElem? (i := 979) (by decide +kernel)
theorem tb_m112 : Cond.methodLink (sn_R 6) 219 (pY 151) ∈ lw_tbl := List.mem_of_getElem? (i := 975) (by decide +kernel)
theorem tb_m113 : Cond.methodLink (sn_R 6) 238 (pY 159) ∈ lw_tbl := List.mem_of_getElem? (i := 1018) (by decide +kernel)
theorem tb_m114 : Cond.methodLink (sn_R 6) 241 (pY 100) ∈ lw_tbl := List.mem_of_getElem? (i := 1023) (by decide +kernel)
theorem tb_m115 : Cond.methodLink (sn_R 6) 244 (pY 163) ∈ lw_tbl := List.mem_of_getElem? (i := 1038) (by decide +kernel)
theorem tb_m116 : Cond.methodLink (sn_R 8) 9 (pY 48) ∈ lw_tbl := List.mem_of_getElem? (i := 64) (by decide +kernel)
theorem tb_m117 : Cond.methodLink (sn_R 8) 12 (pY 96) ∈ lw_tbl := List.mem_of_getElem? (i := 689) (by decide +kernel)
theorem tb_m118 : Cond.methodLink (sn_R 8) 13 (pY 49) ∈ lw_tbl := List.mem_of_getElem? (i := 385) (by decide +kernel)
theorem tb_m119 : Cond.methodLink (sn_R 8) 17 (pY 107) ∈ lw_tbl := List.mem_of_getElem? (i := 777) (by decide +kernel)
theorem tb_m120 : Cond.methodLink (sn_R 8) 18 (pY 50) ∈ lw_tbl := List.mem_of_getElem? (i := 389) (by decide +kernel)
theorem tb_m121 : Cond.methodLink (sn_R 8) 22 (pY 108) ∈ lw_tbl := List.mem_of_getElem? (i := 786) (by decide +kernel)
theorem tb_m122 : Cond.methodLink (sn_R 8) 23 (pY 51) ∈ lw_tbl := List.mem_of_getElem? (i := 393) (by decide +kernel)
theorem tb_m123 : Cond.methodLink (sn_R 8) 26 (pY 116) ∈ lw_tbl := List.mem_of_getElem? (i := 790) (by decide +kernel)
theorem tb_m124 : Cond.methodLink (sn_R 8) 27 (pY 52) ∈ lw_tbl := List.mem_of_getElem? (i := 397) (by decide +kernel)
theorem tb_m125 : Cond.methodLink (sn_R 8) 30 (pY 117) ∈ lw_tbl := List.mem_of_getElem? (i := 824) (by decide +kernel)
theorem tb_m126 : Cond.methodLink (sn_R 8) 31 (pY 53) ∈ lw_tbl := List.mem_of_getElem? (i := 413) (by decide +kernel)
theorem tb_m127 : Cond.methodLink (sn_R 8) 35 (pY 128) ∈ lw_tbl := List.mem_of_getElem? (i := 828) (by decide +kernel)
theorem tb_m128 : Cond.methodLink (sn_R 8) 36 (pY 54) ∈ lw_tbl := List.mem_of_getElem? (i := 421) (by decide +kernel)
theorem tb_m129 : Cond.methodLink (sn_R 8) 39 (pY 129) ∈ lw_tbl := List.mem_of_getElem? (i := 849) (by decide +kernel)
theorem tb_m130 : Cond.methodLink (sn_R 8) 40 (pY 55) ∈ lw_tbl := List.mem_of_getElem? (i := 430) (by decide +kernel)
theorem tb_m131 : Cond.methodLink (sn_R 8) 43 (pY 130) ∈ lw_tbl := List.mem_of_getElem? (i := 856) (by decide +kernel)
theorem tb_m132 : Cond.methodLink (sn_R 8) 44 (pY 56) ∈ lw_tbl := List.mem_of_getElem? (i := 442) (by decide +kernel)
theorem tb_m133 : Cond.methodLink (sn_R 8) 47 (pY 131) ∈ lw_tbl := List.mem_of_getElem? (i := 871) (by decide +kernel)
theorem tb_m134 : Cond.methodLink (sn_R 8) 48 (pY 57) ∈ lw_tbl := List.mem_of_getElem? (i := 463) (by decide +kernel)
theorem tb_m135 : Cond.methodLink (sn_R 8) 51 (pY 132) ∈ lw_tbl := List.mem_of_getElem? (i := 879) (by decide +kernel)
theorem tb_m136 : Cond.methodLink (sn_R 8) 52 (pY 58) ∈ lw_tbl := List.mem_of_getElem? (i := 484) (by decide +kernel)
theorem tb_m137 : Cond.methodLink (sn_R 8) 56 (pY 137) ∈ lw_tbl := List.mem_of_getElem? (i := 895) (by decide +kernel)
theorem tb_m138 : Cond.methodLink (sn_R 8) 57 (pY 59) ∈ lw_tbl := List.mem_of_getElem? (i := 507) (by decide +kernel)
theorem tb_m139 : Cond.methodLink (sn_R 8) 60 (pY 140) ∈ lw_tbl := List.mem_of_getElem? (i := 915) (by decide +kernel)
theorem tb_m140 : Cond.methodLink (sn_R 8) 61 (pY 60) ∈ lw_tbl := List.mem_of_getElem? (i := 517) (by decide +kernel)
theorem tb_m141 : Cond.methodLink (sn_R 8) 64 (pY 141) ∈ lw_tbl := List.mem_of_getElem? (i := 927) (by decide +kernel)
theorem tb_m142 : Cond.methodLink (sn_R 8) 65 (pY 61) ∈ lw_tbl := List.mem_of_getElem? (i := 521) (by decide +kernel)
theorem tb_m143 : Cond.methodLink (sn_R 8) 68 (pY 142) ∈ lw_tbl := List.mem_of_getElem? (i := 931) (by decide +kernel)
theorem tb_m144 : Cond.methodLink (sn_R 8) 69 (pY 62) ∈ lw_tbl := List.mem_of_getElem? (i := 529) (by decide +kernel)
theorem tb_m145 : Cond.methodLink (sn_R 8) 72 (pY 144) ∈ lw_tbl := List.mem_of_getElem? (i := 939) (by decide +kernel)
theorem tb_m146 : Cond.methodLink (sn_R 8) 73 (pY 63) ∈ lw_tbl := List.mem_of_getElem? (i := 547) (by decide +kernel)
theorem tb_m147 : Cond.methodLink (sn_R 8) 76 (pY 145) ∈ lw_tbl := List.mem_of_getElem? (i := 948) (by decide +kernel)
theorem tb_m148 : Cond.methodLink (sn_R 8) 77 (pY 64) ∈ lw_tbl := List.mem_of_getElem? (i := 551) (by decide +kernel)
theorem tb_m149 : Cond.methodLink (sn_R 8) 80 (pY 146) ∈ lw_tbl := List.mem_of_getElem? (i := 952) (by decide +kernel)
theorem tb_m150 : Cond.methodLink (sn_R 8) 81 (pY 65) ∈ lw_tbl := List.mem_of_getElem? (i := 559) (by decide +kernel)
theorem tb_m151 : Cond.methodLink (sn_R 8) 84 (pY 147) ∈ lw_tbl := List.mem_of_getElem? (i := 956) (by decide +kernel)
theorem tb_m152 : Cond.methodLink (sn_R 8) 85 (pY 66) ∈ lw_tbl := List.mem_of_getElem? (i := 567) (by decide +kernel)
theorem tb_m153 : Cond.methodLink (sn_R 8) 88 (pY 148) ∈ lw_tbl := List.mem_of_getElem? (i := 961) (by decide +kernel)
theorem tb_m154 : Cond.methodLink (sn_R 8) 89 (pY 67) ∈ lw_tbl := List.mem_of_getElem? (i := 575) (by decide +kernel)
theorem tb_m155 : Cond.methodLink (sn_R 8) 92 (pY 149) ∈ lw_tbl := List.mem_of_getElem? (i := 965) (by decide +kernel)
theorem tb_m156 : Cond.methodLink (sn_R 8) 93 (pY 68) ∈ lw_tbl := List.mem_of_getElem? (i := 587) (by decide +kernel)
theorem tb_m157 : Cond.methodLink (sn_R 8) 96 (pY 152) ∈ lw_tbl := List.mem_of_getElem? (i := 970) (by decide +kernel)
theorem tb_m158 : Cond.methodLink (sn_R 8) 97 (pY 69) ∈ lw_tbl := List.mem_of_getElem? (i := 606) (by decide +kernel)
theorem tb_m159 : Cond.methodLink (sn_R 8) 100 (pY 153) ∈ lw_tbl := List.mem_of_getElem? (i := 983) (by decide +kernel)
theorem tb_m160 : Cond.methodLink (sn_R 8) 101 (pY 70) ∈ lw_tbl := List.mem_of_getElem? (i := 612) (by decide +kernel)
theorem tb_m161 : Cond.methodLink (sn_R 8) 104 (pY 154) ∈ lw_tbl := List.mem_of_getElem? (i := 987) (by decide +kernel)
theorem tb_m162 : Cond.methodLink (sn_R 8) 105 (pY 71) ∈ lw_tbl := List.mem_of_getElem? (i := 620) (by decide +kernel)
theorem tb_m163 : Cond.methodLink (sn_R 8) 108 (pY 155) ∈ lw_tbl := List.mem_of_getElem? (i := 992) (by decide +kernel)
theorem tb_m164 : Cond.methodLink (sn_R 8) 109 (pY 72) ∈ lw_tbl := List.mem_of_getElem? (i := 624) (by decide +kernel)
theorem tb_m165 : Cond.methodLink (sn_R 8) 112 (pY 156) ∈ lw_tbl := List.mem_of_getElem? (i := 996) (by decide +kernel)
theorem tb_m166 : Cond.methodLink (sn_R 8) 113 (pY 73) ∈ lw_tbl := List.mem_of_getElem? (i := 633) (by decide +kernel)
theorem tb_m167 : Cond.methodLink (sn_R 8) 116 (pY 157) ∈ lw_tbl := List.mem_of_getElem? (i := 1000) (by decide +kernel)
theorem tb_m168 : Cond.methodLink (sn_R 8) 117 (pY 74) ∈ lw_tbl := List.mem_of_getElem? (i := 637) (by decide +kernel)
theorem tb_m169 : Cond.methodLink (sn_R 8) 121 (pY 158) ∈ lw_tbl := List.mem_of_getElem? (i := 1004) (by decide +kernel)
theorem tb_m170 : Cond.methodLink (sn_R 8) 122 (pY 75) ∈ lw_tbl := List.mem_of_getElem? (i := 651) (by decide +kernel)
theorem tb_m171 : Cond.methodLink (sn_R 8) 125 (pY 160) ∈ lw_tbl := List.mem_of_getElem? (i := 1010) (by decide +kernel)
theorem tb_m172 : Cond.methodLink (sn_R 8) 126 (pY 76) ∈ lw_tbl := List.mem_of_getElem? (i := 670) (by decide +kernel)
theorem tb_m173 : Cond.methodLink (sn_R 8) 129 (pY 161) ∈ lw_tbl := List.mem_of_getElem? (i := 1026) (by decide +kernel)
theorem tb_m174 : Cond.methodLink (sn_R 8) 130 (pY 77) ∈ lw_tbl := List.mem_of_getElem? (i := 674) (by decide +kernel)
theorem tb_m175 : Cond.methodLink (sn_R 8) 133 (pY 162) ∈ lw_tbl := List.mem_of_getElem? (i := 1030) (by decide +kernel)
theorem tb_m176 : Cond.methodLink (sn_R 8) 134 (pY 78) ∈ lw_tbl := List.mem_of_getElem? (i := 678) (by decide +kernel)
theorem tb_m177 : Cond.methodLink (sn_R 8) 137 (pY 164) ∈ lw_tbl := List.mem_of_getElem? (i := 1034) (by decide +kernel)
def tb_ml : List (Nat × Nat × Nat) := [(0, 15, 2), (0, 29, 41), (0, 35, 3), (0, 45, 17), (1, 22, 44), (2, 31, 38), (2, 35, 39), (2, 39, 40), (2, 47, 42), (2, 59, 41), (2, 81, 17), (2, 85, 44), (2, 89, 45), (2, 93, 15), (2, 96, 47), (2, 100, 18), (2, 104, 20), (2, 107, 24), (2, 117, 14), (3, 22, 9), (3, 30, 29), (3, 34, 32), (3, 38, 30), (3, 42, 34), (3, 45, 35), (3, 48, 36), (3, 51, 31), (3, 54, 33), (3, 64, 11), (3, 80, 40), (3, 89, 42), (3, 93, 43), (4, 54, 46), (5, 32, 8), (5, 59, 26), (5, 63, 28), (5, 67, 27), (5, 70, 82), (5, 80, 10), (5, 84, 6), (5, 91, 79), (5, 119, 40), (5, 129, 41), (5, 141, 83), (5, 145, 80), (5, 148, 44), (5, 152, 16), (5, 155, 18), (5, 158, 12), (5, 161, 87), (5, 164, 13), (5, 168, 84), (5, 172, 81), (5, 175, 43), (5, 179, 19), (5, 183, 14), (5, 188, 23), (5, 194, 86), (5, 198, 21), (5, 201, 15), (5, 209, 85), (5, 213, 47), (5, 217, 89), (5, 229, 1), (5, 236, 45), (5, 239, 46), (5, 243, 5), (5, 246, 7), (5, 249, 91), (5, 253, 92), (5, 256, 93), (5, 259, 94), (5, 262, 95), (5, 266, 165), (5, 272, 22), (5, 275, 20), (5, 278, 88), (5, 281, 90), (6, 47, 101), (6, 50, 102), (6, 54, 103), (6, 58, 104), (6, 68, 105), (6, 72, 97), (6, 86, 109), (6, 98, 110), (6, 102, 111), (6, 105, 112), (6, 108, 113), (6, 114, 114), (6, 118, 115), (6, 131, 118), (6, 134, 119), (6, 137, 99), (6, 140, 120), (6, 144, 122), (6, 148, 123), (6, 152, 124), (6, 155, 121), (6, 158, 106), (6, 164, 127), (6, 170, 126), (6, 173, 125), (6, 176, 98), (6, 181, 134), (6, 185, 133), (6, 188, 135), (6, 194, 139), (6, 197, 138), (6, 201, 136), (6, 206, 143), (6, 214, 150), (6, 219, 151), (6, 238, 159), (6, 241, 100), (6, 244, 163), (8, 9, 48), (8, 12, 96), (8, 13, 49), (8, 17, 107), (8, 18, 50), (8, 22, 108), (8, 23, 51), (8, 26, 116), (8, 27, 52), (8, 30, 117), (8, 31, 53), (8, 35, 128), (8, 36, 54), (8, 39, 129), (8, 40, 55), (8, 43, 130), (8, 44, 56), (8, 47, 131), (8, 48, 57), (8, 51, 132), (8, 52, 58), (8, 56, 137), (8, 57, 59), (8, 60, 140), (8, 61, 60), (8, 64, 141), (8, 65, 61), (8, 68, 142), (8, 69, 62), (8, 72, 144), (8, 73, 63), (8, 76, 145), (8, 77, 64), (8, 80, 146), (8, 81, 65), (8, 84, 147), (8, 85, 66), (8, 88, 148), (8, 89, 67), (8, 92, 149), (8, 93, 68), (8, 96, 152), (8, 97, 69), (8, 100, 153), (8, 101, 70), (8, 104, 154), (8, 105, 71), (8, 108, 155), (8, 109, 72), (8, 112, 156), (8, 113, 73), (8, 116, 157), (8, 117, 74), (8, 121, 158), (8, 122, 75), (8, 125, 160), (8, 126, 76), (8, 129, 161), (8, 130, 77), (8, 133, 162), (8, 134, 78), (8, 137, 164)]
set_option maxRecDepth 100000 in
theorem tb_ml_ok : ∀ q ∈ tb_ml, Cond.methodLink (sn_R q.1) q.2.1 (pY q.2.2) ∈ lw_tbl := List.forall_mem_cons.mpr ⟨tb_m0, List.forall_mem_cons.mpr ⟨tb_m1, List.forall_mem_cons.mpr ⟨tb_m2, List.forall_mem_cons.mpr ⟨tb_m3, List.forall_mem_cons.mpr ⟨tb_m4, List.forall_mem_cons.mpr ⟨tb_m5, List.forall_mem_cons.mpr ⟨tb_m6, List.forall_mem_cons.mpr ⟨tb_m7, List.forall_mem_cons.mpr ⟨tb_m8, List.forall_mem_cons.mpr ⟨tb_m9, List.forall_mem_cons.mpr ⟨tb_m10, List.forall_mem_cons.mpr ⟨tb_m11, List.forall_mem_cons.mpr ⟨tb_m12, List.forall_mem_cons.mpr ⟨tb_m13, List.forall_mem_cons.mpr ⟨tb_m14, List.forall_mem_cons.mpr ⟨tb_m15, List.forall_mem_cons.mpr ⟨tb_m16, List.forall_mem_cons.mpr ⟨tb_m17, List.forall_mem_cons.mpr ⟨tb_m18, List.forall_mem_cons.mpr ⟨tb_m19, List.forall_mem_cons.mpr ⟨tb_m20, List.forall_mem_cons.mpr ⟨tb_m21, List.forall_mem_cons.mpr ⟨tb_m22, List.forall_mem_cons.mpr ⟨tb_m23, List.forall_mem_cons.mpr ⟨tb_m24, List.forall_mem_cons.mpr ⟨tb_m25, List.forall_mem_cons.mpr ⟨tb_m26, List.forall_mem_cons.mpr ⟨tb_m27, List.forall_mem_cons.mpr ⟨tb_m28, List.forall_mem_cons.mpr ⟨tb_m29, List.forall_mem_cons.mpr ⟨tb_m30, List.forall_mem_cons.mpr ⟨tb_m31, List.forall_mem_cons.mpr ⟨tb_m32, List.forall_mem_cons.mpr ⟨tb_m33, List.forall_mem_cons.mpr ⟨tb_m34, List.forall_mem_cons.mpr ⟨tb_m35, List.forall_mem_cons.mpr ⟨tb_m36, List.forall_mem_cons.mpr ⟨tb_m37, List.forall_mem_cons.mpr ⟨tb_m38, List.forall_mem_cons.mpr ⟨tb_m39, List.forall_mem_cons.mpr ⟨tb_m40, List.forall_mem_cons.mpr ⟨tb_m41, List.forall_mem_cons.mpr ⟨tb_m42, List.forall_mem_cons.mpr ⟨tb_m43, List.forall_mem_cons.mpr ⟨tb_m44, List.forall_mem_cons.mpr ⟨tb_m45, List.forall_mem_cons.mpr ⟨tb_m46, List.forall_mem_cons.mpr ⟨tb_m47, List.forall_mem_cons.mpr ⟨tb_m48, List.forall_mem_cons.mpr ⟨tb_m49, List.forall_mem_cons.mpr ⟨tb_m50, List.forall_mem_cons.mpr ⟨tb_m51, List.forall_mem_cons.mpr ⟨tb_m52, List.forall_mem_cons.mpr ⟨tb_m53, List.forall_mem_cons.mpr ⟨tb_m54, List.forall_mem_cons.mpr ⟨tb_m55, List.forall_mem_cons.mpr ⟨tb_m56, List.forall_mem_cons.mpr ⟨tb_m57, List.forall_mem_cons.mpr ⟨tb_m58, List.forall_mem_cons.mpr ⟨tb_m59, List.forall_mem_cons.mpr ⟨tb_m60, List.forall_mem_cons.mpr ⟨tb_m61, List.forall_mem_cons.mpr ⟨tb_m62, List.forall_mem_cons.mpr ⟨tb_m63, List.forall_mem_cons.mpr ⟨tb_m64, List.forall_mem_cons.mpr ⟨tb_m65, List.forall_mem_cons.mpr ⟨tb_m66, List.forall_mem_cons.mpr ⟨tb_m67, List.forall_mem_cons.mpr ⟨tb_m68, List.forall_mem_cons.mpr ⟨tb_m69, List.forall_mem_cons.mpr ⟨tb_m70, List.forall_mem_cons.mpr ⟨tb_m71, List.forall_mem_cons.mpr ⟨tb_m72, List.forall_mem_cons.mpr ⟨tb_m73, List.forall_mem_cons.mpr ⟨tb_m74, List.forall_mem_cons.mpr ⟨tb_m75, List.forall_mem_cons.mpr ⟨tb_m76, List.forall_mem_cons.mpr ⟨tb_m77, List.forall_mem_cons.mpr ⟨tb_m78, List.forall_mem_cons.mpr ⟨tb_m79, List.forall_mem_cons.mpr ⟨tb_m80, List.forall_mem_cons.mpr ⟨tb_m81, List.forall_mem_cons.mpr ⟨tb_m82, List.forall_mem_cons.mpr ⟨tb_m83, List.forall_mem_cons.mpr ⟨tb_m84, List.forall_mem_cons.mpr ⟨tb_m85, List.forall_mem_cons.mpr ⟨tb_m86, List.forall_mem_cons.mpr ⟨tb_m87, List.forall_mem_cons.mpr ⟨tb_m88, List.forall_mem_cons.mpr ⟨tb_m89, List.forall_mem_cons.mpr ⟨tb_m90, List.forall_mem_cons.mpr ⟨tb_m91, List.forall_mem_cons.mpr ⟨tb_m92, List.forall_mem_cons.mpr ⟨tb_m93, List.forall_mem_cons.mpr ⟨tb_m94, List.forall_mem_cons.mpr ⟨tb_m95, List.forall_mem_cons.mpr ⟨tb_m96, List.forall_mem_cons.mpr ⟨tb_m97, List.forall_mem_cons.mpr ⟨tb_m98, List.forall_mem_cons.mpr ⟨tb_m99, List.forall_mem_cons.mpr ⟨tb_m100, List.forall_mem_cons.mpr ⟨tb_m101, List.forall_mem_cons.mpr ⟨tb_m102, List.forall_mem_cons.mpr ⟨tb_m103, List.forall_mem_cons.mpr ⟨tb_m104, List.forall_mem_cons.mpr ⟨tb_m105, List.forall_mem_cons.mpr ⟨tb_m106, List.forall_mem_cons.mpr ⟨tb_m107, List.forall_mem_cons.mpr ⟨tb_m108, List.forall_mem_cons.mpr ⟨tb_m109, List.forall_mem_cons.mpr ⟨tb_m110, List.forall_mem_cons.mpr ⟨tb_m111, List.forall_mem_cons.mpr ⟨tb_m112, List.forall_mem_cons.mpr ⟨tb_m113, List.forall_mem_cons.mpr ⟨tb_m114, List.forall_mem_cons.mpr ⟨tb_m115, List.forall_mem_cons.mpr ⟨tb_m116, List.forall_mem_cons.mpr ⟨tb_m117, List.forall_mem_cons.mpr ⟨tb_m118, List.forall_mem_cons.mpr ⟨tb_m119, List.forall_mem_cons.mpr ⟨tb_m120, List.forall_mem_cons.mpr ⟨tb_m121, List.forall_mem_cons.mpr ⟨tb_m122, List.forall_mem_cons.mpr ⟨tb_m123, List.forall_mem_cons.mpr ⟨tb_m124, List.forall_mem_cons.mpr ⟨tb_m125, List.forall_mem_cons.mpr ⟨tb_m126, List.forall_mem_cons.mpr ⟨tb_m127, List.forall_mem_cons.mpr ⟨tb_m128, List.forall_mem_cons.mpr ⟨tb_m129, List.forall_mem_cons.mpr ⟨tb_m130, List.forall_mem_cons.mpr ⟨tb_m131, List.forall_mem_cons.mpr ⟨tb_m132, List.forall_mem_cons.mpr ⟨tb_m133, List.forall_mem_cons.mpr ⟨tb_m134, List.forall_mem_cons.mpr ⟨tb_m135, List.forall_mem_cons.mpr ⟨tb_m136, List.forall_mem_cons.mpr ⟨tb_m137, List.forall_mem_cons.mpr ⟨tb_m138, List.forall_mem_cons.mpr ⟨tb_m139, List.forall_mem_cons.mpr ⟨tb_m140, List.forall_mem_cons.mpr ⟨tb_m141, List.forall_mem_cons.mpr ⟨tb_m142, List.forall_mem_cons.mpr ⟨tb_m143, List.forall_mem_cons.mpr ⟨tb_m144, List.forall_mem_cons.mpr ⟨tb_m145, List.forall_mem_cons.mpr ⟨tb_m146, List.forall_mem_cons.mpr ⟨tb_m147, List.forall_mem_cons.mpr ⟨tb_m148, List.forall_mem_cons.mpr ⟨tb_m149, List.forall_mem_cons.mpr ⟨tb_m150, List.forall_mem_cons.mpr ⟨tb_m151, List.forall_mem_cons.mpr ⟨tb_m152, List.forall_mem_cons.mpr ⟨tb_m153, List.forall_mem_cons.mpr ⟨tb_m154, List.forall_mem_cons.mpr ⟨tb_m155, List.forall_mem_cons.mpr ⟨tb_m156, List.forall_mem_cons.mpr ⟨tb_m157, List.forall_mem_cons.mpr ⟨tb_m158, List.forall_mem_cons.mpr ⟨tb_m159, List.forall_mem_cons.mpr ⟨tb_m160, List.forall_mem_cons.mpr ⟨tb_m161, List.forall_mem_cons.mpr ⟨tb_m162, List.forall_mem_cons.mpr ⟨tb_m163, List.forall_mem_cons.mpr ⟨tb_m164, List.forall_mem_cons.mpr ⟨tb_m165, List.forall_mem_cons.mpr ⟨tb_m166, List.forall_mem_cons.mpr ⟨tb_m167, List.forall_mem_cons.mpr ⟨tb_m168, List.forall_mem_cons.mpr ⟨tb_m169, List.forall_mem_cons.mpr ⟨tb_m170, List.forall_mem_cons.mpr ⟨tb_m171, List.forall_mem_cons.mpr ⟨tb_m172, List.forall_mem_cons.mpr ⟨tb_m173, List.forall_mem_cons.mpr ⟨tb_m174, List.forall_mem_cons.mpr ⟨tb_m175, List.forall_mem_cons.mpr ⟨tb_m176, List.forall_mem_cons.mpr ⟨tb_m177, fun _ h => absurd h List.not_mem_nil⟩⟩⟩⟩⟩⟩⟩⟩⟩⟩⟩⟩⟩⟩⟩⟩⟩⟩⟩⟩⟩⟩⟩⟩⟩⟩⟩⟩⟩⟩⟩⟩⟩⟩⟩⟩⟩⟩⟩⟩⟩⟩⟩⟩⟩⟩⟩⟩⟩⟩⟩⟩⟩⟩⟩⟩⟩⟩⟩⟩⟩⟩⟩⟩⟩⟩⟩⟩⟩⟩⟩⟩⟩⟩⟩⟩⟩⟩⟩⟩⟩⟩⟩⟩⟩⟩⟩⟩⟩⟩⟩⟩⟩⟩⟩⟩⟩⟩⟩⟩⟩⟩⟩⟩⟩⟩⟩⟩⟩⟩⟩⟩⟩⟩⟩⟩⟩⟩⟩⟩⟩⟩⟩⟩⟩⟩⟩⟩⟩⟩⟩⟩⟩⟩⟩⟩⟩⟩⟩⟩⟩⟩⟩⟩⟩⟩⟩⟩⟩⟩⟩⟩⟩⟩⟩⟩⟩⟩⟩⟩⟩⟩⟩⟩⟩⟩⟩⟩⟩⟩⟩⟩⟩⟩⟩⟩⟩⟩
theorem tb_n0 : Cond.methodLinkNest (sn_R 2) 17 (pY 37) RX5 ∈ lw_tbl := List.mem_of_getElem? (i := 128) (by decide +kernel)
theorem tb_n1 : Cond.methodLinkNest (sn_R 2) 71 (pY 85) RX5 ∈ lw_tbl := List.mem_of_getElem? (i := 475) (by decide +kernel)
theorem tb_n2 : Cond.methodLinkNest (sn_R 3) 57 (pY 82) RX5 ∈ lw_tbl := List.mem_of_getElem? (i := 295) (by decide +kernel)
theorem tb_n3 : Cond.methodLinkNest (sn_R 3) 61 (pY 80) RX5 ∈ lw_tbl := List.mem_of_getElem? (i := 302) (by decide +kernel)
theorem tb_n4 : Cond.methodLinkNest (sn_R 3) 86 (pY 81) RX5 ∈ lw_tbl := List.mem_of_getElem? (i := 326) (by decide +kernel)
theorem tb_n5 : Cond.methodLinkNest (sn_R 4) 46 (pY 84) RX5 ∈ lw_tbl := List.mem_of_getElem? (i := 333) (by decide +kernel)
theorem tb_n6 : Cond.methodLinkNest (sn_R 4) 50 (pY 85) RX5 ∈ lw_tbl := List.mem_of_getElem? (i := 439) (by decide +kernel)
theorem tb_n7 : Cond.methodLinkNest (sn_R 5) 9 (pY 25) RX5 ∈ lw_tbl := List.mem_of_getElem? (i := 72) (by decide +kernel)
theorem tb_n8 : Cond.methodLinkNest (sn_R 5) 18 (pY 4) RX5 ∈ lw_tbl := List.mem_of_getElem? (i := 93) (by decide +kernel)
theorem tb_n9 : Cond.methodLinkNest (sn_R 5) 25 (pY 0) RX5 ∈ lw_tbl := List.mem_of_getElem? (i := 110) (by decide +kernel)
def tb_nl : List (Nat × Nat × Nat) := [(2, 17, 37), (2, 71, 85), (3, 57, 82), (3, 61, 80), (3, 86, 81), (4, 46, 84), (4, 50, 85), (5, 9, 25), (5, 18, 4), (5, 25, 0)]
set_option maxRecDepth 100000 in
theorem tb_nl_ok : ∀ q ∈ tb_nl, Cond.methodLinkNest (sn_R q.1) q.2.1 (pY q.2.2) RX5 ∈ lw_tbl := List.forall_mem_cons.mpr ⟨tb_n0, List.forall_mem_cons.mpr ⟨tb_n1, List.forall_mem_cons.mpr ⟨tb_n2, List.forall_mem_cons.mpr ⟨tb_n3, List.forall_mem_cons.mpr ⟨tb_n4, List.forall_mem_cons.mpr ⟨tb_n5, List.forall_mem_cons.mpr ⟨tb_n6, List.forall_mem_cons.mpr ⟨tb_n7, List.forall_mem_cons.mpr ⟨tb_n8, List.forall_mem_cons.mpr ⟨tb_n9, fun _ h => absurd h List.not_mem_nil⟩⟩⟩⟩⟩⟩⟩⟩⟩⟩
theorem tb_c0 : Cond.constant (sn_R 7) 265 1431655765 ∈ lw_tbl := List.mem_of_getElem? (i := 667) (by decide +kernel)
theorem tb_c1 : Cond.constant (sn_R 7) 266 858993459 ∈ lw_tbl := List.mem_of_getElem? (i := 668) (by decide +kernel)
theorem tb_c2 : Cond.constant (sn_R 7) 267 252645135 ∈ lw_tbl := List.mem_of_getElem? (i := 669) (by decide +kernel)
def tb_ci : List (Nat × Nat × Int32) := [(7, 265, 1431655765), (7, 266, 858993459), (7, 267, 252645135)]
set_option maxRecDepth 100000 in
theorem tb_ci_ok : ∀ q ∈ tb_ci, Cond.constant (sn_R q.1) q.2.1 q.2.2 ∈ lw_tbl := List.forall_mem_cons.mpr ⟨tb_c0, List.forall_mem_cons.mpr ⟨tb_c1, List.forall_mem_cons.mpr ⟨tb_c2, fun _ h => absurd h List.not_mem_nil⟩⟩⟩
theorem tb_l0 : Cond.constantLong (sn_R 5) 284 (Int32.toInt64 7919) ∈ lw_tbl := List.mem_of_getElem? (i := 658) (by decide +kernel)
theorem tb_l1 : Cond.constantLong (sn_R 5) 286 (Int32.toInt64 6151) ∈ lw_tbl := List.mem_of_getElem? (i := 659) (by decide +kernel)
theorem tb_l2 : Cond.constantLong (sn_R 5) 288 (Int32.toInt64 65521) ∈ lw_tbl := List.mem_of_getElem? (i := 660) (by decide +kernel)
theorem tb_l3 : Cond.constantLong (sn_R 6) 76 (Int32.toInt64 32) ∈ lw_tbl := List.mem_of_getElem? (i := 781) (by decide +kernel)
theorem tb_l4 : Cond.constantLong (sn_R 6) 78 (Int32.toInt64 126) ∈ lw_tbl := List.mem_of_getElem? (i := 782) (by decide +kernel)
theorem tb_l5 : Cond.constantLong (sn_R 6) 90 (Int32.toInt64 48) ∈ lw_tbl := List.mem_of_getElem? (i := 814) (by decide +kernel)
theorem tb_l6 : Cond.constantLong (sn_R 6) 92 (Int32.toInt64 57) ∈ lw_tbl := List.mem_of_getElem? (i := 815) (by decide +kernel)
theorem tb_l7 : Cond.constantLong (sn_R 6) 162 (Int32.toInt64 5) ∈ lw_tbl := List.mem_of_getElem? (i := 836) (by decide +kernel)
theorem tb_l8 : Cond.constantLong (sn_R 6) 168 (Int32.toInt64 40) ∈ lw_tbl := List.mem_of_getElem? (i := 860) (by decide +kernel)
theorem tb_l9 : Cond.constantLong (sn_R 6) 179 (Int32.toInt64 30) ∈ lw_tbl := List.mem_of_getElem? (i := 899) (by decide +kernel)
theorem tb_l10 : Cond.constantLong (sn_R 6) 192 (Int32.toInt64 23) ∈ lw_tbl := List.mem_of_getElem? (i := 922) (by decide +kernel)
theorem tb_l11 : Cond.constantLong (sn_R 6) 204 (Int32.toInt64 24) ∈ lw_tbl := List.mem_of_getElem? (i := 943) (by decide +kernel)
theorem tb_l12 : Cond.constantLong (sn_R 6) 210 (Int32.toInt64 60) ∈ lw_tbl := List.mem_of_getElem? (i := 960) (by decide +kernel)
theorem tb_l13 : Cond.constantLong (sn_R 6) 212 (Int32.toInt64 2) ∈ lw_tbl := List.mem_of_getElem? (i := 969) (by decide +kernel)
theorem tb_l14 : Cond.constantLong (sn_R 6) 217 (Int32.toInt64 (-1)) ∈ lw_tbl := List.mem_of_getElem? (i := 974) (by decide +kernel)
theorem tb_l15 : Cond.constantLong (sn_R 6) 222 (Int32.toInt64 99) ∈ lw_tbl := List.mem_of_getElem? (i := 991) (by decide +kernel)
theorem tb_l16 : Cond.constantLong (sn_R 6) 224 (Int32.toInt64 8) ∈ lw_tbl := List.mem_of_getElem? (i := 1008) (by decide +kernel)
theorem tb_l17 : Cond.constantLong (sn_R 6) 226 (Int32.toInt64 10) ∈ lw_tbl := List.mem_of_getElem? (i := 1009) (by decide +kernel)
theorem tb_l18 : Cond.constantLong (sn_R 6) 228 (Int32.toInt64 3) ∈ lw_tbl := List.mem_of_getElem? (i := 1022) (by decide +kernel)
theorem tb_l19 : Cond.constantLong (sn_R 6) 230 (Int32.toInt64 9999) ∈ lw_tbl := List.mem_of_getElem? (i := 1014) (by decide +kernel)
theorem tb_l20 : Cond.constantLong (sn_R 6) 232 (Int32.toInt64 7919) ∈ lw_tbl := List.mem_of_getElem? (i := 1015) (by decide +kernel)
theorem tb_l21 : Cond.constantLong (sn_R 6) 234 (Int32.toInt64 6151) ∈ lw_tbl := List.mem_of_getElem? (i := 1016) (by decide +kernel)
theorem tb_l22 : Cond.constantLong (sn_R 6) 236 (Int32.toInt64 65521) ∈ lw_tbl := List.mem_of_getElem? (i := 1017) (by decide +kernel)
def tb_cl : List (Nat × Nat × Int32) := [(5, 284, 7919), (5, 286, 6151), (5, 288, 65521), (6, 76, 32), (6, 78, 126), (6, 90, 48), (6, 92, 57), (6, 162, 5), (6, 168, 40), (6, 179, 30), (6, 192, 23), (6, 204, 24), (6, 210, 60), (6, 212, 2), (6, 217, (-1)), (6, 222, 99), (6, 224, 8), (6, 226, 10), (6, 228, 3), (6, 230, 9999), (6, 232, 7919), (6, 234, 6151), (6, 236, 65521)]
set_option maxRecDepth 100000 in
theorem tb_cl_ok : ∀ q ∈ tb_cl, Cond.constantLong (sn_R q.1) q.2.1 q.2.2.toInt64 ∈ lw_tbl := List.forall_mem_cons.mpr ⟨tb_l0, List.forall_mem_cons.mpr ⟨tb_l1, List.forall_mem_cons.mpr ⟨tb_l2, List.forall_mem_cons.mpr ⟨tb_l3, List.forall_mem_cons.mpr ⟨tb_l4, List.forall_mem_cons.mpr ⟨tb_l5, List.forall_mem_cons.mpr ⟨tb_l6, List.forall_mem_cons.mpr ⟨tb_l7, List.forall_mem_cons.mpr ⟨tb_l8, List.forall_mem_cons.mpr ⟨tb_l9, List.forall_mem_cons.mpr ⟨tb_l10, List.forall_mem_cons.mpr ⟨tb_l11, List.forall_mem_cons.mpr ⟨tb_l12, List.forall_mem_cons.mpr ⟨tb_l13, List.forall_mem_cons.mpr ⟨tb_l14, List.forall_mem_cons.mpr ⟨tb_l15, List.forall_mem_cons.mpr ⟨tb_l16, List.forall_mem_cons.mpr ⟨tb_l17, List.forall_mem_cons.mpr ⟨tb_l18, List.forall_mem_cons.mpr ⟨tb_l19, List.forall_mem_cons.mpr ⟨tb_l20, List.forall_mem_cons.mpr ⟨tb_l21, List.forall_mem_cons.mpr ⟨tb_l22, fun _ h => absurd h List.not_mem_nil⟩⟩⟩⟩⟩⟩⟩⟩⟩⟩⟩⟩⟩⟩⟩⟩⟩⟩⟩⟩⟩⟩⟩
theorem tb_k0 : Cond.classLink (sn_R 2) 9 (sn_R 4) ∈ lw_tbl := List.mem_of_getElem? (i := 125) (by decide +kernel)
theorem tb_k1 : Cond.classLink (sn_R 5) 7 (sn_R 3) ∈ lw_tbl := List.mem_of_getElem? (i := 70) (by decide +kernel)
theorem tb_k2 : Cond.classLink (sn_R 5) 16 (sn_R 1) ∈ lw_tbl := List.mem_of_getElem? (i := 91) (by decide +kernel)
theorem tb_k3 : Cond.classLink (sn_R 5) 23 (sn_R 0) ∈ lw_tbl := List.mem_of_getElem? (i := 108) (by decide +kernel)
theorem tb_k4 : Cond.classLink (sn_R 5) 30 (sn_R 2) ∈ lw_tbl := List.mem_of_getElem? (i := 119) (by decide +kernel)
theorem tb_k5 : Cond.classLink (sn_R 8) 7 (sn_R 5) ∈ lw_tbl := List.mem_of_getElem? (i := 62) (by decide +kernel)
theorem tb_k6 : Cond.classLink (sn_R 8) 10 (sn_R 6) ∈ lw_tbl := List.mem_of_getElem? (i := 687) (by decide +kernel)
def tb_kl : List (Nat × Nat × Nat) := [(2, 9, 4), (5, 7, 3), (5, 16, 1), (5, 23, 0), (5, 30, 2), (8, 7, 5), (8, 10, 6)]
set_option maxRecDepth 100000 in
theorem tb_kl_ok : ∀ q ∈ tb_kl, Cond.classLink (sn_R q.1) q.2.1 (sn_R q.2.2) ∈ lw_tbl := List.forall_mem_cons.mpr ⟨tb_k0, List.forall_mem_cons.mpr ⟨tb_k1, List.forall_mem_cons.mpr ⟨tb_k2, List.forall_mem_cons.mpr ⟨tb_k3, List.forall_mem_cons.mpr ⟨tb_k4, List.forall_mem_cons.mpr ⟨tb_k5, List.forall_mem_cons.mpr ⟨tb_k6, fun _ h => absurd h List.not_mem_nil⟩⟩⟩⟩⟩⟩⟩
theorem tb_x0 : Cond.methodLink (sn_R 0) 39 Lib.Math.max.name ∈ lw_tbl := List.mem_of_getElem? (i := 605) (by decide +kernel)
theorem tb_x1 : Cond.methodLink (sn_R 2) 75 Lib.Math.max.name ∈ lw_tbl := List.mem_of_getElem? (i := 460) (by decide +kernel)
theorem tb_x2 : Cond.methodLink (sn_R 5) 204 Lib.Math.max.name ∈ lw_tbl := List.mem_of_getElem? (i := 572) (by decide +kernel)
def tb_mx : List (Nat × Nat) := [(0, 39), (2, 75), (5, 204)]
set_option maxRecDepth 100000 in
theorem tb_mx_ok : ∀ q ∈ tb_mx, Cond.methodLink (sn_R q.1) q.2 Lib.Math.max.name ∈ lw_tbl := List.forall_mem_cons.mpr ⟨tb_x0, List.forall_mem_cons.mpr ⟨tb_x1, List.forall_mem_cons.mpr ⟨tb_x2, fun _ h => absurd h List.not_mem_nil⟩⟩⟩
theorem tb_o0 : Cond.methodLink (sn_R 0) 3 objectInit ∈ lw_tbl := List.mem_of_getElem? (i := 113) (by decide +kernel)
theorem tb_o1 : Cond.methodLink (sn_R 1) 3 objectInit ∈ lw_tbl := List.mem_of_getElem? (i := 96) (by decide +kernel)
theorem tb_o2 : Cond.methodLink (sn_R 2) 3 objectInit ∈ lw_tbl := List.mem_of_getElem? (i := 124) (by decide +kernel)
theorem tb_o3 : Cond.methodLink (sn_R 3) 3 objectInit ∈ lw_tbl := List.mem_of_getElem? (i := 75) (by decide +kernel)
theorem tb_o4 : Cond.methodLink (sn_R 4) 3 objectInit ∈ lw_tbl := List.mem_of_getElem? (i := 131) (by decide +kernel)
theorem tb_o5 : Cond.methodLink (sn_R 5) 1 objectInit ∈ lw_tbl := List.mem_of_getElem? (i := 67) (by decide +kernel)
theorem tb_o6 : Cond.methodLink (sn_R 6) 1 objectInit ∈ lw_tbl := List.mem_of_getElem? (i := 692) (by decide +kernel)
def tb_oi : List (Nat × Nat) := [(0, 3), (1, 3), (2, 3), (3, 3), (4, 3), (5, 1), (6, 1)]
set_option maxRecDepth 100000 in
theorem tb_oi_ok : ∀ q ∈ tb_oi, Cond.methodLink (sn_R q.1) q.2 objectInit ∈ lw_tbl := List.forall_mem_cons.mpr ⟨tb_o0, List.forall_mem_cons.mpr ⟨tb_o1, List.forall_mem_cons.mpr ⟨tb_o2, List.forall_mem_cons.mpr ⟨tb_o3, List.forall_mem_cons.mpr ⟨tb_o4, List.forall_mem_cons.mpr ⟨tb_o5, List.forall_mem_cons.mpr ⟨tb_o6, fun _ h => absurd h List.not_mem_nil⟩⟩⟩⟩⟩⟩⟩
theorem tb_max_s : Cond.static Lib.Math.max.name ∈ lw_tbl := List.mem_of_getElem? (i := 461) (by decide +kernel)
theorem tb_max_i : Cond.initialized "java/lang/Math" ∈ lw_tbl := List.mem_of_getElem? (i := 60) (by decide +kernel)
theorem tb_max_c : Cond.code Lib.Math.max.name Lib.Math.max.code 2 (some .int) ∈ lw_tbl := List.mem_of_getElem? (i := 462) (by decide +kernel)
theorem tb_oin_i : Cond.instanceMethod objectInit ∈ lw_tbl := List.mem_of_getElem? (i := 68) (by decide +kernel)
theorem tb_oin_c : Cond.code objectInit ⟨#[0xb1]⟩ 1 none ∈ lw_tbl := List.mem_of_getElem? (i := 69) (by decide +kernel)
theorem tb_in0 : Cond.instantiable (sn_R 0) (sn_NF 0) ∈ lw_tbl := List.mem_of_getElem? (i := 109) (by decide +kernel)
theorem tb_id0 : Cond.initialized (sn_R 0) ∈ lw_tbl := List.mem_of_getElem? (i := 52) (by decide +kernel)
theorem tb_ly0 : ∀ w ∈ u_ws RX0 TX0 1, w ∈ lw_tbl := List.forall_mem_cons.mpr ⟨List.mem_of_getElem? (i := 116) (by decide +kernel), fun _ h => absurd h List.not_mem_nil⟩
theorem tb_in1 : Cond.instantiable (sn_R 1) (sn_NF 1) ∈ lw_tbl := List.mem_of_getElem? (i := 92) (by decide +kernel)
theorem tb_id1 : Cond.initialized (sn_R 1) ∈ lw_tbl := List.mem_of_getElem? (i := 51) (by decide +kernel)
theorem tb_ly1 : ∀ w ∈ u_ws RX1 TX1 3, w ∈ lw_tbl := List.forall_mem_cons.mpr ⟨List.mem_of_getElem? (i := 101) (by decide +kernel), List.forall_mem_cons.mpr ⟨List.mem_of_getElem? (i := 103) (by decide +kernel), List.forall_mem_cons.mpr ⟨List.mem_of_getElem? (i := 105) (by decide +kernel), fun _ h => absurd h List.not_mem_nil⟩⟩⟩
theorem tb_in2 : Cond.instantiable (sn_R 2) (sn_NF 2) ∈ lw_tbl := List.mem_of_getElem? (i := 120) (by decide +kernel)
theorem tb_id2 : Cond.initialized (sn_R 2) ∈ lw_tbl := List.mem_of_getElem? (i := 53) (by decide +kernel)
theorem tb_ly2 : ∀ w ∈ u_ws RX2 TX2 5, w ∈ lw_tbl := List.forall_mem_cons.mpr ⟨List.mem_of_getElem? (i := 203) (by decide +kernel), List.forall_mem_cons.mpr ⟨List.mem_of_getElem? (i := 205) (by decide +kernel), List.forall_mem_cons.mpr ⟨List.mem_of_getElem? (i := 207) (by decide +kernel), List.forall_mem_cons.mpr ⟨List.mem_of_getElem? (i := 209) (by decide +kernel), List.forall_mem_cons.mpr ⟨List.mem_of_getElem? (i := 211) (by decide +kernel), fun _ h => absurd h List.not_mem_nil⟩⟩⟩⟩⟩
theorem tb_in3 : Cond.instantiable (sn_R 3) (sn_NF 3) ∈ lw_tbl := List.mem_of_getElem? (i := 71) (by decide +kernel)
theorem tb_id3 : Cond.initialized (sn_R 3) ∈ lw_tbl := List.mem_of_getElem? (i := 50) (by decide +kernel)
theorem tb_ly3 : ∀ w ∈ u_ws RX3 TX3 4, w ∈ lw_tbl := List.forall_mem_cons.mpr ⟨List.mem_of_getElem? (i := 81) (by decide +kernel), List.forall_mem_cons.mpr ⟨List.mem_of_getElem? (i := 83) (by decide +kernel), List.forall_mem_cons.mpr ⟨List.mem_of_getElem? (i := 85) (by decide +kernel), List.forall_mem_cons.mpr ⟨List.mem_of_getElem? (i := 87) (by decide +kernel), fun _ h => absurd h List.not_mem_nil⟩⟩⟩⟩
theorem tb_in4 : Cond.instantiable (sn_R 4) (sn_NF 4) ∈ lw_tbl := List.mem_of_getElem? (i := 127) (by decide +kernel)
theorem tb_id4 : Cond.initialized (sn_R 4) ∈ lw_tbl := List.mem_of_getElem? (i := 54) (by decide +kernel)
theorem tb_ly4 : ∀ w ∈ u_ws RX4 TX4 11, w ∈ lw_tbl := List.forall_mem_cons.mpr ⟨List.mem_of_getElem? (i := 164) (by decide +kernel), List.forall_mem_cons.mpr ⟨List.mem_of_getElem? (i := 166) (by decide +kernel), List.forall_mem_cons.mpr ⟨List.mem_of_getElem? (i := 168) (by decide +kernel), List.forall_mem_cons.mpr ⟨List.mem_of_getElem? (i := 170) (by decide +kernel), List.forall_mem_cons.mpr ⟨List.mem_of_getElem? (i := 172) (by decide +kernel), List.forall_mem_cons.mpr ⟨List.mem_of_getElem? (i := 174) (by decide +kernel), List.forall_mem_cons.mpr ⟨List.mem_of_getElem? (i := 176) (by decide +kernel), List.forall_mem_cons.mpr ⟨List.mem_of_getElem? (i := 178) (by decide +kernel), List.forall_mem_cons.mpr ⟨List.mem_of_getElem? (i := 180) (by decide +kernel), List.forall_mem_cons.mpr ⟨List.mem_of_getElem? (i := 182) (by decide +kernel), List.forall_mem_cons.mpr ⟨List.mem_of_getElem? (i := 184) (by decide +kernel), fun _ h => absurd h List.not_mem_nil⟩⟩⟩⟩⟩⟩⟩⟩⟩⟩⟩
theorem tb_in5 : Cond.instantiable (sn_R 5) (sn_NF 5) ∈ lw_tbl := List.mem_of_getElem? (i := 63) (by decide +kernel)
theorem tb_id5 : Cond.initialized (sn_R 5) ∈ lw_tbl := List.mem_of_getElem? (i := 49) (by decide +kernel)
theorem tb_ly5 : ∀ w ∈ u_ws RX5 TX5 12, w ∈ lw_tbl := List.forall_mem_cons.mpr ⟨List.mem_of_getElem? (i := 359) (by decide +kernel), List.forall_mem_cons.mpr ⟨List.mem_of_getElem? (i := 361) (by decide +kernel), List.forall_mem_cons.mpr ⟨List.mem_of_getElem? (i := 363) (by decide +kernel), List.forall_mem_cons.mpr ⟨List.mem_of_getElem? (i := 365) (by decide +kernel), List.forall_mem_cons.mpr ⟨List.mem_of_getElem? (i := 367) (by decide +kernel), List.forall_mem_cons.mpr ⟨List.mem_of_getElem? (i := 369) (by decide +kernel), List.forall_mem_cons.mpr ⟨List.mem_of_getElem? (i := 371) (by decide +kernel), List.forall_mem_cons.mpr ⟨List.mem_of_getElem? (i := 373) (by decide +kernel), List.forall_mem_cons.mpr ⟨List.mem_of_getElem? (i := 375) (by decide +kernel), List.forall_mem_cons.mpr ⟨List.mem_of_getElem? (i := 377) (by decide +kernel), List.forall_mem_cons.mpr ⟨List.mem_of_getElem? (i := 379) (by decide +kernel), List.forall_mem_cons.mpr ⟨List.mem_of_getElem? (i := 381) (by decide +kernel), fun _ h => absurd h List.not_mem_nil⟩⟩⟩⟩⟩⟩⟩⟩⟩⟩⟩⟩
theorem tb_in6 : Cond.instantiable (sn_R 6) (sn_NF 6) ∈ lw_tbl := List.mem_of_getElem? (i := 688) (by decide +kernel)
theorem tb_id6 : Cond.initialized (sn_R 6) ∈ lw_tbl := List.mem_of_getElem? (i := 59) (by decide +kernel)
theorem tb_ly6 : ∀ w ∈ u_ws RX6 TX6 21, w ∈ lw_tbl := List.forall_mem_cons.mpr ⟨List.mem_of_getElem? (i := 734) (by decide +kernel), List.forall_mem_cons.mpr ⟨List.mem_of_getElem? (i := 736) (by decide +kernel), List.forall_mem_cons.mpr ⟨List.mem_of_getElem? (i := 738) (by decide +kernel), List.forall_mem_cons.mpr ⟨List.mem_of_getElem? (i := 740) (by decide +kernel), List.forall_mem_cons.mpr ⟨List.mem_of_getElem? (i := 742) (by decide +kernel), List.forall_mem_cons.mpr ⟨List.mem_of_getElem? (i := 744) (by decide +kernel), List.forall_mem_cons.mpr ⟨List.mem_of_getElem? (i := 746) (by decide +kernel), List.forall_mem_cons.mpr ⟨List.mem_of_getElem? (i := 748) (by decide +kernel), List.forall_mem_cons.mpr ⟨List.mem_of_getElem? (i := 750) (by decide +kernel), List.forall_mem_cons.mpr ⟨List.mem_of_getElem? (i := 752) (by decide +kernel), List.forall_mem_cons.mpr ⟨List.mem_of_getElem? (i := 754) (by decide +kernel), List.forall_mem_cons.mpr ⟨List.mem_of_getElem? (i := 756) (by decide +kernel), List.forall_mem_cons.mpr ⟨List.mem_of_getElem? (i := 758) (by decide +kernel), List.forall_mem_cons.mpr ⟨List.mem_of_getElem? (i := 760) (by decide +kernel), List.forall_mem_cons.mpr ⟨List.mem_of_getElem? (i := 762) (by decide +kernel), List.forall_mem_cons.mpr ⟨List.mem_of_getElem? (i := 764) (by decide +kernel), List.forall_mem_cons.mpr ⟨List.mem_of_getElem? (i := 766) (by decide +kernel), List.forall_mem_cons.mpr ⟨List.mem_of_getElem? (i := 768) (by decide +kernel), List.forall_mem_cons.mpr ⟨List.mem_of_getElem? (i := 770) (by decide +kernel), List.forall_mem_cons.mpr ⟨List.mem_of_getElem? (i := 772) (by decide +kernel), List.forall_mem_cons.mpr ⟨List.mem_of_getElem? (i := 774) (by decide +kernel), fun _ h => absurd h List.not_mem_nil⟩⟩⟩⟩⟩⟩⟩⟩⟩⟩⟩⟩⟩⟩⟩⟩⟩⟩⟩⟩⟩
theorem tb_ai : Cond.arrayClass .int ∈ lw_tbl := List.mem_of_getElem? (i := 90) (by decide +kernel)
theorem tb_ab : Cond.arrayClass .byte ∈ lw_tbl := List.mem_of_getElem? (i := 384) (by decide +kernel)
theorem tb_ao2 : Cond.arrayOver (.object RX2) ∈ lw_tbl := List.mem_of_getElem? (i := 214) (by decide +kernel)
theorem tb_ao4 : Cond.arrayOver (.object RX4) ∈ lw_tbl := List.mem_of_getElem? (i := 126) (by decide +kernel)
theorem tb_sl : Cond.code yJ0_length_8abf5 cJ0_length_8abf5 1 (some .int) ∈ lw_tbl ∧ Cond.methodLink (sn_R 5) 49 yJ0_length_8abf5 ∈ lw_tbl ∧ Cond.instanceMethod yJ0_length_8abf5 ∈ lw_tbl ∧ Cond.selects yJ0_length_8abf5.cls yJ0_length_8abf5 yJ0_length_8abf5 ∈ lw_tbl ∧ Cond.initialized yJ0_length_8abf5.cls ∈ lw_tbl := ⟨List.mem_of_getElem? (i := 219) (by decide +kernel), List.mem_of_getElem? (i := 216) (by decide +kernel), List.mem_of_getElem? (i := 217) (by decide +kernel), List.mem_of_getElem? (i := 218) (by decide +kernel), List.mem_of_getElem? (i := 55) (by decide +kernel)⟩
theorem tb_sc : Cond.code yJ0_charAt_5068e cJ0_charAt_5068e 2 (some .char) ∈ lw_tbl ∧ Cond.methodLink (sn_R 5) 55 yJ0_charAt_5068e ∈ lw_tbl ∧ Cond.instanceMethod yJ0_charAt_5068e ∈ lw_tbl ∧ Cond.selects yJ0_charAt_5068e.cls yJ0_charAt_5068e yJ0_charAt_5068e ∈ lw_tbl ∧ Cond.initialized yJ0_charAt_5068e.cls ∈ lw_tbl := ⟨List.mem_of_getElem? (i := 229) (by decide +kernel), List.mem_of_getElem? (i := 226) (by decide +kernel), List.mem_of_getElem? (i := 227) (by decide +kernel), List.mem_of_getElem? (i := 228) (by decide +kernel), List.mem_of_getElem? (i := 55) (by decide +kernel)⟩
/-- what the tables say of a method that is called -/
def sn_MOK (k : Nat) : Prop := Cond.code (pY k) (pCd k) (pMx k) (pRet k) ∈ lw_tbl ∧ Cond.initialized (pY k).cls ∈ lw_tbl ∧ ((pY k).cls ≠ "java/lang/invoke/MethodHandle" ∧ (pY k).cls ≠ "java/lang/invoke/VarHandle" ∧ (parseMethodDescriptor (pY k).desc).map (fun d => d.parameters.length) = some (pNp k)) ∧ plainName (pY k).cls = true ∧ (pY k).cls = sn_R (pOc k) ∧ pMx k ≤ 45 ∧
  ((pSt k = 0 ∧ Cond.instanceMethod (pY k) ∈ lw_tbl ∧ Cond.selects (pY k).cls (pY k) (pY k) ∈ lw_tbl ∧ pOc k < 7) ∨ (pSt k = 1 ∧ Cond.static (pY k) ∈ lw_tbl) ∨ (pSt k = 2 ∧ (pY k).name = "<init>" ∧ Cond.instanceMethod (pY k) ∈ lw_tbl ∧ pOc k < 7))
theorem tb_y0 : sn_MOK 0 := ⟨List.mem_of_getElem? (i := 112) (by decide +kernel), List.mem_of_getElem? (i := 52) (by decide +kernel), ⟨by decide +kernel, by decide +kernel, by decide +kernel⟩, by decide +kernel, rfl, by decide, .inr (.inr ⟨rfl, by decide, List.mem_of_getElem? (i := 111) (by decide +kernel), by decide⟩)⟩
theorem tb_y1 : sn_MOK 1 := ⟨List.mem_of_getElem? (i := 594) (by decide +kernel), List.mem_of_getElem? (i := 52) (by decide +kernel), ⟨by decide +kernel, by decide +kernel, by decide +kernel⟩, by decide +kernel, rfl, by decide, .inl ⟨rfl, List.mem_of_getElem? (i := 592) (by decide +kernel), List.mem_of_getElem? (i := 593) (by decide +kernel), by decide⟩⟩
theorem tb_y2 : sn_MOK 2 := ⟨List.mem_of_getElem? (i := 598) (by decide +kernel), List.mem_of_getElem? (i := 52) (by decide +kernel), ⟨by decide +kernel, by decide +kernel, by decide +kernel⟩, by decide +kernel, rfl, by decide, .inl ⟨rfl, List.mem_of_getElem? (i := 597) (by decide +kernel), List.mem_of_getElem? (i := 14) (by decide +kernel), by decide⟩⟩
theorem tb_y3 : sn_MOK 3 := ⟨List.mem_of_getElem? (i := 603) (by decide +kernel), List.mem_of_getElem? (i := 52) (by decide +kernel), ⟨by decide +kernel, by decide +kernel, by decide +kernel⟩, by decide +kernel, rfl, by decide, .inl ⟨rfl, List.mem_of_getElem? (i := 602) (by decide +kernel), List.mem_of_getElem? (i := 15) (by decide +kernel), by decide⟩⟩
theorem tb_y4 : sn_MOK 4 := ⟨List.mem_of_getElem? (i := 95) (by decide +kernel), List.mem_of_getElem? (i := 51) (by decide +kernel), ⟨by decide +kernel, by decide +kernel, by decide +kernel⟩, by decide +kernel, rfl, by decide, .inr (.inr ⟨rfl, by decide, List.mem_of_getElem? (i := 94) (by decide +kernel), by decide⟩)⟩
theorem tb_y5 : sn_MOK 5 := ⟨List.mem_of_getElem? (i := 619) (by decide +kernel), List.mem_of_getElem? (i := 51) (by decide +kernel), ⟨by decide +kernel, by decide +kernel, by decide +kernel⟩, by decide +kernel, rfl, by decide, .inl ⟨rfl, List.mem_of_getElem? (i := 617) (by decide +kernel), List.mem_of_getElem? (i := 618) (by decide +kernel), by decide⟩⟩
theorem tb_y6 : sn_MOK 6 := ⟨List.mem_of_getElem? (i := 412) (by decide +kernel), List.mem_of_getElem? (i := 51) (by decide +kernel), ⟨by decide +kernel, by decide +kernel, by decide +kernel⟩, by decide +kernel, rfl, by decide, .inl ⟨rfl, List.mem_of_getElem? (i := 410) (by decide +kernel), List.mem_of_getElem? (i := 411) (by decide +kernel), by decide⟩⟩
theorem tb_y7 : sn_MOK 7 := ⟨List.mem_of_getElem? (i := 631) (by decide +kernel), List.mem_of_getElem? (i := 51) (by decide +kernel), ⟨by decide +kernel, by decide +kernel, by decide +kernel⟩, by decide +kernel, rfl, by decide, .inl ⟨rfl, List.mem_of_getElem? (i := 629) (by decide +kernel), List.mem_of_getElem? (i := 630) (by decide +kernel), by decide⟩⟩
theorem tb_y8 : sn_MOK 8 := ⟨List.mem_of_getElem? (i := 123) (by decide +kernel), List.mem_of_getElem? (i := 53) (by decide +kernel), ⟨by decide +kernel, by decide +kernel, by decide +kernel⟩, by decide +kernel, rfl, by decide, .inr (.inr ⟨rfl, by decide, List.mem_of_getElem? (i := 122) (by decide +kernel), by decide⟩)⟩
theorem tb_y9 : sn_MOK 9 := ⟨List.mem_of_getElem? (i := 275) (by decide +kernel), List.mem_of_getElem? (i := 53) (by decide +kernel), ⟨by decide +kernel, by decide +kernel, by decide +kernel⟩, by decide +kernel, rfl, by decide, .inl ⟨rfl, List.mem_of_getElem? (i := 273) (by decide +kernel), List.mem_of_getElem? (i := 274) (by decide +kernel), by decide⟩⟩
theorem tb_y10 : sn_MOK 10 := ⟨List.mem_of_getElem? (i := 404) (by decide +kernel), List.mem_of_getElem? (i := 53) (by decide +kernel), ⟨by decide +kernel, by decide +kernel, by decide +kernel⟩, by decide +kernel, rfl, by decide, .inl ⟨rfl, List.mem_of_getElem? (i := 402) (by decide +kernel), List.mem_of_getElem? (i := 403) (by decide +kernel), by decide⟩⟩
theorem tb_y11 : sn_MOK 11 := ⟨List.mem_of_getElem? (i := 309) (by decide +kernel), List.mem_of_getElem? (i := 53) (by decide +kernel), ⟨by decide +kernel, by decide +kernel, by decide +kernel⟩, by decide +kernel, rfl, by decide, .inl ⟨rfl, List.mem_of_getElem? (i := 307) (by decide +kernel), List.mem_of_getElem? (i := 308) (by decide +kernel), by decide⟩⟩
theorem tb_y12 : sn_MOK 12 := ⟨List.mem_of_getElem? (i := 491) (by decide +kernel), List.mem_of_getElem? (i := 53) (by decide +kernel), ⟨by decide +kernel, by decide +kernel, by decide +kernel⟩, by decide +kernel, rfl, by decide, .inl ⟨rfl, List.mem_of_getElem? (i := 489) (by decide +kernel), List.mem_of_getElem? (i := 490) (by decide +kernel), by decide⟩⟩
theorem tb_y13 : sn_MOK 13 := ⟨List.mem_of_getElem? (i := 504) (by decide +kernel), List.mem_of_getElem? (i := 53) (by decide +kernel), ⟨by decide +kernel, by decide +kernel, by decide +kernel⟩, by decide +kernel, rfl, by decide, .inl ⟨rfl, List.mem_of_getElem? (i := 502) (by decide +kernel), List.mem_of_getElem? (i := 503) (by decide +kernel), by decide⟩⟩
theorem tb_y14 : sn_MOK 14 := ⟨List.mem_of_getElem? (i := 528) (by decide +kernel), List.mem_of_getElem? (i := 53) (by decide +kernel), ⟨by decide +kernel, by decide +kernel, by decide +kernel⟩, by decide +kernel, rfl, by decide, .inl ⟨rfl, List.mem_of_getElem? (i := 526) (by decide +kernel), List.mem_of_getElem? (i := 527) (by decide +kernel), by decide⟩⟩
theorem tb_y15 : sn_MOK 15 := ⟨List.mem_of_getElem? (i := 474) (by decide +kernel), List.mem_of_getElem? (i := 53) (by decide +kernel), ⟨by decide +kernel, by decide +kernel, by decide +kernel⟩, by decide +kernel, rfl, by decide, .inl ⟨rfl, List.mem_of_getElem? (i := 472) (by decide +kernel), List.mem_of_getElem? (i := 473) (by decide +kernel), by decide⟩⟩
theorem tb_y16 : sn_MOK 16 := ⟨List.mem_of_getElem? (i := 449) (by decide +kernel), List.mem_of_getElem? (i := 53) (by decide +kernel), ⟨by decide +kernel, by decide +kernel, by decide +kernel⟩, by decide +kernel, rfl, by decide, .inl ⟨rfl, List.mem_of_getElem? (i := 447) (by decide +kernel), List.mem_of_getElem? (i := 448) (by decide +kernel), by decide⟩⟩
theorem tb_y17 : sn_MOK 17 := ⟨List.mem_of_getElem? (i := 454) (by decide +kernel), List.mem_of_getElem? (i := 53) (by decide +kernel), ⟨by decide +kernel, by decide +kernel, by decide +kernel⟩, by decide +kernel, rfl, by decide, .inl ⟨rfl, List.mem_of_getElem? (i := 452) (by decide +kernel), List.mem_of_getElem? (i := 453) (by decide +kernel), by decide⟩⟩
theorem tb_y18 : sn_MOK 18 := ⟨List.mem_of_getElem? (i := 470) (by decide +kernel), List.mem_of_getElem? (i := 53) (by decide +kernel), ⟨by decide +kernel, by decide +kernel, by decide +kernel⟩, by decide +kernel, rfl, by decide, .inl ⟨rfl, List.mem_of_getElem? (i := 468) (by decide +kernel), List.mem_of_getElem? (i := 469) (by decide +kernel), by decide⟩⟩
theorem tb_y19 : sn_MOK 19 := ⟨List.mem_of_getElem? (i := 516) (by decide +kernel), List.mem_of_getElem? (i := 53) (by decide +kernel), ⟨by decide +kernel, by decide +kernel, by decide +kernel⟩, by decide +kernel, rfl, by decide, .inl ⟨rfl, List.mem_of_getElem? (i := 514) (by decide +kernel), List.mem_of_getElem? (i := 515) (by decide +kernel), by decide⟩⟩
theorem tb_y20 : sn_MOK 20 := ⟨List.mem_of_getElem? (i := 540) (by decide +kernel), List.mem_of_getElem? (i := 53) (by decide +kernel), ⟨by decide +kernel, by decide +kernel, by decide +kernel⟩, by decide +kernel, rfl, by decide, .inl ⟨rfl, List.mem_of_getElem? (i := 538) (by decide +kernel), List.mem_of_getElem? (i := 539) (by decide +kernel), by decide⟩⟩
theorem tb_y21 : sn_MOK 21 := ⟨List.mem_of_getElem? (i := 566) (by decide +kernel), List.mem_of_getElem? (i := 53) (by decide +kernel), ⟨by decide +kernel, by decide +kernel, by decide +kernel⟩, by decide +kernel, rfl, by decide, .inl ⟨rfl, List.mem_of_getElem? (i := 564) (by decide +kernel), List.mem_of_getElem? (i := 565) (by decide +kernel), by decide⟩⟩
theorem tb_y22 : sn_MOK 22 := ⟨List.mem_of_getElem? (i := 685) (by decide +kernel), List.mem_of_getElem? (i := 53) (by decide +kernel), ⟨by decide +kernel, by decide +kernel, by decide +kernel⟩, by decide +kernel, rfl, by decide, .inl ⟨rfl, List.mem_of_getElem? (i := 683) (by decide +kernel), List.mem_of_getElem? (i := 684) (by decide +kernel), by decide⟩⟩
theorem tb_y23 : sn_MOK 23 := ⟨List.mem_of_getElem? (i := 536) (by decide +kernel), List.mem_of_getElem? (i := 53) (by decide +kernel), ⟨by decide +kernel, by decide +kernel, by decide +kernel⟩, by decide +kernel, rfl, by decide, .inl ⟨rfl, List.mem_of_getElem? (i := 534) (by decide +kernel), List.mem_of_getElem? (i := 535) (by decide +kernel), by decide⟩⟩
theorem tb_y24 : sn_MOK 24 := ⟨List.mem_of_getElem? (i := 545) (by decide +kernel), List.mem_of_getElem? (i := 53) (by decide +kernel), ⟨by decide +kernel, by decide +kernel, by decide +kernel⟩, by decide +kernel, rfl, by decide, .inl ⟨rfl, List.mem_of_getElem? (i := 544) (by decide +kernel), List.mem_of_getElem? (i := 10) (by decide +kernel), by decide⟩⟩
theorem tb_y25 : sn_MOK 25 := ⟨List.mem_of_getElem? (i := 74) (by decide +kernel), List.mem_of_getElem? (i := 50) (by decide +kernel), ⟨by decide +kernel, by decide +kernel, by decide +kernel⟩, by decide +kernel, rfl, by decide, .inr (.inr ⟨rfl, by decide, List.mem_of_getElem? (i := 73) (by decide +kernel), by decide⟩)⟩
theorem tb_y26 : sn_MOK 26 := ⟨List.mem_of_getElem? (i := 267) (by decide +kernel), List.mem_of_getElem? (i := 50) (by decide +kernel), ⟨by decide +kernel, by decide +kernel, by decide +kernel⟩, by decide +kernel, rfl, by decide, .inl ⟨rfl, List.mem_of_getElem? (i := 265) (by decide +kernel), List.mem_of_getElem? (i := 266) (by decide +kernel), by decide⟩⟩
theorem tb_y27 : sn_MOK 27 := ⟨List.mem_of_getElem? (i := 346) (by decide +kernel), List.mem_of_getElem? (i := 50) (by decide +kernel), ⟨by decide +kernel, by decide +kernel, by decide +kernel⟩, by decide +kernel, rfl, by decide, .inl ⟨rfl, List.mem_of_getElem? (i := 344) (by decide +kernel), List.mem_of_getElem? (i := 345) (by decide +kernel), by decide⟩⟩
theorem tb_y28 : sn_MOK 28 := ⟨List.mem_of_getElem? (i := 271) (by decide +kernel), List.mem_of_getElem? (i := 50) (by decide +kernel), ⟨by decide +kernel, by decide +kernel, by decide +kernel⟩, by decide +kernel, rfl, by decide, .inl ⟨rfl, List.mem_of_getElem? (i := 269) (by decide +kernel), List.mem_of_getElem? (i := 270) (by decide +kernel), by decide⟩⟩
theorem tb_y29 : sn_MOK 29 := ⟨List.mem_of_getElem? (i := 279) (by decide +kernel), List.mem_of_getElem? (i := 50) (by decide +kernel), ⟨by decide +kernel, by decide +kernel, by decide +kernel⟩, by decide +kernel, rfl, by decide, .inl ⟨rfl, List.mem_of_getElem? (i := 278) (by decide +kernel), List.mem_of_getElem? (i := 0) (by decide +kernel), by decide⟩⟩
theorem tb_y30 : sn_MOK 30 := ⟨List.mem_of_getElem? (i := 291) (by decide +kernel), List.mem_of_getElem? (i := 50) (by decide +kernel), ⟨by decide +kernel, by decide +kernel, by decide +kernel⟩, by decide +kernel, rfl, by decide, .inl ⟨rfl, List.mem_of_getElem? (i := 290) (by decide +kernel), List.mem_of_getElem? (i := 3) (by decide +kernel), by decide⟩⟩
theorem tb_y31 : sn_MOK 31 := ⟨List.mem_of_getElem? (i := 287) (by decide +kernel), List.mem_of_getElem? (i := 50) (by decide +kernel), ⟨by decide +kernel, by decide +kernel, by decide +kernel⟩, by decide +kernel, rfl, by decide, .inl ⟨rfl, List.mem_of_getElem? (i := 286) (by decide +kernel), List.mem_of_getElem? (i := 2) (by decide +kernel), by decide⟩⟩
theorem tb_y32 : sn_MOK 32 := ⟨List.mem_of_getElem? (i := 283) (by decide +kernel), List.mem_of_getElem? (i := 50) (by decide +kernel), ⟨by decide +kernel, by decide +kernel, by decide +kernel⟩, by decide +kernel, rfl, by decide, .inl ⟨rfl, List.mem_of_getElem? (i := 282) (by decide +kernel), List.mem_of_getElem? (i := 1) (by decide +kernel), by decide⟩⟩
theorem tb_y33 : sn_MOK 33 := ⟨List.mem_of_getElem? (i := 294) (by decide +kernel), List.mem_of_getElem? (i := 50) (by decide +kernel), ⟨by decide +kernel, by decide +kernel, by decide +kernel⟩, by decide +kernel, rfl, by decide, .inr (.inl ⟨rfl, List.mem_of_getElem? (i := 293) (by decide +kernel)⟩)⟩
theorem tb_y34 : sn_MOK 34 := ⟨List.mem_of_getElem? (i := 301) (by decide +kernel), List.mem_of_getElem? (i := 50) (by decide +kernel), ⟨by decide +kernel, by decide +kernel, by decide +kernel⟩, by decide +kernel, rfl, by decide, .inl ⟨rfl, List.mem_of_getElem? (i := 300) (by decide +kernel), List.mem_of_getElem? (i := 4) (by decide +kernel), by decide⟩⟩
theorem tb_y35 : sn_MOK 35 := ⟨List.mem_of_getElem? (i := 317) (by decide +kernel), List.mem_of_getElem? (i := 50) (by decide +kernel), ⟨by decide +kernel, by decide +kernel, by decide +kernel⟩, by decide +kernel, rfl, by decide, .inl ⟨rfl, List.mem_of_getElem? (i := 316) (by decide +kernel), List.mem_of_getElem? (i := 5) (by decide +kernel), by decide⟩⟩
theorem tb_y36 : sn_MOK 36 := ⟨List.mem_of_getElem? (i := 321) (by decide +kernel), List.mem_of_getElem? (i := 50) (by decide +kernel), ⟨by decide +kernel, by decide +kernel, by decide +kernel⟩, by decide +kernel, rfl, by decide, .inl ⟨rfl, List.mem_of_getElem? (i := 320) (by decide +kernel), List.mem_of_getElem? (i := 6) (by decide +kernel), by decide⟩⟩
theorem tb_y37 : sn_MOK 37 := ⟨List.mem_of_getElem? (i := 130) (by decide +kernel), List.mem_of_getElem? (i := 54) (by decide +kernel), ⟨by decide +kernel, by decide +kernel, by decide +kernel⟩, by decide +kernel, rfl, by decide, .inr (.inr ⟨rfl, by decide, List.mem_of_getElem? (i := 129) (by decide +kernel), by decide⟩)⟩
theorem tb_y38 : sn_MOK 38 := ⟨List.mem_of_getElem? (i := 408) (by decide +kernel), List.mem_of_getElem? (i := 54) (by decide +kernel), ⟨by decide +kernel, by decide +kernel, by decide +kernel⟩, by decide +kernel, rfl, by decide, .inl ⟨rfl, List.mem_of_getElem? (i := 406) (by decide +kernel), List.mem_of_getElem? (i := 407) (by decide +kernel), by decide⟩⟩
theorem tb_y39 : sn_MOK 39 := ⟨List.mem_of_getElem? (i := 313) (by decide +kernel), List.mem_of_getElem? (i := 54) (by decide +kernel), ⟨by decide +kernel, by decide +kernel, by decide +kernel⟩, by decide +kernel, rfl, by decide, .inl ⟨rfl, List.mem_of_getElem? (i := 311) (by decide +kernel), List.mem_of_getElem? (i := 312) (by decide +kernel), by decide⟩⟩
theorem tb_y40 : sn_MOK 40 := ⟨List.mem_of_getElem? (i := 325) (by decide +kernel), List.mem_of_getElem? (i := 54) (by decide +kernel), ⟨by decide +kernel, by decide +kernel, by decide +kernel⟩, by decide +kernel, rfl, by decide, .inl ⟨rfl, List.mem_of_getElem? (i := 323) (by decide +kernel), List.mem_of_getElem? (i := 324) (by decide +kernel), by decide⟩⟩
theorem tb_y41 : sn_MOK 41 := ⟨List.mem_of_getElem? (i := 429) (by decide +kernel), List.mem_of_getElem? (i := 54) (by decide +kernel), ⟨by decide +kernel, by decide +kernel, by decide +kernel⟩, by decide +kernel, rfl, by decide, .inl ⟨rfl, List.mem_of_getElem? (i := 427) (by decide +kernel), List.mem_of_getElem? (i := 428) (by decide +kernel), by decide⟩⟩
theorem tb_y42 : sn_MOK 42 := ⟨List.mem_of_getElem? (i := 332) (by decide +kernel), List.mem_of_getElem? (i := 54) (by decide +kernel), ⟨by decide +kernel, by decide +kernel, by decide +kernel⟩, by decide +kernel, rfl, by decide, .inl ⟨rfl, List.mem_of_getElem? (i := 330) (by decide +kernel), List.mem_of_getElem? (i := 331) (by decide +kernel), by decide⟩⟩
theorem tb_y43 : sn_MOK 43 := ⟨List.mem_of_getElem? (i := 342) (by decide +kernel), List.mem_of_getElem? (i := 54) (by decide +kernel), ⟨by decide +kernel, by decide +kernel, by decide +kernel⟩, by decide +kernel, rfl, by decide, .inl ⟨rfl, List.mem_of_getElem? (i := 340) (by decide +kernel), List.mem_of_getElem? (i := 341) (by decide +kernel), by decide⟩⟩
theorem tb_y44 : sn_MOK 44 := ⟨List.mem_of_getElem? (i := 438) (by decide +kernel), List.mem_of_getElem? (i := 54) (by decide +kernel), ⟨by decide +kernel, by decide +kernel, by decide +kernel⟩, by decide +kernel, rfl, by decide, .inl ⟨rfl, List.mem_of_getElem? (i := 436) (by decide +kernel), List.mem_of_getElem? (i := 437) (by decide +kernel), by decide⟩⟩
theorem tb_y45 : sn_MOK 45 := ⟨List.mem_of_getElem? (i := 459) (by decide +kernel), List.mem_of_getElem? (i := 54) (by decide +kernel), ⟨by decide +kernel, by decide +kernel, by decide +kernel⟩, by decide +kernel, rfl, by decide, .inl ⟨rfl, List.mem_of_getElem? (i := 457) (by decide +kernel), List.mem_of_getElem? (i := 458) (by decide +kernel), by decide⟩⟩
theorem tb_y46 : sn_MOK 46 := ⟨List.mem_of_getElem? (i := 483) (by decide +kernel), List.mem_of_getElem? (i := 54) (by decide +kernel), ⟨by decide +kernel, by decide +kernel, by decide +kernel⟩, by decide +kernel, rfl, by decide, .inl ⟨rfl, List.mem_of_getElem? (i := 481) (by decide +kernel), List.mem_of_getElem? (i := 482) (by decide +kernel), by decide⟩⟩
theorem tb_y47 : sn_MOK 47 := ⟨List.mem_of_getElem? (i := 479) (by decide +kernel), List.mem_of_getElem? (i := 54) (by decide +kernel), ⟨by decide +kernel, by decide +kernel, by decide +kernel⟩, by decide +kernel, rfl, by decide, .inl ⟨rfl, List.mem_of_getElem? (i := 477) (by decide +kernel), List.mem_of_getElem? (i := 478) (by decide +kernel), by decide⟩⟩
theorem tb_y48 : sn_MOK 48 := ⟨List.mem_of_getElem? (i := 66) (by decide +kernel), List.mem_of_getElem? (i := 49) (by decide +kernel), ⟨by decide +kernel, by decide +kernel, by decide +kernel⟩, by decide +kernel, rfl, by decide, .inr (.inr ⟨rfl, by decide, List.mem_of_getElem? (i := 65) (by decide +kernel), by decide⟩)⟩
theorem tb_y49 : sn_MOK 49 := ⟨List.mem_of_getElem? (i := 388) (by decide +kernel), List.mem_of_getElem? (i := 49) (by decide +kernel), ⟨by decide +kernel, by decide +kernel, by decide +kernel⟩, by decide +kernel, rfl, by decide, .inl ⟨rfl, List.mem_of_getElem? (i := 386) (by decide +kernel), List.mem_of_getElem? (i := 387) (by decide +kernel), by decide⟩⟩
theorem tb_y50 : sn_MOK 50 := ⟨List.mem_of_getElem? (i := 392) (by decide +kernel), List.mem_of_getElem? (i := 49) (by decide +kernel), ⟨by decide +kernel, by decide +kernel, by decide +kernel⟩, by decide +kernel, rfl, by decide, .inl ⟨rfl, List.mem_of_getElem? (i := 390) (by decide +kernel), List.mem_of_getElem? (i := 391) (by decide +kernel), by decide⟩⟩
theorem tb_y51 : sn_MOK 51 := ⟨List.mem_of_getElem? (i := 396) (by decide +kernel), List.mem_of_getElem? (i := 49) (by decide +kernel), ⟨by decide +kernel, by decide +kernel, by decide +kernel⟩, by decide +kernel, rfl, by decide, .inl ⟨rfl, List.mem_of_getElem? (i := 394) (by decide +kernel), List.mem_of_getElem? (i := 395) (by decide +kernel), by decide⟩⟩
theorem tb_y52 : sn_MOK 52 := ⟨List.mem_of_getElem? (i := 400) (by decide +kernel), List.mem_of_getElem? (i := 49) (by decide +kernel), ⟨by decide +kernel, by decide +kernel, by decide +kernel⟩, by decide +kernel, rfl, by decide, .inl ⟨rfl, List.mem_of_getElem? (i := 398) (by decide +kernel), List.mem_of_getElem? (i := 399) (by decide +kernel), by decide⟩⟩
theorem tb_y53 : sn_MOK 53 := ⟨List.mem_of_getElem? (i := 416) (by decide +kernel), List.mem_of_getElem? (i := 49) (by decide +kernel), ⟨by decide +kernel, by decide +kernel, by decide +kernel⟩, by decide +kernel, rfl, by decide, .inl ⟨rfl, List.mem_of_getElem? (i := 414) (by decide +kernel), List.mem_of_getElem? (i := 415) (by decide +kernel), by decide⟩⟩
theorem tb_y54 : sn_MOK 54 := ⟨List.mem_of_getElem? (i := 424) (by decide +kernel), List.mem_of_getElem? (i := 49) (by decide +kernel), ⟨by decide +kernel, by decide +kernel, by decide +kernel⟩, by decide +kernel, rfl, by decide, .inl ⟨rfl, List.mem_of_getElem? (i := 422) (by decide +kernel), List.mem_of_getElem? (i := 423) (by decide +kernel), by decide⟩⟩
theorem tb_y55 : sn_MOK 55 := ⟨List.mem_of_getElem? (i := 433) (by decide +kernel), List.mem_of_getElem? (i := 49) (by decide +kernel), ⟨by decide +kernel, by decide +kernel, by decide +kernel⟩, by decide +kernel, rfl, by decide, .inl ⟨rfl, List.mem_of_getElem? (i := 431) (by decide +kernel), List.mem_of_getElem? (i := 432) (by decide +kernel), by decide⟩⟩
theorem tb_y56 : sn_MOK 56 := ⟨List.mem_of_getElem? (i := 445) (by decide +kernel), List.mem_of_getElem? (i := 49) (by decide +kernel), ⟨by decide +kernel, by decide +kernel, by decide +kernel⟩, by decide +kernel, rfl, by decide, .inl ⟨rfl, List.mem_of_getElem? (i := 443) (by decide +kernel), List.mem_of_getElem? (i := 444) (by decide +kernel), by decide⟩⟩
theorem tb_y57 : sn_MOK 57 := ⟨List.mem_of_getElem? (i := 466) (by decide +kernel), List.mem_of_getElem? (i := 49) (by decide +kernel), ⟨by decide +kernel, by decide +kernel, by decide +kernel⟩, by decide +kernel, rfl, by decide, .inl ⟨rfl, List.mem_of_getElem? (i := 464) (by decide +kernel), List.mem_of_getElem? (i := 465) (by decide +kernel), by decide⟩⟩
theorem tb_y58 : sn_MOK 58 := ⟨List.mem_of_getElem? (i := 487) (by decide +kernel), List.mem_of_getElem? (i := 49) (by decide +kernel), ⟨by decide +kernel, by decide +kernel, by decide +kernel⟩, by decide +kernel, rfl, by decide, .inl ⟨rfl, List.mem_of_getElem? (i := 485) (by decide +kernel), List.mem_of_getElem? (i := 486) (by decide +kernel), by decide⟩⟩
theorem tb_y59 : sn_MOK 59 := ⟨List.mem_of_getElem? (i := 510) (by decide +kernel), List.mem_of_getElem? (i := 49) (by decide +kernel), ⟨by decide +kernel, by decide +kernel, by decide +kernel⟩, by decide +kernel, rfl, by decide, .inl ⟨rfl, List.mem_of_getElem? (i := 508) (by decide +kernel), List.mem_of_getElem? (i := 509) (by decide +kernel), by decide⟩⟩
theorem tb_y60 : sn_MOK 60 := ⟨List.mem_of_getElem? (i := 520) (by decide +kernel), List.mem_of_getElem? (i := 49) (by decide +kernel), ⟨by decide +kernel, by decide +kernel, by decide +kernel⟩, by decide +kernel, rfl, by decide, .inl ⟨rfl, List.mem_of_getElem? (i := 518) (by decide +kernel), List.mem_of_getElem? (i := 519) (by decide +kernel), by decide⟩⟩
theorem tb_y61 : sn_MOK 61 := ⟨List.mem_of_getElem? (i := 524) (by decide +kernel), List.mem_of_getElem? (i := 49) (by decide +kernel), ⟨by decide +kernel, by decide +kernel, by decide +kernel⟩, by decide +kernel, rfl, by decide, .inl ⟨rfl, List.mem_of_getElem? (i := 522) (by decide +kernel), List.mem_of_getElem? (i := 523) (by decide +kernel), by decide⟩⟩
theorem tb_y62 : sn_MOK 62 := ⟨List.mem_of_getElem? (i := 532) (by decide +kernel), List.mem_of_getElem? (i := 49) (by decide +kernel), ⟨by decide +kernel, by decide +kernel, by decide +kernel⟩, by decide +kernel, rfl, by decide, .inl ⟨rfl, List.mem_of_getElem? (i := 530) (by decide +kernel), List.mem_of_getElem? (i := 531) (by decide +kernel), by decide⟩⟩
theorem tb_y63 : sn_MOK 63 := ⟨List.mem_of_getElem? (i := 550) (by decide +kernel), List.mem_of_getElem? (i := 49) (by decide +kernel), ⟨by decide +kernel, by decide +kernel, by decide +kernel⟩, by decide +kernel, rfl, by decide, .inl ⟨rfl, List.mem_of_getElem? (i := 548) (by decide +kernel), List.mem_of_getElem? (i := 549) (by decide +kernel), by decide⟩⟩
theorem tb_y64 : sn_MOK 64 := ⟨List.mem_of_getElem? (i := 554) (by decide +kernel), List.mem_of_getElem? (i := 49) (by decide +kernel), ⟨by decide +kernel, by decide +kernel, by decide +kernel⟩, by decide +kernel, rfl, by decide, .inl ⟨rfl, List.mem_of_getElem? (i := 552) (by decide +kernel), List.mem_of_getElem? (i := 553) (by decide +kernel), by decide⟩⟩
theorem tb_y65 : sn_MOK 65 := ⟨List.mem_of_getElem? (i := 562) (by decide +kernel), List.mem_of_getElem? (i := 49) (by decide +kernel), ⟨by decide +kernel, by decide +kernel, by decide +kernel⟩, by decide +kernel, rfl, by decide, .inl ⟨rfl, List.mem_of_getElem? (i := 560) (by decide +kernel), List.mem_of_getElem? (i := 561) (by decide +kernel), by decide⟩⟩
theorem tb_y66 : sn_MOK 66 := ⟨List.mem_of_getElem? (i := 570) (by decide +kernel), List.mem_of_getElem? (i := 49) (by decide +kernel), ⟨by decide +kernel, by decide +kernel, by decide +kernel⟩, by decide +kernel, rfl, by decide, .inl ⟨rfl, List.mem_of_getElem? (i := 568) (by decide +kernel), List.mem_of_getElem? (i := 569) (by decide +kernel), by decide⟩⟩
theorem tb_y67 : sn_MOK 67 := ⟨List.mem_of_getElem? (i := 578) (by decide +kernel), List.mem_of_getElem? (i := 49) (by decide +kernel), ⟨by decide +kernel, by decide +kernel, by decide +kernel⟩, by decide +kernel, rfl, by decide, .inl ⟨rfl, List.mem_of_getElem? (i := 576) (by decide +kernel), List.mem_of_getElem? (i := 577) (by decide +kernel), by decide⟩⟩
theorem tb_y68 : sn_MOK 68 := ⟨List.mem_of_getElem? (i := 590) (by decide +kernel), List.mem_of_getElem? (i := 49) (by decide +kernel), ⟨by decide +kernel, by decide +kernel, by decide +kernel⟩, by decide +kernel, rfl, by decide, .inl ⟨rfl, List.mem_of_getElem? (i := 588) (by decide +kernel), List.mem_of_getElem? (i := 589) (by decide +kernel), by decide⟩⟩
theorem tb_y69 : sn_MOK 69 := ⟨List.mem_of_getElem? (i := 609) (by decide +kernel), List.mem_of_getElem? (i := 49) (by decide +kernel), ⟨by decide +kernel, by decide +kernel, by decide +kernel⟩, by decide +kernel, rfl, by decide, .inl ⟨rfl, List.mem_of_getElem? (i := 607) (by decide +kernel), List.mem_of_getElem? (i := 608) (by decide +kernel), by decide⟩⟩
theorem tb_y70 : sn_MOK 70 := ⟨List.mem_of_getElem? (i := 615) (by decide +kernel), List.mem_of_getElem? (i := 49) (by decide +kernel), ⟨by decide +kernel, by decide +kernel, by decide +kernel⟩, by decide +kernel, rfl, by decide, .inl ⟨rfl, List.mem_of_getElem? (i := 613) (by decide +kernel), List.mem_of_getElem? (i := 614) (by decide +kernel), by decide⟩⟩
theorem tb_y71 : sn_MOK 71 := ⟨List.mem_of_getElem? (i := 623) (by decide +kernel), List.mem_of_getElem? (i := 49) (by decide +kernel), ⟨by decide +kernel, by decide +kernel, by decide +kernel⟩, by decide +kernel, rfl, by decide, .inl ⟨rfl, List.mem_of_getElem? (i := 621) (by decide +kernel), List.mem_of_getElem? (i := 622) (by decide +kernel), by decide⟩⟩
theorem tb_y72 : sn_MOK 72 := ⟨List.mem_of_getElem? (i := 627) (by decide +kernel), List.mem_of_getElem? (i := 49) (by decide +kernel), ⟨by decide +kernel, by decide +kernel, by decide +kernel⟩, by decide +kernel, rfl, by decide, .inl ⟨rfl, List.mem_of_getElem? (i := 625) (by decide +kernel), List.mem_of_getElem? (i := 626) (by decide +kernel), by decide⟩⟩
theorem tb_y73 : sn_MOK 73 := ⟨List.mem_of_getElem? (i := 636) (by decide +kernel), List.mem_of_getElem? (i := 49) (by decide +kernel), ⟨by decide +kernel, by decide +kernel, by decide +kernel⟩, by decide +kernel, rfl, by decide, .inl ⟨rfl, List.mem_of_getElem? (i := 634) (by decide +kernel), List.mem_of_getElem? (i := 635) (by decide +kernel), by decide⟩⟩
theorem tb_y74 : sn_MOK 74 := ⟨List.mem_of_getElem? (i := 640) (by decide +kernel), List.mem_of_getElem? (i := 49) (by decide +kernel), ⟨by decide +kernel, by decide +kernel, by decide +kernel⟩, by decide +kernel, rfl, by decide, .inl ⟨rfl, List.mem_of_getElem? (i := 638) (by decide +kernel), List.mem_of_getElem? (i := 639) (by decide +kernel), by decide⟩⟩
theorem tb_y75 : sn_MOK 75 := ⟨List.mem_of_getElem? (i := 654) (by decide +kernel), List.mem_of_getElem? (i := 49) (by decide +kernel), ⟨by decide +kernel, by decide +kernel, by decide +kernel⟩, by decide +kernel, rfl, by decide, .inl ⟨rfl, List.mem_of_getElem? (i := 652) (by decide +kernel), List.mem_of_getElem? (i := 653) (by decide +kernel), by decide⟩⟩
theorem tb_y76 : sn_MOK 76 := ⟨List.mem_of_getElem? (i := 673) (by decide +kernel), List.mem_of_getElem? (i := 49) (by decide +kernel), ⟨by decide +kernel, by decide +kernel, by decide +kernel⟩, by decide +kernel, rfl, by decide, .inl ⟨rfl, List.mem_of_getElem? (i := 671) (by decide +kernel), List.mem_of_getElem? (i := 672) (by decide +kernel), by decide⟩⟩
theorem tb_y77 : sn_MOK 77 := ⟨List.mem_of_getElem? (i := 677) (by decide +kernel), List.mem_of_getElem? (i := 49) (by decide +kernel), ⟨by decide +kernel, by decide +kernel, by decide +kernel⟩, by decide +kernel, rfl, by decide, .inl ⟨rfl, List.mem_of_getElem? (i := 675) (by decide +kernel), List.mem_of_getElem? (i := 676) (by decide +kernel), by decide⟩⟩
theorem tb_y78 : sn_MOK 78 := ⟨List.mem_of_getElem? (i := 681) (by decide +kernel), List.mem_of_getElem? (i := 49) (by decide +kernel), ⟨by decide +kernel, by decide +kernel, by decide +kernel⟩, by decide +kernel, rfl, by decide, .inl ⟨rfl, List.mem_of_getElem? (i := 679) (by decide +kernel), List.mem_of_getElem? (i := 680) (by decide +kernel), by decide⟩⟩
theorem tb_y79 : sn_MOK 79 := ⟨List.mem_of_getElem? (i := 420) (by decide +kernel), List.mem_of_getElem? (i := 49) (by decide +kernel), ⟨by decide +kernel, by decide +kernel, by decide +kernel⟩, by decide +kernel, rfl, by decide, .inl ⟨rfl, List.mem_of_getElem? (i := 419) (by decide +kernel), List.mem_of_getElem? (i := 7) (by decide +kernel), by decide⟩⟩
theorem tb_y80 : sn_MOK 80 := ⟨List.mem_of_getElem? (i := 304) (by decide +kernel), List.mem_of_getElem? (i := 49) (by decide +kernel), ⟨by decide +kernel, by decide +kernel, by decide +kernel⟩, by decide +kernel, rfl, by decide, .inr (.inl ⟨rfl, List.mem_of_getElem? (i := 303) (by decide +kernel)⟩)⟩
theorem tb_y81 : sn_MOK 81 := ⟨List.mem_of_getElem? (i := 328) (by decide +kernel), List.mem_of_getElem? (i := 49) (by decide +kernel), ⟨by decide +kernel, by decide +kernel, by decide +kernel⟩, by decide +kernel, rfl, by decide, .inr (.inl ⟨rfl, List.mem_of_getElem? (i := 327) (by decide +kernel)⟩)⟩
theorem tb_y82 : sn_MOK 82 := ⟨List.mem_of_getElem? (i := 297) (by decide +kernel), List.mem_of_getElem? (i := 49) (by decide +kernel), ⟨by decide +kernel, by decide +kernel, by decide +kernel⟩, by decide +kernel, rfl, by decide, .inr (.inl ⟨rfl, List.mem_of_getElem? (i := 296) (by decide +kernel)⟩)⟩
theorem tb_y83 : sn_MOK 83 := ⟨List.mem_of_getElem? (i := 338) (by decide +kernel), List.mem_of_getElem? (i := 49) (by decide +kernel), ⟨by decide +kernel, by decide +kernel, by decide +kernel⟩, by decide +kernel, rfl, by decide, .inr (.inl ⟨rfl, List.mem_of_getElem? (i := 337) (by decide +kernel)⟩)⟩
theorem tb_y84 : sn_MOK 84 := ⟨List.mem_of_getElem? (i := 335) (by decide +kernel), List.mem_of_getElem? (i := 49) (by decide +kernel), ⟨by decide +kernel, by decide +kernel, by decide +kernel⟩, by decide +kernel, rfl, by decide, .inr (.inl ⟨rfl, List.mem_of_getElem? (i := 334) (by decide +kernel)⟩)⟩
theorem tb_y85 : sn_MOK 85 := ⟨List.mem_of_getElem? (i := 441) (by decide +kernel), List.mem_of_getElem? (i := 49) (by decide +kernel), ⟨by decide +kernel, by decide +kernel, by decide +kernel⟩, by decide +kernel, rfl, by decide, .inr (.inl ⟨rfl, List.mem_of_getElem? (i := 440) (by decide +kernel)⟩)⟩
theorem tb_y86 : sn_MOK 86 := ⟨List.mem_of_getElem? (i := 558) (by decide +kernel), List.mem_of_getElem? (i := 49) (by decide +kernel), ⟨by decide +kernel, by decide +kernel, by decide +kernel⟩, by decide +kernel, rfl, by decide, .inl ⟨rfl, List.mem_of_getElem? (i := 557) (by decide +kernel), List.mem_of_getElem? (i := 11) (by decide +kernel), by decide⟩⟩
theorem tb_y87 : sn_MOK 87 := ⟨List.mem_of_getElem? (i := 496) (by decide +kernel), List.mem_of_getElem? (i := 49) (by decide +kernel), ⟨by decide +kernel, by decide +kernel, by decide +kernel⟩, by decide +kernel, rfl, by decide, .inl ⟨rfl, List.mem_of_getElem? (i := 495) (by decide +kernel), List.mem_of_getElem? (i := 8) (by decide +kernel), by decide⟩⟩
theorem tb_y88 : sn_MOK 88 := ⟨List.mem_of_getElem? (i := 500) (by decide +kernel), List.mem_of_getElem? (i := 49) (by decide +kernel), ⟨by decide +kernel, by decide +kernel, by decide +kernel⟩, by decide +kernel, rfl, by decide, .inl ⟨rfl, List.mem_of_getElem? (i := 499) (by decide +kernel), List.mem_of_getElem? (i := 9) (by decide +kernel), by decide⟩⟩
theorem tb_y89 : sn_MOK 89 := ⟨List.mem_of_getElem? (i := 582) (by decide +kernel), List.mem_of_getElem? (i := 49) (by decide +kernel), ⟨by decide +kernel, by decide +kernel, by decide +kernel⟩, by decide +kernel, rfl, by decide, .inl ⟨rfl, List.mem_of_getElem? (i := 581) (by decide +kernel), List.mem_of_getElem? (i := 12) (by decide +kernel), by decide⟩⟩
theorem tb_y90 : sn_MOK 90 := ⟨List.mem_of_getElem? (i := 586) (by decide +kernel), List.mem_of_getElem? (i := 49) (by decide +kernel), ⟨by decide +kernel, by decide +kernel, by decide +kernel⟩, by decide +kernel, rfl, by decide, .inl ⟨rfl, List.mem_of_getElem? (i := 585) (by decide +kernel), List.mem_of_getElem? (i := 13) (by decide +kernel), by decide⟩⟩
theorem tb_y91 : sn_MOK 91 := ⟨List.mem_of_getElem? (i := 644) (by decide +kernel), List.mem_of_getElem? (i := 49) (by decide +kernel), ⟨by decide +kernel, by decide +kernel, by decide +kernel⟩, by decide +kernel, rfl, by decide, .inl ⟨rfl, List.mem_of_getElem? (i := 643) (by decide +kernel), List.mem_of_getElem? (i := 16) (by decide +kernel), by decide⟩⟩
theorem tb_y92 : sn_MOK 92 := ⟨List.mem_of_getElem? (i := 647) (by decide +kernel), List.mem_of_getElem? (i := 49) (by decide +kernel), ⟨by decide +kernel, by decide +kernel, by decide +kernel⟩, by decide +kernel, rfl, by decide, .inr (.inl ⟨rfl, List.mem_of_getElem? (i := 646) (by decide +kernel)⟩)⟩
theorem tb_y93 : sn_MOK 93 := ⟨List.mem_of_getElem? (i := 650) (by decide +kernel), List.mem_of_getElem? (i := 49) (by decide +kernel), ⟨by decide +kernel, by decide +kernel, by decide +kernel⟩, by decide +kernel, rfl, by decide, .inr (.inl ⟨rfl, List.mem_of_getElem? (i := 649) (by decide +kernel)⟩)⟩
theorem tb_y94 : sn_MOK 94 := ⟨List.mem_of_getElem? (i := 657) (by decide +kernel), List.mem_of_getElem? (i := 49) (by decide +kernel), ⟨by decide +kernel, by decide +kernel, by decide +kernel⟩, by decide +kernel, rfl, by decide, .inr (.inl ⟨rfl, List.mem_of_getElem? (i := 656) (by decide +kernel)⟩)⟩
theorem tb_y95 : sn_MOK 95 := ⟨List.mem_of_getElem? (i := 663) (by decide +kernel), List.mem_of_getElem? (i := 49) (by decide +kernel), ⟨by decide +kernel, by decide +kernel, by decide +kernel⟩, by decide +kernel, rfl, by decide, .inr (.inl ⟨rfl, List.mem_of_getElem? (i := 662) (by decide +kernel)⟩)⟩
theorem tb_y96 : sn_MOK 96 := ⟨List.mem_of_getElem? (i := 691) (by decide +kernel), List.mem_of_getElem? (i := 59) (by decide +kernel), ⟨by decide +kernel, by decide +kernel, by decide +kernel⟩, by decide +kernel, rfl, by decide, .inr (.inr ⟨rfl, by decide, List.mem_of_getElem? (i := 690) (by decide +kernel), by decide⟩)⟩
theorem tb_y97 : sn_MOK 97 := ⟨List.mem_of_getElem? (i := 785) (by decide +kernel), List.mem_of_getElem? (i := 59) (by decide +kernel), ⟨by decide +kernel, by decide +kernel, by decide +kernel⟩, by decide +kernel, rfl, by decide, .inr (.inl ⟨rfl, List.mem_of_getElem? (i := 784) (by decide +kernel)⟩)⟩
theorem tb_y98 : sn_MOK 98 := ⟨List.mem_of_getElem? (i := 906) (by decide +kernel), List.mem_of_getElem? (i := 59) (by decide +kernel), ⟨by decide +kernel, by decide +kernel, by decide +kernel⟩, by decide +kernel, rfl, by decide, .inr (.inl ⟨rfl, List.mem_of_getElem? (i := 905) (by decide +kernel)⟩)⟩
theorem tb_y99 : sn_MOK 99 := ⟨List.mem_of_getElem? (i := 870) (by decide +kernel), List.mem_of_getElem? (i := 59) (by decide +kernel), ⟨by decide +kernel, by decide +kernel, by decide +kernel⟩, by decide +kernel, rfl, by decide, .inr (.inl ⟨rfl, List.mem_of_getElem? (i := 869) (by decide +kernel)⟩)⟩
theorem tb_y100 : sn_MOK 100 := ⟨List.mem_of_getElem? (i := 1025) (by decide +kernel), List.mem_of_getElem? (i := 59) (by decide +kernel), ⟨by decide +kernel, by decide +kernel, by decide +kernel⟩, by decide +kernel, rfl, by decide, .inr (.inl ⟨rfl, List.mem_of_getElem? (i := 1024) (by decide +kernel)⟩)⟩
theorem tb_y101 : sn_MOK 101 := ⟨List.mem_of_getElem? (i := 696) (by decide +kernel), List.mem_of_getElem? (i := 59) (by decide +kernel), ⟨by decide +kernel, by decide +kernel, by decide +kernel⟩, by decide +kernel, rfl, by decide, .inl ⟨rfl, List.mem_of_getElem? (i := 695) (by decide +kernel), List.mem_of_getElem? (i := 17) (by decide +kernel), by decide⟩⟩
theorem tb_y102 : sn_MOK 102 := ⟨List.mem_of_getElem? (i := 700) (by decide +kernel), List.mem_of_getElem? (i := 59) (by decide +kernel), ⟨by decide +kernel, by decide +kernel, by decide +kernel⟩, by decide +kernel, rfl, by decide, .inl ⟨rfl, List.mem_of_getElem? (i := 699) (by decide +kernel), List.mem_of_getElem? (i := 18) (by decide +kernel), by decide⟩⟩
theorem tb_y103 : sn_MOK 103 := ⟨List.mem_of_getElem? (i := 704) (by decide +kernel), List.mem_of_getElem? (i := 59) (by decide +kernel), ⟨by decide +kernel, by decide +kernel, by decide +kernel⟩, by decide +kernel, rfl, by decide, .inl ⟨rfl, List.mem_of_getElem? (i := 703) (by decide +kernel), List.mem_of_getElem? (i := 19) (by decide +kernel), by decide⟩⟩
theorem tb_y104 : sn_MOK 104 := ⟨List.mem_of_getElem? (i := 708) (by decide +kernel), List.mem_of_getElem? (i := 59) (by decide +kernel), ⟨by decide +kernel, by decide +kernel, by decide +kernel⟩, by decide +kernel, rfl, by decide, .inl ⟨rfl, List.mem_of_getElem? (i := 707) (by decide +kernel), List.mem_of_getElem? (i := 20) (by decide +kernel), by decide⟩⟩
theorem tb_y105 : sn_MOK 105 := ⟨List.mem_of_getElem? (i := 712) (by decide +kernel), List.mem_of_getElem? (i := 59) (by decide +kernel), ⟨by decide +kernel, by decide +kernel, by decide +kernel⟩, by decide +kernel, rfl, by decide, .inl ⟨rfl, List.mem_of_getElem? (i := 711) (by decide +kernel), List.mem_of_getElem? (i := 21) (by decide +kernel), by decide⟩⟩
theorem tb_y106 : sn_MOK 106 := ⟨List.mem_of_getElem? (i := 835) (by decide +kernel), List.mem_of_getElem? (i := 59) (by decide +kernel), ⟨by decide +kernel, by decide +kernel, by decide +kernel⟩, by decide +kernel, rfl, by decide, .inl ⟨rfl, List.mem_of_getElem? (i := 834) (by decide +kernel), List.mem_of_getElem? (i := 29) (by decide +kernel), by decide⟩⟩
theorem tb_y107 : sn_MOK 107 := ⟨List.mem_of_getElem? (i := 780) (by decide +kernel), List.mem_of_getElem? (i := 59) (by decide +kernel), ⟨by decide +kernel, by decide +kernel, by decide +kernel⟩, by decide +kernel, rfl, by decide, .inl ⟨rfl, List.mem_of_getElem? (i := 778) (by decide +kernel), List.mem_of_getElem? (i := 779) (by decide +kernel), by decide⟩⟩
theorem tb_y108 : sn_MOK 108 := ⟨List.mem_of_getElem? (i := 789) (by decide +kernel), List.mem_of_getElem? (i := 59) (by decide +kernel), ⟨by decide +kernel, by decide +kernel, by decide +kernel⟩, by decide +kernel, rfl, by decide, .inl ⟨rfl, List.mem_of_getElem? (i := 787) (by decide +kernel), List.mem_of_getElem? (i := 788) (by decide +kernel), by decide⟩⟩
theorem tb_y109 : sn_MOK 109 := ⟨List.mem_of_getElem? (i := 801) (by decide +kernel), List.mem_of_getElem? (i := 59) (by decide +kernel), ⟨by decide +kernel, by decide +kernel, by decide +kernel⟩, by decide +kernel, rfl, by decide, .inl ⟨rfl, List.mem_of_getElem? (i := 800) (by decide +kernel), List.mem_of_getElem? (i := 23) (by decide +kernel), by decide⟩⟩
theorem tb_y110 : sn_MOK 110 := ⟨List.mem_of_getElem? (i := 813) (by decide +kernel), List.mem_of_getElem? (i := 59) (by decide +kernel), ⟨by decide +kernel, by decide +kernel, by decide +kernel⟩, by decide +kernel, rfl, by decide, .inl ⟨rfl, List.mem_of_getElem? (i := 812) (by decide +kernel), List.mem_of_getElem? (i := 26) (by decide +kernel), by decide⟩⟩
theorem tb_y111 : sn_MOK 111 := ⟨List.mem_of_getElem? (i := 819) (by decide +kernel), List.mem_of_getElem? (i := 59) (by decide +kernel), ⟨by decide +kernel, by decide +kernel, by decide +kernel⟩, by decide +kernel, rfl, by decide, .inl ⟨rfl, List.mem_of_getElem? (i := 818) (by decide +kernel), List.mem_of_getElem? (i := 27) (by decide +kernel), by decide⟩⟩
theorem tb_y112 : sn_MOK 112 := ⟨List.mem_of_getElem? (i := 809) (by decide +kernel), List.mem_of_getElem? (i := 59) (by decide +kernel), ⟨by decide +kernel, by decide +kernel, by decide +kernel⟩, by decide +kernel, rfl, by decide, .inl ⟨rfl, List.mem_of_getElem? (i := 808) (by decide +kernel), List.mem_of_getElem? (i := 25) (by decide +kernel), by decide⟩⟩
theorem tb_y113 : sn_MOK 113 := ⟨List.mem_of_getElem? (i := 823) (by decide +kernel), List.mem_of_getElem? (i := 59) (by decide +kernel), ⟨by decide +kernel, by decide +kernel, by decide +kernel⟩, by decide +kernel, rfl, by decide, .inl ⟨rfl, List.mem_of_getElem? (i := 822) (by decide +kernel), List.mem_of_getElem? (i := 28) (by decide +kernel), by decide⟩⟩
theorem tb_y114 : sn_MOK 114 := ⟨List.mem_of_getElem? (i := 805) (by decide +kernel), List.mem_of_getElem? (i := 59) (by decide +kernel), ⟨by decide +kernel, by decide +kernel, by decide +kernel⟩, by decide +kernel, rfl, by decide, .inl ⟨rfl, List.mem_of_getElem? (i := 804) (by decide +kernel), List.mem_of_getElem? (i := 24) (by decide +kernel), by decide⟩⟩
theorem tb_y115 : sn_MOK 115 := ⟨List.mem_of_getElem? (i := 797) (by decide +kernel), List.mem_of_getElem? (i := 59) (by decide +kernel), ⟨by decide +kernel, by decide +kernel, by decide +kernel⟩, by decide +kernel, rfl, by decide, .inl ⟨rfl, List.mem_of_getElem? (i := 796) (by decide +kernel), List.mem_of_getElem? (i := 22) (by decide +kernel), by decide⟩⟩
theorem tb_y116 : sn_MOK 116 := ⟨List.mem_of_getElem? (i := 793) (by decide +kernel), List.mem_of_getElem? (i := 59) (by decide +kernel), ⟨by decide +kernel, by decide +kernel, by decide +kernel⟩, by decide +kernel, rfl, by decide, .inl ⟨rfl, List.mem_of_getElem? (i := 791) (by decide +kernel), List.mem_of_getElem? (i := 792) (by decide +kernel), by decide⟩⟩
theorem tb_y117 : sn_MOK 117 := ⟨List.mem_of_getElem? (i := 827) (by decide +kernel), List.mem_of_getElem? (i := 59) (by decide +kernel), ⟨by decide +kernel, by decide +kernel, by decide +kernel⟩, by decide +kernel, rfl, by decide, .inl ⟨rfl, List.mem_of_getElem? (i := 825) (by decide +kernel), List.mem_of_getElem? (i := 826) (by decide +kernel), by decide⟩⟩
theorem tb_y118 : sn_MOK 118 := ⟨List.mem_of_getElem? (i := 855) (by decide +kernel), List.mem_of_getElem? (i := 59) (by decide +kernel), ⟨by decide +kernel, by decide +kernel, by decide +kernel⟩, by decide +kernel, rfl, by decide, .inr (.inl ⟨rfl, List.mem_of_getElem? (i := 854) (by decide +kernel)⟩)⟩
theorem tb_y119 : sn_MOK 119 := ⟨List.mem_of_getElem? (i := 867) (by decide +kernel), List.mem_of_getElem? (i := 59) (by decide +kernel), ⟨by decide +kernel, by decide +kernel, by decide +kernel⟩, by decide +kernel, rfl, by decide, .inr (.inl ⟨rfl, List.mem_of_getElem? (i := 866) (by decide +kernel)⟩)⟩
theorem tb_y120 : sn_MOK 120 := ⟨List.mem_of_getElem? (i := 848) (by decide +kernel), List.mem_of_getElem? (i := 59) (by decide +kernel), ⟨by decide +kernel, by decide +kernel, by decide +kernel⟩, by decide +kernel, rfl, by decide, .inl ⟨rfl, List.mem_of_getElem? (i := 847) (by decide +kernel), List.mem_of_getElem? (i := 32) (by decide +kernel), by decide⟩⟩
theorem tb_y121 : sn_MOK 121 := ⟨List.mem_of_getElem? (i := 844) (by decide +kernel), List.mem_of_getElem? (i := 59) (by decide +kernel), ⟨by decide +kernel, by decide +kernel, by decide +kernel⟩, by decide +kernel, rfl, by decide, .inl ⟨rfl, List.mem_of_getElem? (i := 843) (by decide +kernel), List.mem_of_getElem? (i := 31) (by decide +kernel), by decide⟩⟩
theorem tb_y122 : sn_MOK 122 := ⟨List.mem_of_getElem? (i := 864) (by decide +kernel), List.mem_of_getElem? (i := 59) (by decide +kernel), ⟨by decide +kernel, by decide +kernel, by decide +kernel⟩, by decide +kernel, rfl, by decide, .inl ⟨rfl, List.mem_of_getElem? (i := 863) (by decide +kernel), List.mem_of_getElem? (i := 33) (by decide +kernel), by decide⟩⟩
theorem tb_y123 : sn_MOK 123 := ⟨List.mem_of_getElem? (i := 894) (by decide +kernel), List.mem_of_getElem? (i := 59) (by decide +kernel), ⟨by decide +kernel, by decide +kernel, by decide +kernel⟩, by decide +kernel, rfl, by decide, .inl ⟨rfl, List.mem_of_getElem? (i := 893) (by decide +kernel), List.mem_of_getElem? (i := 37) (by decide +kernel), by decide⟩⟩
theorem tb_y124 : sn_MOK 124 := ⟨List.mem_of_getElem? (i := 878) (by decide +kernel), List.mem_of_getElem? (i := 59) (by decide +kernel), ⟨by decide +kernel, by decide +kernel, by decide +kernel⟩, by decide +kernel, rfl, by decide, .inl ⟨rfl, List.mem_of_getElem? (i := 877) (by decide +kernel), List.mem_of_getElem? (i := 34) (by decide +kernel), by decide⟩⟩
theorem tb_y125 : sn_MOK 125 := ⟨List.mem_of_getElem? (i := 890) (by decide +kernel), List.mem_of_getElem? (i := 59) (by decide +kernel), ⟨by decide +kernel, by decide +kernel, by decide +kernel⟩, by decide +kernel, rfl, by decide, .inl ⟨rfl, List.mem_of_getElem? (i := 889) (by decide +kernel), List.mem_of_getElem? (i := 36) (by decide +kernel), by decide⟩⟩
theorem tb_y126 : sn_MOK 126 := ⟨List.mem_of_getElem? (i := 886) (by decide +kernel), List.mem_of_getElem? (i := 59) (by decide +kernel), ⟨by decide +kernel, by decide +kernel, by decide +kernel⟩, by decide +kernel, rfl, by decide, .inl ⟨rfl, List.mem_of_getElem? (i := 885) (by decide +kernel), List.mem_of_getElem? (i := 35) (by decide +kernel), by decide⟩⟩
theorem tb_y127 : sn_MOK 127 := ⟨List.mem_of_getElem? (i := 840) (by decide +kernel), List.mem_of_getElem? (i := 59) (by decide +kernel), ⟨by decide +kernel, by decide +kernel, by decide +kernel⟩, by decide +kernel, rfl, by decide, .inl ⟨rfl, List.mem_of_getElem? (i := 839) (by decide +kernel), List.mem_of_getElem? (i := 30) (by decide +kernel), by decide⟩⟩
theorem tb_y128 : sn_MOK 128 := ⟨List.mem_of_getElem? (i := 831) (by decide +kernel), List.mem_of_getElem? (i := 59) (by decide +kernel), ⟨by decide +kernel, by decide +kernel, by decide +kernel⟩, by decide +kernel, rfl, by decide, .inl ⟨rfl, List.mem_of_getElem? (i := 829) (by decide +kernel), List.mem_of_getElem? (i := 830) (by decide +kernel), by decide⟩⟩
theorem tb_y129 : sn_MOK 129 := ⟨List.mem_of_getElem? (i := 852) (by decide +kernel), List.mem_of_getElem? (i := 59) (by decide +kernel), ⟨by decide +kernel, by decide +kernel, by decide +kernel⟩, by decide +kernel, rfl, by decide, .inl ⟨rfl, List.mem_of_getElem? (i := 850) (by decide +kernel), List.mem_of_getElem? (i := 851) (by decide +kernel), by decide⟩⟩
theorem tb_y130 : sn_MOK 130 := ⟨List.mem_of_getElem? (i := 859) (by decide +kernel), List.mem_of_getElem? (i := 59) (by decide +kernel), ⟨by decide +kernel, by decide +kernel, by decide +kernel⟩, by decide +kernel, rfl, by decide, .inl ⟨rfl, List.mem_of_getElem? (i := 857) (by decide +kernel), List.mem_of_getElem? (i := 858) (by decide +kernel), by decide⟩⟩
theorem tb_y131 : sn_MOK 131 := ⟨List.mem_of_getElem? (i := 874) (by decide +kernel), List.mem_of_getElem? (i := 59) (by decide +kernel), ⟨by decide +kernel, by decide +kernel, by decide +kernel⟩, by decide +kernel, rfl, by decide, .inl ⟨rfl, List.mem_of_getElem? (i := 872) (by decide +kernel), List.mem_of_getElem? (i := 873) (by decide +kernel), by decide⟩⟩
theorem tb_y132 : sn_MOK 132 := ⟨List.mem_of_getElem? (i := 882) (by decide +kernel), List.mem_of_getElem? (i := 59) (by decide +kernel), ⟨by decide +kernel, by decide +kernel, by decide +kernel⟩, by decide +kernel, rfl, by decide, .inl ⟨rfl, List.mem_of_getElem? (i := 880) (by decide +kernel), List.mem_of_getElem? (i := 881) (by decide +kernel), by decide⟩⟩
theorem tb_y133 : sn_MOK 133 := ⟨List.mem_of_getElem? (i := 910) (by decide +kernel), List.mem_of_getElem? (i := 59) (by decide +kernel), ⟨by decide +kernel, by decide +kernel, by decide +kernel⟩, by decide +kernel, rfl, by decide, .inl ⟨rfl, List.mem_of_getElem? (i := 909) (by decide +kernel), List.mem_of_getElem? (i := 39) (by decide +kernel), by decide⟩⟩
theorem tb_y134 : sn_MOK 134 := ⟨List.mem_of_getElem? (i := 903) (by decide +kernel), List.mem_of_getElem? (i := 59) (by decide +kernel), ⟨by decide +kernel, by decide +kernel, by decide +kernel⟩, by decide +kernel, rfl, by decide, .inl ⟨rfl, List.mem_of_getElem? (i := 902) (by decide +kernel), List.mem_of_getElem? (i := 38) (by decide +kernel), by decide⟩⟩
theorem tb_y135 : sn_MOK 135 := ⟨List.mem_of_getElem? (i := 914) (by decide +kernel), List.mem_of_getElem? (i := 59) (by decide +kernel), ⟨by decide +kernel, by decide +kernel, by decide +kernel⟩, by decide +kernel, rfl, by decide, .inl ⟨rfl, List.mem_of_getElem? (i := 913) (by decide +kernel), List.mem_of_getElem? (i := 40) (by decide +kernel), by decide⟩⟩
theorem tb_y136 : sn_MOK 136 := ⟨List.mem_of_getElem? (i := 938) (by decide +kernel), List.mem_of_getElem? (i := 59) (by decide +kernel), ⟨by decide +kernel, by decide +kernel, by decide +kernel⟩, by decide +kernel, rfl, by decide, .inl ⟨rfl, List.mem_of_getElem? (i := 937) (by decide +kernel), List.mem_of_getElem? (i := 42) (by decide +kernel), by decide⟩⟩
theorem tb_y137 : sn_MOK 137 := ⟨List.mem_of_getElem? (i := 898) (by decide +kernel), List.mem_of_getElem? (i := 59) (by decide +kernel), ⟨by decide +kernel, by decide +kernel, by decide +kernel⟩, by decide +kernel, rfl, by decide, .inl ⟨rfl, List.mem_of_getElem? (i := 896) (by decide +kernel), List.mem_of_getElem? (i := 897) (by decide +kernel), by decide⟩⟩
theorem tb_y138 : sn_MOK 138 := ⟨List.mem_of_getElem? (i := 926) (by decide +kernel), List.mem_of_getElem? (i := 59) (by decide +kernel), ⟨by decide +kernel, by decide +kernel, by decide +kernel⟩, by decide +kernel, rfl, by decide, .inl ⟨rfl, List.mem_of_getElem? (i := 925) (by decide +kernel), List.mem_of_getElem? (i := 41) (by decide +kernel), by decide⟩⟩
theorem tb_y139 : sn_MOK 139 := ⟨List.mem_of_getElem? (i := 921) (by decide +kernel), List.mem_of_getElem? (i := 59) (by decide +kernel), ⟨by decide +kernel, by decide +kernel, by decide +kernel⟩, by decide +kernel, rfl, by decide, .inr (.inl ⟨rfl, List.mem_of_getElem? (i := 920) (by decide +kernel)⟩)⟩
theorem tb_y140 : sn_MOK 140 := ⟨List.mem_of_getElem? (i := 918) (by decide +kernel), List.mem_of_getElem? (i := 59) (by decide +kernel), ⟨by decide +kernel, by decide +kernel, by decide +kernel⟩, by decide +kernel, rfl, by decide, .inl ⟨rfl, List.mem_of_getElem? (i := 916) (by decide +kernel), List.mem_of_getElem? (i := 917) (by decide +kernel), by decide⟩⟩
theorem tb_y141 : sn_MOK 141 := ⟨List.mem_of_getElem? (i := 930) (by decide +kernel), List.mem_of_getElem? (i := 59) (by decide +kernel), ⟨by decide +kernel, by decide +kernel, by decide +kernel⟩, by decide +kernel, rfl, by decide, .inl ⟨rfl, List.mem_of_getElem? (i := 928) (by decide +kernel), List.mem_of_getElem? (i := 929) (by decide +kernel), by decide⟩⟩
theorem tb_y142 : sn_MOK 142 := ⟨List.mem_of_getElem? (i := 934) (by decide +kernel), List.mem_of_getElem? (i := 59) (by decide +kernel), ⟨by decide +kernel, by decide +kernel, by decide +kernel⟩, by decide +kernel, rfl, by decide, .inl ⟨rfl, List.mem_of_getElem? (i := 932) (by decide +kernel), List.mem_of_getElem? (i := 933) (by decide +kernel), by decide⟩⟩
theorem tb_y143 : sn_MOK 143 := ⟨List.mem_of_getElem? (i := 947) (by decide +kernel), List.mem_of_getElem? (i := 59) (by decide +kernel), ⟨by decide +kernel, by decide +kernel, by decide +kernel⟩, by decide +kernel, rfl, by decide, .inl ⟨rfl, List.mem_of_getElem? (i := 946) (by decide +kernel), List.mem_of_getElem? (i := 43) (by decide +kernel), by decide⟩⟩
theorem tb_y144 : sn_MOK 144 := ⟨List.mem_of_getElem? (i := 942) (by decide +kernel), List.mem_of_getElem? (i := 59) (by decide +kernel), ⟨by decide +kernel, by decide +kernel, by decide +kernel⟩, by decide +kernel, rfl, by decide, .inl ⟨rfl, List.mem_of_getElem? (i := 940) (by decide +kernel), List.mem_of_getElem? (i := 941) (by decide +kernel), by decide⟩⟩
theorem tb_y145 : sn_MOK 145 := ⟨List.mem_of_getElem? (i := 951) (by decide +kernel), List.mem_of_getElem? (i := 59) (by decide +kernel), ⟨by decide +kernel, by decide +kernel, by decide +kernel⟩, by decide +kernel, rfl, by decide, .inl ⟨rfl, List.mem_of_getElem? (i := 949) (by decide +kernel), List.mem_of_getElem? (i := 950) (by decide +kernel), by decide⟩⟩
theorem tb_y146 : sn_MOK 146 := ⟨List.mem_of_getElem? (i := 955) (by decide +kernel), List.mem_of_getElem? (i := 59) (by decide +kernel), ⟨by decide +kernel, by decide +kernel, by decide +kernel⟩, by decide +kernel, rfl, by decide, .inl ⟨rfl, List.mem_of_getElem? (i := 953) (by decide +kernel), List.mem_of_getElem? (i := 954) (by decide +kernel), by decide⟩⟩
theorem tb_y147 : sn_MOK 147 := ⟨List.mem_of_getElem? (i := 959) (by decide +kernel), List.mem_of_getElem? (i := 59) (by decide +kernel), ⟨by decide +kernel, by decide +kernel, by decide +kernel⟩, by decide +kernel, rfl, by decide, .inl ⟨rfl, List.mem_of_getElem? (i := 957) (by decide +kernel), List.mem_of_getElem? (i := 958) (by decide +kernel), by decide⟩⟩
theorem tb_y148 : sn_MOK 148 := ⟨List.mem_of_getElem? (i := 964) (by decide +kernel), List.mem_of_getElem? (i := 59) (by decide +kernel), ⟨by decide +kernel, by decide +kernel, by decide +kernel⟩, by decide +kernel, rfl, by decide, .inl ⟨rfl, List.mem_of_getElem? (i := 962) (by decide +kernel), List.mem_of_getElem? (i := 963) (by decide +kernel), by decide⟩⟩
theorem tb_y149 : sn_MOK 149 := ⟨List.mem_of_getElem? (i := 968) (by decide +kernel), List.mem_of_getElem? (i := 59) (by decide +kernel), ⟨by decide +kernel, by decide +kernel, by decide +kernel⟩, by decide +kernel, rfl, by decide, .inl ⟨rfl, List.mem_of_getElem? (i := 966) (by decide +kernel), List.mem_of_getElem? (i := 967) (by decide +kernel), by decide⟩⟩
theorem tb_y150 : sn_MOK 150 := ⟨List.mem_of_getElem? (i := 982) (by decide +kernel), List.mem_of_getElem? (i := 59) (by decide +kernel), ⟨by decide +kernel, by decide +kernel, by decide +kernel⟩, by decide +kernel, rfl, by decide, .inl ⟨rfl, List.mem_of_getElem? (i := 981) (by decide +kernel), List.mem_of_getElem? (i := 45) (by decide +kernel), by decide⟩⟩
theorem tb_y151 : sn_MOK 151 := ⟨List.mem_of_getElem? (i := 978) (by decide +kernel), List.mem_of_getElem? (i := 59) (by decide +kernel), ⟨by decide +kernel, by decide +kernel, by decide +kernel⟩, by decide +kernel, rfl, by decide, .inl ⟨rfl, List.mem_of_getElem? (i := 977) (by decide +kernel), List.mem_of_getElem? (i := 44) (by decide +kernel), by decide⟩⟩
theorem tb_y152 : sn_MOK 152 := ⟨List.mem_of_getElem? (i := 973) (by decide +kernel), List.mem_of_getElem? (i := 59) (by decide +kernel), ⟨by decide +kernel, by decide +kernel, by decide +kernel⟩, by decide +kernel, rfl, by decide, .inl ⟨rfl, List.mem_of_getElem? (i := 971) (by decide +kernel), List.mem_of_getElem? (i := 972) (by decide +kernel), by decide⟩⟩
theorem tb_y153 : sn_MOK 153 := ⟨List.mem_of_getElem? (i := 986) (by decide +kernel), List.mem_of_getElem? (i := 59) (by decide +kernel), ⟨by decide +kernel, by decide +kernel, by decide +kernel⟩, by decide +kernel, rfl, by decide, .inl ⟨rfl, List.mem_of_getElem? (i := 984) (by decide +kernel), List.mem_of_getElem? (i := 985) (by decide +kernel), by decide⟩⟩
theorem tb_y154 : sn_MOK 154 := ⟨List.mem_of_getElem? (i := 990) (by decide +kernel), List.mem_of_getElem? (i := 59) (by decide +kernel), ⟨by decide +kernel, by decide +kernel, by decide +kernel⟩, by decide +kernel, rfl, by decide, .inl ⟨rfl, List.mem_of_getElem? (i := 988) (by decide +kernel), List.mem_of_getElem? (i := 989) (by decide +kernel), by decide⟩⟩
theorem tb_y155 : sn_MOK 155 := ⟨List.mem_of_getElem? (i := 995) (by decide +kernel), List.mem_of_getElem? (i := 59) (by decide +kernel), ⟨by decide +kernel, by decide +kernel, by decide +kernel⟩, by decide +kernel, rfl, by decide, .inl ⟨rfl, List.mem_of_getElem? (i := 993) (by decide +kernel), List.mem_of_getElem? (i := 994) (by decide +kernel), by decide⟩⟩
theorem tb_y156 : sn_MOK 156 := ⟨List.mem_of_getElem? (i := 999) (by decide +kernel), List.mem_of_getElem? (i := 59) (by decide +kernel), ⟨by decide +kernel, by decide +kernel, by decide +kernel⟩, by decide +kernel, rfl, by decide, .inl ⟨rfl, List.mem_of_getElem? (i := 997) (by decide +kernel), List.mem_of_getElem? (i := 998) (by decide +kernel), by decide⟩⟩
theorem tb_y157 : sn_MOK 157 := ⟨List.mem_of_getElem? (i := 1003) (by decide +kernel), List.mem_of_getElem? (i := 59) (by decide +kernel), ⟨by decide +kernel, by decide +kernel, by decide +kernel⟩, by decide +kernel, rfl, by decide, .inl ⟨rfl, List.mem_of_getElem? (i := 1001) (by decide +kernel), List.mem_of_getElem? (i := 1002) (by decide +kernel), by decide⟩⟩
theorem tb_y158 : sn_MOK 158 := ⟨List.mem_of_getElem? (i := 1007) (by decide +kernel), List.mem_of_getElem? (i := 59) (by decide +kernel), ⟨by decide +kernel, by decide +kernel, by decide +kernel⟩, by decide +kernel, rfl, by decide, .inl ⟨rfl, List.mem_of_getElem? (i := 1005) (by decide +kernel), List.mem_of_getElem? (i := 1006) (by decide +kernel), by decide⟩⟩
theorem tb_y159 : sn_MOK 159 := ⟨List.mem_of_getElem? (i := 1021) (by decide +kernel), List.mem_of_getElem? (i := 59) (by decide +kernel), ⟨by decide +kernel, by decide +kernel, by decide +kernel⟩, by decide +kernel, rfl, by decide, .inl ⟨rfl, List.mem_of_getElem? (i := 1020) (by decide +kernel), List.mem_of_getElem? (i := 46) (by decide +kernel), by decide⟩⟩
theorem tb_y160 : sn_MOK 160 := ⟨List.mem_of_getElem? (i := 1013) (by decide +kernel), List.mem_of_getElem? (i := 59) (by decide +kernel), ⟨by decide +kernel, by decide +kernel, by decide +kernel⟩, by decide +kernel, rfl, by decide, .inl ⟨rfl, List.mem_of_getElem? (i := 1011) (by decide +kernel), List.mem_of_getElem? (i := 1012) (by decide +kernel), by decide⟩⟩
theorem tb_y161 : sn_MOK 161 := ⟨List.mem_of_getElem? (i := 1029) (by decide +kernel), List.mem_of_getElem? (i := 59) (by decide +kernel), ⟨by decide +kernel, by decide +kernel, by decide +kernel⟩, by decide +kernel, rfl, by decide, .inl ⟨rfl, List.mem_of_getElem? (i := 1027) (by decide +kernel), List.mem_of_getElem? (i := 1028) (by decide +kernel), by decide⟩⟩
theorem tb_y162 : sn_MOK 162 := ⟨List.mem_of_getElem? (i := 1033) (by decide +kernel), List.mem_of_getElem? (i := 59) (by decide +kernel), ⟨by decide +kernel, by decide +kernel, by decide +kernel⟩, by decide +kernel, rfl, by decide, .inl ⟨rfl, List.mem_of_getElem? (i := 1031) (by decide +kernel), List.mem_of_getElem? (i := 1032) (by decide +kernel), by decide⟩⟩
theorem tb_y163 : sn_MOK 163 := ⟨List.mem_of_getElem? (i := 1041) (by decide +kernel), List.mem_of_getElem? (i := 59) (by decide +kernel), ⟨by decide +kernel, by decide +kernel, by decide +kernel⟩, by decide +kernel, rfl, by decide, .inl ⟨rfl, List.mem_of_getElem? (i := 1040) (by decide +kernel), List.mem_of_getElem? (i := 47) (by decide +kernel), by decide⟩⟩
theorem tb_y164 : sn_MOK 164 := ⟨List.mem_of_getElem? (i := 1037) (by decide +kernel), List.mem_of_getElem? (i := 59) (by decide +kernel), ⟨by decide +kernel, by decide +kernel, by decide +kernel⟩, by decide +kernel, rfl, by decide, .inl ⟨rfl, List.mem_of_getElem? (i := 1035) (by decide +kernel), List.mem_of_getElem? (i := 1036) (by decide +kernel), by decide⟩⟩
theorem tb_y165 : sn_MOK 165 := ⟨List.mem_of_getElem? (i := 666) (by decide +kernel), List.mem_of_getElem? (i := 61) (by decide +kernel), ⟨by decide +kernel, by decide +kernel, by decide +kernel⟩, by decide +kernel, rfl, by decide, .inr (.inl ⟨rfl, List.mem_of_getElem? (i := 665) (by decide +kernel)⟩)⟩
theorem tb_y (k : Nat) (h : k < 166) : sn_MOK k := by
  match k, h with
  | 0, _ => exact tb_y0
  | 1, _ => exact tb_y1
  | 2, _ => exact tb_y2
  | 3, _ => exact tb_y3
  | 4, _ => exact tb_y4
  | 5, _ => exact tb_y5
  | 6, _ => exact tb_y6
  | 7, _ => exact tb_y7
  | 8, _ => exact tb_y8
  | 9, _ => exact tb_y9
  | 10, _ => exact tb_y10
  | 11, _ => exact tb_y11
  | 12, _ => exact tb_y12
  | 13, _ => exact tb_y13
  | 14, _ => exact tb_y14
  | 15, _ => exact tb_y15
  | 16, _ => exact tb_y16
  | 17, _ => exact tb_y17
  | 18, _ => exact tb_y18
  | 19, _ => exact tb_y19
  | 20, _ => exact tb_y20
  | 21, _ => exact tb_y21
  | 22, _ => exact tb_y22
  | 23, _ => exact tb_y23
  | 24, _ => exact tb_y24
  | 25, _ => exact tb_y25
  | 26, _ => exact tb_y26
  | 27, _ => exact tb_y27
  | 28, _ => exact tb_y28
  | 29, _ => exact tb_y29
  | 30, _ => exact tb_y30
  | 31, _ => exact tb_y31
  | 32, _ => exact tb_y32
  | 33, _ => exact tb_y33
  | 34, _ => exact tb_y34
  | 35, _ => exact tb_y35
  | 36, _ => exact tb_y36
  | 37, _ => exact tb_y37
  | 38, _ => exact tb_y38
  | 39, _ => exact tb_y39
  | 40, _ => exact tb_y40
  | 41, _ => exact tb_y41
  | 42, _ => exact tb_y42
  | 43, _ => exact tb_y43
  | 44, _ => exact tb_y44
  | 45, _ => exact tb_y45
  | 46, _ => exact tb_y46
  | 47, _ => exact tb_y47
  | 48, _ => exact tb_y48
  | 49, _ => exact tb_y49
  | 50, _ => exact tb_y50
  | 51, _ => exact tb_y51
  | 52, _ => exact tb_y52
  | 53, _ => exact tb_y53
  | 54, _ => exact tb_y54
  | 55, _ => exact tb_y55
  | 56, _ => exact tb_y56
  | 57, _ => exact tb_y57
  | 58, _ => exact tb_y58
  | 59, _ => exact tb_y59
  | 60, _ => exact tb_y60
  | 61, _ => exact tb_y61
  | 62, _ => exact tb_y62
  | 63, _ => exact tb_y63
  | 64, _ => exact tb_y64
  | 65, _ => exact tb_y65
  | 66, _ => exact tb_y66
  | 67, _ => exact tb_y67
  | 68, _ => exact tb_y68
  | 69, _ => exact tb_y69
  | 70, _ => exact tb_y70
  | 71, _ => exact tb_y71
  | 72, _ => exact tb_y72
  | 73, _ => exact tb_y73
  | 74, _ => exact tb_y74
  | 75, _ => exact tb_y75
  | 76, _ => exact tb_y76
  | 77, _ => exact tb_y77
  | 78, _ => exact tb_y78
  | 79, _ => exact tb_y79
  | 80, _ => exact tb_y80
  | 81, _ => exact tb_y81
  | 82, _ => exact tb_y82
  | 83, _ => exact tb_y83
  | 84, _ => exact tb_y84
  | 85, _ => exact tb_y85
  | 86, _ => exact tb_y86
  | 87, _ => exact tb_y87
  | 88, _ => exact tb_y88
  | 89, _ => exact tb_y89
  | 90, _ => exact tb_y90
  | 91, _ => exact tb_y91
  | 92, _ => exact tb_y92
  | 93, _ => exact tb_y93
  | 94, _ => exact tb_y94
  | 95, _ => exact tb_y95
  | 96, _ => exact tb_y96
  | 97, _ => exact tb_y97
  | 98, _ => exact tb_y98
  | 99, _ => exact tb_y99
  | 100, _ => exact tb_y100
  | 101, _ => exact tb_y101
  | 102, _ => exact tb_y102
  | 103, _ => exact tb_y103
  | 104, _ => exact tb_y104
  | 105, _ => exact tb_y105
  | 106, _ => exact tb_y106
  | 107, _ => exact tb_y107
  | 108, _ => exact tb_y108
  | 109, _ => exact tb_y109
  | 110, _ => exact tb_y110
  | 111, _ => exact tb_y111
  | 112, _ => exact tb_y112
  | 113, _ => exact tb_y113
  | 114, _ => exact tb_y114
  | 115, _ => exact tb_y115
  | 116, _ => exact tb_y116
  | 117, _ => exact tb_y117
  | 118, _ => exact tb_y118
  | 119, _ => exact tb_y119
  | 120, _ => exact tb_y120
  | 121, _ => exact tb_y121
  | 122, _ => exact tb_y122
  | 123, _ => exact tb_y123
  | 124, _ => exact tb_y124
  | 125, _ => exact tb_y125
  | 126, _ => exact tb_y126
  | 127, _ => exact tb_y127
  | 128, _ => exact tb_y128
  | 129, _ => exact tb_y129
  | 130, _ => exact tb_y130
  | 131, _ => exact tb_y131
  | 132, _ => exact tb_y132
  | 133, _ => exact tb_y133
  | 134, _ => exact tb_y134
  | 135, _ => exact tb_y135
  | 136, _ => exact tb_y136
  | 137, _ => exact tb_y137
  | 138, _ => exact tb_y138
  | 139, _ => exact tb_y139
  | 140, _ => exact tb_y140
  | 141, _ => exact tb_y141
  | 142, _ => exact tb_y142
  | 143, _ => exact tb_y143
  | 144, _ => exact tb_y144
  | 145, _ => exact tb_y145
  | 146, _ => exact tb_y146
  | 147, _ => exact tb_y147
  | 148, _ => exact tb_y148
  | 149, _ => exact tb_y149
  | 150, _ => exact tb_y150
  | 151, _ => exact tb_y151
  | 152, _ => exact tb_y152
  | 153, _ => exact tb_y153
  | 154, _ => exact tb_y154
  | 155, _ => exact tb_y155
  | 156, _ => exact tb_y156
  | 157, _ => exact tb_y157
  | 158, _ => exact tb_y158
  | 159, _ => exact tb_y159
  | 160, _ => exact tb_y160
  | 161, _ => exact tb_y161
  | 162, _ => exact tb_y162
  | 163, _ => exact tb_y163
  | 164, _ => exact tb_y164
  | 165, _ => exact tb_y165
  | q + 166, h => exact absurd h (by omega)
