section
-- ===== PART A: goes FIRST, ahead of the names: the tables' words, and 'selects' of the private methods out of them =====
/-- a private method of a class that the tables say can be made, by its rows of tables_1 -/
def lw_okq (q : MethodName × Nat) : Prop := (q.1.cls ≠ "java/lang/invoke/MethodHandle" ∧ q.1.cls ≠ "java/lang/invoke/VarHandle") ∧ Cond.instantiable q.1.cls q.2 ∈ tables_1 ∧ Cond.privateMethod q.1 ∈ tables_1 ∧ Cond.instanceMethod q.1 ∈ tables_1
theorem lw_p0 : lw_okq (⟨"ApologyBells$Text", "readItem", "(LApologyBells$Street;)Z"⟩, 4) := ⟨⟨by decide +kernel, by decide +kernel⟩, List.mem_of_getElem? (i := 23) (by decide +kernel), List.mem_of_getElem? (i := 229) (by decide +kernel), List.mem_of_getElem? (i := 230) (by decide +kernel)⟩
theorem lw_p1 : lw_okq (⟨"ApologyBells$Text", "nextLetter", "()I"⟩, 4) := ⟨⟨by decide +kernel, by decide +kernel⟩, List.mem_of_getElem? (i := 23) (by decide +kernel), List.mem_of_getElem? (i := 233) (by decide +kernel), List.mem_of_getElem? (i := 234) (by decide +kernel)⟩
theorem lw_p2 : lw_okq (⟨"ApologyBells$Text", "letterHere", "()I"⟩, 4) := ⟨⟨by decide +kernel, by decide +kernel⟩, List.mem_of_getElem? (i := 23) (by decide +kernel), List.mem_of_getElem? (i := 237) (by decide +kernel), List.mem_of_getElem? (i := 238) (by decide +kernel)⟩
theorem lw_p3 : lw_okq (⟨"ApologyBells$Text", "readNumbers", "(I)Z"⟩, 4) := ⟨⟨by decide +kernel, by decide +kernel⟩, List.mem_of_getElem? (i := 23) (by decide +kernel), List.mem_of_getElem? (i := 241) (by decide +kernel), List.mem_of_getElem? (i := 242) (by decide +kernel)⟩
theorem lw_p4 : lw_okq (⟨"ApologyBells$Text", "tellWrong", "(LApologyBells$Street;)Z"⟩, 4) := ⟨⟨by decide +kernel, by decide +kernel⟩, List.mem_of_getElem? (i := 23) (by decide +kernel), List.mem_of_getElem? (i := 251) (by decide +kernel), List.mem_of_getElem? (i := 252) (by decide +kernel)⟩
theorem lw_p5 : lw_okq (⟨"ApologyBells$Text", "tellStore", "(LApologyBells$Street;)Z"⟩, 4) := ⟨⟨by decide +kernel, by decide +kernel⟩, List.mem_of_getElem? (i := 23) (by decide +kernel), List.mem_of_getElem? (i := 267) (by decide +kernel), List.mem_of_getElem? (i := 268) (by decide +kernel)⟩
theorem lw_p6 : lw_okq (⟨"ApologyBells$Text", "tellBell", "(LApologyBells$Street;)Z"⟩, 4) := ⟨⟨by decide +kernel, by decide +kernel⟩, List.mem_of_getElem? (i := 23) (by decide +kernel), List.mem_of_getElem? (i := 271) (by decide +kernel), List.mem_of_getElem? (i := 272) (by decide +kernel)⟩
theorem lw_p7 : lw_okq (⟨"ApologyBells", "isWrong", "(I)Z"⟩, 12) := ⟨⟨by decide +kernel, by decide +kernel⟩, List.mem_of_getElem? (i := 15) (by decide +kernel), List.mem_of_getElem? (i := 370) (by decide +kernel), List.mem_of_getElem? (i := 371) (by decide +kernel)⟩
theorem lw_p8 : lw_okq (⟨"ApologyBells", "remember", "()V"⟩, 12) := ⟨⟨by decide +kernel, by decide +kernel⟩, List.mem_of_getElem? (i := 15) (by decide +kernel), List.mem_of_getElem? (i := 446) (by decide +kernel), List.mem_of_getElem? (i := 447) (by decide +kernel)⟩
theorem lw_p9 : lw_okq (⟨"ApologyBells", "dropOldest", "()V"⟩, 12) := ⟨⟨by decide +kernel, by decide +kernel⟩, List.mem_of_getElem? (i := 15) (by decide +kernel), List.mem_of_getElem? (i := 450) (by decide +kernel), List.mem_of_getElem? (i := 451) (by decide +kernel)⟩
theorem lw_p10 : lw_okq (⟨"ApologyBells$Street", "hearOnce", "(I)V"⟩, 5) := ⟨⟨by decide +kernel, by decide +kernel⟩, List.mem_of_getElem? (i := 72) (by decide +kernel), List.mem_of_getElem? (i := 495) (by decide +kernel), List.mem_of_getElem? (i := 496) (by decide +kernel)⟩
theorem lw_p11 : lw_okq (⟨"ApologyBells", "freshTrial", "()LApologyBells$Street;"⟩, 12) := ⟨⟨by decide +kernel, by decide +kernel⟩, List.mem_of_getElem? (i := 15) (by decide +kernel), List.mem_of_getElem? (i := 508) (by decide +kernel), List.mem_of_getElem? (i := 509) (by decide +kernel)⟩
theorem lw_p12 : lw_okq (⟨"ApologyBells", "findBest", "(I)V"⟩, 12) := ⟨⟨by decide +kernel, by decide +kernel⟩, List.mem_of_getElem? (i := 15) (by decide +kernel), List.mem_of_getElem? (i := 532) (by decide +kernel), List.mem_of_getElem? (i := 533) (by decide +kernel)⟩
theorem lw_p13 : lw_okq (⟨"ApologyBells", "firstHourHeard", "(II)I"⟩, 12) := ⟨⟨by decide +kernel, by decide +kernel⟩, List.mem_of_getElem? (i := 15) (by decide +kernel), List.mem_of_getElem? (i := 536) (by decide +kernel), List.mem_of_getElem? (i := 537) (by decide +kernel)⟩
theorem lw_p14 : lw_okq (⟨"ApologyBells$HourPlan", "fitFrom", "(LApologyBells$Street;III)Z"⟩, 1) := ⟨⟨by decide +kernel, by decide +kernel⟩, List.mem_of_getElem? (i := 61) (by decide +kernel), List.mem_of_getElem? (i := 548) (by decide +kernel), List.mem_of_getElem? (i := 549) (by decide +kernel)⟩
theorem lw_p15 : lw_okq (⟨"ApologyBells$HourPlan", "isFree", "(LApologyBells$Street;I)Z"⟩, 1) := ⟨⟨by decide +kernel, by decide +kernel⟩, List.mem_of_getElem? (i := 61) (by decide +kernel), List.mem_of_getElem? (i := 553) (by decide +kernel), List.mem_of_getElem? (i := 554) (by decide +kernel)⟩
def lw_privs_1 : List (MethodName × Nat) := [(⟨"ApologyBells$Text", "readItem", "(LApologyBells$Street;)Z"⟩, 4), (⟨"ApologyBells$Text", "nextLetter", "()I"⟩, 4), (⟨"ApologyBells$Text", "letterHere", "()I"⟩, 4), (⟨"ApologyBells$Text", "readNumbers", "(I)Z"⟩, 4), (⟨"ApologyBells$Text", "tellWrong", "(LApologyBells$Street;)Z"⟩, 4), (⟨"ApologyBells$Text", "tellStore", "(LApologyBells$Street;)Z"⟩, 4), (⟨"ApologyBells$Text", "tellBell", "(LApologyBells$Street;)Z"⟩, 4), (⟨"ApologyBells", "isWrong", "(I)Z"⟩, 12), (⟨"ApologyBells", "remember", "()V"⟩, 12), (⟨"ApologyBells", "dropOldest", "()V"⟩, 12), (⟨"ApologyBells$Street", "hearOnce", "(I)V"⟩, 5), (⟨"ApologyBells", "freshTrial", "()LApologyBells$Street;"⟩, 12), (⟨"ApologyBells", "findBest", "(I)V"⟩, 12), (⟨"ApologyBells", "firstHourHeard", "(II)I"⟩, 12), (⟨"ApologyBells$HourPlan", "fitFrom", "(LApologyBells$Street;III)Z"⟩, 1), (⟨"ApologyBells$HourPlan", "isFree", "(LApologyBells$Street;I)Z"⟩, 1)]
theorem lw_r1 : ∀ q ∈ lw_privs_1, lw_okq q := List.forall_mem_cons.mpr ⟨lw_p0, List.forall_mem_cons.mpr ⟨lw_p1, List.forall_mem_cons.mpr ⟨lw_p2, List.forall_mem_cons.mpr ⟨lw_p3, List.forall_mem_cons.mpr ⟨lw_p4, List.forall_mem_cons.mpr ⟨lw_p5, List.forall_mem_cons.mpr ⟨lw_p6, List.forall_mem_cons.mpr ⟨lw_p7, List.forall_mem_cons.mpr ⟨lw_p8, List.forall_mem_cons.mpr ⟨lw_p9, List.forall_mem_cons.mpr ⟨lw_p10, List.forall_mem_cons.mpr ⟨lw_p11, List.forall_mem_cons.mpr ⟨lw_p12, List.forall_mem_cons.mpr ⟨lw_p13, List.forall_mem_cons.mpr ⟨lw_p14, List.forall_mem_cons.mpr ⟨lw_p15, fun _ h => absurd h List.not_mem_nil⟩⟩⟩⟩⟩⟩⟩⟩⟩⟩⟩⟩⟩⟩⟩⟩
theorem lw_p16 : lw_okq (⟨"ApologyBells", "forgivenShares", "(IIII)I"⟩, 12) := ⟨⟨by decide +kernel, by decide +kernel⟩, List.mem_of_getElem? (i := 15) (by decide +kernel), List.mem_of_getElem? (i := 594) (by decide +kernel), List.mem_of_getElem? (i := 595) (by decide +kernel)⟩
theorem lw_p17 : lw_okq (⟨"ApologyBellsModel", "clears", "()V"⟩, 21) := ⟨⟨by decide +kernel, by decide +kernel⟩, List.mem_of_getElem? (i := 640) (by decide +kernel), List.mem_of_getElem? (i := 646) (by decide +kernel), List.mem_of_getElem? (i := 647) (by decide +kernel)⟩
theorem lw_p18 : lw_okq (⟨"ApologyBellsModel", "comes", "(III)V"⟩, 21) := ⟨⟨by decide +kernel, by decide +kernel⟩, List.mem_of_getElem? (i := 640) (by decide +kernel), List.mem_of_getElem? (i := 650) (by decide +kernel), List.mem_of_getElem? (i := 651) (by decide +kernel)⟩
theorem lw_p19 : lw_okq (⟨"ApologyBellsModel", "hangs", "(IIIIII)V"⟩, 21) := ⟨⟨by decide +kernel, by decide +kernel⟩, List.mem_of_getElem? (i := 640) (by decide +kernel), List.mem_of_getElem? (i := 654) (by decide +kernel), List.mem_of_getElem? (i := 655) (by decide +kernel)⟩
theorem lw_p20 : lw_okq (⟨"ApologyBellsModel", "settles", "()V"⟩, 21) := ⟨⟨by decide +kernel, by decide +kernel⟩, List.mem_of_getElem? (i := 640) (by decide +kernel), List.mem_of_getElem? (i := 658) (by decide +kernel), List.mem_of_getElem? (i := 659) (by decide +kernel)⟩
theorem lw_p21 : lw_okq (⟨"ApologyBellsModel", "copies", "(II)V"⟩, 21) := ⟨⟨by decide +kernel, by decide +kernel⟩, List.mem_of_getElem? (i := 640) (by decide +kernel), List.mem_of_getElem? (i := 662) (by decide +kernel), List.mem_of_getElem? (i := 663) (by decide +kernel)⟩
theorem lw_p22 : lw_okq (⟨"ApologyBellsModel", "reads", "()Z"⟩, 21) := ⟨⟨by decide +kernel, by decide +kernel⟩, List.mem_of_getElem? (i := 640) (by decide +kernel), List.mem_of_getElem? (i := 747) (by decide +kernel), List.mem_of_getElem? (i := 748) (by decide +kernel)⟩
theorem lw_p23 : lw_okq (⟨"ApologyBellsModel", "next", "()I"⟩, 21) := ⟨⟨by decide +kernel, by decide +kernel⟩, List.mem_of_getElem? (i := 640) (by decide +kernel), List.mem_of_getElem? (i := 751) (by decide +kernel), List.mem_of_getElem? (i := 752) (by decide +kernel)⟩
theorem lw_p24 : lw_okq (⟨"ApologyBellsModel", "item", "(I)V"⟩, 21) := ⟨⟨by decide +kernel, by decide +kernel⟩, List.mem_of_getElem? (i := 640) (by decide +kernel), List.mem_of_getElem? (i := 755) (by decide +kernel), List.mem_of_getElem? (i := 756) (by decide +kernel)⟩
theorem lw_p25 : lw_okq (⟨"ApologyBellsModel", "wrongItem", "()V"⟩, 21) := ⟨⟨by decide +kernel, by decide +kernel⟩, List.mem_of_getElem? (i := 640) (by decide +kernel), List.mem_of_getElem? (i := 759) (by decide +kernel), List.mem_of_getElem? (i := 760) (by decide +kernel)⟩
theorem lw_p26 : lw_okq (⟨"ApologyBellsModel", "number", "(II)I"⟩, 21) := ⟨⟨by decide +kernel, by decide +kernel⟩, List.mem_of_getElem? (i := 640) (by decide +kernel), List.mem_of_getElem? (i := 763) (by decide +kernel), List.mem_of_getElem? (i := 764) (by decide +kernel)⟩
theorem lw_p27 : lw_okq (⟨"ApologyBellsModel", "more", "(II)I"⟩, 21) := ⟨⟨by decide +kernel, by decide +kernel⟩, List.mem_of_getElem? (i := 640) (by decide +kernel), List.mem_of_getElem? (i := 769) (by decide +kernel), List.mem_of_getElem? (i := 770) (by decide +kernel)⟩
theorem lw_p28 : lw_okq (⟨"ApologyBellsModel", "bellItem", "()V"⟩, 21) := ⟨⟨by decide +kernel, by decide +kernel⟩, List.mem_of_getElem? (i := 640) (by decide +kernel), List.mem_of_getElem? (i := 773) (by decide +kernel), List.mem_of_getElem? (i := 774) (by decide +kernel)⟩
theorem lw_p29 : lw_okq (⟨"ApologyBellsModel", "isOne", "(I)Z"⟩, 21) := ⟨⟨by decide +kernel, by decide +kernel⟩, List.mem_of_getElem? (i := 640) (by decide +kernel), List.mem_of_getElem? (i := 785) (by decide +kernel), List.mem_of_getElem? (i := 786) (by decide +kernel)⟩
theorem lw_p30 : lw_okq (⟨"ApologyBellsModel", "state", "(I)I"⟩, 21) := ⟨⟨by decide +kernel, by decide +kernel⟩, List.mem_of_getElem? (i := 640) (by decide +kernel), List.mem_of_getElem? (i := 790) (by decide +kernel), List.mem_of_getElem? (i := 791) (by decide +kernel)⟩
theorem lw_p31 : lw_okq (⟨"ApologyBellsModel", "isBell", "(II)Z"⟩, 21) := ⟨⟨by decide +kernel, by decide +kernel⟩, List.mem_of_getElem? (i := 640) (by decide +kernel), List.mem_of_getElem? (i := 794) (by decide +kernel), List.mem_of_getElem? (i := 795) (by decide +kernel)⟩
def lw_privs_2 : List (MethodName × Nat) := [(⟨"ApologyBells", "forgivenShares", "(IIII)I"⟩, 12), (⟨"ApologyBellsModel", "clears", "()V"⟩, 21), (⟨"ApologyBellsModel", "comes", "(III)V"⟩, 21), (⟨"ApologyBellsModel", "hangs", "(IIIIII)V"⟩, 21), (⟨"ApologyBellsModel", "settles", "()V"⟩, 21), (⟨"ApologyBellsModel", "copies", "(II)V"⟩, 21), (⟨"ApologyBellsModel", "reads", "()Z"⟩, 21), (⟨"ApologyBellsModel", "next", "()I"⟩, 21), (⟨"ApologyBellsModel", "item", "(I)V"⟩, 21), (⟨"ApologyBellsModel", "wrongItem", "()V"⟩, 21), (⟨"ApologyBellsModel", "number", "(II)I"⟩, 21), (⟨"ApologyBellsModel", "more", "(II)I"⟩, 21), (⟨"ApologyBellsModel", "bellItem", "()V"⟩, 21), (⟨"ApologyBellsModel", "isOne", "(I)Z"⟩, 21), (⟨"ApologyBellsModel", "state", "(I)I"⟩, 21), (⟨"ApologyBellsModel", "isBell", "(II)Z"⟩, 21)]
theorem lw_r2 : ∀ q ∈ lw_privs_2, lw_okq q := List.forall_mem_cons.mpr ⟨lw_p16, List.forall_mem_cons.mpr ⟨lw_p17, List.forall_mem_cons.mpr ⟨lw_p18, List.forall_mem_cons.mpr ⟨lw_p19, List.forall_mem_cons.mpr ⟨lw_p20, List.forall_mem_cons.mpr ⟨lw_p21, List.forall_mem_cons.mpr ⟨lw_p22, List.forall_mem_cons.mpr ⟨lw_p23, List.forall_mem_cons.mpr ⟨lw_p24, List.forall_mem_cons.mpr ⟨lw_p25, List.forall_mem_cons.mpr ⟨lw_p26, List.forall_mem_cons.mpr ⟨lw_p27, List.forall_mem_cons.mpr ⟨lw_p28, List.forall_mem_cons.mpr ⟨lw_p29, List.forall_mem_cons.mpr ⟨lw_p30, List.forall_mem_cons.mpr ⟨lw_p31, fun _ h => absurd h List.not_mem_nil⟩⟩⟩⟩⟩⟩⟩⟩⟩⟩⟩⟩⟩⟩⟩⟩
theorem lw_p32 : lw_okq (⟨"ApologyBellsModel", "isHung", "(II)Z"⟩, 21) := ⟨⟨by decide +kernel, by decide +kernel⟩, List.mem_of_getElem? (i := 640) (by decide +kernel), List.mem_of_getElem? (i := 798) (by decide +kernel), List.mem_of_getElem? (i := 799) (by decide +kernel)⟩
theorem lw_p33 : lw_okq (⟨"ApologyBellsModel", "loudAt", "(III)I"⟩, 21) := ⟨⟨by decide +kernel, by decide +kernel⟩, List.mem_of_getElem? (i := 640) (by decide +kernel), List.mem_of_getElem? (i := 814) (by decide +kernel), List.mem_of_getElem? (i := 815) (by decide +kernel)⟩
theorem lw_p34 : lw_okq (⟨"ApologyBellsModel", "covers", "(II)I"⟩, 21) := ⟨⟨by decide +kernel, by decide +kernel⟩, List.mem_of_getElem? (i := 640) (by decide +kernel), List.mem_of_getElem? (i := 828) (by decide +kernel), List.mem_of_getElem? (i := 829) (by decide +kernel)⟩
theorem lw_p35 : lw_okq (⟨"ApologyBellsModel", "isEven", "(I)Z"⟩, 21) := ⟨⟨by decide +kernel, by decide +kernel⟩, List.mem_of_getElem? (i := 640) (by decide +kernel), List.mem_of_getElem? (i := 836) (by decide +kernel), List.mem_of_getElem? (i := 837) (by decide +kernel)⟩
theorem lw_p36 : lw_okq (⟨"ApologyBellsModel", "isHeard", "(IIZ)Z"⟩, 21) := ⟨⟨by decide +kernel, by decide +kernel⟩, List.mem_of_getElem? (i := 640) (by decide +kernel), List.mem_of_getElem? (i := 840) (by decide +kernel), List.mem_of_getElem? (i := 841) (by decide +kernel)⟩
theorem lw_p37 : lw_okq (⟨"ApologyBellsModel", "isSounding", "(IIZ)Z"⟩, 21) := ⟨⟨by decide +kernel, by decide +kernel⟩, List.mem_of_getElem? (i := 640) (by decide +kernel), List.mem_of_getElem? (i := 844) (by decide +kernel), List.mem_of_getElem? (i := 845) (by decide +kernel)⟩
theorem lw_p38 : lw_okq (⟨"ApologyBellsModel", "canCast", "(IIII)Z"⟩, 21) := ⟨⟨by decide +kernel, by decide +kernel⟩, List.mem_of_getElem? (i := 640) (by decide +kernel), List.mem_of_getElem? (i := 853) (by decide +kernel), List.mem_of_getElem? (i := 854) (by decide +kernel)⟩
theorem lw_p39 : lw_okq (⟨"ApologyBellsModel", "known", "()V"⟩, 21) := ⟨⟨by decide +kernel, by decide +kernel⟩, List.mem_of_getElem? (i := 640) (by decide +kernel), List.mem_of_getElem? (i := 860) (by decide +kernel), List.mem_of_getElem? (i := 861) (by decide +kernel)⟩
theorem lw_p40 : lw_okq (⟨"ApologyBellsModel", "pours", "(IIII)V"⟩, 21) := ⟨⟨by decide +kernel, by decide +kernel⟩, List.mem_of_getElem? (i := 640) (by decide +kernel), List.mem_of_getElem? (i := 864) (by decide +kernel), List.mem_of_getElem? (i := 865) (by decide +kernel)⟩
theorem lw_p41 : lw_okq (⟨"ApologyBellsModel", "others", "(IIZ)I"⟩, 21) := ⟨⟨by decide +kernel, by decide +kernel⟩, List.mem_of_getElem? (i := 640) (by decide +kernel), List.mem_of_getElem? (i := 876) (by decide +kernel), List.mem_of_getElem? (i := 877) (by decide +kernel)⟩
theorem lw_p42 : lw_okq (⟨"ApologyBellsModel", "melts", "(II)V"⟩, 21) := ⟨⟨by decide +kernel, by decide +kernel⟩, List.mem_of_getElem? (i := 640) (by decide +kernel), List.mem_of_getElem? (i := 888) (by decide +kernel), List.mem_of_getElem? (i := 889) (by decide +kernel)⟩
theorem lw_p43 : lw_okq (⟨"ApologyBellsModel", "goesOn", "(IZ)V"⟩, 21) := ⟨⟨by decide +kernel, by decide +kernel⟩, List.mem_of_getElem? (i := 640) (by decide +kernel), List.mem_of_getElem? (i := 897) (by decide +kernel), List.mem_of_getElem? (i := 898) (by decide +kernel)⟩
theorem lw_p44 : lw_okq (⟨"ApologyBellsModel", "hoursOf", "()I"⟩, 21) := ⟨⟨by decide +kernel, by decide +kernel⟩, List.mem_of_getElem? (i := 640) (by decide +kernel), List.mem_of_getElem? (i := 928) (by decide +kernel), List.mem_of_getElem? (i := 929) (by decide +kernel)⟩
theorem lw_p45 : lw_okq (⟨"ApologyBellsModel", "drowns", "(II)Z"⟩, 21) := ⟨⟨by decide +kernel, by decide +kernel⟩, List.mem_of_getElem? (i := 640) (by decide +kernel), List.mem_of_getElem? (i := 932) (by decide +kernel), List.mem_of_getElem? (i := 933) (by decide +kernel)⟩
theorem lw_p46 : lw_okq (⟨"ApologyBellsModel", "does", "(II)V"⟩, 21) := ⟨⟨by decide +kernel, by decide +kernel⟩, List.mem_of_getElem? (i := 640) (by decide +kernel), List.mem_of_getElem? (i := 971) (by decide +kernel), List.mem_of_getElem? (i := 972) (by decide +kernel)⟩
theorem lw_p47 : lw_okq (⟨"ApologyBellsModel", "manyOf", "(I)I"⟩, 21) := ⟨⟨by decide +kernel, by decide +kernel⟩, List.mem_of_getElem? (i := 640) (by decide +kernel), List.mem_of_getElem? (i := 991) (by decide +kernel), List.mem_of_getElem? (i := 992) (by decide +kernel)⟩
def lw_privs_3 : List (MethodName × Nat) := [(⟨"ApologyBellsModel", "isHung", "(II)Z"⟩, 21), (⟨"ApologyBellsModel", "loudAt", "(III)I"⟩, 21), (⟨"ApologyBellsModel", "covers", "(II)I"⟩, 21), (⟨"ApologyBellsModel", "isEven", "(I)Z"⟩, 21), (⟨"ApologyBellsModel", "isHeard", "(IIZ)Z"⟩, 21), (⟨"ApologyBellsModel", "isSounding", "(IIZ)Z"⟩, 21), (⟨"ApologyBellsModel", "canCast", "(IIII)Z"⟩, 21), (⟨"ApologyBellsModel", "known", "()V"⟩, 21), (⟨"ApologyBellsModel", "pours", "(IIII)V"⟩, 21), (⟨"ApologyBellsModel", "others", "(IIZ)I"⟩, 21), (⟨"ApologyBellsModel", "melts", "(II)V"⟩, 21), (⟨"ApologyBellsModel", "goesOn", "(IZ)V"⟩, 21), (⟨"ApologyBellsModel", "hoursOf", "()I"⟩, 21), (⟨"ApologyBellsModel", "drowns", "(II)Z"⟩, 21), (⟨"ApologyBellsModel", "does", "(II)V"⟩, 21), (⟨"ApologyBellsModel", "manyOf", "(I)I"⟩, 21)]
theorem lw_r3 : ∀ q ∈ lw_privs_3, lw_okq q := List.forall_mem_cons.mpr ⟨lw_p32, List.forall_mem_cons.mpr ⟨lw_p33, List.forall_mem_cons.mpr ⟨lw_p34, List.forall_mem_cons.mpr ⟨lw_p35, List.forall_mem_cons.mpr ⟨lw_p36, List.forall_mem_cons.mpr ⟨lw_p37, List.forall_mem_cons.mpr ⟨lw_p38, List.forall_mem_cons.mpr ⟨lw_p39, List.forall_mem_cons.mpr ⟨lw_p40, List.forall_mem_cons.mpr ⟨lw_p41, List.forall_mem_cons.mpr ⟨lw_p42, List.forall_mem_cons.mpr ⟨lw_p43, List.forall_mem_cons.mpr ⟨lw_p44, List.forall_mem_cons.mpr ⟨lw_p45, List.forall_mem_cons.mpr ⟨lw_p46, List.forall_mem_cons.mpr ⟨lw_p47, fun _ h => absurd h List.not_mem_nil⟩⟩⟩⟩⟩⟩⟩⟩⟩⟩⟩⟩⟩⟩⟩⟩
def lw_privs : List (MethodName × Nat) := lw_privs_1 ++ (lw_privs_2 ++ (lw_privs_3))
def lw_tbl : List Cond := k2_sels lw_privs ++ tables_1
theorem lw_privs_ok : ∀ q ∈ lw_privs, lw_okq q := by
  show ∀ q ∈ lw_privs_1 ++ (lw_privs_2 ++ (lw_privs_3)), lw_okq q
  exact List.forall_mem_append.mpr ⟨lw_r1, List.forall_mem_append.mpr ⟨lw_r2, lw_r3⟩⟩
end
section
/-! ===== BEGIN words of one list among another's, by their places ===== -/
theorem goodIn_r {big : List Cond} (ws : List Cond) (ps : List Nat) (hp : ws = ps.filterMap (fun i => big[i]?)) (h : ws.all goodWord = true) : GoodIn big ws := by
  intro w hw
  have h1 := List.all_eq_true.mp h w hw
  rw [hp] at hw
  obtain ⟨i, -, hi⟩ := List.mem_filterMap.mp hw
  have hm : w ∈ big := by first | exact List.mem_of_getElem? hi | exact List.getElem?_mem hi
  exact ⟨hm, good_of_word h1⟩
theorem goodIn_app {big a b : List Cond} (ha : GoodIn big a) (hb : GoodIn big b) : GoodIn big (a ++ b) := fun w h => (List.mem_append.mp h).elim (ha w) (hb w)
theorem goodIn_ca {big a b : List Cond} {c : Cond} (ha : GoodIn big (c :: a)) (hb : GoodIn big b) : GoodIn big (c :: (a ++ b)) := fun w h => (List.mem_cons.mp h).elim (fun e => ha w (List.mem_cons.mpr (Or.inl e))) (fun h => (List.mem_append.mp h).elim (fun h => ha w (List.mem_cons.mpr (Or.inr h))) (hb w))
theorem goodIn_sub {big ws : List Cond} (hm : ∀ w ∈ ws, w ∈ big) (h : ws.all goodWord = true) : GoodIn big ws := fun w hw => ⟨hm w hw, good_of_word (List.all_eq_true.mp h w hw)⟩
/-! ===== END ===== -/

/-! ===== BEGIN printed: names, fields, word lists, decode rows ===== -/
def RX0 : String := "ApologyBells$HourPlan"
def TX0 : u_T := fun k => match k with
  | _ => ("ApologyBells$HourPlan", "hourOf", "[I", true)
def tyX0 : Nat → FieldType := fun k => match k with
  | _ => .array .int
abbrev wsX00 : List Cond := u_ws RX0 TX0 1
theorem nmX0 : ∀ a, a < 1 → ∀ b, b < 1 → a ≠ b → (TX0 a).2.1 ≠ (TX0 b).2.1 := by decide +kernel
theorem tyX0_ok : ∀ k, k < 1 → parseFieldDescriptor (TX0 k).2.2.1 = some (tyX0 k) := by decide +kernel
abbrev cX0_init : ByteArray := prog_2_method_1_code
def yX0_init : MethodName := ⟨RX0, "<init>", "()V"⟩
abbrev cX0_fit : ByteArray := prog_2_method_2_code
def yX0_fit : MethodName := ⟨RX0, "fit", "(LApologyBells$Street;)I"⟩
abbrev cX0_fitFrom : ByteArray := prog_2_method_3_code
def yX0_fitFrom : MethodName := ⟨RX0, "fitFrom", "(LApologyBells$Street;III)Z"⟩
abbrev cX0_isFree : ByteArray := prog_2_method_4_code
def yX0_isFree : MethodName := ⟨RX0, "isFree", "(LApologyBells$Street;I)Z"⟩
def RX1 : String := "ApologyBells$Notes"
def TX1 : u_T := fun k => match k with
  | 0 => ("ApologyBells$Notes", "places", "[I", true)
  | 1 => ("ApologyBells$Notes", "louds", "[I", true)
  | _ => ("ApologyBells$Notes", "size", "I", false)
def tyX1 : Nat → FieldType := fun k => match k with
  | 0 => .array .int
  | 1 => .array .int
  | _ => .int
abbrev wsX10 : List Cond := u_ws RX1 TX1 3
theorem nmX1 : ∀ a, a < 3 → ∀ b, b < 3 → a ≠ b → (TX1 a).2.1 ≠ (TX1 b).2.1 := by decide +kernel
theorem tyX1_ok : ∀ k, k < 3 → parseFieldDescriptor (TX1 k).2.2.1 = some (tyX1 k) := by decide +kernel
abbrev cX1_init : ByteArray := prog_3_method_1_code
def yX1_init : MethodName := ⟨RX1, "<init>", "()V"⟩
abbrev cX1_append : ByteArray := prog_3_method_2_code
def yX1_append : MethodName := ⟨RX1, "append", "(II)Z"⟩
abbrev cX1_clear : ByteArray := prog_3_method_3_code
def yX1_clear : MethodName := ⟨RX1, "clear", "()V"⟩
abbrev cX1_fit : ByteArray := prog_3_method_4_code
def yX1_fit : MethodName := ⟨RX1, "fit", "(LApologyBells$Wrong;)Z"⟩
def RX2 : String := "ApologyBells$Street"
def TX2 : u_T := fun k => match k with
  | 0 => ("ApologyBells$Street", "wrongs", "[LApologyBells$Wrong;", true)
  | 1 => ("ApologyBells$Street", "size", "I", false)
  | 2 => ("ApologyBells$Street", "day", "I", false)
  | 3 => ("ApologyBells$Street", "copper", "I", false)
  | _ => ("ApologyBells$Street", "tin", "I", false)
def tyX2 : Nat → FieldType := fun k => match k with
  | 0 => .array (.object "ApologyBells$Wrong")
  | 1 => .int
  | 2 => .int
  | 3 => .int
  | _ => .int
abbrev wsX20 : List Cond := u_ws RX2 TX2 5
theorem nmX2 : ∀ a, a < 5 → ∀ b, b < 5 → a ≠ b → (TX2 a).2.1 ≠ (TX2 b).2.1 := by decide +kernel
theorem tyX2_ok : ∀ k, k < 5 → parseFieldDescriptor (TX2 k).2.2.1 = some (tyX2 k) := by decide +kernel
abbrev cX2_init : ByteArray := prog_4_method_1_code
def yX2_init : MethodName := ⟨RX2, "<init>", "()V"⟩
abbrev cX2_clear : ByteArray := prog_4_method_2_code
def yX2_clear : MethodName := ⟨RX2, "clear", "()V"⟩
abbrev cX2_setTo : ByteArray := prog_4_method_3_code
def yX2_setTo : MethodName := ⟨RX2, "setTo", "(LApologyBells$Street;)V"⟩
abbrev cX2_append : ByteArray := prog_4_method_4_code
def yX2_append : MethodName := ⟨RX2, "append", "(III)Z"⟩
abbrev cX2_canCast : ByteArray := prog_4_method_5_code
def yX2_canCast : MethodName := ⟨RX2, "canCast", "(III)Z"⟩
abbrev cX2_castBell : ByteArray := prog_4_method_6_code
def yX2_castBell : MethodName := ⟨RX2, "castBell", "(III)V"⟩
abbrev cX2_meltBell : ByteArray := prog_4_method_7_code
def yX2_meltBell : MethodName := ⟨RX2, "meltBell", "(I)V"⟩
abbrev cX2_loudestOther : ByteArray := prog_4_method_8_code
def yX2_loudestOther : MethodName := ⟨RX2, "loudestOther", "(II)I"⟩
abbrev cX2_coverersOf : ByteArray := prog_4_method_9_code
def yX2_coverersOf : MethodName := ⟨RX2, "coverersOf", "(I)I"⟩
abbrev cX2_drowns : ByteArray := prog_4_method_10_code
def yX2_drowns : MethodName := ⟨RX2, "drowns", "(II)Z"⟩
abbrev cX2_isHeardToday : ByteArray := prog_4_method_11_code
def yX2_isHeardToday : MethodName := ⟨RX2, "isHeardToday", "(I)Z"⟩
abbrev cX2_othersReached : ByteArray := prog_4_method_12_code
def yX2_othersReached : MethodName := ⟨RX2, "othersReached", "(IIZ)I"⟩
abbrev cX2_heardBits : ByteArray := prog_4_method_13_code
def yX2_heardBits : MethodName := ⟨RX2, "heardBits", "()I"⟩
abbrev cX2_forgivenBits : ByteArray := prog_4_method_14_code
def yX2_forgivenBits : MethodName := ⟨RX2, "forgivenBits", "()I"⟩
abbrev cX2_bellsAtLeast : ByteArray := prog_4_method_15_code
def yX2_bellsAtLeast : MethodName := ⟨RX2, "bellsAtLeast", "(I)I"⟩
abbrev cX2_goDay : ByteArray := prog_4_method_16_code
def yX2_goDay : MethodName := ⟨RX2, "goDay", "()V"⟩
abbrev cX2_hearOnce : ByteArray := prog_4_method_17_code
def yX2_hearOnce : MethodName := ⟨RX2, "hearOnce", "(I)V"⟩
def RX3 : String := "ApologyBells$Text"
def TX3 : u_T := fun k => match k with
  | 0 => ("ApologyBells$Text", "letters", "[I", true)
  | 1 => ("ApologyBells$Text", "numbers", "[I", true)
  | 2 => ("ApologyBells$Text", "at", "I", false)
  | _ => ("ApologyBells$Text", "length", "I", false)
def tyX3 : Nat → FieldType := fun k => match k with
  | 0 => .array .int
  | 1 => .array .int
  | 2 => .int
  | _ => .int
abbrev wsX30 : List Cond := u_ws RX3 TX3 4
theorem nmX3 : ∀ a, a < 4 → ∀ b, b < 4 → a ≠ b → (TX3 a).2.1 ≠ (TX3 b).2.1 := by decide +kernel
theorem tyX3_ok : ∀ k, k < 4 → parseFieldDescriptor (TX3 k).2.2.1 = some (tyX3 k) := by decide +kernel
abbrev cX3_init : ByteArray := prog_5_method_1_code
def yX3_init : MethodName := ⟨RX3, "<init>", "()V"⟩
abbrev cX3_append : ByteArray := prog_5_method_2_code
def yX3_append : MethodName := ⟨RX3, "append", "(I)Z"⟩
abbrev cX3_clear : ByteArray := prog_5_method_3_code
def yX3_clear : MethodName := ⟨RX3, "clear", "()V"⟩
abbrev cX3_readInto : ByteArray := prog_5_method_4_code
def yX3_readInto : MethodName := ⟨RX3, "readInto", "(LApologyBells$Street;)I"⟩
abbrev cX3_readItem : ByteArray := prog_5_method_5_code
def yX3_readItem : MethodName := ⟨RX3, "readItem", "(LApologyBells$Street;)Z"⟩
abbrev cX3_readNumbers : ByteArray := prog_5_method_6_code
def yX3_readNumbers : MethodName := ⟨RX3, "readNumbers", "(I)Z"⟩
abbrev cX3_letterHere : ByteArray := prog_5_method_7_code
def yX3_letterHere : MethodName := ⟨RX3, "letterHere", "()I"⟩
abbrev cX3_nextLetter : ByteArray := prog_5_method_8_code
def yX3_nextLetter : MethodName := ⟨RX3, "nextLetter", "()I"⟩
abbrev cX3_isDigit : ByteArray := prog_5_method_9_code
def yX3_isDigit : MethodName := ⟨RX3, "isDigit", "(I)Z"⟩
abbrev cX3_tellWrong : ByteArray := prog_5_method_10_code
def yX3_tellWrong : MethodName := ⟨RX3, "tellWrong", "(LApologyBells$Street;)Z"⟩
abbrev cX3_tellStore : ByteArray := prog_5_method_11_code
def yX3_tellStore : MethodName := ⟨RX3, "tellStore", "(LApologyBells$Street;)Z"⟩
abbrev cX3_tellBell : ByteArray := prog_5_method_12_code
def yX3_tellBell : MethodName := ⟨RX3, "tellBell", "(LApologyBells$Street;)Z"⟩
def RX4 : String := "ApologyBells$Wrong"
def TX4 : u_T := fun k => match k with
  | 0 => ("ApologyBells$Wrong", "kind", "I", false)
  | 1 => ("ApologyBells$Wrong", "place", "I", false)
  | 2 => ("ApologyBells$Wrong", "need", "I", false)
  | 3 => ("ApologyBells$Wrong", "times", "I", false)
  | 4 => ("ApologyBells$Wrong", "forgiven", "Z", false)
  | 5 => ("ApologyBells$Wrong", "bellState", "I", false)
  | 6 => ("ApologyBells$Wrong", "copper", "I", false)
  | 7 => ("ApologyBells$Wrong", "tin", "I", false)
  | 8 => ("ApologyBells$Wrong", "loudness", "I", false)
  | 9 => ("ApologyBells$Wrong", "spot", "I", false)
  | _ => ("ApologyBells$Wrong", "hour", "I", false)
def tyX4 : Nat → FieldType := fun k => match k with
  | 0 => .int
  | 1 => .int
  | 2 => .int
  | 3 => .int
  | 4 => .boolean
  | 5 => .int
  | 6 => .int
  | 7 => .int
  | 8 => .int
  | 9 => .int
  | _ => .int
abbrev wsX40 : List Cond := u_ws RX4 TX4 11
theorem nmX4 : ∀ a, a < 11 → ∀ b, b < 11 → a ≠ b → (TX4 a).2.1 ≠ (TX4 b).2.1 := by decide +kernel
theorem tyX4_ok : ∀ k, k < 11 → parseFieldDescriptor (TX4 k).2.2.1 = some (tyX4 k) := by decide +kernel
abbrev cX4_init : ByteArray := prog_6_method_1_code
def yX4_init : MethodName := ⟨RX4, "<init>", "()V"⟩
abbrev cX4_setTo : ByteArray := prog_6_method_2_code
def yX4_setTo : MethodName := ⟨RX4, "setTo", "(LApologyBells$Wrong;)V"⟩
abbrev cX4_begin : ByteArray := prog_6_method_3_code
def yX4_begin : MethodName := ⟨RX4, "begin", "(III)V"⟩
abbrev cX4_hasBell : ByteArray := prog_6_method_4_code
def yX4_hasBell : MethodName := ⟨RX4, "hasBell", "()Z"⟩
abbrev cX4_hangs : ByteArray := prog_6_method_5_code
def yX4_hangs : MethodName := ⟨RX4, "hangs", "()Z"⟩
abbrev cX4_giveBell : ByteArray := prog_6_method_6_code
def yX4_giveBell : MethodName := ⟨RX4, "giveBell", "(II)V"⟩
abbrev cX4_hangBell : ByteArray := prog_6_method_7_code
def yX4_hangBell : MethodName := ⟨RX4, "hangBell", "(II)V"⟩
abbrev cX4_loudAt : ByteArray := prog_6_method_8_code
def yX4_loudAt : MethodName := ⟨RX4, "loudAt", "(I)I"⟩
abbrev cX4_loudAtHome : ByteArray := prog_6_method_9_code
def yX4_loudAtHome : MethodName := ⟨RX4, "loudAtHome", "()I"⟩
abbrev cX4_isReachedBy : ByteArray := prog_6_method_10_code
def yX4_isReachedBy : MethodName := ⟨RX4, "isReachedBy", "(IIZ)Z"⟩
abbrev cX4_hears : ByteArray := prog_6_method_11_code
def yX4_hears : MethodName := ⟨RX4, "hears", "(IIIZ)Z"⟩
def RX5 : String := "ApologyBells"
def TX5 : u_T := fun k => match k with
  | 0 => ("ApologyBells", "text", "LApologyBells$Text;", true)
  | 1 => ("ApologyBells", "notes", "LApologyBells$Notes;", true)
  | 2 => ("ApologyBells", "plan", "LApologyBells$HourPlan;", true)
  | 3 => ("ApologyBells", "now", "LApologyBells$Street;", true)
  | 4 => ("ApologyBells", "past", "[LApologyBells$Street;", true)
  | 5 => ("ApologyBells", "kept", "[LApologyBells$Street;", true)
  | 6 => ("ApologyBells", "trials", "[LApologyBells$Street;", true)
  | 7 => ("ApologyBells", "pastSize", "I", false)
  | 8 => ("ApologyBells", "keptSize", "I", false)
  | 9 => ("ApologyBells", "bestPlace", "I", false)
  | 10 => ("ApologyBells", "bestHour", "I", false)
  | _ => ("ApologyBells", "bestOthers", "I", false)
def tyX5 : Nat → FieldType := fun k => match k with
  | 0 => .object "ApologyBells$Text"
  | 1 => .object "ApologyBells$Notes"
  | 2 => .object "ApologyBells$HourPlan"
  | 3 => .object "ApologyBells$Street"
  | 4 => .array (.object "ApologyBells$Street")
  | 5 => .array (.object "ApologyBells$Street")
  | 6 => .array (.object "ApologyBells$Street")
  | 7 => .int
  | 8 => .int
  | 9 => .int
  | 10 => .int
  | _ => .int
abbrev wsX50 : List Cond := u_ws RX5 TX5 12
theorem nmX5 : ∀ a, a < 12 → ∀ b, b < 12 → a ≠ b → (TX5 a).2.1 ≠ (TX5 b).2.1 := by decide +kernel
theorem tyX5_ok : ∀ k, k < 12 → parseFieldDescriptor (TX5 k).2.2.1 = some (tyX5 k) := by decide +kernel
abbrev cX5_init : ByteArray := prog_1_method_1_code
def yX5_init : MethodName := ⟨RX5, "<init>", "()V"⟩
abbrev cX5_write : ByteArray := prog_1_method_2_code
def yX5_write : MethodName := ⟨RX5, "write", "(I)I"⟩
abbrev cX5_wipe : ByteArray := prog_1_method_3_code
def yX5_wipe : MethodName := ⟨RX5, "wipe", "()I"⟩
abbrev cX5_fault : ByteArray := prog_1_method_4_code
def yX5_fault : MethodName := ⟨RX5, "fault", "()I"⟩
abbrev cX5_lay : ByteArray := prog_1_method_5_code
def yX5_lay : MethodName := ⟨RX5, "lay", "()I"⟩
abbrev cX5_wrong : ByteArray := prog_1_method_6_code
def yX5_wrong : MethodName := ⟨RX5, "wrong", "(II)I"⟩
abbrev cX5_bell : ByteArray := prog_1_method_7_code
def yX5_bell : MethodName := ⟨RX5, "bell", "(II)I"⟩
abbrev cX5_loud : ByteArray := prog_1_method_8_code
def yX5_loud : MethodName := ⟨RX5, "loud", "(II)I"⟩
abbrev cX5_covered : ByteArray := prog_1_method_9_code
def yX5_covered : MethodName := ⟨RX5, "covered", "(I)I"⟩
abbrev cX5_heard : ByteArray := prog_1_method_10_code
def yX5_heard : MethodName := ⟨RX5, "heard", "(I)I"⟩
abbrev cX5_cast : ByteArray := prog_1_method_11_code
def yX5_cast : MethodName := ⟨RX5, "cast", "(III)I"⟩
abbrev cX5_hang : ByteArray := prog_1_method_12_code
def yX5_hang : MethodName := ⟨RX5, "hang", "(III)I"⟩
abbrev cX5_takeDown : ByteArray := prog_1_method_13_code
def yX5_takeDown : MethodName := ⟨RX5, "takeDown", "(I)I"⟩
abbrev cX5_melt : ByteArray := prog_1_method_14_code
def yX5_melt : MethodName := ⟨RX5, "melt", "(I)I"⟩
abbrev cX5_pass : ByteArray := prog_1_method_15_code
def yX5_pass : MethodName := ⟨RX5, "pass", "(I)I"⟩
abbrev cX5_undo : ByteArray := prog_1_method_16_code
def yX5_undo : MethodName := ⟨RX5, "undo", "()I"⟩
abbrev cX5_forgives : ByteArray := prog_1_method_17_code
def yX5_forgives : MethodName := ⟨RX5, "forgives", "(I)I"⟩
abbrev cX5_by : ByteArray := prog_1_method_18_code
def yX5_by : MethodName := ⟨RX5, "by", "(I)I"⟩
abbrev cX5_cheap : ByteArray := prog_1_method_19_code
def yX5_cheap : MethodName := ⟨RX5, "cheap", "(III)I"⟩
abbrev cX5_best : ByteArray := prog_1_method_20_code
def yX5_best : MethodName := ⟨RX5, "best", "(II)I"⟩
abbrev cX5_hours : ByteArray := prog_1_method_21_code
def yX5_hours : MethodName := ⟨RX5, "hours", "(I)I"⟩
abbrev cX5_hush : ByteArray := prog_1_method_22_code
def yX5_hush : MethodName := ⟨RX5, "hush", "(I)I"⟩
abbrev cX5_note : ByteArray := prog_1_method_23_code
def yX5_note : MethodName := ⟨RX5, "note", "(II)I"⟩
abbrev cX5_forget : ByteArray := prog_1_method_24_code
def yX5_forget : MethodName := ⟨RX5, "forget", "()I"⟩
abbrev cX5_which : ByteArray := prog_1_method_25_code
def yX5_which : MethodName := ⟨RX5, "which", "()I"⟩
abbrev cX5_casts : ByteArray := prog_1_method_26_code
def yX5_casts : MethodName := ⟨RX5, "casts", "(II)I"⟩
abbrev cX5_snow : ByteArray := prog_1_method_27_code
def yX5_snow : MethodName := ⟨RX5, "snow", "(IIII)I"⟩
abbrev cX5_year : ByteArray := prog_1_method_28_code
def yX5_year : MethodName := ⟨RX5, "year", "(III)I"⟩
abbrev cX5_keep : ByteArray := prog_1_method_29_code
def yX5_keep : MethodName := ⟨RX5, "keep", "()I"⟩
abbrev cX5_back : ByteArray := prog_1_method_30_code
def yX5_back : MethodName := ⟨RX5, "back", "()I"⟩
abbrev cX5_count : ByteArray := prog_1_method_31_code
def yX5_count : MethodName := ⟨RX5, "count", "(I)I"⟩
abbrev cX5_isWrong : ByteArray := prog_1_method_32_code
def yX5_isWrong : MethodName := ⟨RX5, "isWrong", "(I)Z"⟩
abbrev cX5_isPlace : ByteArray := prog_1_method_33_code
def yX5_isPlace : MethodName := ⟨RX5, "isPlace", "(I)Z"⟩
abbrev cX5_isHour : ByteArray := prog_1_method_34_code
def yX5_isHour : MethodName := ⟨RX5, "isHour", "(I)Z"⟩
abbrev cX5_isWithin : ByteArray := prog_1_method_35_code
def yX5_isWithin : MethodName := ⟨RX5, "isWithin", "(III)Z"⟩
abbrev cX5_isCracked : ByteArray := prog_1_method_36_code
def yX5_isCracked : MethodName := ⟨RX5, "isCracked", "(II)Z"⟩
abbrev cX5_loudnessOf : ByteArray := prog_1_method_37_code
def yX5_loudnessOf : MethodName := ⟨RX5, "loudnessOf", "(II)I"⟩
abbrev cX5_loudFrom : ByteArray := prog_1_method_38_code
def yX5_loudFrom : MethodName := ⟨RX5, "loudFrom", "(III)I"⟩
abbrev cX5_freshTrial : ByteArray := prog_1_method_39_code
def yX5_freshTrial : MethodName := ⟨RX5, "freshTrial", "()LApologyBells$Street;"⟩
abbrev cX5_remember : ByteArray := prog_1_method_40_code
def yX5_remember : MethodName := ⟨RX5, "remember", "()V"⟩
abbrev cX5_dropOldest : ByteArray := prog_1_method_41_code
def yX5_dropOldest : MethodName := ⟨RX5, "dropOldest", "()V"⟩
abbrev cX5_findBest : ByteArray := prog_1_method_42_code
def yX5_findBest : MethodName := ⟨RX5, "findBest", "(I)V"⟩
abbrev cX5_firstHourHeard : ByteArray := prog_1_method_43_code
def yX5_firstHourHeard : MethodName := ⟨RX5, "firstHourHeard", "(II)I"⟩
abbrev cX5_forgivenShares : ByteArray := prog_1_method_44_code
def yX5_forgivenShares : MethodName := ⟨RX5, "forgivenShares", "(IIII)I"⟩
abbrev cX5_tenToThe : ByteArray := prog_1_method_45_code
def yX5_tenToThe : MethodName := ⟨RX5, "tenToThe", "(I)I"⟩
abbrev cX5_commonDivisor : ByteArray := prog_1_method_46_code
def yX5_commonDivisor : MethodName := ⟨RX5, "commonDivisor", "(II)I"⟩
abbrev cX5_drawOf : ByteArray := prog_1_method_47_code
def yX5_drawOf : MethodName := ⟨RX5, "drawOf", "(II)I"⟩
abbrev cX5_actByDraw : ByteArray := prog_1_method_48_code
def yX5_actByDraw : MethodName := ⟨RX5, "actByDraw", "(LApologyBells$Street;I)V"⟩
def RX6 : String := "ApologyBellsModel"
def TX6 : u_T := fun k => match k with
  | 0 => ("ApologyBellsModel", "many", "I", false)
  | 1 => ("ApologyBellsModel", "sort", "[I", true)
  | 2 => ("ApologyBellsModel", "home", "[I", true)
  | 3 => ("ApologyBellsModel", "times", "[I", true)
  | 4 => ("ApologyBellsModel", "newMany", "I", false)
  | 5 => ("ApologyBellsModel", "newSort", "[I", true)
  | 6 => ("ApologyBellsModel", "newHome", "[I", true)
  | 7 => ("ApologyBellsModel", "newTimes", "[I", true)
  | 8 => ("ApologyBellsModel", "slot", "[I", true)
  | 9 => ("ApologyBellsModel", "acts", "I", false)
  | 10 => ("ApologyBellsModel", "keeps", "I", false)
  | 11 => ("ApologyBellsModel", "length", "I", false)
  | 12 => ("ApologyBellsModel", "text", "[B", true)
  | 13 => ("ApologyBellsModel", "at", "I", false)
  | 14 => ("ApologyBellsModel", "begin", "I", false)
  | 15 => ("ApologyBellsModel", "isWrong", "Z", false)
  | 16 => ("ApologyBellsModel", "notes", "I", false)
  | 17 => ("ApologyBellsModel", "notedAt", "[I", true)
  | 18 => ("ApologyBellsModel", "notedLoud", "[I", true)
  | 19 => ("ApologyBellsModel", "ring", "[I", true)
  | _ => ("ApologyBellsModel", "least", "[I", true)
def tyX6 : Nat → FieldType := fun k => match k with
  | 0 => .int
  | 1 => .array .int
  | 2 => .array .int
  | 3 => .array .int
  | 4 => .int
  | 5 => .array .int
  | 6 => .array .int
  | 7 => .array .int
  | 8 => .array .int
  | 9 => .int
  | 10 => .int
  | 11 => .int
  | 12 => .array .byte
  | 13 => .int
  | 14 => .int
  | 15 => .boolean
  | 16 => .int
  | 17 => .array .int
  | 18 => .array .int
  | 19 => .array .int
  | _ => .array .int
abbrev wsX60 : List Cond := u_ws RX6 TX6 21
theorem nmX6 : ∀ a, a < 21 → ∀ b, b < 21 → a ≠ b → (TX6 a).2.1 ≠ (TX6 b).2.1 := by decide +kernel
theorem tyX6_ok : ∀ k, k < 21 → parseFieldDescriptor (TX6 k).2.2.1 = some (tyX6 k) := by decide +kernel
abbrev cX6_init : ByteArray := prog_8_method_1_code
def yX6_init : MethodName := ⟨RX6, "<init>", "()V"⟩
abbrev cX6_in : ByteArray := prog_8_method_2_code
def yX6_in : MethodName := ⟨RX6, "in", "(JJJ)Z"⟩
abbrev cX6_has : ByteArray := prog_8_method_3_code
def yX6_has : MethodName := ⟨RX6, "has", "(II)Z"⟩
abbrev cX6_larger : ByteArray := prog_8_method_4_code
def yX6_larger : MethodName := ⟨RX6, "larger", "(II)I"⟩
abbrev cX6_bits : ByteArray := prog_8_method_5_code
def yX6_bits : MethodName := ⟨RX6, "bits", "(I)I"⟩
abbrev cX6_clears : ByteArray := prog_8_method_6_code
def yX6_clears : MethodName := ⟨RX6, "clears", "()V"⟩
abbrev cX6_comes : ByteArray := prog_8_method_7_code
def yX6_comes : MethodName := ⟨RX6, "comes", "(III)V"⟩
abbrev cX6_hangs : ByteArray := prog_8_method_8_code
def yX6_hangs : MethodName := ⟨RX6, "hangs", "(IIIIII)V"⟩
abbrev cX6_settles : ByteArray := prog_8_method_9_code
def yX6_settles : MethodName := ⟨RX6, "settles", "()V"⟩
abbrev cX6_copies : ByteArray := prog_8_method_10_code
def yX6_copies : MethodName := ⟨RX6, "copies", "(II)V"⟩
abbrev cX6_isOne : ByteArray := prog_8_method_11_code
def yX6_isOne : MethodName := ⟨RX6, "isOne", "(I)Z"⟩
abbrev cX6_write : ByteArray := prog_8_method_12_code
def yX6_write : MethodName := ⟨RX6, "write", "(I)I"⟩
abbrev cX6_wipe : ByteArray := prog_8_method_13_code
def yX6_wipe : MethodName := ⟨RX6, "wipe", "()I"⟩
abbrev cX6_next : ByteArray := prog_8_method_14_code
def yX6_next : MethodName := ⟨RX6, "next", "()I"⟩
abbrev cX6_number : ByteArray := prog_8_method_15_code
def yX6_number : MethodName := ⟨RX6, "number", "(II)I"⟩
abbrev cX6_more : ByteArray := prog_8_method_16_code
def yX6_more : MethodName := ⟨RX6, "more", "(II)I"⟩
abbrev cX6_wrongItem : ByteArray := prog_8_method_17_code
def yX6_wrongItem : MethodName := ⟨RX6, "wrongItem", "()V"⟩
abbrev cX6_bellItem : ByteArray := prog_8_method_18_code
def yX6_bellItem : MethodName := ⟨RX6, "bellItem", "()V"⟩
abbrev cX6_item : ByteArray := prog_8_method_19_code
def yX6_item : MethodName := ⟨RX6, "item", "(I)V"⟩
abbrev cX6_reads : ByteArray := prog_8_method_20_code
def yX6_reads : MethodName := ⟨RX6, "reads", "()Z"⟩
abbrev cX6_fault : ByteArray := prog_8_method_21_code
def yX6_fault : MethodName := ⟨RX6, "fault", "()I"⟩
abbrev cX6_lay : ByteArray := prog_8_method_22_code
def yX6_lay : MethodName := ⟨RX6, "lay", "()I"⟩
abbrev cX6_loudOf : ByteArray := prog_8_method_23_code
def yX6_loudOf : MethodName := ⟨RX6, "loudOf", "(II)I"⟩
abbrev cX6_apart : ByteArray := prog_8_method_24_code
def yX6_apart : MethodName := ⟨RX6, "apart", "(II)I"⟩
abbrev cX6_isHung : ByteArray := prog_8_method_25_code
def yX6_isHung : MethodName := ⟨RX6, "isHung", "(II)Z"⟩
abbrev cX6_isBell : ByteArray := prog_8_method_26_code
def yX6_isBell : MethodName := ⟨RX6, "isBell", "(II)Z"⟩
abbrev cX6_loudAt : ByteArray := prog_8_method_27_code
def yX6_loudAt : MethodName := ⟨RX6, "loudAt", "(III)I"⟩
abbrev cX6_isSounding : ByteArray := prog_8_method_28_code
def yX6_isSounding : MethodName := ⟨RX6, "isSounding", "(IIZ)Z"⟩
abbrev cX6_covers : ByteArray := prog_8_method_29_code
def yX6_covers : MethodName := ⟨RX6, "covers", "(II)I"⟩
abbrev cX6_isHeard : ByteArray := prog_8_method_30_code
def yX6_isHeard : MethodName := ⟨RX6, "isHeard", "(IIZ)Z"⟩
abbrev cX6_isEven : ByteArray := prog_8_method_31_code
def yX6_isEven : MethodName := ⟨RX6, "isEven", "(I)Z"⟩
abbrev cX6_state : ByteArray := prog_8_method_32_code
def yX6_state : MethodName := ⟨RX6, "state", "(I)I"⟩
abbrev cX6_wrong : ByteArray := prog_8_method_33_code
def yX6_wrong : MethodName := ⟨RX6, "wrong", "(II)I"⟩
abbrev cX6_bell : ByteArray := prog_8_method_34_code
def yX6_bell : MethodName := ⟨RX6, "bell", "(II)I"⟩
abbrev cX6_loud : ByteArray := prog_8_method_35_code
def yX6_loud : MethodName := ⟨RX6, "loud", "(II)I"⟩
abbrev cX6_covered : ByteArray := prog_8_method_36_code
def yX6_covered : MethodName := ⟨RX6, "covered", "(I)I"⟩
abbrev cX6_heard : ByteArray := prog_8_method_37_code
def yX6_heard : MethodName := ⟨RX6, "heard", "(I)I"⟩
abbrev cX6_known : ByteArray := prog_8_method_38_code
def yX6_known : MethodName := ⟨RX6, "known", "()V"⟩
abbrev cX6_canCast : ByteArray := prog_8_method_39_code
def yX6_canCast : MethodName := ⟨RX6, "canCast", "(IIII)Z"⟩
abbrev cX6_pours : ByteArray := prog_8_method_40_code
def yX6_pours : MethodName := ⟨RX6, "pours", "(IIII)V"⟩
abbrev cX6_melts : ByteArray := prog_8_method_41_code
def yX6_melts : MethodName := ⟨RX6, "melts", "(II)V"⟩
abbrev cX6_cast : ByteArray := prog_8_method_42_code
def yX6_cast : MethodName := ⟨RX6, "cast", "(III)I"⟩
abbrev cX6_others : ByteArray := prog_8_method_43_code
def yX6_others : MethodName := ⟨RX6, "others", "(IIZ)I"⟩
abbrev cX6_isWhere : ByteArray := prog_8_method_44_code
def yX6_isWhere : MethodName := ⟨RX6, "isWhere", "(II)Z"⟩
abbrev cX6_hang : ByteArray := prog_8_method_45_code
def yX6_hang : MethodName := ⟨RX6, "hang", "(III)I"⟩
abbrev cX6_takeDown : ByteArray := prog_8_method_46_code
def yX6_takeDown : MethodName := ⟨RX6, "takeDown", "(I)I"⟩
abbrev cX6_melt : ByteArray := prog_8_method_47_code
def yX6_melt : MethodName := ⟨RX6, "melt", "(I)I"⟩
abbrev cX6_goesOn : ByteArray := prog_8_method_48_code
def yX6_goesOn : MethodName := ⟨RX6, "goesOn", "(IZ)V"⟩
abbrev cX6_pass : ByteArray := prog_8_method_49_code
def yX6_pass : MethodName := ⟨RX6, "pass", "(I)I"⟩
abbrev cX6_undo : ByteArray := prog_8_method_50_code
def yX6_undo : MethodName := ⟨RX6, "undo", "()I"⟩
abbrev cX6_forgives : ByteArray := prog_8_method_51_code
def yX6_forgives : MethodName := ⟨RX6, "forgives", "(I)I"⟩
abbrev cX6_by : ByteArray := prog_8_method_52_code
def yX6_by : MethodName := ⟨RX6, "by", "(I)I"⟩
abbrev cX6_cheap : ByteArray := prog_8_method_53_code
def yX6_cheap : MethodName := ⟨RX6, "cheap", "(III)I"⟩
abbrev cX6_best : ByteArray := prog_8_method_54_code
def yX6_best : MethodName := ⟨RX6, "best", "(II)I"⟩
abbrev cX6_drowns : ByteArray := prog_8_method_55_code
def yX6_drowns : MethodName := ⟨RX6, "drowns", "(II)Z"⟩
abbrev cX6_hoursOf : ByteArray := prog_8_method_56_code
def yX6_hoursOf : MethodName := ⟨RX6, "hoursOf", "()I"⟩
abbrev cX6_hours : ByteArray := prog_8_method_57_code
def yX6_hours : MethodName := ⟨RX6, "hours", "(I)I"⟩
abbrev cX6_hush : ByteArray := prog_8_method_58_code
def yX6_hush : MethodName := ⟨RX6, "hush", "(I)I"⟩
abbrev cX6_note : ByteArray := prog_8_method_59_code
def yX6_note : MethodName := ⟨RX6, "note", "(II)I"⟩
abbrev cX6_forget : ByteArray := prog_8_method_60_code
def yX6_forget : MethodName := ⟨RX6, "forget", "()I"⟩
abbrev cX6_which : ByteArray := prog_8_method_61_code
def yX6_which : MethodName := ⟨RX6, "which", "()I"⟩
abbrev cX6_casts : ByteArray := prog_8_method_62_code
def yX6_casts : MethodName := ⟨RX6, "casts", "(II)I"⟩
abbrev cX6_snow : ByteArray := prog_8_method_63_code
def yX6_snow : MethodName := ⟨RX6, "snow", "(IIII)I"⟩
abbrev cX6_does : ByteArray := prog_8_method_64_code
def yX6_does : MethodName := ⟨RX6, "does", "(II)V"⟩
abbrev cX6_year : ByteArray := prog_8_method_65_code
def yX6_year : MethodName := ⟨RX6, "year", "(III)I"⟩
abbrev cX6_keep : ByteArray := prog_8_method_66_code
def yX6_keep : MethodName := ⟨RX6, "keep", "()I"⟩
abbrev cX6_back : ByteArray := prog_8_method_67_code
def yX6_back : MethodName := ⟨RX6, "back", "()I"⟩
abbrev cX6_manyOf : ByteArray := prog_8_method_68_code
def yX6_manyOf : MethodName := ⟨RX6, "manyOf", "(I)I"⟩
abbrev cX6_count : ByteArray := prog_8_method_69_code
def yX6_count : MethodName := ⟨RX6, "count", "(I)I"⟩
def RJ6 : String := "java/lang/Integer"
def TJ6 : u_T := fun k => match k with
  | _ => ("", "", "", false)
def tyJ6 : Nat → FieldType := fun k => match k with
  | _ => .int
abbrev wsJ60 : List Cond := u_ws RJ6 TJ6 0
theorem nmJ6 : ∀ a, a < 0 → ∀ b, b < 0 → a ≠ b → (TJ6 a).2.1 ≠ (TJ6 b).2.1 := by decide +kernel
theorem tyJ6_ok : ∀ k, k < 0 → parseFieldDescriptor (TJ6 k).2.2.1 = some (tyJ6 k) := by decide +kernel
abbrev cJ6_bitCount_0f7a4 : ByteArray := prog_9_method_49_code
def yJ6_bitCount_0f7a4 : MethodName := ⟨RJ6, "bitCount", "(I)I"⟩
def RJ9 : String := "java/lang/Math"
def TJ9 : u_T := fun k => match k with
  | _ => ("", "", "", false)
def tyJ9 : Nat → FieldType := fun k => match k with
  | _ => .int
abbrev wsJ90 : List Cond := u_ws RJ9 TJ9 0
theorem nmJ9 : ∀ a, a < 0 → ∀ b, b < 0 → a ≠ b → (TJ9 a).2.1 ≠ (TJ9 b).2.1 := by decide +kernel
theorem tyJ9_ok : ∀ k, k < 0 → parseFieldDescriptor (TJ9 k).2.2.1 = some (tyJ9 k) := by decide +kernel
abbrev cJ9_max_7cf53 : ByteArray := prog_10_method_65_code
def yJ9_max_7cf53 : MethodName := ⟨RJ9, "max", "(II)I"⟩
def RJ0 : String := "java/lang/String"
def TJ0 : u_T := fun k => match k with
  | _ => ("", "", "", false)
def tyJ0 : Nat → FieldType := fun k => match k with
  | _ => .int
abbrev wsJ00 : List Cond := u_ws RJ0 TJ0 0
theorem nmJ0 : ∀ a, a < 0 → ∀ b, b < 0 → a ≠ b → (TJ0 a).2.1 ≠ (TJ0 b).2.1 := by decide +kernel
theorem tyJ0_ok : ∀ k, k < 0 → parseFieldDescriptor (TJ0 k).2.2.1 = some (tyJ0 k) := by decide +kernel
abbrev cJ0_length_8abf5 : ByteArray := prog_11_method_54_code
def yJ0_length_8abf5 : MethodName := ⟨RJ0, "length", "()I"⟩
abbrev cJ0_charAt_5068e : ByteArray := prog_11_method_56_code
def yJ0_charAt_5068e : MethodName := ⟨RJ0, "charAt", "(I)C"⟩
abbrev cJ0_coder_7d493 : ByteArray := prog_11_method_152_code
def yJ0_coder_7d493 : MethodName := ⟨RJ0, "coder", "()B"⟩
abbrev cJ0_isLatin1_aae02 : ByteArray := prog_11_method_154_code
def yJ0_isLatin1_aae02 : MethodName := ⟨RJ0, "isLatin1", "()Z"⟩
abbrev cJ0_checkIndex_df160 : ByteArray := prog_11_method_155_code
def yJ0_checkIndex_df160 : MethodName := ⟨RJ0, "checkIndex", "(II)V"⟩
def RJ1 : String := "java/lang/StringLatin1"
def TJ1 : u_T := fun k => match k with
  | _ => ("", "", "", false)
def tyJ1 : Nat → FieldType := fun k => match k with
  | _ => .int
abbrev wsJ10 : List Cond := u_ws RJ1 TJ1 0
theorem nmJ1 : ∀ a, a < 0 → ∀ b, b < 0 → a ≠ b → (TJ1 a).2.1 ≠ (TJ1 b).2.1 := by decide +kernel
theorem tyJ1_ok : ∀ k, k < 0 → parseFieldDescriptor (TJ1 k).2.2.1 = some (tyJ1 k) := by decide +kernel
abbrev cJ1_charAt_3b067 : ByteArray := prog_12_method_2_code
def yJ1_charAt_3b067 : MethodName := ⟨RJ1, "charAt", "([BI)C"⟩
def RJ2 : String := "java/lang/StringUTF16"
def TJ2 : u_T := fun k => match k with
  | _ => ("", "", "", false)
def tyJ2 : Nat → FieldType := fun k => match k with
  | _ => .int
abbrev wsJ20 : List Cond := u_ws RJ2 TJ2 0
theorem nmJ2 : ∀ a, a < 0 → ∀ b, b < 0 → a ≠ b → (TJ2 a).2.1 ≠ (TJ2 b).2.1 := by decide +kernel
theorem tyJ2_ok : ∀ k, k < 0 → parseFieldDescriptor (TJ2 k).2.2.1 = some (tyJ2 k) := by decide +kernel
abbrev cJ2_getChar_3b067 : ByteArray := prog_13_method_5_code
def yJ2_getChar_3b067 : MethodName := ⟨RJ2, "getChar", "([BI)C"⟩
abbrev cJ2_length_9d52b : ByteArray := prog_13_method_6_code
def yJ2_length_9d52b : MethodName := ⟨RJ2, "length", "([B)I"⟩
abbrev cJ2_charAt_3b067 : ByteArray := prog_13_method_83_code
def yJ2_charAt_3b067 : MethodName := ⟨RJ2, "charAt", "([BI)C"⟩
abbrev cJ2_checkIndex_2214a : ByteArray := prog_13_method_91_code
def yJ2_checkIndex_2214a : MethodName := ⟨RJ2, "checkIndex", "(I[B)V"⟩
def RJ3 : String := "jdk/internal/util/Preconditions"
def TJ3 : u_T := fun k => match k with
  | _ => ("", "", "", false)
def tyJ3 : Nat → FieldType := fun k => match k with
  | _ => .int
abbrev wsJ30 : List Cond := u_ws RJ3 TJ3 0
theorem nmJ3 : ∀ a, a < 0 → ∀ b, b < 0 → a ≠ b → (TJ3 a).2.1 ≠ (TJ3 b).2.1 := by decide +kernel
theorem tyJ3_ok : ∀ k, k < 0 → parseFieldDescriptor (TJ3 k).2.2.1 = some (tyJ3 k) := by decide +kernel
abbrev cJ3_checkIndex_8e157 : ByteArray := prog_14_method_11_code
def yJ3_checkIndex_8e157 : MethodName := ⟨RJ3, "checkIndex", "(IILjava/util/function/BiFunction;)I"⟩
def RL : String := "ApologyBellsLaw"
abbrev cL_law : ByteArray := code
def yL_law : MethodName := ⟨RL, "law", "([I)Z"⟩
end
section
/-! A SMALL MACHINE over typed references (kind, number): values, store, weakest preconditions of lists of instructions, blocks, calls -/
abbrev mm_V : Type := Int32 ⊕ (Int64 ⊕ (Nat × Nat))
abbrev mm_M : Type := (Nat → Nat → Nat → Int32) × (Nat → Nat → Nat → Option Nat) × (Nat → Nat → Nat) × (Nat → Nat)
abbrev mm_B : Type := Nat × Nat
abbrev mm_LS : Type := List (Option mm_V)
abbrev mm_Post : Type := Option mm_V → mm_M → Prop
/-- pc, length, the instruction, two numbers, what kind of value, a constant, a switch's table -/
abbrev mm_Ins : Type := Nat × Nat × Instr × Nat × Nat × Option (Option Nat) × Int32 × List (Int32 × Nat)
def mm_I (M : mm_M) (c i k : Nat) : Int32 := M.1 c i k
def mm_R (M : mm_M) (c i k : Nat) : Option Nat := M.2.1 c i k
def mm_L (M : mm_M) (c i : Nat) : Nat := M.2.2.1 c i
def mm_N (M : mm_M) (c : Nat) : Nat := M.2.2.2 c
def mm_sI (M : mm_M) (c i k : Nat) (v : Int32) : mm_M := (fun c' i' k' => if c' = c ∧ i' = i ∧ k' = k then v else M.1 c' i' k', M.2)
def mm_sR (M : mm_M) (c i k : Nat) (v : Option Nat) : mm_M := (M.1, fun c' i' k' => if c' = c ∧ i' = i ∧ k' = k then v else M.2.1 c' i' k', M.2.2)
/-- a new cell of kind c, len places if it is an array -/
def mm_nw (M : mm_M) (c len : Nat) : mm_M :=
  (fun c' i' k' => if c' = c ∧ i' = M.2.2.2 c then 0 else M.1 c' i' k', fun c' i' k' => if c' = c ∧ i' = M.2.2.2 c then none else M.2.1 c' i' k',
   fun c' i' => if c' = c ∧ i' = M.2.2.2 c then len else M.2.2.1 c' i', fun c' => if c' = c then M.2.2.2 c + 1 else M.2.2.2 c')
theorem mm_I_sI (M : mm_M) (c i k : Nat) (v : Int32) (c' i' k' : Nat) : mm_I (mm_sI M c i k v) c' i' k' = if c' = c ∧ i' = i ∧ k' = k then v else mm_I M c' i' k' := rfl
theorem mm_I_sR (M : mm_M) (c i k : Nat) (v : Option Nat) (c' i' k' : Nat) : mm_I (mm_sR M c i k v) c' i' k' = mm_I M c' i' k' := rfl
theorem mm_R_sI (M : mm_M) (c i k : Nat) (v : Int32) (c' i' k' : Nat) : mm_R (mm_sI M c i k v) c' i' k' = mm_R M c' i' k' := rfl
theorem mm_R_sR (M : mm_M) (c i k : Nat) (v : Option Nat) (c' i' k' : Nat) : mm_R (mm_sR M c i k v) c' i' k' = if c' = c ∧ i' = i ∧ k' = k then v else mm_R M c' i' k' := rfl
theorem mm_L_sI (M : mm_M) (c i k : Nat) (v : Int32) (c' i' : Nat) : mm_L (mm_sI M c i k v) c' i' = mm_L M c' i' := rfl
theorem mm_L_sR (M : mm_M) (c i k : Nat) (v : Option Nat) (c' i' : Nat) : mm_L (mm_sR M c i k v) c' i' = mm_L M c' i' := rfl
theorem mm_N_sI (M : mm_M) (c i k : Nat) (v : Int32) (c' : Nat) : mm_N (mm_sI M c i k v) c' = mm_N M c' := rfl
theorem mm_N_sR (M : mm_M) (c i k : Nat) (v : Option Nat) (c' : Nat) : mm_N (mm_sR M c i k v) c' = mm_N M c' := rfl
theorem mm_I_nw (M : mm_M) (c len c' i' k' : Nat) : mm_I (mm_nw M c len) c' i' k' = if c' = c ∧ i' = mm_N M c then 0 else mm_I M c' i' k' := rfl
theorem mm_R_nw (M : mm_M) (c len c' i' k' : Nat) : mm_R (mm_nw M c len) c' i' k' = if c' = c ∧ i' = mm_N M c then none else mm_R M c' i' k' := rfl
theorem mm_L_nw (M : mm_M) (c len c' i' : Nat) : mm_L (mm_nw M c len) c' i' = if c' = c ∧ i' = mm_N M c then len else mm_L M c' i' := rfl
theorem mm_N_nw (M : mm_M) (c len c' : Nat) : mm_N (mm_nw M c len) c' = if c' = c then mm_N M c + 1 else mm_N M c' := rfl
-- locals
def mm_at : mm_LS → Nat → Option mm_V
  | [], _ => none
  | v :: _, 0 => v
  | _ :: l, n + 1 => mm_at l n
def mm_set : mm_LS → Nat → Option mm_V → mm_LS
  | [], _, _ => []
  | _ :: l, 0, w => w :: l
  | v :: l, n + 1, w => v :: mm_set l n w
theorem mm_at_0 (v : Option mm_V) (l : mm_LS) : mm_at (v :: l) 0 = v := rfl
theorem mm_at_s (v : Option mm_V) (l : mm_LS) (n : Nat) : mm_at (v :: l) (n + 1) = mm_at l n := rfl
theorem mm_set_0 (v w : Option mm_V) (l : mm_LS) : mm_set (v :: l) 0 w = w :: l := rfl
theorem mm_set_s (v w : Option mm_V) (l : mm_LS) (n : Nat) : mm_set (v :: l) (n + 1) w = v :: mm_set l n w := rfl
def mm_nl : Option mm_V → Prop
  | some (.inr (.inl _)) => False
  | _ => True
theorem mm_nl_n : mm_nl none = True := rfl
theorem mm_nl_i (x : Int32) : mm_nl (some (.inl x)) = True := rfl
theorem mm_nl_r (q : Nat × Nat) : mm_nl (some (.inr (.inr q))) = True := rfl
-- what takes from the stack, from a local
def mm_pI (st : List mm_V) (k : Int32 → List mm_V → Prop) : Prop := match st with
  | .inl x :: s => k x s
  | _ => False
def mm_pL (st : List mm_V) (k : Int64 → List mm_V → Prop) : Prop := match st with
  | .inr (.inl x) :: s => k x s
  | _ => False
def mm_pA (st : List mm_V) (k : Nat × Nat → List mm_V → Prop) : Prop := match st with
  | .inr (.inr q) :: s => k q s
  | _ => False
/-- of kind c -/
def mm_pR (c : Nat) (st : List mm_V) (k : Nat → List mm_V → Prop) : Prop := mm_pA st fun q s => q.1 = c ∧ k q.2 s
/-- one word -/
def mm_p1 (st : List mm_V) (k : mm_V → List mm_V → Prop) : Prop := match st with
  | .inl x :: s => k (.inl x) s
  | .inr (.inr q) :: s => k (.inr (.inr q)) s
  | _ => False
def mm_pN : Nat → List mm_V → List mm_V → (List mm_V → List mm_V → Prop) → Prop
  | 0, acc, st, k => k acc st
  | n + 1, acc, st, k => match st with
    | v :: s => mm_pN n (v :: acc) s k
    | [] => False
def mm_lI (o : Option mm_V) (k : Int32 → Prop) : Prop := match o with
  | some (.inl x) => k x
  | _ => False
def mm_lL (o : Option mm_V) (k : Int64 → Prop) : Prop := match o with
  | some (.inr (.inl x)) => k x
  | _ => False
def mm_lA (o : Option mm_V) (k : Nat × Nat → Prop) : Prop := match o with
  | some (.inr (.inr q)) => k q
  | _ => False
theorem mm_pI_c (x : Int32) (s : List mm_V) (k : Int32 → List mm_V → Prop) : mm_pI (.inl x :: s) k = k x s := rfl
theorem mm_pL_c (x : Int64) (s : List mm_V) (k : Int64 → List mm_V → Prop) : mm_pL (.inr (.inl x) :: s) k = k x s := rfl
theorem mm_pA_c (q : Nat × Nat) (s : List mm_V) (k : Nat × Nat → List mm_V → Prop) : mm_pA (.inr (.inr q) :: s) k = k q s := rfl
theorem mm_pR_c (c c' i : Nat) (s : List mm_V) (k : Nat → List mm_V → Prop) : mm_pR c (.inr (.inr (c', i)) :: s) k = (c' = c ∧ k i s) := rfl
theorem mm_p1_i (x : Int32) (s : List mm_V) (k : mm_V → List mm_V → Prop) : mm_p1 (.inl x :: s) k = k (.inl x) s := rfl
theorem mm_p1_r (q : Nat × Nat) (s : List mm_V) (k : mm_V → List mm_V → Prop) : mm_p1 (.inr (.inr q) :: s) k = k (.inr (.inr q)) s := rfl
theorem mm_pN_0 (acc st : List mm_V) (k : List mm_V → List mm_V → Prop) : mm_pN 0 acc st k = k acc st := rfl
theorem mm_pN_s (n : Nat) (v : mm_V) (acc s : List mm_V) (k : List mm_V → List mm_V → Prop) : mm_pN (n + 1) acc (v :: s) k = mm_pN n (v :: acc) s k := rfl
theorem mm_lI_c (x : Int32) (k : Int32 → Prop) : mm_lI (some (.inl x)) k = k x := rfl
theorem mm_lL_c (x : Int64) (k : Int64 → Prop) : mm_lL (some (.inr (.inl x))) k = k x := rfl
theorem mm_lA_c (q : Nat × Nat) (k : Nat × Nat → Prop) : mm_lA (some (.inr (.inr q))) k = k q := rfl
/-- words on the stack -/
def mm_wd : List mm_V → Nat
  | [] => 0
  | .inr (.inl _) :: s => mm_wd s + 2
  | _ :: s => mm_wd s + 1
theorem mm_wd_n : mm_wd [] = 0 := rfl
theorem mm_wd_i (x : Int32) (s : List mm_V) : mm_wd (.inl x :: s) = mm_wd s + 1 := rfl
theorem mm_wd_l (x : Int64) (s : List mm_V) : mm_wd (.inr (.inl x) :: s) = mm_wd s + 2 := rfl
theorem mm_wd_r (q : Nat × Nat) (s : List mm_V) : mm_wd (.inr (.inr q) :: s) = mm_wd s + 1 := rfl
-- a field read, a field written, an answer
def mm_gf (o : Option (Option Nat)) (M : mm_M) (c i k : Nat) (K : mm_V → Prop) : Prop := match o with
  | some (some c') => match mm_R M c i k with
    | some j => K (.inr (.inr (c', j)))
    | none => False
  | _ => K (.inl (mm_I M c i k))
def mm_rf (o : Option Nat) (c' : Nat) (K : mm_V → Prop) : Prop := match o with
  | some j => K (.inr (.inr (c', j)))
  | none => False
theorem mm_gf_i (M : mm_M) (c i k : Nat) (K : mm_V → Prop) : mm_gf none M c i k K = K (.inl (mm_I M c i k)) := rfl
theorem mm_gf_b (M : mm_M) (c i k : Nat) (K : mm_V → Prop) : mm_gf (some none) M c i k K = K (.inl (mm_I M c i k)) := rfl
theorem mm_gf_r (c' : Nat) (M : mm_M) (c i k : Nat) (K : mm_V → Prop) : mm_gf (some (some c')) M c i k K = mm_rf (mm_R M c i k) c' K := by
  unfold mm_gf mm_rf
  rfl
theorem mm_rf_c (j c' : Nat) (K : mm_V → Prop) : mm_rf (some j) c' K = K (.inr (.inr (c', j))) := rfl
def mm_pf (o : Option (Option Nat)) (st : List mm_V) (M : mm_M) (c k : Nat) (K : mm_M → List mm_V → Prop) : Prop := match o with
  | none => mm_pI st fun x s => mm_pR c s fun i s => K (mm_sI M c i k x) s
  | some none => mm_pI st fun x s => mm_pR c s fun i s => (x = 0 ∨ x = 1) ∧ K (mm_sI M c i k x) s
  | some (some c') => mm_pR c' st fun j s => mm_pR c s fun i s => K (mm_sR M c i k (some j)) s
theorem mm_pf_i (st : List mm_V) (M : mm_M) (c k : Nat) (K : mm_M → List mm_V → Prop) : mm_pf none st M c k K = mm_pI st fun x s => mm_pR c s fun i s => K (mm_sI M c i k x) s := rfl
theorem mm_pf_b (st : List mm_V) (M : mm_M) (c k : Nat) (K : mm_M → List mm_V → Prop) : mm_pf (some none) st M c k K = mm_pI st fun x s => mm_pR c s fun i s => (x = 0 ∨ x = 1) ∧ K (mm_sI M c i k x) s := rfl
theorem mm_pf_r (c' : Nat) (st : List mm_V) (M : mm_M) (c k : Nat) (K : mm_M → List mm_V → Prop) : mm_pf (some (some c')) st M c k K = mm_pR c' st fun j s => mm_pR c s fun i s => K (mm_sR M c i k (some j)) s := rfl
def mm_rt (o : Option (Option Nat)) (r : Option mm_V) (K : List mm_V → Prop) : Prop := match o, r with
  | none, none => K []
  | some none, some (.inl x) => K [.inl x]
  | some (some c'), some (.inr (.inr (c, i))) => c = c' ∧ K [.inr (.inr (c, i))]
  | _, _ => False
theorem mm_rt_v (K : List mm_V → Prop) : mm_rt none none K = K [] := rfl
theorem mm_rt_i (x : Int32) (K : List mm_V → Prop) : mm_rt (some none) (some (.inl x)) K = K [.inl x] := rfl
theorem mm_rt_r (c' c i : Nat) (K : List mm_V → Prop) : mm_rt (some (some c')) (some (.inr (.inr (c, i)))) K = (c = c' ∧ K [.inr (.inr (c, i))]) := rfl
def mm_cmp (op : Jvm.ClassFile.Cond) (x y : Int32) : Prop := match op with
  | .eq => x = y
  | .ne => ¬ x = y
  | .lt => x < y
  | .ge => y ≤ x
  | .gt => y < x
  | .le => x ≤ y
theorem mm_c_eq (x y : Int32) : mm_cmp .eq x y = (x = y) := rfl
theorem mm_c_ne (x y : Int32) : mm_cmp .ne x y = (¬ x = y) := rfl
theorem mm_c_lt (x y : Int32) : mm_cmp .lt x y = (x < y) := rfl
theorem mm_c_ge (x y : Int32) : mm_cmp .ge x y = (y ≤ x) := rfl
theorem mm_c_gt (x y : Int32) : mm_cmp .gt x y = (y < x) := rfl
theorem mm_c_le (x y : Int32) : mm_cmp .le x y = (x ≤ y) := rfl
/-- two ways -/
def mm_if (c A B : Prop) : Prop := (c → A) ∧ (¬ c → B)
def mm_sw (ts : List (Int32 × Nat)) (d : Nat) (x : Int32) (K : Nat → Prop) : Prop := match ts with
  | [] => K d
  | q :: t => mm_if (x = q.1) (K q.2) (mm_sw t d x K)
theorem mm_sw_n (d : Nat) (x : Int32) (K : Nat → Prop) : mm_sw [] d x K = K d := rfl
theorem mm_sw_c (y : Int32) (j : Nat) (t : List (Int32 × Nat)) (d : Nat) (x : Int32) (K : Nat → Prop) : mm_sw ((y, j) :: t) d x K = mm_if (x = y) (K j) (mm_sw t d x K) := rfl
/-- how many bytes the first text has; its letters -/
def mm_txt : List Int32 := [119, 48, 44, 53, 44, 51, 59, 119, 49, 44, 49, 50, 44, 50, 59, 119, 50, 44, 50, 48, 44, 52, 59, 119, 51, 44, 56, 44, 50, 59, 119, 48, 44, 51, 48, 44, 54, 59, 119, 48, 44, 49, 52, 44, 49, 59, 109, 50, 53, 44, 49, 50, 59, 98, 48, 44, 52, 44, 50, 44, 57, 44, 56, 59, 98, 49, 44, 57, 44, 49, 44, 49, 50, 44, 49, 50, 59, 98, 50, 44, 54, 44, 51, 44, 50, 53, 44, 56, 59, 98, 53, 44, 50, 44, 53, 44, 49, 52, 44, 49, 50, 59]
/-- what a list of instructions needs, so that 'post' holds of its answer -/
def mm_w (call : Nat → List mm_V → mm_M → mm_Post → Prop) (al : Nat → mm_B) (jump : Nat → mm_LS → List mm_V → mm_M → mm_B → Prop) (post : mm_Post) : List mm_Ins → mm_LS → List mm_V → mm_M → mm_B → Prop
  | [], _, _, _, _ => False
  | (_, _, ins, a, b, o, v, ts) :: c, ls, st, M, bu =>
    match ins with
    | .nop => match a with
      | 0 => jump b ls st M bu
      | 1 => mm_pI st fun y s => mm_pI s fun x s => mm_wd s ≤ 8 ∧ mm_w call al jump post c ls (.inl (if x < y then y else x) :: s) M bu
      | 2 => mm_pA st fun _ s => mm_wd s ≤ 8 ∧ mm_w call al jump post c ls s M bu
      | 3 => mm_pR 12 st fun _ s => mm_wd s ≤ 8 ∧ mm_w call al jump post c ls (.inl (nI mm_txt.length) :: s) M bu
      | 4 => mm_pI st fun x s => mm_pR 12 s fun _ s => mm_wd s ≤ 8 ∧ vp_in x mm_txt.length ∧ mm_w call al jump post c ls (.inl (mm_txt.getD x.toNatClampNeg 0) :: s) M bu
      | 5 => 0 < mm_N M 12 ∧ mm_w call al jump post c ls (.inr (.inr (12, 0)) :: st) M bu
      | _ => False
    | .iconst _ => mm_w call al jump post c ls (.inl v :: st) M bu
    | .bipush _ => mm_w call al jump post c ls (.inl v :: st) M bu
    | .sipush _ => mm_w call al jump post c ls (.inl v :: st) M bu
    | .ldc _ => mm_w call al jump post c ls (.inl v :: st) M bu
    | .ldc_w _ => mm_w call al jump post c ls (.inl v :: st) M bu
    | .lconst _ => mm_w call al jump post c ls (.inr (.inl v.toInt64) :: st) M bu
    | .ldc2_w _ => mm_w call al jump post c ls (.inr (.inl v.toInt64) :: st) M bu
    | .iload _ => mm_lI (mm_at ls a) fun x => mm_w call al jump post c ls (.inl x :: st) M bu
    | .iload_n _ => mm_lI (mm_at ls a) fun x => mm_w call al jump post c ls (.inl x :: st) M bu
    | .lload _ => mm_lL (mm_at ls a) fun x => mm_w call al jump post c ls (.inr (.inl x) :: st) M bu
    | .lload_n _ => mm_lL (mm_at ls a) fun x => mm_w call al jump post c ls (.inr (.inl x) :: st) M bu
    | .aload _ => mm_lA (mm_at ls a) fun x => mm_w call al jump post c ls (.inr (.inr x) :: st) M bu
    | .aload_n _ => mm_lA (mm_at ls a) fun x => mm_w call al jump post c ls (.inr (.inr x) :: st) M bu
    | .istore _ => mm_pI st fun x s => a < ls.length ∧ mm_nl (mm_at ls (a - 1)) ∧ mm_w call al jump post c (mm_set ls a (some (.inl x))) s M bu
    | .istore_n _ => mm_pI st fun x s => a < ls.length ∧ mm_nl (mm_at ls (a - 1)) ∧ mm_w call al jump post c (mm_set ls a (some (.inl x))) s M bu
    | .astore _ => mm_pA st fun x s => a < ls.length ∧ mm_nl (mm_at ls (a - 1)) ∧ mm_w call al jump post c (mm_set ls a (some (.inr (.inr x)))) s M bu
    | .astore_n _ => mm_pA st fun x s => a < ls.length ∧ mm_nl (mm_at ls (a - 1)) ∧ mm_w call al jump post c (mm_set ls a (some (.inr (.inr x)))) s M bu
    | .lstore _ => mm_pL st fun x s => a + 1 < ls.length ∧ mm_nl (mm_at ls (a - 1)) ∧ mm_w call al jump post c (mm_set (mm_set ls a (some (.inr (.inl x)))) (a + 1) none) s M bu
    | .lstore_n _ => mm_pL st fun x s => a + 1 < ls.length ∧ mm_nl (mm_at ls (a - 1)) ∧ mm_w call al jump post c (mm_set (mm_set ls a (some (.inr (.inl x)))) (a + 1) none) s M bu
    | .iinc _ _ => mm_lI (mm_at ls a) fun x => a < ls.length ∧ mm_nl (mm_at ls (a - 1)) ∧ mm_w call al jump post c (mm_set ls a (some (.inl (x + v)))) st M bu
    | .iadd => mm_pI st fun y s => mm_pI s fun x s => mm_w call al jump post c ls (.inl (x + y) :: s) M bu
    | .isub => mm_pI st fun y s => mm_pI s fun x s => mm_w call al jump post c ls (.inl (x - y) :: s) M bu
    | .imul => mm_pI st fun y s => mm_pI s fun x s => mm_w call al jump post c ls (.inl (x * y) :: s) M bu
    | .iand => mm_pI st fun y s => mm_pI s fun x s => mm_w call al jump post c ls (.inl (x &&& y) :: s) M bu
    | .ior => mm_pI st fun y s => mm_pI s fun x s => mm_w call al jump post c ls (.inl (x ||| y) :: s) M bu
    | .ishl => mm_pI st fun y s => mm_pI s fun x s => mm_w call al jump post c ls (.inl (x <<< (y &&& 31)) :: s) M bu
    | .ishr => mm_pI st fun y s => mm_pI s fun x s => mm_w call al jump post c ls (.inl (x >>> (y &&& 31)) :: s) M bu
    | .iushr => mm_pI st fun y s => mm_pI s fun x s => mm_w call al jump post c ls (.inl (x.toUInt32 >>> (y.toUInt32 &&& Int32.toUInt32 31)).toInt32 :: s) M bu
    | .idiv => mm_pI st fun y s => mm_pI s fun x s => (¬ y = 0) ∧ mm_w call al jump post c ls (.inl (x / y) :: s) M bu
    | .irem => mm_pI st fun y s => mm_pI s fun x s => (¬ y = 0) ∧ mm_w call al jump post c ls (.inl (x - x / y * y) :: s) M bu
    | .ladd => mm_pL st fun y s => mm_pL s fun x s => mm_w call al jump post c ls (.inr (.inl (x + y)) :: s) M bu
    | .lmul => mm_pL st fun y s => mm_pL s fun x s => mm_w call al jump post c ls (.inr (.inl (x * y)) :: s) M bu
    | .lrem => mm_pL st fun y s => mm_pL s fun x s => (¬ y = 0) ∧ mm_w call al jump post c ls (.inr (.inl (x - x / y * y)) :: s) M bu
    | .lcmp => mm_pL st fun y s => mm_pL s fun x s => mm_w call al jump post c ls (.inl (lg_cmp x y) :: s) M bu
    | .i2l => mm_pI st fun x s => mm_w call al jump post c ls (.inr (.inl x.toInt64) :: s) M bu
    | .l2i => mm_pL st fun x s => mm_w call al jump post c ls (.inl x.toInt32 :: s) M bu
    | .i2b => mm_pI st fun x s => mm_w call al jump post c ls (.inl x.toInt8.toInt32 :: s) M bu
    | .dup => mm_p1 st fun x s => mm_w call al jump post c ls (x :: x :: s) M bu
    | .dup2 => mm_p1 st fun x s => mm_p1 s fun y s => mm_w call al jump post c ls (x :: y :: x :: y :: s) M bu
    | .pop => mm_p1 st fun _ s => mm_w call al jump post c ls s M bu
    | .ifCond op _ => mm_pI st fun x s => mm_if (mm_cmp op x 0) (jump a ls s M bu) (mm_w call al jump post c ls s M bu)
    | .if_icmp op _ => mm_pI st fun y s => mm_pI s fun x s => mm_if (mm_cmp op x y) (jump a ls s M bu) (mm_w call al jump post c ls s M bu)
    | .goto _ => jump a ls st M bu
    | .tableswitch _ _ _ _ => mm_pI st fun x s => mm_sw ts a x fun j => jump j ls s M bu
    | .lookupswitch _ _ => mm_pI st fun x s => mm_sw ts a x fun j => jump j ls s M bu
    | .getfield _ => mm_pR a st fun i s => mm_gf o M a i b fun x => mm_w call al jump post c ls (x :: s) M bu
    | .putfield _ => mm_pf o st M a b fun M' s => mm_w call al jump post c ls s M' bu
    | .iaload => mm_pI st fun x s => mm_pR a s fun i s => vp_in x (mm_L M a i) ∧ mm_w call al jump post c ls (.inl (mm_I M a i x.toNatClampNeg) :: s) M bu
    | .baload => mm_pI st fun x s => mm_pR 8 s fun i s => vp_in x (mm_L M 8 i) ∧ mm_w call al jump post c ls (.inl (mm_I M 8 i x.toNatClampNeg) :: s) M bu
    | .aaload => mm_pI st fun x s => mm_pR a s fun i s => vp_in x (mm_L M a i) ∧ mm_rf (mm_R M a i x.toNatClampNeg) b fun y => mm_w call al jump post c ls (y :: s) M bu
    | .iastore => mm_pI st fun y s => mm_pI s fun x s => mm_pR 7 s fun i s => vp_in x (mm_L M 7 i) ∧ mm_w call al jump post c ls s (mm_sI M 7 i x.toNatClampNeg y) bu
    | .bastore => mm_pI st fun y s => mm_pI s fun x s => mm_pR 8 s fun i s => vp_in x (mm_L M 8 i) ∧ mm_w call al jump post c ls s (mm_sI M 8 i x.toNatClampNeg (vp_nar .byte y)) bu
    | .aastore => mm_pR b st fun j s => mm_pI s fun x s => mm_pR a s fun i s => vp_in x (mm_L M a i) ∧ mm_w call al jump post c ls s (mm_sR M a i x.toNatClampNeg (some j)) bu
    | .arraylength => mm_pR a st fun i s => mm_w call al jump post c ls (.inl (Int32.ofNat (mm_L M a i)) :: s) M bu
    | .new _ => 1 ≤ bu.1 ∧ b ≤ bu.2 ∧ mm_w call al jump post c ls (.inr (.inr (a, mm_N M a)) :: st) (mm_nw M a 0) (bu.1 - 1, bu.2 - b)
    | .newarray _ => mm_pI st fun x s => (¬ x < 0) ∧ 1 ≤ bu.1 ∧ x.toNatClampNeg ≤ bu.2 ∧ x.toNatClampNeg ≤ 1000 ∧ mm_w call al jump post c ls (.inr (.inr (a, mm_N M a)) :: s) (mm_nw M a x.toNatClampNeg) (bu.1 - 1, bu.2 - x.toNatClampNeg)
    | .anewarray _ => mm_pI st fun x s => (¬ x < 0) ∧ 1 ≤ bu.1 ∧ x.toNatClampNeg ≤ bu.2 ∧ x.toNatClampNeg ≤ 1000 ∧ mm_w call al jump post c ls (.inr (.inr (a, mm_N M a)) :: s) (mm_nw M a x.toNatClampNeg) (bu.1 - 1, bu.2 - x.toNatClampNeg)
    | .invokevirtual _ => mm_pN b [] st fun as s => mm_wd s ≤ 8 ∧ (al a).1 ≤ bu.1 ∧ (al a).2 ≤ bu.2 ∧ call a as M fun r M' => mm_rt o r fun vs => mm_w call al jump post c ls (vs ++ s) M' (bu.1 - (al a).1, bu.2 - (al a).2)
    | .invokestatic _ => mm_pN b [] st fun as s => mm_wd s ≤ 8 ∧ (al a).1 ≤ bu.1 ∧ (al a).2 ≤ bu.2 ∧ call a as M fun r M' => mm_rt o r fun vs => mm_w call al jump post c ls (vs ++ s) M' (bu.1 - (al a).1, bu.2 - (al a).2)
    | .invokespecial _ => mm_pN b [] st fun as s => mm_wd s ≤ 8 ∧ (al a).1 ≤ bu.1 ∧ (al a).2 ≤ bu.2 ∧ call a as M fun r M' => mm_rt o r fun vs => mm_w call al jump post c ls (vs ++ s) M' (bu.1 - (al a).1, bu.2 - (al a).2)
    | .ireturn => mm_pI st fun x s => s = [] ∧ (o = some none → x = 0 ∨ x = 1) ∧ post (some (.inl x)) M
    | .areturn => mm_pA st fun x s => s = [] ∧ post (some (.inr (.inr x))) M
    | .return_ => st = [] ∧ post none M
    | _ => False
-- monotone
theorem mm_pI_m {st : List mm_V} {k k' : Int32 → List mm_V → Prop} (h : ∀ x s, k x s → k' x s) (q : mm_pI st k) : mm_pI st k' := by
  unfold mm_pI at *
  split at q <;> first | exact h _ _ q | exact q.elim
theorem mm_pL_m {st : List mm_V} {k k' : Int64 → List mm_V → Prop} (h : ∀ x s, k x s → k' x s) (q : mm_pL st k) : mm_pL st k' := by
  unfold mm_pL at *
  split at q <;> first | exact h _ _ q | exact q.elim
theorem mm_pA_m {st : List mm_V} {k k' : Nat × Nat → List mm_V → Prop} (h : ∀ x s, k x s → k' x s) (q : mm_pA st k) : mm_pA st k' := by
  unfold mm_pA at *
  split at q <;> first | exact h _ _ q | exact q.elim
theorem mm_pR_m {c : Nat} {st : List mm_V} {k k' : Nat → List mm_V → Prop} (h : ∀ x s, k x s → k' x s) (q : mm_pR c st k) : mm_pR c st k' := mm_pA_m (fun _ _ z => ⟨z.1, h _ _ z.2⟩) q
theorem mm_p1_m {st : List mm_V} {k k' : mm_V → List mm_V → Prop} (h : ∀ x s, k x s → k' x s) (q : mm_p1 st k) : mm_p1 st k' := by
  unfold mm_p1 at *
  split at q <;> first | exact h _ _ q | exact q.elim
theorem mm_pN_m {k k' : List mm_V → List mm_V → Prop} (h : ∀ x s, k x s → k' x s) : ∀ (n : Nat) (acc st : List mm_V), mm_pN n acc st k → mm_pN n acc st k'
  | 0, _, _, q => h _ _ q
  | n + 1, acc, [], q => q.elim
  | n + 1, acc, v :: s, q => mm_pN_m h n (v :: acc) s q
theorem mm_lI_m {o : Option mm_V} {k k' : Int32 → Prop} (h : ∀ x, k x → k' x) (q : mm_lI o k) : mm_lI o k' := by
  unfold mm_lI at *
  split at q <;> first | exact h _ q | exact q.elim
theorem mm_lL_m {o : Option mm_V} {k k' : Int64 → Prop} (h : ∀ x, k x → k' x) (q : mm_lL o k) : mm_lL o k' := by
  unfold mm_lL at *
  split at q <;> first | exact h _ q | exact q.elim
theorem mm_lA_m {o : Option mm_V} {k k' : Nat × Nat → Prop} (h : ∀ x, k x → k' x) (q : mm_lA o k) : mm_lA o k' := by
  unfold mm_lA at *
  split at q <;> first | exact h _ q | exact q.elim
theorem mm_rf_m {o : Option Nat} {c' : Nat} {k k' : mm_V → Prop} (h : ∀ x, k x → k' x) (q : mm_rf o c' k) : mm_rf o c' k' := by
  unfold mm_rf at *
  split at q <;> first | exact h _ q | exact q.elim
theorem mm_gf_m {o : Option (Option Nat)} {M : mm_M} {c i b : Nat} {k k' : mm_V → Prop} (h : ∀ x, k x → k' x) (q : mm_gf o M c i b k) : mm_gf o M c i b k' := by
  match o, q with
  | none, q => exact h _ q
  | some none, q => exact h _ q
  | some (some c'), q =>
    rw [mm_gf_r] at *
    exact mm_rf_m h q
theorem mm_pf_m {o : Option (Option Nat)} {st : List mm_V} {M : mm_M} {c b : Nat} {k k' : mm_M → List mm_V → Prop} (h : ∀ M s, k M s → k' M s) (q : mm_pf o st M c b k) : mm_pf o st M c b k' := by
  match o, q with
  | none, q => exact mm_pI_m (fun _ _ q => mm_pR_m (fun _ _ q => h _ _ q) q) q
  | some none, q => exact mm_pI_m (fun _ _ q => mm_pR_m (fun _ _ q => ⟨q.1, h _ _ q.2⟩) q) q
  | some (some c'), q =>
    rw [mm_pf_r] at *
    exact mm_pR_m (fun _ _ q => mm_pR_m (fun _ _ q => h _ _ q) q) q
theorem mm_rt_m {o : Option (Option Nat)} {r : Option mm_V} {k k' : List mm_V → Prop} (h : ∀ x, k x → k' x) (q : mm_rt o r k) : mm_rt o r k' := by
  unfold mm_rt at *
  split at q <;> first | exact h _ q | exact ⟨q.1, h _ q.2⟩ | exact q.elim
theorem mm_if_m {c A B A' B' : Prop} (ha : A → A') (hb : B → B') (q : mm_if c A B) : mm_if c A' B' := ⟨fun z => ha (q.1 z), fun z => hb (q.2 z)⟩
theorem mm_sw_m {d : Nat} {x : Int32} {K K' : Nat → Prop} (h : ∀ j, K j → K' j) : ∀ (ts : List (Int32 × Nat)), mm_sw ts d x K → mm_sw ts d x K'
  | [], q => h _ q
  | _ :: t, q => mm_if_m (h _) (mm_sw_m h t) q
theorem mm_w_m {call : Nat → List mm_V → mm_M → mm_Post → Prop} (hc : ∀ k as M (P P' : mm_Post), (∀ r M, P r M → P' r M) → call k as M P → call k as M P') {al : Nat → mm_B} {J J' : Nat → mm_LS → List mm_V → mm_M → mm_B → Prop} (hJ : ∀ j ls st M bu, J j ls st M bu → J' j ls st M bu) {P P' : mm_Post} (hP : ∀ r M, P r M → P' r M) :
    ∀ (c : List mm_Ins) (ls : mm_LS) (st : List mm_V) (M : mm_M) (bu : mm_B), mm_w call al J P c ls st M bu → mm_w call al J' P' c ls st M bu := by
  intro c
  induction c with
  | nil => intro ls st M bu q; exact q
  | cons q0 c ih =>
    obtain ⟨pc, len, ins, a, b, o, v, ts⟩ := q0
    intro ls st M bu q
    cases ins
    case nop =>
      match a, q with
      | 0, q => exact hJ _ _ _ _ _ q
      | 1, q => exact mm_pI_m (fun _ _ q => mm_pI_m (fun _ _ q => ⟨q.1, ih _ _ _ _ q.2⟩) q) q
      | 2, q => exact mm_pA_m (fun _ _ q => ⟨q.1, ih _ _ _ _ q.2⟩) q
      | 3, q =>
        simp only [mm_w] at q ⊢
        exact mm_pR_m (fun _ _ q => ⟨q.1, ih _ _ _ _ q.2⟩) q
      | 4, q =>
        simp only [mm_w] at q ⊢
        exact mm_pI_m (fun _ _ q => mm_pR_m (fun _ _ q => ⟨q.1, q.2.1, ih _ _ _ _ q.2.2⟩) q) q
      | 5, q => exact ⟨q.1, ih _ _ _ _ q.2⟩
      | _ + 6, q => exact q.elim
    all_goals simp only [mm_w] at q ⊢
    all_goals first
      | exact ih _ _ _ _ q
      | exact hJ _ _ _ _ _ q
      | exact mm_lI_m (fun _ q => ih _ _ _ _ q) q
      | exact mm_lL_m (fun _ q => ih _ _ _ _ q) q
      | exact mm_lA_m (fun _ q => ih _ _ _ _ q) q
      | exact mm_lI_m (fun _ q => ⟨q.1, q.2.1, ih _ _ _ _ q.2.2⟩) q
      | exact mm_pI_m (fun _ _ q => ⟨q.1, q.2.1, ih _ _ _ _ q.2.2⟩) q
      | exact mm_pL_m (fun _ _ q => ⟨q.1, q.2.1, ih _ _ _ _ q.2.2⟩) q
      | exact mm_pA_m (fun _ _ q => ⟨q.1, q.2.1, ih _ _ _ _ q.2.2⟩) q
      | exact mm_pI_m (fun _ _ q => mm_pI_m (fun _ _ q => ih _ _ _ _ q) q) q
      | exact mm_pI_m (fun _ _ q => mm_pI_m (fun _ _ q => ⟨q.1, ih _ _ _ _ q.2⟩) q) q
      | exact mm_pL_m (fun _ _ q => mm_pL_m (fun _ _ q => ih _ _ _ _ q) q) q
      | exact mm_pL_m (fun _ _ q => mm_pL_m (fun _ _ q => ⟨q.1, ih _ _ _ _ q.2⟩) q) q
      | exact mm_pI_m (fun _ _ q => ih _ _ _ _ q) q
      | exact mm_pL_m (fun _ _ q => ih _ _ _ _ q) q
      | exact mm_p1_m (fun _ _ q => ih _ _ _ _ q) q
      | exact mm_p1_m (fun _ _ q => mm_p1_m (fun _ _ q => ih _ _ _ _ q) q) q
      | exact mm_pI_m (fun _ _ q => mm_if_m (hJ _ _ _ _ _) (ih _ _ _ _) q) q
      | exact mm_pI_m (fun _ _ q => mm_pI_m (fun _ _ q => mm_if_m (hJ _ _ _ _ _) (ih _ _ _ _) q) q) q
      | exact mm_pI_m (fun _ _ q => mm_sw_m (fun _ q => hJ _ _ _ _ _ q) _ q) q
      | exact mm_pR_m (fun _ _ q => mm_gf_m (fun _ q => ih _ _ _ _ q) q) q
      | exact mm_pf_m (fun _ _ q => ih _ _ _ _ q) q
      | exact mm_pI_m (fun _ _ q => mm_pR_m (fun _ _ q => ⟨q.1, ih _ _ _ _ q.2⟩) q) q
      | exact mm_pI_m (fun _ _ q => mm_pR_m (fun _ _ q => ⟨q.1, mm_rf_m (fun _ q => ih _ _ _ _ q) q.2⟩) q) q
      | exact mm_pI_m (fun _ _ q => mm_pI_m (fun _ _ q => mm_pR_m (fun _ _ q => ⟨q.1, ih _ _ _ _ q.2⟩) q) q) q
      | exact mm_pR_m (fun _ _ q => mm_pI_m (fun _ _ q => mm_pR_m (fun _ _ q => ⟨q.1, ih _ _ _ _ q.2⟩) q) q) q
      | exact mm_pR_m (fun _ _ q => ih _ _ _ _ q) q
      | exact ⟨q.1, q.2.1, ih _ _ _ _ q.2.2⟩
      | exact mm_pI_m (fun _ _ q => ⟨q.1, q.2.1, q.2.2.1, q.2.2.2.1, ih _ _ _ _ q.2.2.2.2⟩) q
      | exact mm_pN_m (fun _ _ q => ⟨q.1, q.2.1, q.2.2.1, hc _ _ _ _ _ (fun _ _ q => mm_rt_m (fun _ q => ih _ _ _ _ q) q) q.2.2.2⟩) _ _ _ q
      | exact mm_pI_m (fun _ _ q => ⟨q.1, q.2.1, hP _ _ q.2.2⟩) q
      | exact mm_pA_m (fun _ _ q => ⟨q.1, hP _ _ q.2⟩) q
      | exact ⟨q.1, hP _ _ q.2⟩
/-- the least thing that its blocks allow -/
def mm_blk (call : Nat → List mm_V → mm_M → mm_Post → Prop) (al : Nat → mm_B) (B : Nat → List mm_Ins) (post : mm_Post) (j : Nat) (ls : mm_LS) (st : List mm_V) (M : mm_M) (bu : mm_B) : Prop :=
  ∀ X : Nat → mm_LS → List mm_V → mm_M → mm_B → Prop, (∀ j ls st M bu, mm_w call al X post (B j) ls st M bu → X j ls st M bu) → X j ls st M bu
theorem mm_blk_in {call : Nat → List mm_V → mm_M → mm_Post → Prop} (hc : ∀ k as M (P P' : mm_Post), (∀ r M, P r M → P' r M) → call k as M P → call k as M P') {al : Nat → mm_B} {B : Nat → List mm_Ins} {post : mm_Post} {j : Nat} {ls : mm_LS} {st : List mm_V} {M : mm_M} {bu : mm_B}
    (h : mm_w call al (mm_blk call al B post) post (B j) ls st M bu) : mm_blk call al B post j ls st M bu := fun X hX => hX _ _ _ _ _ (mm_w_m hc (fun _ _ _ _ _ q => q X hX) (fun _ _ q => q) _ _ _ _ _ h)
theorem mm_blk_out {call : Nat → List mm_V → mm_M → mm_Post → Prop} (hc : ∀ k as M (P P' : mm_Post), (∀ r M, P r M → P' r M) → call k as M P → call k as M P') {al : Nat → mm_B} {B : Nat → List mm_Ins} {post : mm_Post} {j : Nat} {ls : mm_LS} {st : List mm_V} {M : mm_M} {bu : mm_B}
    (h : mm_blk call al B post j ls st M bu) : mm_w call al (mm_blk call al B post) post (B j) ls st M bu := h (fun j ls st M bu => mm_w call al (mm_blk call al B post) post (B j) ls st M bu) (fun _ _ _ _ _ q => mm_w_m hc (fun _ _ _ _ _ q => mm_blk_in hc q) (fun _ _ q => q) _ _ _ _ _ q)
theorem mm_blk_m {call : Nat → List mm_V → mm_M → mm_Post → Prop} (hc : ∀ k as M (P P' : mm_Post), (∀ r M, P r M → P' r M) → call k as M P → call k as M P') {al : Nat → mm_B} {B : Nat → List mm_Ins} {P P' : mm_Post} (hP : ∀ r M, P r M → P' r M) {j : Nat} {ls : mm_LS} {st : List mm_V} {M : mm_M} {bu : mm_B}
    (h : mm_blk call al B P j ls st M bu) : mm_blk call al B P' j ls st M bu := h (mm_blk call al B P') (fun _ _ _ _ _ q => mm_blk_in hc (mm_w_m hc (fun _ _ _ _ _ q => q) hP _ _ _ _ _ q))
/-- arguments as locals -/
def mm_args : List mm_V → mm_LS
  | [] => []
  | .inr (.inl x) :: s => some (.inr (.inl x)) :: none :: mm_args s
  | .inl x :: s => some (.inl x) :: mm_args s
  | .inr (.inr q) :: s => some (.inr (.inr q)) :: mm_args s
def mm_pad : Nat → mm_LS → mm_LS
  | 0, _ => []
  | n + 1, [] => none :: mm_pad n []
  | n + 1, v :: l => v :: mm_pad n l
theorem mm_args_n : mm_args [] = [] := rfl
theorem mm_args_i (x : Int32) (s : List mm_V) : mm_args (.inl x :: s) = some (.inl x) :: mm_args s := rfl
theorem mm_args_l (x : Int64) (s : List mm_V) : mm_args (.inr (.inl x) :: s) = some (.inr (.inl x)) :: none :: mm_args s := rfl
theorem mm_args_r (q : Nat × Nat) (s : List mm_V) : mm_args (.inr (.inr q) :: s) = some (.inr (.inr q)) :: mm_args s := rfl
theorem mm_pad_0 (l : mm_LS) : mm_pad 0 l = [] := rfl
theorem mm_pad_n (n : Nat) : mm_pad (n + 1) [] = none :: mm_pad n [] := rfl
theorem mm_pad_c (n : Nat) (v : Option mm_V) (l : mm_LS) : mm_pad (n + 1) (v :: l) = v :: mm_pad n l := rfl
/-- a call, d deep at most; B: the blocks, mx: how many locals -/
def mm_call (al : Nat → mm_B) (B : Nat → Nat → List mm_Ins) (mx : Nat → Nat) : Nat → Nat → List mm_V → mm_M → mm_Post → Prop
  | 0, _, _, _, _ => False
  | d + 1, k, as, M, post => (mm_args as).length ≤ mx k ∧ mm_blk (mm_call al B mx d) al (B k) post 0 (mm_pad (mx k) (mm_args as)) [] M (al k)
theorem mm_call_m (al : Nat → mm_B) (B : Nat → Nat → List mm_Ins) (mx : Nat → Nat) : ∀ (d k : Nat) (as : List mm_V) (M : mm_M) (P P' : mm_Post), (∀ r M, P r M → P' r M) → mm_call al B mx d k as M P → mm_call al B mx d k as M P'
  | 0, _, _, _, _, _, _, q => q
  | d + 1, k, as, M, P, P', hP, q => ⟨q.1, mm_blk_m (mm_call_m al B mx d) hP q.2⟩
end
