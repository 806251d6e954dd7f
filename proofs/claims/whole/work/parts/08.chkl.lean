/-! the law itself, a block at a time -/
def sn_chkB (k j : Nat) : Bool := sn_chkL k (pB k j) && (match pB k j with
  | [] => true
  | q :: _ => decide (q.1 = pPc k j))
theorem cl_0 : sn_chkB 166 0 = true := by decide +kernel
theorem cl_1 : sn_chkB 166 1 = true := by decide +kernel
theorem cl_2 : sn_chkB 166 2 = true := by decide +kernel
theorem cl_3 : sn_chkB 166 3 = true := by decide +kernel
theorem cl_4 : sn_chkB 166 4 = true := by decide +kernel
theorem cl_5 : sn_chkB 166 5 = true := by decide +kernel
theorem cl_6 : sn_chkB 166 6 = true := by decide +kernel
theorem cl_7 : sn_chkB 166 7 = true := by decide +kernel
theorem cl_8 : sn_chkB 166 8 = true := by decide +kernel
theorem cl_9 : sn_chkB 166 9 = true := by decide +kernel
theorem cl_10 : sn_chkB 166 10 = true := by decide +kernel
theorem cl_11 : sn_chkB 166 11 = true := by decide +kernel
theorem cl_12 : sn_chkB 166 12 = true := by decide +kernel
theorem cl_13 : sn_chkB 166 13 = true := by decide +kernel
theorem cl_14 : sn_chkB 166 14 = true := by decide +kernel
theorem cl_15 : sn_chkB 166 15 = true := by decide +kernel
theorem cl_16 : sn_chkB 166 16 = true := by decide +kernel
theorem cl_17 : sn_chkB 166 17 = true := by decide +kernel
theorem cl_18 : sn_chkB 166 18 = true := by decide +kernel
theorem cl_19 : sn_chkB 166 19 = true := by decide +kernel
theorem cl_20 : sn_chkB 166 20 = true := by decide +kernel
theorem cl_21 : sn_chkB 166 21 = true := by decide +kernel
theorem cl_22 : sn_chkB 166 22 = true := by decide +kernel
theorem cl_23 : sn_chkB 166 23 = true := by decide +kernel
theorem cl_24 : sn_chkB 166 24 = true := by decide +kernel
theorem cl_25 : sn_chkB 166 25 = true := by decide +kernel
theorem cl_26 : sn_chkB 166 26 = true := by decide +kernel
theorem cl_27 : sn_chkB 166 27 = true := by decide +kernel
theorem cl_28 : sn_chkB 166 28 = true := by decide +kernel
theorem cl_29 : sn_chkB 166 29 = true := by decide +kernel
theorem cl_30 : sn_chkB 166 30 = true := by decide +kernel
theorem cl_31 : sn_chkB 166 31 = true := by decide +kernel
theorem cl_32 : sn_chkB 166 32 = true := by decide +kernel
theorem cl_33 : sn_chkB 166 33 = true := by decide +kernel
theorem ck_166 : sn_chkM 166 = true := by
  show (List.range 34).all (fun j => sn_chkB 166 j) = true
  refine List.all_eq_true.mpr fun j hj => ?_
  have h : j < 34 := List.mem_range.mp hj
  match j, h with
  | 0, _ => exact cl_0
  | 1, _ => exact cl_1
  | 2, _ => exact cl_2
  | 3, _ => exact cl_3
  | 4, _ => exact cl_4
  | 5, _ => exact cl_5
  | 6, _ => exact cl_6
  | 7, _ => exact cl_7
  | 8, _ => exact cl_8
  | 9, _ => exact cl_9
  | 10, _ => exact cl_10
  | 11, _ => exact cl_11
  | 12, _ => exact cl_12
  | 13, _ => exact cl_13
  | 14, _ => exact cl_14
  | 15, _ => exact cl_15
  | 16, _ => exact cl_16
  | 17, _ => exact cl_17
  | 18, _ => exact cl_18
  | 19, _ => exact cl_19
  | 20, _ => exact cl_20
  | 21, _ => exact cl_21
  | 22, _ => exact cl_22
  | 23, _ => exact cl_23
  | 24, _ => exact cl_24
  | 25, _ => exact cl_25
  | 26, _ => exact cl_26
  | 27, _ => exact cl_27
  | 28, _ => exact cl_28
  | 29, _ => exact cl_29
  | 30, _ => exact cl_30
  | 31, _ => exact cl_31
  | 32, _ => exact cl_32
  | 33, _ => exact cl_33
  | q + 34, h => exact absurd h (by omega)
theorem ck (k : Nat) (h : k < 167) : sn_chkM k = true := by
  match k, h with
  | 0, _ => exact ck_0
  | 1, _ => exact ck_1
  | 2, _ => exact ck_2
  | 3, _ => exact ck_3
  | 4, _ => exact ck_4
  | 5, _ => exact ck_5
  | 6, _ => exact ck_6
  | 7, _ => exact ck_7
  | 8, _ => exact ck_8
  | 9, _ => exact ck_9
  | 10, _ => exact ck_10
  | 11, _ => exact ck_11
  | 12, _ => exact ck_12
  | 13, _ => exact ck_13
  | 14, _ => exact ck_14
  | 15, _ => exact ck_15
  | 16, _ => exact ck_16
  | 17, _ => exact ck_17
  | 18, _ => exact ck_18
  | 19, _ => exact ck_19
  | 20, _ => exact ck_20
  | 21, _ => exact ck_21
  | 22, _ => exact ck_22
  | 23, _ => exact ck_23
  | 24, _ => exact ck_24
  | 25, _ => exact ck_25
  | 26, _ => exact ck_26
  | 27, _ => exact ck_27
  | 28, _ => exact ck_28
  | 29, _ => exact ck_29
  | 30, _ => exact ck_30
  | 31, _ => exact ck_31
  | 32, _ => exact ck_32
  | 33, _ => exact ck_33
  | 34, _ => exact ck_34
  | 35, _ => exact ck_35
  | 36, _ => exact ck_36
  | 37, _ => exact ck_37
  | 38, _ => exact ck_38
  | 39, _ => exact ck_39
  | 40, _ => exact ck_40
  | 41, _ => exact ck_41
  | 42, _ => exact ck_42
  | 43, _ => exact ck_43
  | 44, _ => exact ck_44
  | 45, _ => exact ck_45
  | 46, _ => exact ck_46
  | 47, _ => exact ck_47
  | 48, _ => exact ck_48
  | 49, _ => exact ck_49
  | 50, _ => exact ck_50
  | 51, _ => exact ck_51
  | 52, _ => exact ck_52
  | 53, _ => exact ck_53
  | 54, _ => exact ck_54
  | 55, _ => exact ck_55
  | 56, _ => exact ck_56
  | 57, _ => exact ck_57
  | 58, _ => exact ck_58
  | 59, _ => exact ck_59
  | 60, _ => exact ck_60
  | 61, _ => exact ck_61
  | 62, _ => exact ck_62
  | 63, _ => exact ck_63
  | 64, _ => exact ck_64
  | 65, _ => exact ck_65
  | 66, _ => exact ck_66
  | 67, _ => exact ck_67
  | 68, _ => exact ck_68
  | 69, _ => exact ck_69
  | 70, _ => exact ck_70
  | 71, _ => exact ck_71
  | 72, _ => exact ck_72
  | 73, _ => exact ck_73
  | 74, _ => exact ck_74
  | 75, _ => exact ck_75
  | 76, _ => exact ck_76
  | 77, _ => exact ck_77
  | 78, _ => exact ck_78
  | 79, _ => exact ck_79
  | 80, _ => exact ck_80
  | 81, _ => exact ck_81
  | 82, _ => exact ck_82
  | 83, _ => exact ck_83
  | 84, _ => exact ck_84
  | 85, _ => exact ck_85
  | 86, _ => exact ck_86
  | 87, _ => exact ck_87
  | 88, _ => exact ck_88
  | 89, _ => exact ck_89
  | 90, _ => exact ck_90
  | 91, _ => exact ck_91
  | 92, _ => exact ck_92
  | 93, _ => exact ck_93
  | 94, _ => exact ck_94
  | 95, _ => exact ck_95
  | 96, _ => exact ck_96
  | 97, _ => exact ck_97
  | 98, _ => exact ck_98
  | 99, _ => exact ck_99
  | 100, _ => exact ck_100
  | 101, _ => exact ck_101
  | 102, _ => exact ck_102
  | 103, _ => exact ck_103
  | 104, _ => exact ck_104
  | 105, _ => exact ck_105
  | 106, _ => exact ck_106
  | 107, _ => exact ck_107
  | 108, _ => exact ck_108
  | 109, _ => exact ck_109
  | 110, _ => exact ck_110
  | 111, _ => exact ck_111
  | 112, _ => exact ck_112
  | 113, _ => exact ck_113
  | 114, _ => exact ck_114
  | 115, _ => exact ck_115
  | 116, _ => exact ck_116
  | 117, _ => exact ck_117
  | 118, _ => exact ck_118
  | 119, _ => exact ck_119
  | 120, _ => exact ck_120
  | 121, _ => exact ck_121
  | 122, _ => exact ck_122
  | 123, _ => exact ck_123
  | 124, _ => exact ck_124
  | 125, _ => exact ck_125
  | 126, _ => exact ck_126
  | 127, _ => exact ck_127
  | 128, _ => exact ck_128
  | 129, _ => exact ck_129
  | 130, _ => exact ck_130
  | 131, _ => exact ck_131
  | 132, _ => exact ck_132
  | 133, _ => exact ck_133
  | 134, _ => exact ck_134
  | 135, _ => exact ck_135
  | 136, _ => exact ck_136
  | 137, _ => exact ck_137
  | 138, _ => exact ck_138
  | 139, _ => exact ck_139
  | 140, _ => exact ck_140
  | 141, _ => exact ck_141
  | 142, _ => exact ck_142
  | 143, _ => exact ck_143
  | 144, _ => exact ck_144
  | 145, _ => exact ck_145
  | 146, _ => exact ck_146
  | 147, _ => exact ck_147
  | 148, _ => exact ck_148
  | 149, _ => exact ck_149
  | 150, _ => exact ck_150
  | 151, _ => exact ck_151
  | 152, _ => exact ck_152
  | 153, _ => exact ck_153
  | 154, _ => exact ck_154
  | 155, _ => exact ck_155
  | 156, _ => exact ck_156
  | 157, _ => exact ck_157
  | 158, _ => exact ck_158
  | 159, _ => exact ck_159
  | 160, _ => exact ck_160
  | 161, _ => exact ck_161
  | 162, _ => exact ck_162
  | 163, _ => exact ck_163
  | 164, _ => exact ck_164
  | 165, _ => exact ck_165
  | 166, _ => exact ck_166
  | q + 167, h => exact absurd h (by omega)
