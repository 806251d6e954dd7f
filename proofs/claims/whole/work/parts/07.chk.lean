/-! WHAT IS CHECKED of the program's tables, by a program that the kernel runs -/
def sn_rec (ts : List (Int32 × Nat)) (c : Nat) : Bool := match ts with
  | [_, _, q] => q.2 == c
  | _ => false
def sn_tsw (pc : Nat) (k : Nat) (lo : Int) : List Int → List (Int32 × Nat) → Int → Bool
  | [], [], _ => true
  | f :: fs, q :: ts, n => decide (q.1.toInt = lo + n) && decide ((pc : Int) + f = (pPc k q.2 : Int)) && sn_tsw pc k lo fs ts (n + 1)
  | _, _, _ => false
def sn_lsw (pc : Nat) (k : Nat) : List (Int × Int) → List (Int32 × Nat) → Bool
  | [], [] => true
  | f :: fs, q :: ts => decide (q.1.toInt = f.1) && decide ((pc : Int) + f.2 = (pPc k q.2 : Int)) && sn_lsw pc k fs ts
  | _, _ => false
def sn_call (k i a b : Nat) (ts : List (Int32 × Nat)) (t : Nat) : Bool := decide (a < 166) && decide (pSt a = t) && decide (b = pNp a + (if t = 1 then 0 else 1)) && decide (mm_alc ts = pAl a) && (decide (t = 1) || sn_rec ts (pOc a)) && (decide ((pOc k, i, a) ∈ tb_ml) || decide ((pOc k, i, a) ∈ tb_nl))
def sn_chk2 (k pc len : Nat) (ins : Instr) (a b : Nat) (o : Option (Option Nat)) (v : Int32) (ts : List (Int32 × Nat)) : Bool := match ins with
  | .iconst n => decide (len = 1) && decide (Int32.ofInt n = v)
  | .bipush n => decide (len = 2) && decide ((Int8.ofInt n).toInt32 = v)
  | .sipush n => decide (len = 3) && decide ((Int16.ofInt n).toInt32 = v)
  | .ldc_w i => decide (len = 3) && decide ((pOc k, i, v) ∈ tb_ci)
  | .lconst n => decide (len = 1) && decide (Int64.ofNat n = v.toInt64)
  | .ldc2_w i => decide (len = 3) && decide ((pOc k, i, v) ∈ tb_cl)
  | .iload i => decide (len = 2) && decide (i = a)
  | .lload i => decide (len = 2) && decide (i = a)
  | .aload i => decide (len = 2) && decide (i = a)
  | .istore i => decide (len = 2) && decide (i = a)
  | .lstore i => decide (len = 2) && decide (i = a)
  | .astore i => decide (len = 2) && decide (i = a)
  | .iload_n i => decide (len = 1) && decide (i.val = a)
  | .lload_n i => decide (len = 1) && decide (i.val = a)
  | .aload_n i => decide (len = 1) && decide (i.val = a)
  | .istore_n i => decide (len = 1) && decide (i.val = a)
  | .lstore_n i => decide (len = 1) && decide (i.val = a)
  | .astore_n i => decide (len = 1) && decide (i.val = a)
  | .iinc i n => decide (len = 3) && (decide (i = a) && decide (Int32.ofInt n = v))
  | .ifCond _ off => decide (len = 3) && decide ((pc : Int) + off = (pPc k a : Int))
  | .if_icmp _ off => decide (len = 3) && decide ((pc : Int) + off = (pPc k a : Int))
  | .goto off => decide (len = 3) && decide ((pc : Int) + off = (pPc k a : Int))
  | .tableswitch d lo hi offs => decide ((pc : Int) + d = (pPc k a : Int)) && (decide (hi = lo + offs.size - 1) && sn_tsw pc k lo offs.toList ts 0)
  | .lookupswitch d ps => decide ((pc : Int) + d = (pPc k a : Int)) && ((ps.toList.zip (ps.toList.drop 1)).all (fun (a, next) => a.1 < next.1) && sn_lsw pc k ps.toList ts)
  | .getfield i => decide (len = 3) && (decide (a < 7) && (decide (b < sn_NF a) && (decide (o = sn_ft a b) && decide ((pOc k, i, a, b) ∈ tb_fl))))
  | .putfield i => decide (len = 3) && (decide (a < 7) && (decide (b < sn_NF a) && (decide (o = sn_ft a b) && (decide ((pOc k, i, a, b) ∈ tb_fl) && (!((sn_T a) b).2.2.2 || (decide (pSt k = 2) && (decide (a = pOc k) && decide (((sn_T a) b).1 = sn_R (pOc k)))))))))
  | .iaload => decide (len = 1) && (decide (a = 7) || decide (a = 11))
  | .aaload => decide (len = 1) && ((decide (a = 9) && decide (b = 2)) || (decide (a = 10) && decide (b = 4)))
  | .aastore => decide (len = 1) && ((decide (a = 9) && decide (b = 2)) || (decide (a = 10) && decide (b = 4)))
  | .arraylength => decide (len = 1) && decide (a = 11)
  | .new i => decide (len = 3) && (decide (a < 7) && (decide (b = sn_NF a) && decide ((pOc k, i, a) ∈ tb_kl)))
  | .newarray t => decide (len = 2) && ((decide (t = .int) && decide (a = 7)) || (decide (t = .byte) && decide (a = 8)))
  | .anewarray i => decide (len = 3) && ((decide (a = 9) && decide ((pOc k, i, 2) ∈ tb_kl)) || (decide (a = 10) && decide ((pOc k, i, 4) ∈ tb_kl)))
  | .invokevirtual i => decide (len = 3) && sn_call k i a b ts 0
  | .invokestatic i => decide (len = 3) && sn_call k i a b ts 1
  | .invokespecial i => decide (len = 3) && sn_call k i a b ts 2
  | .ireturn => decide (len = 1) && ((decide (o = none) && decide (pRet k = some .int)) || (decide (o = some none) && decide (pRet k = some .boolean)))
  | .areturn => decide (len = 1) && decide (pRet k = some (.object RX2))
  | .return_ => decide (len = 1) && decide (pRet k = none)
  | _ => decide (len = 1)
def sn_chk (k : Nat) (q : mm_Ins) : Bool := match q with
  | (pc, len, ins, a, b, o, v, ts) => match ins with
    | .nop => match a with
      | 0 => decide (pc = pPc k b)
      | 1 => decide (decode (pCd k) pc = .ok (.invokestatic b, 3)) && (decide (len = 3) && decide ((pOc k, b) ∈ tb_mx))
      | 2 => decide (decode (pCd k) pc = .ok (.invokespecial b, 3)) && (decide (len = 3) && decide ((pOc k, b) ∈ tb_oi))
      | 3 => decide (decode (pCd k) pc = .ok (.invokevirtual b, 3)) && (decide (len = 3) && (decide (pOc k = 5) && decide (b = 49)))
      | 4 => decide (decode (pCd k) pc = .ok (.invokevirtual b, 3)) && (decide (len = 3) && (decide (pOc k = 5) && decide (b = 55)))
      | 5 => decide (decode (pCd k) pc = .ok (.ldc b, 2)) && (decide (len = 2) && (decide (pOc k = 5) && decide (b = 47)))
      | _ => false
    | ins => decide (decode (pCd k) pc = .ok (ins, len)) && sn_chk2 k pc len ins a b o v ts
def sn_chkL (k : Nat) : List mm_Ins → Bool
  | [] => true
  | [q] => sn_chk k q
  | q :: q' :: t => sn_chk k q && (decide (q'.1 = q.1 + q.2.1) && sn_chkL k (q' :: t))
def sn_chkM (k : Nat) : Bool := (List.range (pBs.getD k []).length).all fun j => sn_chkL k (pB k j) && (match pB k j with
  | [] => true
  | q :: _ => decide (q.1 = pPc k j))
theorem ck_0 : sn_chkM 0 = true := by decide +kernel
theorem ck_1 : sn_chkM 1 = true := by decide +kernel
theorem ck_2 : sn_chkM 2 = true := by decide +kernel
theorem ck_3 : sn_chkM 3 = true := by decide +kernel
theorem ck_4 : sn_chkM 4 = true := by decide +kernel
theorem ck_5 : sn_chkM 5 = true := by decide +kernel
theorem ck_6 : sn_chkM 6 = true := by decide +kernel
theorem ck_7 : sn_chkM 7 = true := by decide +kernel
theorem ck_8 : sn_chkM 8 = true := by decide +kernel
theorem ck_9 : sn_chkM 9 = true := by decide +kernel
theorem ck_10 : sn_chkM 10 = true := by decide +kernel
theorem ck_11 : sn_chkM 11 = true := by decide +kernel
theorem ck_12 : sn_chkM 12 = true := by decide +kernel
theorem ck_13 : sn_chkM 13 = true := by decide +kernel
theorem ck_14 : sn_chkM 14 = true := by decide +kernel
theorem ck_15 : sn_chkM 15 = true := by decide +kernel
theorem ck_16 : sn_chkM 16 = true := by decide +kernel
theorem ck_17 : sn_chkM 17 = true := by decide +kernel
theorem ck_18 : sn_chkM 18 = true := by decide +kernel
theorem ck_19 : sn_chkM 19 = true := by decide +kernel
theorem ck_20 : sn_chkM 20 = true := by decide +kernel
theorem ck_21 : sn_chkM 21 = true := by decide +kernel
theorem ck_22 : sn_chkM 22 = true := by decide +kernel
theorem ck_23 : sn_chkM 23 = true := by decide +kernel
theorem ck_24 : sn_chkM 24 = true := by decide +kernel
theorem ck_25 : sn_chkM 25 = true := by decide +kernel
theorem ck_26 : sn_chkM 26 = true := by decide +kernel
theorem ck_27 : sn_chkM 27 = true := by decide +kernel
theorem ck_28 : sn_chkM 28 = true := by decide +kernel
theorem ck_29 : sn_chkM 29 = true := by decide +kernel
theorem ck_30 : sn_chkM 30 = true := by decide +kernel
theorem ck_31 : sn_chkM 31 = true := by decide +kernel
theorem ck_32 : sn_chkM 32 = true := by decide +kernel
theorem ck_33 : sn_chkM 33 = true := by decide +kernel
theorem ck_34 : sn_chkM 34 = true := by decide +kernel
theorem ck_35 : sn_chkM 35 = true := by decide +kernel
theorem ck_36 : sn_chkM 36 = true := by decide +kernel
theorem ck_37 : sn_chkM 37 = true := by decide +kernel
theorem ck_38 : sn_chkM 38 = true := by decide +kernel
theorem ck_39 : sn_chkM 39 = true := by decide +kernel
theorem ck_40 : sn_chkM 40 = true := by decide +kernel
theorem ck_41 : sn_chkM 41 = true := by decide +kernel
theorem ck_42 : sn_chkM 42 = true := by decide +kernel
theorem ck_43 : sn_chkM 43 = true := by decide +kernel
theorem ck_44 : sn_chkM 44 = true := by decide +kernel
theorem ck_45 : sn_chkM 45 = true := by decide +kernel
theorem ck_46 : sn_chkM 46 = true := by decide +kernel
theorem ck_47 : sn_chkM 47 = true := by decide +kernel
theorem ck_48 : sn_chkM 48 = true := by decide +kernel
theorem ck_49 : sn_chkM 49 = true := by decide +kernel
theorem ck_50 : sn_chkM 50 = true := by decide +kernel
theorem ck_51 : sn_chkM 51 = true := by decide +kernel
theorem ck_52 : sn_chkM 52 = true := by decide +kernel
theorem ck_53 : sn_chkM 53 = true := by decide +kernel
theorem ck_54 : sn_chkM 54 = true := by decide +kernel
theorem ck_55 : sn_chkM 55 = true := by decide +kernel
theorem ck_56 : sn_chkM 56 = true := by decide +kernel
theorem ck_57 : sn_chkM 57 = true := by decide +kernel
theorem ck_58 : sn_chkM 58 = true := by decide +kernel
theorem ck_59 : sn_chkM 59 = true := by decide +kernel
theorem ck_60 : sn_chkM 60 = true := by decide +kernel
theorem ck_61 : sn_chkM 61 = true := by decide +kernel
theorem ck_62 : sn_chkM 62 = true := by decide +kernel
theorem ck_63 : sn_chkM 63 = true := by decide +kernel
theorem ck_64 : sn_chkM 64 = true := by decide +kernel
theorem ck_65 : sn_chkM 65 = true := by decide +kernel
theorem ck_66 : sn_chkM 66 = true := by decide +kernel
theorem ck_67 : sn_chkM 67 = true := by decide +kernel
theorem ck_68 : sn_chkM 68 = true := by decide +kernel
theorem ck_69 : sn_chkM 69 = true := by decide +kernel
theorem ck_70 : sn_chkM 70 = true := by decide +kernel
theorem ck_71 : sn_chkM 71 = true := by decide +kernel
theorem ck_72 : sn_chkM 72 = true := by decide +kernel
theorem ck_73 : sn_chkM 73 = true := by decide +kernel
theorem ck_74 : sn_chkM 74 = true := by decide +kernel
theorem ck_75 : sn_chkM 75 = true := by decide +kernel
theorem ck_76 : sn_chkM 76 = true := by decide +kernel
theorem ck_77 : sn_chkM 77 = true := by decide +kernel
theorem ck_78 : sn_chkM 78 = true := by decide +kernel
theorem ck_79 : sn_chkM 79 = true := by decide +kernel
theorem ck_80 : sn_chkM 80 = true := by decide +kernel
theorem ck_81 : sn_chkM 81 = true := by decide +kernel
theorem ck_82 : sn_chkM 82 = true := by decide +kernel
theorem ck_83 : sn_chkM 83 = true := by decide +kernel
theorem ck_84 : sn_chkM 84 = true := by decide +kernel
theorem ck_85 : sn_chkM 85 = true := by decide +kernel
theorem ck_86 : sn_chkM 86 = true := by decide +kernel
theorem ck_87 : sn_chkM 87 = true := by decide +kernel
theorem ck_88 : sn_chkM 88 = true := by decide +kernel
theorem ck_89 : sn_chkM 89 = true := by decide +kernel
theorem ck_90 : sn_chkM 90 = true := by decide +kernel
theorem ck_91 : sn_chkM 91 = true := by decide +kernel
theorem ck_92 : sn_chkM 92 = true := by decide +kernel
theorem ck_93 : sn_chkM 93 = true := by decide +kernel
theorem ck_94 : sn_chkM 94 = true := by decide +kernel
theorem ck_95 : sn_chkM 95 = true := by decide +kernel
theorem ck_96 : sn_chkM 96 = true := by decide +kernel
theorem ck_97 : sn_chkM 97 = true := by decide +kernel
theorem ck_98 : sn_chkM 98 = true := by decide +kernel
theorem ck_99 : sn_chkM 99 = true := by decide +kernel
theorem ck_100 : sn_chkM 100 = true := by decide +kernel
theorem ck_101 : sn_chkM 101 = true := by decide +kernel
theorem ck_102 : sn_chkM 102 = true := by decide +kernel
theorem ck_103 : sn_chkM 103 = true := by decide +kernel
theorem ck_104 : sn_chkM 104 = true := by decide +kernel
theorem ck_105 : sn_chkM 105 = true := by decide +kernel
theorem ck_106 : sn_chkM 106 = true := by decide +kernel
theorem ck_107 : sn_chkM 107 = true := by decide +kernel
theorem ck_108 : sn_chkM 108 = true := by decide +kernel
theorem ck_109 : sn_chkM 109 = true := by decide +kernel
theorem ck_110 : sn_chkM 110 = true := by decide +kernel
theorem ck_111 : sn_chkM 111 = true := by decide +kernel
theorem ck_112 : sn_chkM 112 = true := by decide +kernel
theorem ck_113 : sn_chkM 113 = true := by decide +kernel
theorem ck_114 : sn_chkM 114 = true := by decide +kernel
theorem ck_115 : sn_chkM 115 = true := by decide +kernel
theorem ck_116 : sn_chkM 116 = true := by decide +kernel
theorem ck_117 : sn_chkM 117 = true := by decide +kernel
theorem ck_118 : sn_chkM 118 = true := by decide +kernel
theorem ck_119 : sn_chkM 119 = true := by decide +kernel
theorem ck_120 : sn_chkM 120 = true := by decide +kernel
theorem ck_121 : sn_chkM 121 = true := by decide +kernel
theorem ck_122 : sn_chkM 122 = true := by decide +kernel
theorem ck_123 : sn_chkM 123 = true := by decide +kernel
theorem ck_124 : sn_chkM 124 = true := by decide +kernel
theorem ck_125 : sn_chkM 125 = true := by decide +kernel
theorem ck_126 : sn_chkM 126 = true := by decide +kernel
theorem ck_127 : sn_chkM 127 = true := by decide +kernel
theorem ck_128 : sn_chkM 128 = true := by decide +kernel
theorem ck_129 : sn_chkM 129 = true := by decide +kernel
theorem ck_130 : sn_chkM 130 = true := by decide +kernel
theorem ck_131 : sn_chkM 131 = true := by decide +kernel
theorem ck_132 : sn_chkM 132 = true := by decide +kernel
theorem ck_133 : sn_chkM 133 = true := by decide +kernel
theorem ck_134 : sn_chkM 134 = true := by decide +kernel
theorem ck_135 : sn_chkM 135 = true := by decide +kernel
theorem ck_136 : sn_chkM 136 = true := by decide +kernel
theorem ck_137 : sn_chkM 137 = true := by decide +kernel
theorem ck_138 : sn_chkM 138 = true := by decide +kernel
theorem ck_139 : sn_chkM 139 = true := by decide +kernel
theorem ck_140 : sn_chkM 140 = true := by decide +kernel
theorem ck_141 : sn_chkM 141 = true := by decide +kernel
theorem ck_142 : sn_chkM 142 = true := by decide +kernel
theorem ck_143 : sn_chkM 143 = true := by decide +kernel
theorem ck_144 : sn_chkM 144 = true := by decide +kernel
theorem ck_145 : sn_chkM 145 = true := by decide +kernel
theorem ck_146 : sn_chkM 146 = true := by decide +kernel
theorem ck_147 : sn_chkM 147 = true := by decide +kernel
theorem ck_148 : sn_chkM 148 = true := by decide +kernel
theorem ck_149 : sn_chkM 149 = true := by decide +kernel
theorem ck_150 : sn_chkM 150 = true := by decide +kernel
theorem ck_151 : sn_chkM 151 = true := by decide +kernel
theorem ck_152 : sn_chkM 152 = true := by decide +kernel
theorem ck_153 : sn_chkM 153 = true := by decide +kernel
theorem ck_154 : sn_chkM 154 = true := by decide +kernel
theorem ck_155 : sn_chkM 155 = true := by decide +kernel
theorem ck_156 : sn_chkM 156 = true := by decide +kernel
theorem ck_157 : sn_chkM 157 = true := by decide +kernel
theorem ck_158 : sn_chkM 158 = true := by decide +kernel
theorem ck_159 : sn_chkM 159 = true := by decide +kernel
theorem ck_160 : sn_chkM 160 = true := by decide +kernel
theorem ck_161 : sn_chkM 161 = true := by decide +kernel
theorem ck_162 : sn_chkM 162 = true := by decide +kernel
theorem ck_163 : sn_chkM 163 = true := by decide +kernel
theorem ck_164 : sn_chkM 164 = true := by decide +kernel
theorem ck_165 : sn_chkM 165 = true := by decide +kernel
