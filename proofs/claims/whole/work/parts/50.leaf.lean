/-! THE REFERENCE: leaves -/
def LyM (M : mm_M) : Prop := (mm_R M 6 0 1 = some 5 ∧ mm_R M 6 0 2 = some 6 ∧ mm_R M 6 0 3 = some 7 ∧ mm_R M 6 0 5 = some 8 ∧ mm_R M 6 0 6 = some 9 ∧ mm_R M 6 0 7 = some 10 ∧ mm_R M 6 0 8 = some 11 ∧ mm_R M 6 0 12 = some 0 ∧ mm_R M 6 0 17 = some 12 ∧ mm_R M 6 0 18 = some 13 ∧ mm_R M 6 0 19 = some 14 ∧ mm_R M 6 0 20 = some 15) ∧ mm_L M 7 5 = 7 ∧ mm_L M 7 6 = 7 ∧ mm_L M 7 7 = 7 ∧ mm_L M 7 8 = 7 ∧ mm_L M 7 9 = 7 ∧ mm_L M 7 10 = 7 ∧ mm_L M 7 11 = 468 ∧ mm_L M 8 0 = 200 ∧ mm_L M 7 12 = 6 ∧ mm_L M 7 13 = 6 ∧ mm_L M 7 14 = 7 ∧ mm_L M 7 15 = 7
def RM (M : mm_M) (n : Nat) (A : Nat → Nat → Int32) : Prop := mm_I M 6 0 0 = nI n ∧ ∀ w, w < n → mm_I M 7 5 w = A w 0 ∧ mm_I M 7 6 w = A w 1 ∧ mm_I M 7 7 w = A w 2
def RB (M : mm_M) (B n : Nat) (X : Sx) : Prop := (∀ w, w < n → mm_I M 7 11 (B + w) = X.1.1 w 3 ∧ mm_I M 7 11 (B + 8 + w) = (if X.1.1 w 5 = 0 then 0 else X.1.1 w 6) ∧ mm_I M 7 11 (B + 15 + w) = (if X.1.1 w 5 = 0 then 0 else X.1.1 w 7) ∧ mm_I M 7 11 (B + 22 + w) = (if X.1.1 w 5 = 2 then X.1.1 w 9 else -1) ∧ (X.1.1 w 5 = 2 → mm_I M 7 11 (B + 29 + w) = X.1.1 w 10)) ∧ mm_I M 7 11 (B + 7) = g_fb X.1.1 n ∧ mm_I M 7 11 (B + 36) = X.1.2.1 ∧ mm_I M 7 11 (B + 37) = X.1.2.2 ∧ mm_I M 7 11 (B + 38) = X.2

set_option maxHeartbeats 2000000 in
theorem r_99 (d : Nat) (x y : Int32) (M : mm_M) (post : mm_Post) : pC (d + 1) 99 [.inl x, .inl y] M post = post (some (.inl (if x < y then y else x))) M := by
  simp only [eC_99, eK_99_0, eK_99_1, eK_99_2, pw_goto, pw_if_icmp, pw_iload_n, pw_ireturn, pw_nop0, mm_pI_c, mm_pL_c, mm_pA_c, mm_pR_c, mm_p1_i, mm_p1_r, mm_pN_0, mm_pN_s, mm_lI_c, mm_lL_c, mm_lA_c, mm_wd_n, mm_wd_i, mm_wd_l, mm_wd_r, mm_gf_i, mm_gf_b, mm_gf_r, mm_rf_c, mm_pf_i, mm_pf_b, mm_pf_r, mm_rt_v, mm_rt_i, mm_rt_r, mm_c_eq, mm_c_ne, mm_c_lt, mm_c_ge, mm_c_gt, mm_c_le, mm_sw_n, mm_sw_c, mm_alc_n, mm_alc_c, mm_rc_n, mm_rc_c, reduceCtorEq, false_implies, implies_true, true_implies, true_or, or_true, false_or, or_false, not_false_eq_true, mm_at_0, mm_at_s, mm_set_0, mm_set_s, mm_nl_n, mm_nl_i, mm_nl_r, mm_args_n, mm_args_i, mm_args_l, mm_args_r, mm_pad_0, mm_pad_n, mm_pad_c, List.length_cons, List.length_nil, List.nil_append, List.cons_append, Nat.zero_le, Nat.sub_zero, true_and, and_true, Nat.reduceAdd, Nat.reduceLeDiff, Nat.reduceLT, Nat.reduceSub, Nat.lt_irrefl, Nat.zero_add, Nat.add_zero, k_20, k_10, k_01, mm_if_T, mm_if_F, not_true_eq_false, not_false_eq_true]
  simp only [mm_if]
  refine propext ⟨fun h => ?_, fun h => ?_⟩ <;> grind
theorem r_118 (d : Nat) (x y : Int32) (M : mm_M) (post : mm_Post) : pC (d + 1) 118 [.inl x, .inl y] M post = post (some (.inl (f_lo x y))) M := by
  simp only [eC_118, eK_118_0, eK_118_1, eK_118_2, pw_goto, pw_iadd, pw_iconst, pw_idiv, pw_if_icmp, pw_iload_n, pw_imul, pw_ireturn, pw_nop0, mm_pI_c, mm_pL_c, mm_pA_c, mm_pR_c, mm_p1_i, mm_p1_r, mm_pN_0, mm_pN_s, mm_lI_c, mm_lL_c, mm_lA_c, mm_wd_n, mm_wd_i, mm_wd_l, mm_wd_r, mm_gf_i, mm_gf_b, mm_gf_r, mm_rf_c, mm_pf_i, mm_pf_b, mm_pf_r, mm_rt_v, mm_rt_i, mm_rt_r, mm_c_eq, mm_c_ne, mm_c_lt, mm_c_ge, mm_c_gt, mm_c_le, mm_sw_n, mm_sw_c, mm_alc_n, mm_alc_c, mm_rc_n, mm_rc_c, reduceCtorEq, false_implies, implies_true, true_implies, true_or, or_true, false_or, or_false, not_false_eq_true, mm_at_0, mm_at_s, mm_set_0, mm_set_s, mm_nl_n, mm_nl_i, mm_nl_r, mm_args_n, mm_args_i, mm_args_l, mm_args_r, mm_pad_0, mm_pad_n, mm_pad_c, List.length_cons, List.length_nil, List.nil_append, List.cons_append, Nat.zero_le, Nat.sub_zero, true_and, and_true, Nat.reduceAdd, Nat.reduceLeDiff, Nat.reduceLT, Nat.reduceSub, Nat.lt_irrefl, Nat.zero_add, Nat.add_zero, k_20, k_10, k_01, mm_if_T, mm_if_F, not_true_eq_false, not_false_eq_true]
  unfold f_lo
  simp only [mm_if]
  refine propext ⟨fun h => ?_, fun h => ?_⟩ <;> grind

set_option maxHeartbeats 2000000 in
theorem r_119 (d : Nat) (x y : Int32) (M : mm_M) (post : mm_Post) : pC (d + 1) 119 [.inl x, .inl y] M post = post (some (.inl (if x < y then y - x else x - y))) M := by
  simp only [eC_119, eK_119_0, eK_119_1, eK_119_2, pw_goto, pw_if_icmp, pw_iload_n, pw_ireturn, pw_isub, pw_nop0, mm_pI_c, mm_pL_c, mm_pA_c, mm_pR_c, mm_p1_i, mm_p1_r, mm_pN_0, mm_pN_s, mm_lI_c, mm_lL_c, mm_lA_c, mm_wd_n, mm_wd_i, mm_wd_l, mm_wd_r, mm_gf_i, mm_gf_b, mm_gf_r, mm_rf_c, mm_pf_i, mm_pf_b, mm_pf_r, mm_rt_v, mm_rt_i, mm_rt_r, mm_c_eq, mm_c_ne, mm_c_lt, mm_c_ge, mm_c_gt, mm_c_le, mm_sw_n, mm_sw_c, mm_alc_n, mm_alc_c, mm_rc_n, mm_rc_c, reduceCtorEq, false_implies, implies_true, true_implies, true_or, or_true, false_or, or_false, not_false_eq_true, mm_at_0, mm_at_s, mm_set_0, mm_set_s, mm_nl_n, mm_nl_i, mm_nl_r, mm_args_n, mm_args_i, mm_args_l, mm_args_r, mm_pad_0, mm_pad_n, mm_pad_c, List.length_cons, List.length_nil, List.nil_append, List.cons_append, Nat.zero_le, Nat.sub_zero, true_and, and_true, Nat.reduceAdd, Nat.reduceLeDiff, Nat.reduceLT, Nat.reduceSub, Nat.lt_irrefl, Nat.zero_add, Nat.add_zero, k_20, k_10, k_01, mm_if_T, mm_if_F, not_true_eq_false, not_false_eq_true]
  simp only [mm_if]
  refine propext ⟨fun h => ?_, fun h => ?_⟩ <;> grind

set_option maxHeartbeats 2000000 in
theorem r_120 (d : Nat) {M : mm_M} {post : mm_Post} {B n w : Nat} {X : Sx} (hL : LyM M) (hB : B ≤ 429) (hn : n ≤ 7) (hR : RB M B n X) (hw : w < n) (hW : WF n X.1.1) : pC (d + 1) 120 [.inr (.inr (6, 0)), .inl (nI B), .inl (nI w)] M post = post (some (.inl (tf (X.1.1 w 5 = 2)))) M := by
  have l1 := hL.1.2.2.2.2.2.2.1
  have l2 : mm_L M 7 11 = 468 := hL.2.2.2.2.2.2.2.1
  have e1 : nI B + 22 + nI w = nI (B + 22 + w) := by rw [show nI B + 22 = nI (B + 22) from nI_add B 22, nI_add]
  have e2 : vp_in (nI (B + 22 + w)) 468 := vp_in_nI (by omega) (by omega)
  have e3 : (nI (B + 22 + w)).toNatClampNeg = B + 22 + w := nI_clamp (by omega)
  have e4 := (hR.1 w hw).2.2.2.1
  have g := (hW w hw).2.2.2.2.2
  simp only [eC_120, eK_120_0, eK_120_1, eK_120_2, pw_aload_n, pw_bipush, pw_getfield, pw_goto, pw_iadd, pw_iaload, pw_iconst, pw_ifCond, pw_iload_n, pw_ireturn, pw_nop0, mm_pI_c, mm_pL_c, mm_pA_c, mm_pR_c, mm_p1_i, mm_p1_r, mm_pN_0, mm_pN_s, mm_lI_c, mm_lL_c, mm_lA_c, mm_wd_n, mm_wd_i, mm_wd_l, mm_wd_r, mm_gf_i, mm_gf_b, mm_gf_r, mm_rf_c, mm_pf_i, mm_pf_b, mm_pf_r, mm_rt_v, mm_rt_i, mm_rt_r, mm_c_eq, mm_c_ne, mm_c_lt, mm_c_ge, mm_c_gt, mm_c_le, mm_sw_n, mm_sw_c, mm_alc_n, mm_alc_c, mm_rc_n, mm_rc_c, reduceCtorEq, false_implies, implies_true, true_implies, true_or, or_true, false_or, or_false, not_false_eq_true, mm_at_0, mm_at_s, mm_set_0, mm_set_s, mm_nl_n, mm_nl_i, mm_nl_r, mm_args_n, mm_args_i, mm_args_l, mm_args_r, mm_pad_0, mm_pad_n, mm_pad_c, List.length_cons, List.length_nil, List.nil_append, List.cons_append, Nat.zero_le, Nat.sub_zero, true_and, and_true, Nat.reduceAdd, Nat.reduceLeDiff, Nat.reduceLT, Nat.reduceSub, Nat.lt_irrefl, Nat.zero_add, Nat.add_zero, k_20, k_10, k_01, mm_if_T, mm_if_F, not_true_eq_false, not_false_eq_true, l1, l2, e1, e2, e3, e4]
  have z1 : (-1 : Int32) < 0 := by decide
  simp only [mm_if]
  clear e1 e2 e3 e4 hR hL hW
  unfold tf
  refine propext ⟨fun h => ?_, fun h => ?_⟩ <;> grind

theorem l_lt (x y : Int32) : Int32.toInt64 x < Int32.toInt64 y ↔ x < y := by
  rw [Int64.lt_iff_toInt_lt, Int32.lt_iff_toInt_lt, Int32.toInt_toInt64, Int32.toInt_toInt64]
set_option maxHeartbeats 2000000 in
theorem r_97 (d : Nat) (x y z : Int32) (M : mm_M) (post : mm_Post) : pC (d + 1) 97 [.inr (.inl (Int32.toInt64 x)), .inr (.inl (Int32.toInt64 y)), .inr (.inl (Int32.toInt64 z))] M post = post (some (.inl (tf (y ≤ x ∧ x ≤ z)))) M := by
  simp only [eC_97, eK_97_0, eK_97_1, eK_97_2, pw_goto, pw_iconst, pw_ifCond, pw_ireturn, pw_lcmp, pw_lload, pw_lload_n, pw_nop0, mm_pI_c, mm_pL_c, mm_pA_c, mm_pR_c, mm_p1_i, mm_p1_r, mm_pN_0, mm_pN_s, mm_lI_c, mm_lL_c, mm_lA_c, mm_wd_n, mm_wd_i, mm_wd_l, mm_wd_r, mm_gf_i, mm_gf_b, mm_gf_r, mm_rf_c, mm_pf_i, mm_pf_b, mm_pf_r, mm_rt_v, mm_rt_i, mm_rt_r, mm_c_eq, mm_c_ne, mm_c_lt, mm_c_ge, mm_c_gt, mm_c_le, mm_sw_n, mm_sw_c, mm_alc_n, mm_alc_c, mm_rc_n, mm_rc_c, reduceCtorEq, false_implies, implies_true, true_implies, true_or, or_true, false_or, or_false, not_false_eq_true, mm_at_0, mm_at_s, mm_set_0, mm_set_s, mm_nl_n, mm_nl_i, mm_nl_r, mm_args_n, mm_args_i, mm_args_l, mm_args_r, mm_pad_0, mm_pad_n, mm_pad_c, List.length_cons, List.length_nil, List.nil_append, List.cons_append, Nat.zero_le, Nat.sub_zero, true_and, and_true, Nat.reduceAdd, Nat.reduceLeDiff, Nat.reduceLT, Nat.reduceSub, Nat.lt_irrefl, Nat.zero_add, Nat.add_zero, k_20, k_10, k_01, mm_if_T, mm_if_F, not_true_eq_false, not_false_eq_true, lg_cmp_lt, lg_cmp_gt, l_lt, mm_if]
  unfold tf
  refine propext ⟨fun h => ?_, fun h => ?_⟩ <;> grind

set_option maxHeartbeats 2000000 in
theorem r_121 (d : Nat) {M : mm_M} {post : mm_Post} {B n w : Nat} {X : Sx} (hL : LyM M) (hB : B ≤ 429) (hn : n ≤ 7) (hR : RB M B n X) (hw : w < n) (hW : WF n X.1.1) : pC (d + 1) 121 [.inr (.inr (6, 0)), .inl (nI B), .inl (nI w)] M post = post (some (.inl (tf (1 ≤ X.1.1 w 5)))) M := by
  have l1 := hL.1.2.2.2.2.2.2.1
  have l2 : mm_L M 7 11 = 468 := hL.2.2.2.2.2.2.2.1
  have e1 : nI B + 8 + nI w = nI (B + 8 + w) := by rw [show nI B + 8 = nI (B + 8) from nI_add B 8, nI_add]
  have e2 : vp_in (nI (B + 8 + w)) 468 := vp_in_nI (by omega) (by omega)
  have e3 : (nI (B + 8 + w)).toNatClampNeg = B + 8 + w := nI_clamp (by omega)
  have e4 := (hR.1 w hw).2.1
  have g4 := (hW w hw).2.2.2.1
  have g := (hW w hw).2.2.2.2.1
  simp only [eC_121, eK_121_0, eK_121_1, eK_121_2, pw_aload_n, pw_bipush, pw_getfield, pw_goto, pw_iadd, pw_iaload, pw_iconst, pw_ifCond, pw_iload_n, pw_ireturn, pw_nop0, mm_pI_c, mm_pL_c, mm_pA_c, mm_pR_c, mm_p1_i, mm_p1_r, mm_pN_0, mm_pN_s, mm_lI_c, mm_lL_c, mm_lA_c, mm_wd_n, mm_wd_i, mm_wd_l, mm_wd_r, mm_gf_i, mm_gf_b, mm_gf_r, mm_rf_c, mm_pf_i, mm_pf_b, mm_pf_r, mm_rt_v, mm_rt_i, mm_rt_r, mm_c_eq, mm_c_ne, mm_c_lt, mm_c_ge, mm_c_gt, mm_c_le, mm_sw_n, mm_sw_c, mm_alc_n, mm_alc_c, mm_rc_n, mm_rc_c, reduceCtorEq, false_implies, implies_true, true_implies, true_or, or_true, false_or, or_false, not_false_eq_true, mm_at_0, mm_at_s, mm_set_0, mm_set_s, mm_nl_n, mm_nl_i, mm_nl_r, mm_args_n, mm_args_i, mm_args_l, mm_args_r, mm_pad_0, mm_pad_n, mm_pad_c, List.length_cons, List.length_nil, List.nil_append, List.cons_append, Nat.zero_le, Nat.sub_zero, true_and, and_true, Nat.reduceAdd, Nat.reduceLeDiff, Nat.reduceLT, Nat.reduceSub, Nat.lt_irrefl, Nat.zero_add, Nat.add_zero, k_20, k_10, k_01, mm_if_T, mm_if_F, not_true_eq_false, not_false_eq_true, l1, l2, e1, e2, e3, e4]
  have hA : (1 ≤ X.1.1 w 5) ↔ ¬ X.1.1 w 5 = 0 := by rcases g4 with z | z | z <;> rw [z] <;> decide
  simp only [mm_if]
  clear e1 e2 e3 e4 hR hL hW g4
  unfold tf
  refine propext ⟨fun h => ?_, fun h => ?_⟩ <;> grind

