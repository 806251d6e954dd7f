/-! THE CLASS: calls that read one wrong -/
def G53 (n : Nat) (A : Nat → Nat → Int32) (x y : Int32) : Int32 := if isw n x ∧ (0 ≤ y ∧ y ≤ 5) then (if y = 0 then A x.toNatClampNeg 0 else if y = 1 then A x.toNatClampNeg 1 else if y = 2 then A x.toNatClampNeg 2 else if y = 3 then A x.toNatClampNeg 3 else if y = 4 then (if A x.toNatClampNeg 4 = 0 then 0 else 1) else A x.toNatClampNeg 5) else -1
def G54 (n : Nat) (A : Nat → Nat → Int32) (x y : Int32) : Int32 := if isw n x ∧ (0 ≤ y ∧ y ≤ 5) then (if ¬ 1 ≤ A x.toNatClampNeg 5 then -4 else if y = 0 then A x.toNatClampNeg 6 else if y = 1 then A x.toNatClampNeg 7 else if y = 2 then (if A x.toNatClampNeg 5 = 2 then A x.toNatClampNeg 9 else -4) else if y = 3 then (if A x.toNatClampNeg 5 = 2 then A x.toNatClampNeg 10 else -4) else if y = 4 then A x.toNatClampNeg 8 else (if A x.toNatClampNeg 6 < A x.toNatClampNeg 7 then 1 else 0)) else -1
def G55 (n : Nat) (A : Nat → Nat → Int32) (x y : Int32) : Int32 := if isw n x ∧ (0 ≤ y ∧ y ≤ 40) then (if A x.toNatClampNeg 5 = 2 then f_lf (A x.toNatClampNeg 8) (A x.toNatClampNeg 9) y else -2) else -1
def G56 (n : Nat) (A : Nat → Nat → Int32) (x : Int32) : Int32 := if isw n x then (if A x.toNatClampNeg 5 = 2 then g_cv A x.toNatClampNeg n else -2) else -1
def G57 (n : Nat) (A : Nat → Nat → Int32) (dy x : Int32) : Int32 := if isw n x then (if A x.toNatClampNeg 5 = 2 then (if g_hd A n x.toNatClampNeg (g_ev dy) = 0 then 0 else 1) else -2) else -1
def G69 (n : Nat) (A : Nat → Nat → Int32) (x : Int32) : Int32 := if isw n x then (if A x.toNatClampNeg 5 = 2 then (if f_rbi (A x.toNatClampNeg 0) (g_at A x.toNatClampNeg x.toNatClampNeg) (A x.toNatClampNeg 7) 1 = 0 then -4 else g_cv A x.toNatClampNeg n) else -2) else -1

set_option maxHeartbeats 4000000 in
theorem e_55 (d : Nat) {n : Nat} {ps : Nat → Nat} {X : Sx} {M : mm_M} {post : mm_Post} (hn : n ≤ 7) (hC : LyC M ps) (hR : RX M 0 n X) (x : Int32) (y : Int32) : pC (d + 3) 55 [.inr (.inr (5, 0)), .inl x, .inl y] M post = post (some (.inl (G55 n X.1.1 x y))) M := by
  have hR0 : RS M 0 n X.1.1 X.2 X.1.2.1 X.1.2.2 := hR
  obtain ⟨s1, s2, s3, s4, s5⟩ := hR0
  have hR0 : RS M 0 n X.1.1 X.2 X.1.2.1 X.1.2.2 := hR
  obtain ⟨hS, c0, c1, c2, c3, c4, c5, c6, m0, m1, m2, k1, k2, ct, cn, cp0, hps, hpi⟩ := id hC
  obtain ⟨h1, h2, h3⟩ := hS 0 (by omega)
  by_cases hi : isw n x
  · obtain ⟨w, hw, rfl⟩ := isw_of hn hi
    obtain ⟨q1, q2, q3⟩ := nI_v7 hw hn
    have q4 := h3 w (by omega)
    have r := s5 w hw
    have r5 := r 5 (by omega)
    have r8 := r 8 (by omega)
    have r9 := r 9 (by omega)
    rw [Nat.mul_zero, Nat.zero_add] at q4
    simp only [Nat.mul_zero, Nat.zero_add] at r5 r8 r9
    simp only [eC_55, eK_55_0, eK_55_1, eK_55_2, eK_55_3, eK_55_4, pw_aaload, pw_aload_n, pw_astore_n, pw_bipush, pw_getfield, pw_goto, pw_iconst, pw_ifCond, pw_iload_n, pw_invokestatic, pw_invokevirtual, pw_ireturn, pw_nop0, mm_pI_c, mm_pL_c, mm_pA_c, mm_pR_c, mm_p1_i, mm_p1_r, mm_pN_0, mm_pN_s, mm_lI_c, mm_lL_c, mm_lA_c, mm_wd_n, mm_wd_i, mm_wd_l, mm_wd_r, mm_gf_i, mm_gf_b, mm_gf_r, mm_rf_c, mm_pf_i, mm_pf_b, mm_pf_r, mm_rt_v, mm_rt_i, mm_rt_r, mm_c_eq, mm_c_ne, mm_c_lt, mm_c_ge, mm_c_gt, mm_c_le, mm_sw_n, mm_sw_c, mm_alc_n, mm_alc_c, mm_rc_n, mm_rc_c, reduceCtorEq, false_implies, implies_true, true_implies, true_or, or_true, false_or, or_false, not_false_eq_true, mm_at_0, mm_at_s, mm_set_0, mm_set_s, mm_nl_n, mm_nl_i, mm_nl_r, mm_args_n, mm_args_i, mm_args_l, mm_args_r, mm_pad_0, mm_pad_n, mm_pad_c, List.length_cons, List.length_nil, List.nil_append, List.cons_append, Nat.zero_le, Nat.sub_zero, true_and, and_true, Nat.reduceAdd, Nat.reduceLeDiff, Nat.reduceLT, Nat.reduceSub, Nat.lt_irrefl, Nat.zero_add, Nat.add_zero, k_20, k_10, k_01, mm_if_T, mm_if_F, not_true_eq_false, not_false_eq_true, c3, h1, h2, q1, q2, q4, r5, r8, r9, e_79 (d + 0) hC s1, hi, tf_0, mm_if_v, t_80, t_41, t_44]
    refine congrArg (fun z => post (some (.inl z)) M) ?_
    unfold G55
    rw [q2]
    grind
  · have hi2 : ¬ (0 ≤ x ∧ x ≤ nI n - 1) := hi
    simp only [eC_55, eK_55_0, eK_55_1, eK_55_2, eK_55_3, eK_55_4, pw_aaload, pw_aload_n, pw_astore_n, pw_bipush, pw_getfield, pw_goto, pw_iconst, pw_ifCond, pw_iload_n, pw_invokestatic, pw_invokevirtual, pw_ireturn, pw_nop0, mm_pI_c, mm_pL_c, mm_pA_c, mm_pR_c, mm_p1_i, mm_p1_r, mm_pN_0, mm_pN_s, mm_lI_c, mm_lL_c, mm_lA_c, mm_wd_n, mm_wd_i, mm_wd_l, mm_wd_r, mm_gf_i, mm_gf_b, mm_gf_r, mm_rf_c, mm_pf_i, mm_pf_b, mm_pf_r, mm_rt_v, mm_rt_i, mm_rt_r, mm_c_eq, mm_c_ne, mm_c_lt, mm_c_ge, mm_c_gt, mm_c_le, mm_sw_n, mm_sw_c, mm_alc_n, mm_alc_c, mm_rc_n, mm_rc_c, reduceCtorEq, false_implies, implies_true, true_implies, true_or, or_true, false_or, or_false, not_false_eq_true, mm_at_0, mm_at_s, mm_set_0, mm_set_s, mm_nl_n, mm_nl_i, mm_nl_r, mm_args_n, mm_args_i, mm_args_l, mm_args_r, mm_pad_0, mm_pad_n, mm_pad_c, List.length_cons, List.length_nil, List.nil_append, List.cons_append, Nat.zero_le, Nat.sub_zero, true_and, and_true, Nat.reduceAdd, Nat.reduceLeDiff, Nat.reduceLT, Nat.reduceSub, Nat.lt_irrefl, Nat.zero_add, Nat.add_zero, k_20, k_10, k_01, mm_if_T, mm_if_F, not_true_eq_false, not_false_eq_true, c3, e_79 (d + 0) hC s1, hi2, tf_0, mm_if_v]
    refine congrArg (fun z => post (some (.inl z)) M) ?_
    unfold G55
    rw [if_neg (by first | exact hi | exact fun z => hi z.1)]
set_option maxHeartbeats 4000000 in
theorem e_56 (d : Nat) {n : Nat} {ps : Nat → Nat} {X : Sx} {M : mm_M} {post : mm_Post} (hn : n ≤ 7) (hC : LyC M ps) (hR : RX M 0 n X) (x : Int32) : pC (d + 6) 56 [.inr (.inr (5, 0)), .inl x] M post = post (some (.inl (G56 n X.1.1 x))) M := by
  have hR0 : RS M 0 n X.1.1 X.2 X.1.2.1 X.1.2.2 := hR
  obtain ⟨s1, s2, s3, s4, s5⟩ := hR0
  have hR0 : RS M 0 n X.1.1 X.2 X.1.2.1 X.1.2.2 := hR
  obtain ⟨hS, c0, c1, c2, c3, c4, c5, c6, m0, m1, m2, k1, k2, ct, cn, cp0, hps, hpi⟩ := id hC
  obtain ⟨h1, h2, h3⟩ := hS 0 (by omega)
  by_cases hi : isw n x
  · obtain ⟨w, hw, rfl⟩ := isw_of hn hi
    obtain ⟨q1, q2, q3⟩ := nI_v7 hw hn
    have q4 := h3 w (by omega)
    have r := s5 w hw
    have r5 := r 5 (by omega)
    rw [Nat.mul_zero, Nat.zero_add] at q4
    simp only [Nat.mul_zero, Nat.zero_add] at r5
    simp only [eC_56, eK_56_0, eK_56_1, eK_56_2, eK_56_3, pw_aaload, pw_aload_n, pw_bipush, pw_getfield, pw_goto, pw_iconst, pw_ifCond, pw_iload_n, pw_invokevirtual, pw_ireturn, pw_nop0, mm_pI_c, mm_pL_c, mm_pA_c, mm_pR_c, mm_p1_i, mm_p1_r, mm_pN_0, mm_pN_s, mm_lI_c, mm_lL_c, mm_lA_c, mm_wd_n, mm_wd_i, mm_wd_l, mm_wd_r, mm_gf_i, mm_gf_b, mm_gf_r, mm_rf_c, mm_pf_i, mm_pf_b, mm_pf_r, mm_rt_v, mm_rt_i, mm_rt_r, mm_c_eq, mm_c_ne, mm_c_lt, mm_c_ge, mm_c_gt, mm_c_le, mm_sw_n, mm_sw_c, mm_alc_n, mm_alc_c, mm_rc_n, mm_rc_c, reduceCtorEq, false_implies, implies_true, true_implies, true_or, or_true, false_or, or_false, not_false_eq_true, mm_at_0, mm_at_s, mm_set_0, mm_set_s, mm_nl_n, mm_nl_i, mm_nl_r, mm_args_n, mm_args_i, mm_args_l, mm_args_r, mm_pad_0, mm_pad_n, mm_pad_c, List.length_cons, List.length_nil, List.nil_append, List.cons_append, Nat.zero_le, Nat.sub_zero, true_and, and_true, Nat.reduceAdd, Nat.reduceLeDiff, Nat.reduceLT, Nat.reduceSub, Nat.lt_irrefl, Nat.zero_add, Nat.add_zero, k_20, k_10, k_01, mm_if_T, mm_if_F, not_true_eq_false, not_false_eq_true, c3, h1, h2, q1, q2, q4, r5, e_79 (d + 3) hC s1, hi, tf_0, mm_if_v, t_41, e_16 (d + 1) (show 0 < 20 by omega) hn hS hR0 hw]
    refine congrArg (fun z => post (some (.inl z)) M) ?_
    unfold G56
    rw [q2]
    grind
  · have hi2 : ¬ (0 ≤ x ∧ x ≤ nI n - 1) := hi
    simp only [eC_56, eK_56_0, eK_56_1, eK_56_2, eK_56_3, pw_aaload, pw_aload_n, pw_bipush, pw_getfield, pw_goto, pw_iconst, pw_ifCond, pw_iload_n, pw_invokevirtual, pw_ireturn, pw_nop0, mm_pI_c, mm_pL_c, mm_pA_c, mm_pR_c, mm_p1_i, mm_p1_r, mm_pN_0, mm_pN_s, mm_lI_c, mm_lL_c, mm_lA_c, mm_wd_n, mm_wd_i, mm_wd_l, mm_wd_r, mm_gf_i, mm_gf_b, mm_gf_r, mm_rf_c, mm_pf_i, mm_pf_b, mm_pf_r, mm_rt_v, mm_rt_i, mm_rt_r, mm_c_eq, mm_c_ne, mm_c_lt, mm_c_ge, mm_c_gt, mm_c_le, mm_sw_n, mm_sw_c, mm_alc_n, mm_alc_c, mm_rc_n, mm_rc_c, reduceCtorEq, false_implies, implies_true, true_implies, true_or, or_true, false_or, or_false, not_false_eq_true, mm_at_0, mm_at_s, mm_set_0, mm_set_s, mm_nl_n, mm_nl_i, mm_nl_r, mm_args_n, mm_args_i, mm_args_l, mm_args_r, mm_pad_0, mm_pad_n, mm_pad_c, List.length_cons, List.length_nil, List.nil_append, List.cons_append, Nat.zero_le, Nat.sub_zero, true_and, and_true, Nat.reduceAdd, Nat.reduceLeDiff, Nat.reduceLT, Nat.reduceSub, Nat.lt_irrefl, Nat.zero_add, Nat.add_zero, k_20, k_10, k_01, mm_if_T, mm_if_F, not_true_eq_false, not_false_eq_true, c3, e_79 (d + 3) hC s1, hi2, tf_0, mm_if_v]
    refine congrArg (fun z => post (some (.inl z)) M) ?_
    unfold G56
    rw [if_neg (by first | exact hi | exact fun z => hi z.1)]
set_option maxHeartbeats 4000000 in
theorem e_57 (d : Nat) {n : Nat} {ps : Nat → Nat} {X : Sx} {M : mm_M} {post : mm_Post} (hn : n ≤ 7) (hC : LyC M ps) (hR : RX M 0 n X) (x : Int32) : pC (d + 5) 57 [.inr (.inr (5, 0)), .inl x] M post = post (some (.inl (G57 n X.1.1 X.2 x))) M := by
  have hR0 : RS M 0 n X.1.1 X.2 X.1.2.1 X.1.2.2 := hR
  obtain ⟨s1, s2, s3, s4, s5⟩ := hR0
  have hR0 : RS M 0 n X.1.1 X.2 X.1.2.1 X.1.2.2 := hR
  obtain ⟨hS, c0, c1, c2, c3, c4, c5, c6, m0, m1, m2, k1, k2, ct, cn, cp0, hps, hpi⟩ := id hC
  obtain ⟨h1, h2, h3⟩ := hS 0 (by omega)
  by_cases hi : isw n x
  · obtain ⟨w, hw, rfl⟩ := isw_of hn hi
    obtain ⟨q1, q2, q3⟩ := nI_v7 hw hn
    have q4 := h3 w (by omega)
    have r := s5 w hw
    have r5 := r 5 (by omega)
    rw [Nat.mul_zero, Nat.zero_add] at q4
    simp only [Nat.mul_zero, Nat.zero_add] at r5
    simp only [eC_57, eK_57_0, eK_57_1, eK_57_2, eK_57_3, eK_57_4, pw_aaload, pw_aload_n, pw_bipush, pw_getfield, pw_goto, pw_iconst, pw_ifCond, pw_iload_n, pw_invokevirtual, pw_ireturn, pw_nop0, mm_pI_c, mm_pL_c, mm_pA_c, mm_pR_c, mm_p1_i, mm_p1_r, mm_pN_0, mm_pN_s, mm_lI_c, mm_lL_c, mm_lA_c, mm_wd_n, mm_wd_i, mm_wd_l, mm_wd_r, mm_gf_i, mm_gf_b, mm_gf_r, mm_rf_c, mm_pf_i, mm_pf_b, mm_pf_r, mm_rt_v, mm_rt_i, mm_rt_r, mm_c_eq, mm_c_ne, mm_c_lt, mm_c_ge, mm_c_gt, mm_c_le, mm_sw_n, mm_sw_c, mm_alc_n, mm_alc_c, mm_rc_n, mm_rc_c, reduceCtorEq, false_implies, implies_true, true_implies, true_or, or_true, false_or, or_false, not_false_eq_true, mm_at_0, mm_at_s, mm_set_0, mm_set_s, mm_nl_n, mm_nl_i, mm_nl_r, mm_args_n, mm_args_i, mm_args_l, mm_args_r, mm_pad_0, mm_pad_n, mm_pad_c, List.length_cons, List.length_nil, List.nil_append, List.cons_append, Nat.zero_le, Nat.sub_zero, true_and, and_true, Nat.reduceAdd, Nat.reduceLeDiff, Nat.reduceLT, Nat.reduceSub, Nat.lt_irrefl, Nat.zero_add, Nat.add_zero, k_20, k_10, k_01, mm_if_T, mm_if_F, not_true_eq_false, not_false_eq_true, c3, h1, h2, q1, q2, q4, r5, e_79 (d + 2) hC s1, hi, tf_0, mm_if_v, t_41, e_18 (d + 1) (show 0 < 20 by omega) hn hS hR0 hw]
    refine congrArg (fun z => post (some (.inl z)) M) ?_
    unfold G57
    rw [q2]
    grind
  · have hi2 : ¬ (0 ≤ x ∧ x ≤ nI n - 1) := hi
    simp only [eC_57, eK_57_0, eK_57_1, eK_57_2, eK_57_3, eK_57_4, pw_aaload, pw_aload_n, pw_bipush, pw_getfield, pw_goto, pw_iconst, pw_ifCond, pw_iload_n, pw_invokevirtual, pw_ireturn, pw_nop0, mm_pI_c, mm_pL_c, mm_pA_c, mm_pR_c, mm_p1_i, mm_p1_r, mm_pN_0, mm_pN_s, mm_lI_c, mm_lL_c, mm_lA_c, mm_wd_n, mm_wd_i, mm_wd_l, mm_wd_r, mm_gf_i, mm_gf_b, mm_gf_r, mm_rf_c, mm_pf_i, mm_pf_b, mm_pf_r, mm_rt_v, mm_rt_i, mm_rt_r, mm_c_eq, mm_c_ne, mm_c_lt, mm_c_ge, mm_c_gt, mm_c_le, mm_sw_n, mm_sw_c, mm_alc_n, mm_alc_c, mm_rc_n, mm_rc_c, reduceCtorEq, false_implies, implies_true, true_implies, true_or, or_true, false_or, or_false, not_false_eq_true, mm_at_0, mm_at_s, mm_set_0, mm_set_s, mm_nl_n, mm_nl_i, mm_nl_r, mm_args_n, mm_args_i, mm_args_l, mm_args_r, mm_pad_0, mm_pad_n, mm_pad_c, List.length_cons, List.length_nil, List.nil_append, List.cons_append, Nat.zero_le, Nat.sub_zero, true_and, and_true, Nat.reduceAdd, Nat.reduceLeDiff, Nat.reduceLT, Nat.reduceSub, Nat.lt_irrefl, Nat.zero_add, Nat.add_zero, k_20, k_10, k_01, mm_if_T, mm_if_F, not_true_eq_false, not_false_eq_true, c3, e_79 (d + 2) hC s1, hi2, tf_0, mm_if_v]
    refine congrArg (fun z => post (some (.inl z)) M) ?_
    unfold G57
    rw [if_neg (by first | exact hi | exact fun z => hi z.1)]
set_option maxHeartbeats 4000000 in
theorem e_69 (d : Nat) {n : Nat} {ps : Nat → Nat} {X : Sx} {M : mm_M} {post : mm_Post} (hn : n ≤ 7) (hC : LyC M ps) (hR : RX M 0 n X) (x : Int32) : pC (d + 6) 69 [.inr (.inr (5, 0)), .inl x] M post = post (some (.inl (G69 n X.1.1 x))) M := by
  have hR0 : RS M 0 n X.1.1 X.2 X.1.2.1 X.1.2.2 := hR
  obtain ⟨s1, s2, s3, s4, s5⟩ := hR0
  have hR0 : RS M 0 n X.1.1 X.2 X.1.2.1 X.1.2.2 := hR
  obtain ⟨hS, c0, c1, c2, c3, c4, c5, c6, m0, m1, m2, k1, k2, ct, cn, cp0, hps, hpi⟩ := id hC
  obtain ⟨h1, h2, h3⟩ := hS 0 (by omega)
  by_cases hi : isw n x
  · obtain ⟨w, hw, rfl⟩ := isw_of hn hi
    obtain ⟨q1, q2, q3⟩ := nI_v7 hw hn
    have q4 := h3 w (by omega)
    have r := s5 w hw
    have r0 := r 0 (by omega)
    have r1 := r 1 (by omega)
    have r5 := r 5 (by omega)
    have r7 := r 7 (by omega)
    have r8 := r 8 (by omega)
    have r9 := r 9 (by omega)
    rw [Nat.mul_zero, Nat.zero_add] at q4
    simp only [Nat.mul_zero, Nat.zero_add] at r0 r1 r5 r7 r8 r9
    simp only [eC_69, eK_69_0, eK_69_1, eK_69_2, eK_69_3, eK_69_4, pw_aaload, pw_aload_n, pw_astore_n, pw_bipush, pw_getfield, pw_goto, pw_iconst, pw_ifCond, pw_iload_n, pw_invokevirtual, pw_ireturn, pw_nop0, mm_pI_c, mm_pL_c, mm_pA_c, mm_pR_c, mm_p1_i, mm_p1_r, mm_pN_0, mm_pN_s, mm_lI_c, mm_lL_c, mm_lA_c, mm_wd_n, mm_wd_i, mm_wd_l, mm_wd_r, mm_gf_i, mm_gf_b, mm_gf_r, mm_rf_c, mm_pf_i, mm_pf_b, mm_pf_r, mm_rt_v, mm_rt_i, mm_rt_r, mm_c_eq, mm_c_ne, mm_c_lt, mm_c_ge, mm_c_gt, mm_c_le, mm_sw_n, mm_sw_c, mm_alc_n, mm_alc_c, mm_rc_n, mm_rc_c, reduceCtorEq, false_implies, implies_true, true_implies, true_or, or_true, false_or, or_false, not_false_eq_true, mm_at_0, mm_at_s, mm_set_0, mm_set_s, mm_nl_n, mm_nl_i, mm_nl_r, mm_args_n, mm_args_i, mm_args_l, mm_args_r, mm_pad_0, mm_pad_n, mm_pad_c, List.length_cons, List.length_nil, List.nil_append, List.cons_append, Nat.zero_le, Nat.sub_zero, true_and, and_true, Nat.reduceAdd, Nat.reduceLeDiff, Nat.reduceLT, Nat.reduceSub, Nat.lt_irrefl, Nat.zero_add, Nat.add_zero, k_20, k_10, k_01, mm_if_T, mm_if_F, not_true_eq_false, not_false_eq_true, c3, h1, h2, q1, q2, q4, r0, r1, r5, r7, r8, r9, e_79 (d + 3) hC s1, hi, tf_0, mm_if_v, t_41, t_45, t_46, e_16 (d + 1) (show 0 < 20 by omega) hn hS hR0 hw]
    refine congrArg (fun z => post (some (.inl z)) M) ?_
    unfold G69 g_at
    rw [q2]
    grind
  · have hi2 : ¬ (0 ≤ x ∧ x ≤ nI n - 1) := hi
    simp only [eC_69, eK_69_0, eK_69_1, eK_69_2, eK_69_3, eK_69_4, pw_aaload, pw_aload_n, pw_astore_n, pw_bipush, pw_getfield, pw_goto, pw_iconst, pw_ifCond, pw_iload_n, pw_invokevirtual, pw_ireturn, pw_nop0, mm_pI_c, mm_pL_c, mm_pA_c, mm_pR_c, mm_p1_i, mm_p1_r, mm_pN_0, mm_pN_s, mm_lI_c, mm_lL_c, mm_lA_c, mm_wd_n, mm_wd_i, mm_wd_l, mm_wd_r, mm_gf_i, mm_gf_b, mm_gf_r, mm_rf_c, mm_pf_i, mm_pf_b, mm_pf_r, mm_rt_v, mm_rt_i, mm_rt_r, mm_c_eq, mm_c_ne, mm_c_lt, mm_c_ge, mm_c_gt, mm_c_le, mm_sw_n, mm_sw_c, mm_alc_n, mm_alc_c, mm_rc_n, mm_rc_c, reduceCtorEq, false_implies, implies_true, true_implies, true_or, or_true, false_or, or_false, not_false_eq_true, mm_at_0, mm_at_s, mm_set_0, mm_set_s, mm_nl_n, mm_nl_i, mm_nl_r, mm_args_n, mm_args_i, mm_args_l, mm_args_r, mm_pad_0, mm_pad_n, mm_pad_c, List.length_cons, List.length_nil, List.nil_append, List.cons_append, Nat.zero_le, Nat.sub_zero, true_and, and_true, Nat.reduceAdd, Nat.reduceLeDiff, Nat.reduceLT, Nat.reduceSub, Nat.lt_irrefl, Nat.zero_add, Nat.add_zero, k_20, k_10, k_01, mm_if_T, mm_if_F, not_true_eq_false, not_false_eq_true, c3, e_79 (d + 3) hC s1, hi2, tf_0, mm_if_v]
    refine congrArg (fun z => post (some (.inl z)) M) ?_
    unfold G69 g_at
    rw [if_neg (by first | exact hi | exact fun z => hi z.1)]
set_option maxHeartbeats 4000000 in
theorem e_53 (d : Nat) {n : Nat} {ps : Nat → Nat} {X : Sx} {M : mm_M} {post : mm_Post} (hn : n ≤ 7) (hC : LyC M ps) (hR : RX M 0 n X) (x : Int32) (y : Int32) : pC (d + 3) 53 [.inr (.inr (5, 0)), .inl x, .inl y] M post = post (some (.inl (G53 n X.1.1 x y))) M := by
  have hR0 : RS M 0 n X.1.1 X.2 X.1.2.1 X.1.2.2 := hR
  obtain ⟨s1, s2, s3, s4, s5⟩ := hR0
  have hR0 : RS M 0 n X.1.1 X.2 X.1.2.1 X.1.2.2 := hR
  obtain ⟨hS, c0, c1, c2, c3, c4, c5, c6, m0, m1, m2, k1, k2, ct, cn, cp0, hps, hpi⟩ := id hC
  obtain ⟨h1, h2, h3⟩ := hS 0 (by omega)
  by_cases hi : isw n x
  · obtain ⟨w, hw, rfl⟩ := isw_of hn hi
    obtain ⟨q1, q2, q3⟩ := nI_v7 hw hn
    have q4 := h3 w (by omega)
    have r := s5 w hw
    have r0 := r 0 (by omega)
    have r1 := r 1 (by omega)
    have r2 := r 2 (by omega)
    have r3 := r 3 (by omega)
    have r4 := r 4 (by omega)
    have r5 := r 5 (by omega)
    rw [Nat.mul_zero, Nat.zero_add] at q4
    simp only [Nat.mul_zero, Nat.zero_add] at r0 r1 r2 r3 r4 r5
    simp only [eC_53, eK_53_0, eK_53_1, eK_53_2, eK_53_3, eK_53_4, eK_53_5, eK_53_6, eK_53_7, eK_53_8, eK_53_9, eK_53_10, pw_aaload, pw_aload_n, pw_astore_n, pw_getfield, pw_goto, pw_iconst, pw_ifCond, pw_iload_n, pw_invokestatic, pw_invokevirtual, pw_ireturn, pw_nop0, pw_tableswitch, mm_pI_c, mm_pL_c, mm_pA_c, mm_pR_c, mm_p1_i, mm_p1_r, mm_pN_0, mm_pN_s, mm_lI_c, mm_lL_c, mm_lA_c, mm_wd_n, mm_wd_i, mm_wd_l, mm_wd_r, mm_gf_i, mm_gf_b, mm_gf_r, mm_rf_c, mm_pf_i, mm_pf_b, mm_pf_r, mm_rt_v, mm_rt_i, mm_rt_r, mm_c_eq, mm_c_ne, mm_c_lt, mm_c_ge, mm_c_gt, mm_c_le, mm_sw_n, mm_sw_c, mm_alc_n, mm_alc_c, mm_rc_n, mm_rc_c, reduceCtorEq, false_implies, implies_true, true_implies, true_or, or_true, false_or, or_false, not_false_eq_true, mm_at_0, mm_at_s, mm_set_0, mm_set_s, mm_nl_n, mm_nl_i, mm_nl_r, mm_args_n, mm_args_i, mm_args_l, mm_args_r, mm_pad_0, mm_pad_n, mm_pad_c, List.length_cons, List.length_nil, List.nil_append, List.cons_append, Nat.zero_le, Nat.sub_zero, true_and, and_true, Nat.reduceAdd, Nat.reduceLeDiff, Nat.reduceLT, Nat.reduceSub, Nat.lt_irrefl, Nat.zero_add, Nat.add_zero, k_20, k_10, k_01, mm_if_T, mm_if_F, not_true_eq_false, not_false_eq_true, c3, h1, h2, q1, q2, q4, r0, r1, r2, r3, r4, r5, e_79 (d + 0) hC s1, hi, tf_0, mm_if_v, t_82]
    refine congrArg (fun z => post (some (.inl z)) M) ?_
    unfold G53
    rw [q2]
    grind
  · have hi2 : ¬ (0 ≤ x ∧ x ≤ nI n - 1) := hi
    simp only [eC_53, eK_53_0, eK_53_1, eK_53_2, eK_53_3, eK_53_4, eK_53_5, eK_53_6, eK_53_7, eK_53_8, eK_53_9, eK_53_10, pw_aaload, pw_aload_n, pw_astore_n, pw_getfield, pw_goto, pw_iconst, pw_ifCond, pw_iload_n, pw_invokestatic, pw_invokevirtual, pw_ireturn, pw_nop0, pw_tableswitch, mm_pI_c, mm_pL_c, mm_pA_c, mm_pR_c, mm_p1_i, mm_p1_r, mm_pN_0, mm_pN_s, mm_lI_c, mm_lL_c, mm_lA_c, mm_wd_n, mm_wd_i, mm_wd_l, mm_wd_r, mm_gf_i, mm_gf_b, mm_gf_r, mm_rf_c, mm_pf_i, mm_pf_b, mm_pf_r, mm_rt_v, mm_rt_i, mm_rt_r, mm_c_eq, mm_c_ne, mm_c_lt, mm_c_ge, mm_c_gt, mm_c_le, mm_sw_n, mm_sw_c, mm_alc_n, mm_alc_c, mm_rc_n, mm_rc_c, reduceCtorEq, false_implies, implies_true, true_implies, true_or, or_true, false_or, or_false, not_false_eq_true, mm_at_0, mm_at_s, mm_set_0, mm_set_s, mm_nl_n, mm_nl_i, mm_nl_r, mm_args_n, mm_args_i, mm_args_l, mm_args_r, mm_pad_0, mm_pad_n, mm_pad_c, List.length_cons, List.length_nil, List.nil_append, List.cons_append, Nat.zero_le, Nat.sub_zero, true_and, and_true, Nat.reduceAdd, Nat.reduceLeDiff, Nat.reduceLT, Nat.reduceSub, Nat.lt_irrefl, Nat.zero_add, Nat.add_zero, k_20, k_10, k_01, mm_if_T, mm_if_F, not_true_eq_false, not_false_eq_true, c3, e_79 (d + 0) hC s1, hi2, tf_0, mm_if_v]
    refine congrArg (fun z => post (some (.inl z)) M) ?_
    unfold G53
    rw [if_neg (by first | exact hi | exact fun z => hi z.1)]
set_option maxHeartbeats 4000000 in
theorem e_54 (d : Nat) {n : Nat} {ps : Nat → Nat} {X : Sx} {M : mm_M} {post : mm_Post} (hn : n ≤ 7) (hC : LyC M ps) (hR : RX M 0 n X) (x : Int32) (y : Int32) : pC (d + 3) 54 [.inr (.inr (5, 0)), .inl x, .inl y] M post = post (some (.inl (G54 n X.1.1 x y))) M := by
  have hR0 : RS M 0 n X.1.1 X.2 X.1.2.1 X.1.2.2 := hR
  obtain ⟨s1, s2, s3, s4, s5⟩ := hR0
  have hR0 : RS M 0 n X.1.1 X.2 X.1.2.1 X.1.2.2 := hR
  obtain ⟨hS, c0, c1, c2, c3, c4, c5, c6, m0, m1, m2, k1, k2, ct, cn, cp0, hps, hpi⟩ := id hC
  obtain ⟨h1, h2, h3⟩ := hS 0 (by omega)
  by_cases hi : isw n x
  · obtain ⟨w, hw, rfl⟩ := isw_of hn hi
    obtain ⟨q1, q2, q3⟩ := nI_v7 hw hn
    have q4 := h3 w (by omega)
    have r := s5 w hw
    have r5 := r 5 (by omega)
    have r6 := r 6 (by omega)
    have r7 := r 7 (by omega)
    have r8 := r 8 (by omega)
    have r9 := r 9 (by omega)
    have r10 := r 10 (by omega)
    rw [Nat.mul_zero, Nat.zero_add] at q4
    simp only [Nat.mul_zero, Nat.zero_add] at r5 r6 r7 r8 r9 r10
    simp only [eC_54, eK_54_0, eK_54_1, eK_54_2, eK_54_3, eK_54_4, eK_54_5, eK_54_6, eK_54_7, eK_54_8, eK_54_9, eK_54_10, eK_54_11, eK_54_12, eK_54_13, eK_54_14, eK_54_15, pw_aaload, pw_aload_n, pw_astore_n, pw_bipush, pw_getfield, pw_goto, pw_iconst, pw_ifCond, pw_iload_n, pw_invokestatic, pw_invokevirtual, pw_ireturn, pw_nop0, pw_tableswitch, mm_pI_c, mm_pL_c, mm_pA_c, mm_pR_c, mm_p1_i, mm_p1_r, mm_pN_0, mm_pN_s, mm_lI_c, mm_lL_c, mm_lA_c, mm_wd_n, mm_wd_i, mm_wd_l, mm_wd_r, mm_gf_i, mm_gf_b, mm_gf_r, mm_rf_c, mm_pf_i, mm_pf_b, mm_pf_r, mm_rt_v, mm_rt_i, mm_rt_r, mm_c_eq, mm_c_ne, mm_c_lt, mm_c_ge, mm_c_gt, mm_c_le, mm_sw_n, mm_sw_c, mm_alc_n, mm_alc_c, mm_rc_n, mm_rc_c, reduceCtorEq, false_implies, implies_true, true_implies, true_or, or_true, false_or, or_false, not_false_eq_true, mm_at_0, mm_at_s, mm_set_0, mm_set_s, mm_nl_n, mm_nl_i, mm_nl_r, mm_args_n, mm_args_i, mm_args_l, mm_args_r, mm_pad_0, mm_pad_n, mm_pad_c, List.length_cons, List.length_nil, List.nil_append, List.cons_append, Nat.zero_le, Nat.sub_zero, true_and, and_true, Nat.reduceAdd, Nat.reduceLeDiff, Nat.reduceLT, Nat.reduceSub, Nat.lt_irrefl, Nat.zero_add, Nat.add_zero, k_20, k_10, k_01, mm_if_T, mm_if_F, not_true_eq_false, not_false_eq_true, c3, h1, h2, q1, q2, q4, r5, r6, r7, r8, r9, r10, e_79 (d + 0) hC s1, hi, tf_0, mm_if_v, t_82, t_40, t_41, t_83]
    refine congrArg (fun z => post (some (.inl z)) M) ?_
    unfold G54
    rw [q2]
    grind
  · have hi2 : ¬ (0 ≤ x ∧ x ≤ nI n - 1) := hi
    simp only [eC_54, eK_54_0, eK_54_1, eK_54_2, eK_54_3, eK_54_4, eK_54_5, eK_54_6, eK_54_7, eK_54_8, eK_54_9, eK_54_10, eK_54_11, eK_54_12, eK_54_13, eK_54_14, eK_54_15, pw_aaload, pw_aload_n, pw_astore_n, pw_bipush, pw_getfield, pw_goto, pw_iconst, pw_ifCond, pw_iload_n, pw_invokestatic, pw_invokevirtual, pw_ireturn, pw_nop0, pw_tableswitch, mm_pI_c, mm_pL_c, mm_pA_c, mm_pR_c, mm_p1_i, mm_p1_r, mm_pN_0, mm_pN_s, mm_lI_c, mm_lL_c, mm_lA_c, mm_wd_n, mm_wd_i, mm_wd_l, mm_wd_r, mm_gf_i, mm_gf_b, mm_gf_r, mm_rf_c, mm_pf_i, mm_pf_b, mm_pf_r, mm_rt_v, mm_rt_i, mm_rt_r, mm_c_eq, mm_c_ne, mm_c_lt, mm_c_ge, mm_c_gt, mm_c_le, mm_sw_n, mm_sw_c, mm_alc_n, mm_alc_c, mm_rc_n, mm_rc_c, reduceCtorEq, false_implies, implies_true, true_implies, true_or, or_true, false_or, or_false, not_false_eq_true, mm_at_0, mm_at_s, mm_set_0, mm_set_s, mm_nl_n, mm_nl_i, mm_nl_r, mm_args_n, mm_args_i, mm_args_l, mm_args_r, mm_pad_0, mm_pad_n, mm_pad_c, List.length_cons, List.length_nil, List.nil_append, List.cons_append, Nat.zero_le, Nat.sub_zero, true_and, and_true, Nat.reduceAdd, Nat.reduceLeDiff, Nat.reduceLT, Nat.reduceSub, Nat.lt_irrefl, Nat.zero_add, Nat.add_zero, k_20, k_10, k_01, mm_if_T, mm_if_F, not_true_eq_false, not_false_eq_true, c3, e_79 (d + 0) hC s1, hi2, tf_0, mm_if_v]
    refine congrArg (fun z => post (some (.inl z)) M) ?_
    unfold G54
    rw [if_neg (by first | exact hi | exact fun z => hi z.1)]
