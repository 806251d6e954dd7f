/-! THE CLASS: what an item tells -/
theorem mm_I_74 (M : mm_M) (i k : Nat) (v : Int32) (j l : Nat) : mm_I (mm_sI M 4 i k v) 7 j l = mm_I M 7 j l := mm_I_c (by omega)
theorem mm_R_s (M : mm_M) (c i k : Nat) (v : Int32) (c1 i1 k1 : Nat) : mm_R (mm_sI M c i k v) c1 i1 k1 = mm_R M c1 i1 k1 := rfl
theorem mm_L_s (M : mm_M) (c i k : Nat) (v : Int32) (c1 i1 : Nat) : mm_L (mm_sI M c i k v) c1 i1 = mm_L M c1 i1 := rfl
theorem cv_0 : vp_in (0 : Int32) 5 := vp_in_nI (n := 0) (N := 5) (by omega) (by omega)
theorem cw_0 : (0 : Int32).toNatClampNeg = 0 := nI_clamp (n := 0) (by omega)
theorem cv_1 : vp_in (1 : Int32) 5 := vp_in_nI (n := 1) (N := 5) (by omega) (by omega)
theorem cw_1 : (1 : Int32).toNatClampNeg = 1 := nI_clamp (n := 1) (by omega)
theorem cv_2 : vp_in (2 : Int32) 5 := vp_in_nI (n := 2) (N := 5) (by omega) (by omega)
theorem cw_2 : (2 : Int32).toNatClampNeg = 2 := nI_clamp (n := 2) (by omega)
theorem cv_3 : vp_in (3 : Int32) 5 := vp_in_nI (n := 3) (N := 5) (by omega) (by omega)
theorem cw_3 : (3 : Int32).toNatClampNeg = 3 := nI_clamp (n := 3) (by omega)
theorem cv_4 : vp_in (4 : Int32) 5 := vp_in_nI (n := 4) (N := 5) (by omega) (by omega)
theorem cw_4 : (4 : Int32).toNatClampNeg = 4 := nI_clamp (n := 4) (by omega)
set_option maxHeartbeats 4000000 in
theorem t_34 (d : Nat) {s n : Nat} {A : Nat → Nat → Int32} {dy cp tn : Int32} {M : mm_M} {post : mm_Post} (hs : s < 20) (hn : n ≤ 7) (hL : LyS M) (hR : RS M s n A dy cp tn) (ly : mm_R M 3 0 1 = some 1 ∧ mm_L M 7 1 = 5) {a : Nat → Int32} {many : Nat} (hc : ∀ i, i < many → mm_I M 7 1 i = a i) (hm : many = 3) (h0 : ¬ ((0 ≤ a 0 ∧ a 0 ≤ 3) ∧ (0 ≤ a 1 ∧ a 1 ≤ 40) ∧ (1 ≤ a 2 ∧ a 2 ≤ 20) ∧ n < 7) → post (some (.inl 0)) M) (h1 : ((0 ≤ a 0 ∧ a 0 ≤ 3) ∧ (0 ≤ a 1 ∧ a 1 ≤ 40) ∧ (1 ≤ a 2 ∧ a 2 ≤ 20) ∧ n < 7) → ∀ M' A', RS M' s (n + 1) A' dy cp tn → (∀ w, w < n → ∀ k, k < 11 → A' w k = A w k) → A' n 0 = a 0 → A' n 1 = a 1 → A' n 2 = a 2 → A' n 3 = 0 → A' n 4 = 0 → A' n 5 = 0 → FS M M' s → post (some (.inl 1)) M') : pC (d + 3) 34 [.inr (.inr (3, 0)), .inr (.inr (2, s))] M post := by
  subst hm
  obtain ⟨l1, l2⟩ := ly
  have n0 := hc 0 (by omega)
  have n1 := hc 1 (by omega)
  have n2 := hc 2 (by omega)
  by_cases hv : (0 ≤ a 0 ∧ a 0 ≤ 3) ∧ (0 ≤ a 1 ∧ a 1 ≤ 40) ∧ (1 ≤ a 2 ∧ a 2 ≤ 20)
  · obtain ⟨v1, v2, v3⟩ := hv
    simp only [eC_34, eK_34_0, eK_34_1, eK_34_2, eK_34_3, eK_34_4, pw_aload_n, pw_bipush, pw_getfield, pw_goto, pw_iaload, pw_iconst, pw_ifCond, pw_iload_n, pw_invokestatic, pw_invokevirtual, pw_ireturn, pw_istore_n, pw_nop0, mm_pI_c, mm_pL_c, mm_pA_c, mm_pR_c, mm_p1_i, mm_p1_r, mm_pN_0, mm_pN_s, mm_lI_c, mm_lL_c, mm_lA_c, mm_wd_n, mm_wd_i, mm_wd_l, mm_wd_r, mm_gf_i, mm_gf_b, mm_gf_r, mm_rf_c, mm_pf_i, mm_pf_b, mm_pf_r, mm_rt_v, mm_rt_i, mm_rt_r, mm_c_eq, mm_c_ne, mm_c_lt, mm_c_ge, mm_c_gt, mm_c_le, mm_sw_n, mm_sw_c, mm_alc_n, mm_alc_c, mm_rc_n, mm_rc_c, reduceCtorEq, false_implies, implies_true, true_implies, true_or, or_true, false_or, or_false, not_false_eq_true, mm_at_0, mm_at_s, mm_set_0, mm_set_s, mm_nl_n, mm_nl_i, mm_nl_r, mm_args_n, mm_args_i, mm_args_l, mm_args_r, mm_pad_0, mm_pad_n, mm_pad_c, List.length_cons, List.length_nil, List.nil_append, List.cons_append, Nat.zero_le, Nat.sub_zero, true_and, and_true, Nat.reduceAdd, Nat.reduceLeDiff, Nat.reduceLT, Nat.reduceSub, Nat.lt_irrefl, Nat.zero_add, Nat.add_zero, k_20, k_10, k_01, mm_if_T, mm_if_F, not_true_eq_false, not_false_eq_true, l1, l2, n0, n1, n2, t_82, t_80, v1, v2, v3, tf_0, cv_0, cw_0, cv_1, cw_1, cv_2, cw_2, cv_3, cw_3, cv_4, cw_4]
    refine t_11 d hs hn hL hR _ _ _ (fun h7 => ?_) (fun h7 M' A' a1 a2 a3 a4 a5 a6 a7 a8 a9 => ?_)
    · have hp := h0 (fun z => by omega)
      simp only [eC_34, eK_34_0, eK_34_1, eK_34_2, eK_34_3, eK_34_4, pw_aload_n, pw_bipush, pw_getfield, pw_goto, pw_iaload, pw_iconst, pw_ifCond, pw_iload_n, pw_invokestatic, pw_invokevirtual, pw_ireturn, pw_istore_n, pw_nop0, mm_pI_c, mm_pL_c, mm_pA_c, mm_pR_c, mm_p1_i, mm_p1_r, mm_pN_0, mm_pN_s, mm_lI_c, mm_lL_c, mm_lA_c, mm_wd_n, mm_wd_i, mm_wd_l, mm_wd_r, mm_gf_i, mm_gf_b, mm_gf_r, mm_rf_c, mm_pf_i, mm_pf_b, mm_pf_r, mm_rt_v, mm_rt_i, mm_rt_r, mm_c_eq, mm_c_ne, mm_c_lt, mm_c_ge, mm_c_gt, mm_c_le, mm_sw_n, mm_sw_c, mm_alc_n, mm_alc_c, mm_rc_n, mm_rc_c, reduceCtorEq, false_implies, implies_true, true_implies, true_or, or_true, false_or, or_false, not_false_eq_true, mm_at_0, mm_at_s, mm_set_0, mm_set_s, mm_nl_n, mm_nl_i, mm_nl_r, mm_args_n, mm_args_i, mm_args_l, mm_args_r, mm_pad_0, mm_pad_n, mm_pad_c, List.length_cons, List.length_nil, List.nil_append, List.cons_append, Nat.zero_le, Nat.sub_zero, true_and, and_true, Nat.reduceAdd, Nat.reduceLeDiff, Nat.reduceLT, Nat.reduceSub, Nat.lt_irrefl, Nat.zero_add, Nat.add_zero, k_20, k_10, k_01, mm_if_T, mm_if_F, not_true_eq_false, not_false_eq_true]
      exact hp
    · have hp := h1 ⟨v1, v2, v3, h7⟩ M' A' a1 a2 a3 a4 a5 a6 a7 a8 a9
      simp only [eC_34, eK_34_0, eK_34_1, eK_34_2, eK_34_3, eK_34_4, pw_aload_n, pw_bipush, pw_getfield, pw_goto, pw_iaload, pw_iconst, pw_ifCond, pw_iload_n, pw_invokestatic, pw_invokevirtual, pw_ireturn, pw_istore_n, pw_nop0, mm_pI_c, mm_pL_c, mm_pA_c, mm_pR_c, mm_p1_i, mm_p1_r, mm_pN_0, mm_pN_s, mm_lI_c, mm_lL_c, mm_lA_c, mm_wd_n, mm_wd_i, mm_wd_l, mm_wd_r, mm_gf_i, mm_gf_b, mm_gf_r, mm_rf_c, mm_pf_i, mm_pf_b, mm_pf_r, mm_rt_v, mm_rt_i, mm_rt_r, mm_c_eq, mm_c_ne, mm_c_lt, mm_c_ge, mm_c_gt, mm_c_le, mm_sw_n, mm_sw_c, mm_alc_n, mm_alc_c, mm_rc_n, mm_rc_c, reduceCtorEq, false_implies, implies_true, true_implies, true_or, or_true, false_or, or_false, not_false_eq_true, mm_at_0, mm_at_s, mm_set_0, mm_set_s, mm_nl_n, mm_nl_i, mm_nl_r, mm_args_n, mm_args_i, mm_args_l, mm_args_r, mm_pad_0, mm_pad_n, mm_pad_c, List.length_cons, List.length_nil, List.nil_append, List.cons_append, Nat.zero_le, Nat.sub_zero, true_and, and_true, Nat.reduceAdd, Nat.reduceLeDiff, Nat.reduceLT, Nat.reduceSub, Nat.lt_irrefl, Nat.zero_add, Nat.add_zero, k_20, k_10, k_01, mm_if_T, mm_if_F, not_true_eq_false, not_false_eq_true]
      exact hp
  · have hp := h0 (fun z => hv ⟨z.1, z.2.1, z.2.2.1⟩)
    clear h0 h1
    simp only [eC_34, eK_34_0, eK_34_1, eK_34_2, eK_34_3, eK_34_4, pw_aload_n, pw_bipush, pw_getfield, pw_goto, pw_iaload, pw_iconst, pw_ifCond, pw_iload_n, pw_invokestatic, pw_invokevirtual, pw_ireturn, pw_istore_n, pw_nop0, mm_pI_c, mm_pL_c, mm_pA_c, mm_pR_c, mm_p1_i, mm_p1_r, mm_pN_0, mm_pN_s, mm_lI_c, mm_lL_c, mm_lA_c, mm_wd_n, mm_wd_i, mm_wd_l, mm_wd_r, mm_gf_i, mm_gf_b, mm_gf_r, mm_rf_c, mm_pf_i, mm_pf_b, mm_pf_r, mm_rt_v, mm_rt_i, mm_rt_r, mm_c_eq, mm_c_ne, mm_c_lt, mm_c_ge, mm_c_gt, mm_c_le, mm_sw_n, mm_sw_c, mm_alc_n, mm_alc_c, mm_rc_n, mm_rc_c, reduceCtorEq, false_implies, implies_true, true_implies, true_or, or_true, false_or, or_false, not_false_eq_true, mm_at_0, mm_at_s, mm_set_0, mm_set_s, mm_nl_n, mm_nl_i, mm_nl_r, mm_args_n, mm_args_i, mm_args_l, mm_args_r, mm_pad_0, mm_pad_n, mm_pad_c, List.length_cons, List.length_nil, List.nil_append, List.cons_append, Nat.zero_le, Nat.sub_zero, true_and, and_true, Nat.reduceAdd, Nat.reduceLeDiff, Nat.reduceLT, Nat.reduceSub, Nat.lt_irrefl, Nat.zero_add, Nat.add_zero, k_20, k_10, k_01, mm_if_T, mm_if_F, not_true_eq_false, not_false_eq_true, l1, l2, n0, n1, n2, t_82, t_80, tf_0, cv_0, cw_0, cv_1, cw_1, cv_2, cw_2, cv_3, cw_3, cv_4, cw_4]
    simp only [mm_if]
    grind

set_option maxHeartbeats 4000000 in
theorem t_35 (d : Nat) {s n : Nat} {A : Nat → Nat → Int32} {dy cp tn : Int32} {M : mm_M} {post : mm_Post} (hs : s < 20) (hn : n ≤ 7) (hL : LyS M) (hR : RS M s n A dy cp tn) (ly : mm_R M 3 0 1 = some 1 ∧ mm_L M 7 1 = 5) {a : Nat → Int32} {many : Nat} (hc : ∀ i, i < many → mm_I M 7 1 i = a i) (hm : many = 2) (h1 : ∀ M', RS M' s n A dy (a 0) (a 1) → FS M M' s → post (some (.inl 1)) M') : pC (d + 1) 35 [.inr (.inr (3, 0)), .inr (.inr (2, s))] M post := by
  subst hm
  obtain ⟨l1, l2⟩ := ly
  have n0 := hc 0 (by omega)
  have n1 := hc 1 (by omega)
  have hp := h1 _ (RS_4 (RS_3 hR (a 0)) (a 1)) (FS_2 (FS_2 (FS_rf M s)))
  have l3 : mm_R (mm_sI M 2 s 3 (a 0)) 3 0 1 = some 1 := l1
  have l4 : mm_L (mm_sI M 2 s 3 (a 0)) 7 1 = 5 := l2
  have n3 : mm_I (mm_sI M 2 s 3 (a 0)) 7 1 1 = a 1 := (mm_I_c (by omega)).trans n1
  simp only [eC_35, eK_35_0, pw_aload_n, pw_getfield, pw_iaload, pw_iconst, pw_ireturn, pw_putfield, mm_pI_c, mm_pL_c, mm_pA_c, mm_pR_c, mm_p1_i, mm_p1_r, mm_pN_0, mm_pN_s, mm_lI_c, mm_lL_c, mm_lA_c, mm_wd_n, mm_wd_i, mm_wd_l, mm_wd_r, mm_gf_i, mm_gf_b, mm_gf_r, mm_rf_c, mm_pf_i, mm_pf_b, mm_pf_r, mm_rt_v, mm_rt_i, mm_rt_r, mm_c_eq, mm_c_ne, mm_c_lt, mm_c_ge, mm_c_gt, mm_c_le, mm_sw_n, mm_sw_c, mm_alc_n, mm_alc_c, mm_rc_n, mm_rc_c, reduceCtorEq, false_implies, implies_true, true_implies, true_or, or_true, false_or, or_false, not_false_eq_true, mm_at_0, mm_at_s, mm_set_0, mm_set_s, mm_nl_n, mm_nl_i, mm_nl_r, mm_args_n, mm_args_i, mm_args_l, mm_args_r, mm_pad_0, mm_pad_n, mm_pad_c, List.length_cons, List.length_nil, List.nil_append, List.cons_append, Nat.zero_le, Nat.sub_zero, true_and, and_true, Nat.reduceAdd, Nat.reduceLeDiff, Nat.reduceLT, Nat.reduceSub, Nat.lt_irrefl, Nat.zero_add, Nat.add_zero, k_20, k_10, k_01, mm_if_T, mm_if_F, not_true_eq_false, not_false_eq_true, l1, l2, l3, l4, n0, n1, n3, cv_0, cw_0, cv_1, cw_1, cv_2, cw_2, cv_3, cw_3, cv_4, cw_4]
  exact hp

set_option maxHeartbeats 8000000 in
set_option maxRecDepth 4000 in
theorem t_36 (d : Nat) {s n : Nat} {A : Nat → Nat → Int32} {dy cp tn : Int32} {M : mm_M} {post : mm_Post} (hs : s < 20) (hn : n ≤ 7) (hL : LyS M) (hR : RS M s n A dy cp tn) (ly : mm_R M 3 0 1 = some 1 ∧ mm_L M 7 1 = 5) {a : Nat → Int32} {many : Nat} (hc : ∀ i, i < many → mm_I M 7 1 i = a i) (hm : many = 5) (ha : ∃ k, k ≤ 99 ∧ a 0 = nI k) (h0 : ¬ ((isw n (a 0) ∧ ¬ 1 ≤ A (a 0).toNatClampNeg 5) ∧ (1 ≤ a 1 ∧ a 1 ≤ 30) ∧ (0 ≤ a 2 ∧ a 2 ≤ 30) ∧ (0 ≤ a 3 ∧ a 3 ≤ 40) ∧ (0 ≤ a 4 ∧ a 4 ≤ 23)) → post (some (.inl 0)) M) (h1 : ((isw n (a 0) ∧ ¬ 1 ≤ A (a 0).toNatClampNeg 5) ∧ (1 ≤ a 1 ∧ a 1 ≤ 30) ∧ (0 ≤ a 2 ∧ a 2 ≤ 30) ∧ (0 ≤ a 3 ∧ a 3 ≤ 40) ∧ (0 ≤ a 4 ∧ a 4 ≤ 23)) → ∀ M', RS M' s n (a_b A (a 0).toNatClampNeg a) dy cp tn → FS M M' s → post (some (.inl 1)) M') : pC (d + 4) 36 [.inr (.inr (3, 0)), .inr (.inr (2, s))] M post := by
  subst hm
  obtain ⟨l1, l2⟩ := ly
  have n0 := hc 0 (by omega)
  have n1 := hc 1 (by omega)
  have n2 := hc 2 (by omega)
  have n3 := hc 3 (by omega)
  have n4 := hc 4 (by omega)
  obtain ⟨w, hw99, e0⟩ := ha
  rw [e0] at n0 h0 h1
  have s1 := hR.1
  by_cases hw : w < n
  · obtain ⟨q1, q2, q3⟩ := nI_v7 hw hn
    obtain ⟨z1, z2, z3⟩ := hL s hs
    have q4 := z3 w (by omega)
    have r5 := hR.2.2.2.2 w hw 5 (by omega)
    rw [q2] at h0 h1
    have hi : isw n (nI w) := isw_nI hn hw
    by_cases hb : 1 ≤ A w 5
    · have hp := h0 (fun z => z.1.2 hb)
      simp only [eC_36, eK_36_0, eK_36_1, eK_36_2, eK_36_3, eK_36_4, eK_36_5, eK_36_6, pw_aaload, pw_aload_n, pw_bipush, pw_getfield, pw_iaload, pw_iconst, pw_ifCond, pw_if_icmp, pw_iload_n, pw_invokestatic, pw_invokevirtual, pw_ireturn, pw_istore_n, pw_nop0, mm_pI_c, mm_pL_c, mm_pA_c, mm_pR_c, mm_p1_i, mm_p1_r, mm_pN_0, mm_pN_s, mm_lI_c, mm_lL_c, mm_lA_c, mm_wd_n, mm_wd_i, mm_wd_l, mm_wd_r, mm_gf_i, mm_gf_b, mm_gf_r, mm_rf_c, mm_pf_i, mm_pf_b, mm_pf_r, mm_rt_v, mm_rt_i, mm_rt_r, mm_c_eq, mm_c_ne, mm_c_lt, mm_c_ge, mm_c_gt, mm_c_le, mm_sw_n, mm_sw_c, mm_alc_n, mm_alc_c, mm_rc_n, mm_rc_c, reduceCtorEq, false_implies, implies_true, true_implies, true_or, or_true, false_or, or_false, not_false_eq_true, mm_at_0, mm_at_s, mm_set_0, mm_set_s, mm_nl_n, mm_nl_i, mm_nl_r, mm_args_n, mm_args_i, mm_args_l, mm_args_r, mm_pad_0, mm_pad_n, mm_pad_c, List.length_cons, List.length_nil, List.nil_append, List.cons_append, Nat.zero_le, Nat.sub_zero, true_and, and_true, Nat.reduceAdd, Nat.reduceLeDiff, Nat.reduceLT, Nat.reduceSub, Nat.lt_irrefl, Nat.zero_add, Nat.add_zero, k_20, k_10, k_01, mm_if_T, mm_if_F, not_true_eq_false, not_false_eq_true, l1, l2, n0, s1, mm_if_f q3, q1, q2, q4, z1, z2, t_40, r5, hb, tf_0, cv_0, cw_0, cv_1, cw_1, cv_2, cw_2, cv_3, cw_3, cv_4, cw_4]
      exact hp
    · by_cases hv : (1 ≤ a 1 ∧ a 1 ≤ 30) ∧ (0 ≤ a 2 ∧ a 2 ≤ 30) ∧ (0 ≤ a 3 ∧ a 3 ≤ 40) ∧ (0 ≤ a 4 ∧ a 4 ≤ 23)
      · obtain ⟨v1, v2, v3, v4⟩ := id hv
        have hp := h1 ⟨⟨hi, hb⟩, hv⟩ _ (RS_w (RS_w (RS_w (RS_w (RS_w (RS_w (RS_w hR w 6 (a 1)) w 7 (a 2)) w 8 (f_lo (a 1) (a 2))) w 5 1) w 9 (a 3)) w 10 (a 4)) w 5 2) (FS_4 (FS_4 (FS_4 (FS_4 (FS_4 (FS_4 (FS_4 (FS_rf M s) (by omega)) (by omega)) (by omega)) (by omega)) (by omega)) (by omega)) (by omega))
        simp only [eC_36, eK_36_0, eK_36_1, eK_36_2, eK_36_3, eK_36_4, eK_36_5, eK_36_6, pw_aaload, pw_aload_n, pw_bipush, pw_getfield, pw_iaload, pw_iconst, pw_ifCond, pw_if_icmp, pw_iload_n, pw_invokestatic, pw_invokevirtual, pw_ireturn, pw_istore_n, pw_nop0, mm_pI_c, mm_pL_c, mm_pA_c, mm_pR_c, mm_p1_i, mm_p1_r, mm_pN_0, mm_pN_s, mm_lI_c, mm_lL_c, mm_lA_c, mm_wd_n, mm_wd_i, mm_wd_l, mm_wd_r, mm_gf_i, mm_gf_b, mm_gf_r, mm_rf_c, mm_pf_i, mm_pf_b, mm_pf_r, mm_rt_v, mm_rt_i, mm_rt_r, mm_c_eq, mm_c_ne, mm_c_lt, mm_c_ge, mm_c_gt, mm_c_le, mm_sw_n, mm_sw_c, mm_alc_n, mm_alc_c, mm_rc_n, mm_rc_c, reduceCtorEq, false_implies, implies_true, true_implies, true_or, or_true, false_or, or_false, not_false_eq_true, mm_at_0, mm_at_s, mm_set_0, mm_set_s, mm_nl_n, mm_nl_i, mm_nl_r, mm_args_n, mm_args_i, mm_args_l, mm_args_r, mm_pad_0, mm_pad_n, mm_pad_c, List.length_cons, List.length_nil, List.nil_append, List.cons_append, Nat.zero_le, Nat.sub_zero, true_and, and_true, Nat.reduceAdd, Nat.reduceLeDiff, Nat.reduceLT, Nat.reduceSub, Nat.lt_irrefl, Nat.zero_add, Nat.add_zero, k_20, k_10, k_01, mm_if_T, mm_if_F, not_true_eq_false, not_false_eq_true, l1, l2, n0, n1, n2, n3, n4, s1, mm_if_f q3, q1, q2, q4, z1, z2, t_40, r5, hb, tf_0, t_82, t_80, t_81, v1, v2, v3, v4, t_42, t_43, mm_I_74, mm_R_s, mm_L_s, cv_0, cw_0, cv_1, cw_1, cv_2, cw_2, cv_3, cw_3, cv_4, cw_4]
        exact hp
      · have hp := h0 (fun z => hv z.2)
        clear h0 h1
        simp only [eC_36, eK_36_0, eK_36_1, eK_36_2, eK_36_3, eK_36_4, eK_36_5, eK_36_6, pw_aaload, pw_aload_n, pw_bipush, pw_getfield, pw_iaload, pw_iconst, pw_ifCond, pw_if_icmp, pw_iload_n, pw_invokestatic, pw_invokevirtual, pw_ireturn, pw_istore_n, pw_nop0, mm_pI_c, mm_pL_c, mm_pA_c, mm_pR_c, mm_p1_i, mm_p1_r, mm_pN_0, mm_pN_s, mm_lI_c, mm_lL_c, mm_lA_c, mm_wd_n, mm_wd_i, mm_wd_l, mm_wd_r, mm_gf_i, mm_gf_b, mm_gf_r, mm_rf_c, mm_pf_i, mm_pf_b, mm_pf_r, mm_rt_v, mm_rt_i, mm_rt_r, mm_c_eq, mm_c_ne, mm_c_lt, mm_c_ge, mm_c_gt, mm_c_le, mm_sw_n, mm_sw_c, mm_alc_n, mm_alc_c, mm_rc_n, mm_rc_c, reduceCtorEq, false_implies, implies_true, true_implies, true_or, or_true, false_or, or_false, not_false_eq_true, mm_at_0, mm_at_s, mm_set_0, mm_set_s, mm_nl_n, mm_nl_i, mm_nl_r, mm_args_n, mm_args_i, mm_args_l, mm_args_r, mm_pad_0, mm_pad_n, mm_pad_c, List.length_cons, List.length_nil, List.nil_append, List.cons_append, Nat.zero_le, Nat.sub_zero, true_and, and_true, Nat.reduceAdd, Nat.reduceLeDiff, Nat.reduceLT, Nat.reduceSub, Nat.lt_irrefl, Nat.zero_add, Nat.add_zero, k_20, k_10, k_01, mm_if_T, mm_if_F, not_true_eq_false, not_false_eq_true, l1, l2, n0, n1, n2, n3, n4, s1, mm_if_f q3, q1, q2, q4, z1, z2, t_40, r5, hb, tf_0, t_82, t_80, t_81, cv_0, cw_0, cv_1, cw_1, cv_2, cw_2, cv_3, cw_3, cv_4, cw_4]
        simp only [mm_if]
        grind
  · have q3 : nI n ≤ nI w := nI_le (by omega) (by omega)
    have hp := h0 (fun z => by
      obtain ⟨v, hv, e⟩ := isw_of hn z.1.1
      have := (nI_eq (by omega) (by omega)).mp e
      omega)
    simp only [eC_36, eK_36_0, eK_36_1, eK_36_2, eK_36_3, eK_36_4, eK_36_5, eK_36_6, pw_aaload, pw_aload_n, pw_bipush, pw_getfield, pw_iaload, pw_iconst, pw_ifCond, pw_if_icmp, pw_iload_n, pw_invokestatic, pw_invokevirtual, pw_ireturn, pw_istore_n, pw_nop0, mm_pI_c, mm_pL_c, mm_pA_c, mm_pR_c, mm_p1_i, mm_p1_r, mm_pN_0, mm_pN_s, mm_lI_c, mm_lL_c, mm_lA_c, mm_wd_n, mm_wd_i, mm_wd_l, mm_wd_r, mm_gf_i, mm_gf_b, mm_gf_r, mm_rf_c, mm_pf_i, mm_pf_b, mm_pf_r, mm_rt_v, mm_rt_i, mm_rt_r, mm_c_eq, mm_c_ne, mm_c_lt, mm_c_ge, mm_c_gt, mm_c_le, mm_sw_n, mm_sw_c, mm_alc_n, mm_alc_c, mm_rc_n, mm_rc_c, reduceCtorEq, false_implies, implies_true, true_implies, true_or, or_true, false_or, or_false, not_false_eq_true, mm_at_0, mm_at_s, mm_set_0, mm_set_s, mm_nl_n, mm_nl_i, mm_nl_r, mm_args_n, mm_args_i, mm_args_l, mm_args_r, mm_pad_0, mm_pad_n, mm_pad_c, List.length_cons, List.length_nil, List.nil_append, List.cons_append, Nat.zero_le, Nat.sub_zero, true_and, and_true, Nat.reduceAdd, Nat.reduceLeDiff, Nat.reduceLT, Nat.reduceSub, Nat.lt_irrefl, Nat.zero_add, Nat.add_zero, k_20, k_10, k_01, mm_if_T, mm_if_F, not_true_eq_false, not_false_eq_true, l1, l2, n0, s1, mm_if_t q3, cv_0, cw_0, cv_1, cw_1, cv_2, cw_2, cv_3, cw_3, cv_4, cw_4]
    exact hp

