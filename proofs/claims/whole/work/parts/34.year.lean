/-! THE CLASS: a year; what is cheap -/
def g_yr (n : Nat) (X : Sx) (z : Nat) : Nat → Sx
  | 0 => X
  | k + 1 => g_dx n (g_ac n (g_yr n X z k).1 (dwN z k), (g_yr n X z k).2)
def G75 (n : Nat) (X : Sx) (z x y : Int32) : Int32 := if ((0 ≤ z ∧ z ≤ 9999) ∧ (1 ≤ x ∧ x ≤ 60)) ∧ (0 ≤ y ∧ y ≤ 1) then (if y = 0 then nI (ctn (fun w => (g_yr n X z.toNatClampNeg x.toNatClampNeg).1.1 w 4) n) else (g_yr n X z.toNatClampNeg x.toNatClampNeg).1.2.1) else -1

set_option maxHeartbeats 4000000 in
theorem l_75 (d : Nat) {n : Nat} {X : Sx} {M : mm_M} {post : mm_Post} (hn : n ≤ 7) (h1n : 1 ≤ n) (z N : Nat) (hz : z ≤ 9999) (hN : N ≤ 60) (y : Int32) (h : ∀ M', FS M M' 11 → post (some (.inl (if y = 0 then nI (ctn (fun w => (g_yr n X z N).1.1 w 4) n) else (g_yr n X z N).1.2.1))) M') : ∀ (m k : Nat) (M1 : mm_M), k + m = N → LyS M1 → RX M1 11 n (g_yr n X z k) → FS M M1 11 → pK (d + 5) 75 post 3 [some (.inr (.inr (5, 0))), some (.inl (nI z)), some (.inl (nI N)), some (.inl y), some (.inr (.inr (2, 11))), some (.inl (nI k))] [] M1 (0, 0) := by
  intro m
  induction m with
  | zero =>
    intro k M1 hk hL hR hF
    have e : k = N := by omega
    subst e
    obtain ⟨s1, s2, s3, s4, s5⟩ := id hR
    obtain ⟨f1, f2⟩ := bI_bm (fun w => (g_yr n X z k).1.1 w 4) n hn
    have f5 : bm (fun w => (g_yr n X z k).1.1 w 4) n < 128 := Nat.lt_of_lt_of_le (bm_lt _ n) (b7_pw n hn)
    have hp := h M1 hF
    rw [eK_75_3]
    simp only [eK_75_0, eK_75_1, eK_75_2, eK_75_4, eK_75_5, eK_75_6, pw_aload, pw_aload_n, pw_astore, pw_bipush, pw_getfield, pw_goto, pw_iconst, pw_ifCond, pw_if_icmp, pw_iinc, pw_iload, pw_iload_n, pw_invokestatic, pw_invokevirtual, pw_ireturn, pw_istore, pw_nop0, pw_sipush, mm_pI_c, mm_pL_c, mm_pA_c, mm_pR_c, mm_p1_i, mm_p1_r, mm_pN_0, mm_pN_s, mm_lI_c, mm_lL_c, mm_lA_c, mm_wd_n, mm_wd_i, mm_wd_l, mm_wd_r, mm_gf_i, mm_gf_b, mm_gf_r, mm_rf_c, mm_pf_i, mm_pf_b, mm_pf_r, mm_rt_v, mm_rt_i, mm_rt_r, mm_c_eq, mm_c_ne, mm_c_lt, mm_c_ge, mm_c_gt, mm_c_le, mm_sw_n, mm_sw_c, mm_alc_n, mm_alc_c, mm_rc_n, mm_rc_c, reduceCtorEq, false_implies, implies_true, true_implies, true_or, or_true, false_or, or_false, not_false_eq_true, mm_at_0, mm_at_s, mm_set_0, mm_set_s, mm_nl_n, mm_nl_i, mm_nl_r, mm_args_n, mm_args_i, mm_args_l, mm_args_r, mm_pad_0, mm_pad_n, mm_pad_c, List.length_cons, List.length_nil, List.nil_append, List.cons_append, Nat.zero_le, Nat.sub_zero, true_and, and_true, Nat.reduceAdd, Nat.reduceLeDiff, Nat.reduceLT, Nat.reduceSub, Nat.lt_irrefl, Nat.zero_add, Nat.add_zero, k_20, k_10, k_01, mm_if_T, mm_if_F, not_true_eq_false, not_false_eq_true, s2, s3, mm_if_t (nI_le (Nat.le_refl k) (show k < 2 ^ 31 by omega)), e_21 (d + 4) (show 11 < 20 by omega) hn hL hR, g_fb_bI, f1, e_165 (d + 4) _ f5, f2]
    simp only [mm_if]
    by_cases hy : y = 0
    · rw [if_pos hy] at hp
      exact ⟨fun q => by first | exact hp | exact absurd hy q | exact absurd q hy, fun q => by first | exact hp | exact absurd hy q | exact absurd q hy⟩
    · rw [if_neg hy] at hp
      exact ⟨fun q => by first | exact hp | exact absurd hy q | exact absurd q hy, fun q => by first | exact hp | exact absurd hy q | exact absurd q hy⟩
  | succ m ih =>
    intro k M1 hk hL hR hF
    have q3 : ¬ nI N ≤ nI k := nI_ge (by omega) (by omega)
    rw [eK_75_3]
    simp only [eK_75_0, eK_75_1, eK_75_2, eK_75_4, eK_75_5, eK_75_6, pw_aload, pw_aload_n, pw_astore, pw_bipush, pw_getfield, pw_goto, pw_iconst, pw_ifCond, pw_if_icmp, pw_iinc, pw_iload, pw_iload_n, pw_invokestatic, pw_invokevirtual, pw_ireturn, pw_istore, pw_nop0, pw_sipush, mm_pI_c, mm_pL_c, mm_pA_c, mm_pR_c, mm_p1_i, mm_p1_r, mm_pN_0, mm_pN_s, mm_lI_c, mm_lL_c, mm_lA_c, mm_wd_n, mm_wd_i, mm_wd_l, mm_wd_r, mm_gf_i, mm_gf_b, mm_gf_r, mm_rf_c, mm_pf_i, mm_pf_b, mm_pf_r, mm_rt_v, mm_rt_i, mm_rt_r, mm_c_eq, mm_c_ne, mm_c_lt, mm_c_ge, mm_c_gt, mm_c_le, mm_sw_n, mm_sw_c, mm_alc_n, mm_alc_c, mm_rc_n, mm_rc_c, reduceCtorEq, false_implies, implies_true, true_implies, true_or, or_true, false_or, or_false, not_false_eq_true, mm_at_0, mm_at_s, mm_set_0, mm_set_s, mm_nl_n, mm_nl_i, mm_nl_r, mm_args_n, mm_args_i, mm_args_l, mm_args_r, mm_pad_0, mm_pad_n, mm_pad_c, List.length_cons, List.length_nil, List.nil_append, List.cons_append, Nat.zero_le, Nat.sub_zero, true_and, and_true, Nat.reduceAdd, Nat.reduceLeDiff, Nat.reduceLT, Nat.reduceSub, Nat.lt_irrefl, Nat.zero_add, Nat.add_zero, k_20, k_10, k_01, mm_if_T, mm_if_F, not_true_eq_false, not_false_eq_true, mm_if_f q3, nI_1, e_94, g_dwN hz (show k ≤ 60 by omega)]
    refine t_95 d (s := 11) (by omega) hn h1n hL hR (dwN z k) (dwN_lt z k) (fun M' hR' hF' => ?_)
    simp only [eK_75_0, eK_75_1, eK_75_2, eK_75_4, eK_75_5, eK_75_6, pw_aload, pw_aload_n, pw_astore, pw_bipush, pw_getfield, pw_goto, pw_iconst, pw_ifCond, pw_if_icmp, pw_iinc, pw_iload, pw_iload_n, pw_invokestatic, pw_invokevirtual, pw_ireturn, pw_istore, pw_nop0, pw_sipush, mm_pI_c, mm_pL_c, mm_pA_c, mm_pR_c, mm_p1_i, mm_p1_r, mm_pN_0, mm_pN_s, mm_lI_c, mm_lL_c, mm_lA_c, mm_wd_n, mm_wd_i, mm_wd_l, mm_wd_r, mm_gf_i, mm_gf_b, mm_gf_r, mm_rf_c, mm_pf_i, mm_pf_b, mm_pf_r, mm_rt_v, mm_rt_i, mm_rt_r, mm_c_eq, mm_c_ne, mm_c_lt, mm_c_ge, mm_c_gt, mm_c_le, mm_sw_n, mm_sw_c, mm_alc_n, mm_alc_c, mm_rc_n, mm_rc_c, reduceCtorEq, false_implies, implies_true, true_implies, true_or, or_true, false_or, or_false, not_false_eq_true, mm_at_0, mm_at_s, mm_set_0, mm_set_s, mm_nl_n, mm_nl_i, mm_nl_r, mm_args_n, mm_args_i, mm_args_l, mm_args_r, mm_pad_0, mm_pad_n, mm_pad_c, List.length_cons, List.length_nil, List.nil_append, List.cons_append, Nat.zero_le, Nat.sub_zero, true_and, and_true, Nat.reduceAdd, Nat.reduceLeDiff, Nat.reduceLT, Nat.reduceSub, Nat.lt_irrefl, Nat.zero_add, Nat.add_zero, k_20, k_10, k_01, mm_if_T, mm_if_F, not_true_eq_false, not_false_eq_true, mm_rt_v, List.nil_append]
    refine t_23 d (s := 11) (by omega) hn (LyS_2 hF'.1 hL) hR' (fun M2 hR2 hF2 => ?_)
    simp only [eK_75_0, eK_75_1, eK_75_2, eK_75_4, eK_75_5, eK_75_6, pw_aload, pw_aload_n, pw_astore, pw_bipush, pw_getfield, pw_goto, pw_iconst, pw_ifCond, pw_if_icmp, pw_iinc, pw_iload, pw_iload_n, pw_invokestatic, pw_invokevirtual, pw_ireturn, pw_istore, pw_nop0, pw_sipush, mm_pI_c, mm_pL_c, mm_pA_c, mm_pR_c, mm_p1_i, mm_p1_r, mm_pN_0, mm_pN_s, mm_lI_c, mm_lL_c, mm_lA_c, mm_wd_n, mm_wd_i, mm_wd_l, mm_wd_r, mm_gf_i, mm_gf_b, mm_gf_r, mm_rf_c, mm_pf_i, mm_pf_b, mm_pf_r, mm_rt_v, mm_rt_i, mm_rt_r, mm_c_eq, mm_c_ne, mm_c_lt, mm_c_ge, mm_c_gt, mm_c_le, mm_sw_n, mm_sw_c, mm_alc_n, mm_alc_c, mm_rc_n, mm_rc_c, reduceCtorEq, false_implies, implies_true, true_implies, true_or, or_true, false_or, or_false, not_false_eq_true, mm_at_0, mm_at_s, mm_set_0, mm_set_s, mm_nl_n, mm_nl_i, mm_nl_r, mm_args_n, mm_args_i, mm_args_l, mm_args_r, mm_pad_0, mm_pad_n, mm_pad_c, List.length_cons, List.length_nil, List.nil_append, List.cons_append, Nat.zero_le, Nat.sub_zero, true_and, and_true, Nat.reduceAdd, Nat.reduceLeDiff, Nat.reduceLT, Nat.reduceSub, Nat.lt_irrefl, Nat.zero_add, Nat.add_zero, k_20, k_10, k_01, mm_if_T, mm_if_F, not_true_eq_false, not_false_eq_true, mm_rt_v, List.nil_append, nI_1]
    exact ih (k + 1) M2 (by omega) (LyS_2 (hF2.1.trans hF'.1) hL) hR2 (FS_tr hF (FS_tr hF' hF2))

set_option maxHeartbeats 4000000 in
theorem C75 (d : Nat) {n : Nat} {X : Sx} {a : Nat} {P : Nat → Sx} {b : Nat} {K : Nat → Sx} {M : mm_M} {post : mm_Post} (hI : I1 M n X a P b K) (h1n : 1 ≤ n) (z x y : Int32) (h : ∀ M', I1 M' n X a P b K → FX M M' → post (some (.inl (G75 n X z x y))) M') : pC (d + 6) 75 [.inr (.inr (5, 0)), .inl z, .inl x, .inl y] M post := by
  obtain ⟨ps, hC, hn, hR, hW, ha, ha2, hP, hb, hb2, hK⟩ := id hI
  by_cases hval : ((0 ≤ z ∧ z ≤ 9999) ∧ (1 ≤ x ∧ x ≤ 60)) ∧ (0 ≤ y ∧ y ≤ 1)
  · obtain ⟨Z, hZ, rfl⟩ := nI_of2 (M := 9999) (n := 9999) (by decide) (Int32.not_lt.mpr hval.1.1.1) hval.1.1.2
    have h0x : (0 : Int32) ≤ x := Int32.le_trans (by decide) hval.1.2.1
    obtain ⟨N, hN, rfl⟩ := nI_of2 (M := 60) (n := 60) (by decide) (Int32.not_lt.mpr h0x) hval.1.2.2
    have q2 : (nI N).toNatClampNeg = N := nI_clamp (by omega)
    have q3 : (nI Z).toNatClampNeg = Z := nI_clamp (by omega)
    unfold G75 at h
    rw [if_pos hval, q2, q3] at h
    obtain ⟨⟨v1, v2⟩, v3⟩ := hval
    simp only [eC_75, eK_75_0, eK_75_1, eK_75_2, eK_75_4, eK_75_5, eK_75_6, pw_aload, pw_aload_n, pw_astore, pw_bipush, pw_getfield, pw_goto, pw_iconst, pw_ifCond, pw_if_icmp, pw_iinc, pw_iload, pw_iload_n, pw_invokestatic, pw_invokevirtual, pw_ireturn, pw_istore, pw_nop0, pw_sipush, mm_pI_c, mm_pL_c, mm_pA_c, mm_pR_c, mm_p1_i, mm_p1_r, mm_pN_0, mm_pN_s, mm_lI_c, mm_lL_c, mm_lA_c, mm_wd_n, mm_wd_i, mm_wd_l, mm_wd_r, mm_gf_i, mm_gf_b, mm_gf_r, mm_rf_c, mm_pf_i, mm_pf_b, mm_pf_r, mm_rt_v, mm_rt_i, mm_rt_r, mm_c_eq, mm_c_ne, mm_c_lt, mm_c_ge, mm_c_gt, mm_c_le, mm_sw_n, mm_sw_c, mm_alc_n, mm_alc_c, mm_rc_n, mm_rc_c, reduceCtorEq, false_implies, implies_true, true_implies, true_or, or_true, false_or, or_false, not_false_eq_true, mm_at_0, mm_at_s, mm_set_0, mm_set_s, mm_nl_n, mm_nl_i, mm_nl_r, mm_args_n, mm_args_i, mm_args_l, mm_args_r, mm_pad_0, mm_pad_n, mm_pad_c, List.length_cons, List.length_nil, List.nil_append, List.cons_append, Nat.zero_le, Nat.sub_zero, true_and, and_true, Nat.reduceAdd, Nat.reduceLeDiff, Nat.reduceLT, Nat.reduceSub, Nat.lt_irrefl, Nat.zero_add, Nat.add_zero, k_20, k_10, k_01, mm_if_T, mm_if_F, not_true_eq_false, not_false_eq_true, t_82, v1, v2, v3, tf_0]
    refine t_86 (d + 2) hn hC hR hW (fun M1 hR1 hF1 => ?_)
    simp only [mm_rt_r, List.cons_append, List.nil_append]
    simp only [eC_75, eK_75_0, eK_75_1, eK_75_2, eK_75_4, eK_75_5, eK_75_6, pw_aload, pw_aload_n, pw_astore, pw_bipush, pw_getfield, pw_goto, pw_iconst, pw_ifCond, pw_if_icmp, pw_iinc, pw_iload, pw_iload_n, pw_invokestatic, pw_invokevirtual, pw_ireturn, pw_istore, pw_nop0, pw_sipush, mm_pI_c, mm_pL_c, mm_pA_c, mm_pR_c, mm_p1_i, mm_p1_r, mm_pN_0, mm_pN_s, mm_lI_c, mm_lL_c, mm_lA_c, mm_wd_n, mm_wd_i, mm_wd_l, mm_wd_r, mm_gf_i, mm_gf_b, mm_gf_r, mm_rf_c, mm_pf_i, mm_pf_b, mm_pf_r, mm_rt_v, mm_rt_i, mm_rt_r, mm_c_eq, mm_c_ne, mm_c_lt, mm_c_ge, mm_c_gt, mm_c_le, mm_sw_n, mm_sw_c, mm_alc_n, mm_alc_c, mm_rc_n, mm_rc_c, reduceCtorEq, false_implies, implies_true, true_implies, true_or, or_true, false_or, or_false, not_false_eq_true, mm_at_0, mm_at_s, mm_set_0, mm_set_s, mm_nl_n, mm_nl_i, mm_nl_r, mm_args_n, mm_args_i, mm_args_l, mm_args_r, mm_pad_0, mm_pad_n, mm_pad_c, List.length_cons, List.length_nil, List.nil_append, List.cons_append, Nat.zero_le, Nat.sub_zero, true_and, and_true, Nat.reduceAdd, Nat.reduceLeDiff, Nat.reduceLT, Nat.reduceSub, Nat.lt_irrefl, Nat.zero_add, Nat.add_zero, k_20, k_10, k_01, mm_if_T, mm_if_F, not_true_eq_false, not_false_eq_true]
    exact l_75 d hn h1n Z N hZ hN y (fun M' hF' => h M' (I1_tr hI (FS_tr hF1 hF') (by omega)) (FX_S (FS_tr hF1 hF'))) N 0 M1 (by omega) (LyS_2 hF1.1 hC.1) hR1 (FS_rf _ _)
  · have e : G75 n X z x y = -1 := if_neg hval
    rw [e] at h
    have hM := h M hI (FX_rf M)
    simp only [eC_75, eK_75_0, eK_75_1, eK_75_2, eK_75_4, eK_75_5, eK_75_6, pw_aload, pw_aload_n, pw_astore, pw_bipush, pw_getfield, pw_goto, pw_iconst, pw_ifCond, pw_if_icmp, pw_iinc, pw_iload, pw_iload_n, pw_invokestatic, pw_invokevirtual, pw_ireturn, pw_istore, pw_nop0, pw_sipush, mm_pI_c, mm_pL_c, mm_pA_c, mm_pR_c, mm_p1_i, mm_p1_r, mm_pN_0, mm_pN_s, mm_lI_c, mm_lL_c, mm_lA_c, mm_wd_n, mm_wd_i, mm_wd_l, mm_wd_r, mm_gf_i, mm_gf_b, mm_gf_r, mm_rf_c, mm_pf_i, mm_pf_b, mm_pf_r, mm_rt_v, mm_rt_i, mm_rt_r, mm_c_eq, mm_c_ne, mm_c_lt, mm_c_ge, mm_c_gt, mm_c_le, mm_sw_n, mm_sw_c, mm_alc_n, mm_alc_c, mm_rc_n, mm_rc_c, reduceCtorEq, false_implies, implies_true, true_implies, true_or, or_true, false_or, or_false, not_false_eq_true, mm_at_0, mm_at_s, mm_set_0, mm_set_s, mm_nl_n, mm_nl_i, mm_nl_r, mm_args_n, mm_args_i, mm_args_l, mm_args_r, mm_pad_0, mm_pad_n, mm_pad_c, List.length_cons, List.length_nil, List.nil_append, List.cons_append, Nat.zero_le, Nat.sub_zero, true_and, and_true, Nat.reduceAdd, Nat.reduceLeDiff, Nat.reduceLT, Nat.reduceSub, Nat.lt_irrefl, Nat.zero_add, Nat.add_zero, k_20, k_10, k_01, mm_if_T, mm_if_F, not_true_eq_false, not_false_eq_true, t_82, tf_0]
    simp only [mm_if]
    grind

