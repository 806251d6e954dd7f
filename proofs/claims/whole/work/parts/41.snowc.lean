/-! THE CLASS: snow, the call -/
def g_fr (u l : Nat) (y : Int32) : Int32 := if y = 0 then nI (u / Nat.gcd u l) else nI (l / Nat.gcd u l)
def G74 (n : Nat) (X : Sx) (x m s y : Int32) : Int32 := if ((isw n x ∧ 0 ≤ m ∧ m ≤ 8) ∧ 0 ≤ s ∧ s ≤ 10) ∧ 0 ≤ y ∧ y ≤ 1 then g_fr (g_fs n x.toNatClampNeg s.toNatClampNeg m.toNatClampNeg X) (10 ^ m.toNatClampNeg) y else -1
theorem b7_p10 : ∀ k, k < 9 → 10 ^ k ≤ 100000000 := by decide +kernel

set_option maxHeartbeats 4000000 in
theorem C74 (d : Nat) {n : Nat} {X : Sx} {a : Nat} {P : Nat → Sx} {b : Nat} {K : Nat → Sx} {M : mm_M} {post : mm_Post} (hI : I1 M n X a P b K) (x m s y : Int32) (h : ∀ M', I1 M' n X a P b K → FX M M' → post (some (.inl (G74 n X x m s y))) M') : pC (d + 20) 74 [.inr (.inr (5, 0)), .inl x, .inl m, .inl s, .inl y] M post := by
  obtain ⟨ps, hC, hn, hR, hW, ha, ha2, hP, hb, hb2, hK⟩ := id hI
  by_cases hval : ((isw n x ∧ 0 ≤ m ∧ m ≤ 8) ∧ 0 ≤ s ∧ s ≤ 10) ∧ 0 ≤ y ∧ y ≤ 1
  · obtain ⟨⟨⟨v1, v2⟩, v3⟩, v4⟩ := id hval
    obtain ⟨w, hw, rfl⟩ := isw_of hn v1
    obtain ⟨q1, q2, q3⟩ := nI_v7 hw hn
    obtain ⟨N, hN, rfl⟩ := nI_of2 (M := 8) (n := 8) (by decide) (Int32.not_lt.mpr v2.1) v2.2
    obtain ⟨S, hS, rfl⟩ := nI_of2 (M := 10) (n := 10) (by decide) (Int32.not_lt.mpr v3.1) v3.2
    have p2 : (nI N).toNatClampNeg = N := nI_clamp (by omega)
    have p3 : (nI S).toNatClampNeg = S := nI_clamp (by omega)
    unfold G74 at h
    rw [if_pos hval, q2, p2, p3] at h
    have u1 := g_fs_le (n := n) (w := w) hS N X
    have u2 := b7_p10 N (by omega)
    have u3 : 0 < 10 ^ N := Nat.pow_pos (by decide)
    have u4 : 0 < Nat.gcd (g_fs n w S N X) (10 ^ N) := Nat.gcd_pos_of_pos_right _ u3
    have u5 : Nat.gcd (g_fs n w S N X) (10 ^ N) ≤ 10 ^ N := Nat.gcd_le_right _ u3
    have u6 : ¬ nI (Nat.gcd (g_fs n w S N X) (10 ^ N)) ≤ (0 : Int32) := nI_ge (a := 0) (by omega) (by omega)
    have u7 : ¬ nI (Nat.gcd (g_fs n w S N X) (10 ^ N)) = 0 := nI_ne0 (by omega) (by omega)
    have u8 : nI (g_fs n w S N X) / nI (Nat.gcd (g_fs n w S N X) (10 ^ N)) = nI (g_fs n w S N X / Nat.gcd (g_fs n w S N X) (10 ^ N)) := pk_div (by omega) (by omega) (by omega)
    have u9 : nI (10 ^ N) / nI (Nat.gcd (g_fs n w S N X) (10 ^ N)) = nI (10 ^ N / Nat.gcd (g_fs n w S N X) (10 ^ N)) := pk_div (by omega) (by omega) (by omega)
    simp only [eC_74, eK_74_0, eK_74_1, eK_74_2, eK_74_3, eK_74_4, eK_74_5, eK_74_6, pw_aload_n, pw_bipush, pw_goto, pw_iconst, pw_idiv, pw_ifCond, pw_iload, pw_iload_n, pw_invokestatic, pw_invokevirtual, pw_ireturn, pw_istore, pw_nop0, pw_pop, mm_pI_c, mm_pL_c, mm_pA_c, mm_pR_c, mm_p1_i, mm_p1_r, mm_pN_0, mm_pN_s, mm_lI_c, mm_lL_c, mm_lA_c, mm_wd_n, mm_wd_i, mm_wd_l, mm_wd_r, mm_gf_i, mm_gf_b, mm_gf_r, mm_rf_c, mm_pf_i, mm_pf_b, mm_pf_r, mm_rt_v, mm_rt_i, mm_rt_r, mm_c_eq, mm_c_ne, mm_c_lt, mm_c_ge, mm_c_gt, mm_c_le, mm_sw_n, mm_sw_c, mm_alc_n, mm_alc_c, mm_rc_n, mm_rc_c, reduceCtorEq, false_implies, implies_true, true_implies, true_or, or_true, false_or, or_false, not_false_eq_true, mm_at_0, mm_at_s, mm_set_0, mm_set_s, mm_nl_n, mm_nl_i, mm_nl_r, mm_args_n, mm_args_i, mm_args_l, mm_args_r, mm_pad_0, mm_pad_n, mm_pad_c, List.length_cons, List.length_nil, List.nil_append, List.cons_append, Nat.zero_le, Nat.sub_zero, true_and, and_true, Nat.reduceAdd, Nat.reduceLeDiff, Nat.reduceLT, Nat.reduceSub, Nat.lt_irrefl, Nat.zero_add, Nat.add_zero, k_20, k_10, k_01, mm_if_T, mm_if_F, not_true_eq_false, not_false_eq_true, e_79 (d + 17) hC hR.1, t_82, v1, v2, v3, v4, tf_0]
    refine t_86 (d + 16) hn hC hR hW (fun M1 hR1 hF1 => ?_)
    simp only [eC_74, eK_74_0, eK_74_1, eK_74_2, eK_74_3, eK_74_4, eK_74_5, eK_74_6, pw_aload_n, pw_bipush, pw_goto, pw_iconst, pw_idiv, pw_ifCond, pw_iload, pw_iload_n, pw_invokestatic, pw_invokevirtual, pw_ireturn, pw_istore, pw_nop0, pw_pop, mm_pI_c, mm_pL_c, mm_pA_c, mm_pR_c, mm_p1_i, mm_p1_r, mm_pN_0, mm_pN_s, mm_lI_c, mm_lL_c, mm_lA_c, mm_wd_n, mm_wd_i, mm_wd_l, mm_wd_r, mm_gf_i, mm_gf_b, mm_gf_r, mm_rf_c, mm_pf_i, mm_pf_b, mm_pf_r, mm_rt_v, mm_rt_i, mm_rt_r, mm_c_eq, mm_c_ne, mm_c_lt, mm_c_ge, mm_c_gt, mm_c_le, mm_sw_n, mm_sw_c, mm_alc_n, mm_alc_c, mm_rc_n, mm_rc_c, reduceCtorEq, false_implies, implies_true, true_implies, true_or, or_true, false_or, or_false, not_false_eq_true, mm_at_0, mm_at_s, mm_set_0, mm_set_s, mm_nl_n, mm_nl_i, mm_nl_r, mm_args_n, mm_args_i, mm_args_l, mm_args_r, mm_pad_0, mm_pad_n, mm_pad_c, List.length_cons, List.length_nil, List.nil_append, List.cons_append, Nat.zero_le, Nat.sub_zero, true_and, and_true, Nat.reduceAdd, Nat.reduceLeDiff, Nat.reduceLT, Nat.reduceSub, Nat.lt_irrefl, Nat.zero_add, Nat.add_zero, k_20, k_10, k_01, mm_if_T, mm_if_F, not_true_eq_false, not_false_eq_true, mm_rt_r, List.cons_append, List.nil_append]
    have e : d + 19 = (d + (13 - N)) + N + 6 := by omega
    rw [e]
    refine t_91 (d + (13 - N)) hn hw hS N hN N 0 X M1 _ (by omega) (LyC_2 hF1.1 hC) hR1 hW (fun M2 hF2 => ?_)
    rw [← e]
    have hF : FT M M2 11 := FT_tr (FT_S hF1) hF2 (by omega)
    have hp := h M2 (I1_T hF hI) (FX_T hF)
    simp only [eC_74, eK_74_0, eK_74_1, eK_74_2, eK_74_3, eK_74_4, eK_74_5, eK_74_6, pw_aload_n, pw_bipush, pw_goto, pw_iconst, pw_idiv, pw_ifCond, pw_iload, pw_iload_n, pw_invokestatic, pw_invokevirtual, pw_ireturn, pw_istore, pw_nop0, pw_pop, mm_pI_c, mm_pL_c, mm_pA_c, mm_pR_c, mm_p1_i, mm_p1_r, mm_pN_0, mm_pN_s, mm_lI_c, mm_lL_c, mm_lA_c, mm_wd_n, mm_wd_i, mm_wd_l, mm_wd_r, mm_gf_i, mm_gf_b, mm_gf_r, mm_rf_c, mm_pf_i, mm_pf_b, mm_pf_r, mm_rt_v, mm_rt_i, mm_rt_r, mm_c_eq, mm_c_ne, mm_c_lt, mm_c_ge, mm_c_gt, mm_c_le, mm_sw_n, mm_sw_c, mm_alc_n, mm_alc_c, mm_rc_n, mm_rc_c, reduceCtorEq, false_implies, implies_true, true_implies, true_or, or_true, false_or, or_false, not_false_eq_true, mm_at_0, mm_at_s, mm_set_0, mm_set_s, mm_nl_n, mm_nl_i, mm_nl_r, mm_args_n, mm_args_i, mm_args_l, mm_args_r, mm_pad_0, mm_pad_n, mm_pad_c, List.length_cons, List.length_nil, List.nil_append, List.cons_append, Nat.zero_le, Nat.sub_zero, true_and, and_true, Nat.reduceAdd, Nat.reduceLeDiff, Nat.reduceLT, Nat.reduceSub, Nat.lt_irrefl, Nat.zero_add, Nat.add_zero, k_20, k_10, k_01, mm_if_T, mm_if_F, not_true_eq_false, not_false_eq_true, e_92 (d + 18) N hN, e_93 (d + 18) _ _ u1 u2 u3, mm_if_f u6, u7, u8, u9, mm_if_v]
    unfold g_fr at hp
    clear hI h e
    grind
  · have e : G74 n X x m s y = -1 := if_neg hval
    rw [e] at h
    have hM := h M hI (FX_rf M)
    simp only [eC_74, eK_74_0, eK_74_1, eK_74_2, eK_74_3, eK_74_4, eK_74_5, eK_74_6, pw_aload_n, pw_bipush, pw_goto, pw_iconst, pw_idiv, pw_ifCond, pw_iload, pw_iload_n, pw_invokestatic, pw_invokevirtual, pw_ireturn, pw_istore, pw_nop0, pw_pop, mm_pI_c, mm_pL_c, mm_pA_c, mm_pR_c, mm_p1_i, mm_p1_r, mm_pN_0, mm_pN_s, mm_lI_c, mm_lL_c, mm_lA_c, mm_wd_n, mm_wd_i, mm_wd_l, mm_wd_r, mm_gf_i, mm_gf_b, mm_gf_r, mm_rf_c, mm_pf_i, mm_pf_b, mm_pf_r, mm_rt_v, mm_rt_i, mm_rt_r, mm_c_eq, mm_c_ne, mm_c_lt, mm_c_ge, mm_c_gt, mm_c_le, mm_sw_n, mm_sw_c, mm_alc_n, mm_alc_c, mm_rc_n, mm_rc_c, reduceCtorEq, false_implies, implies_true, true_implies, true_or, or_true, false_or, or_false, not_false_eq_true, mm_at_0, mm_at_s, mm_set_0, mm_set_s, mm_nl_n, mm_nl_i, mm_nl_r, mm_args_n, mm_args_i, mm_args_l, mm_args_r, mm_pad_0, mm_pad_n, mm_pad_c, List.length_cons, List.length_nil, List.nil_append, List.cons_append, Nat.zero_le, Nat.sub_zero, true_and, and_true, Nat.reduceAdd, Nat.reduceLeDiff, Nat.reduceLT, Nat.reduceSub, Nat.lt_irrefl, Nat.zero_add, Nat.add_zero, k_20, k_10, k_01, mm_if_T, mm_if_F, not_true_eq_false, not_false_eq_true, e_79 (d + 17) hC hR.1, t_82, tf_0]
    simp only [mm_if]
    clear hI h
    grind

