/-! THE REFERENCE: years -/
set_option maxHeartbeats 4000000 in
theorem r_159 (d : Nat) {M : mm_M} {post : mm_Post} {B n : Nat} {X : Sx} (hL : LyM M) (hB : B ≤ 429) (hn : n ≤ 7) (hM : RM M n X.1.1) (hR : RB M B n X) (hW : WF n X.1.1) (h1n : 1 ≤ n) (D : Nat) (hD : D < 65521) (h : ∀ M', RB M' B n (g_ac n X.1 D, X.2) → FB M M' B → post none M') : pC (d + 3) 159 [.inr (.inr (6, 0)), .inl (nI B), .inl (nI D)] M post := by
  have l1 := hL.1.2.2.2.2.2.2.1
  have l2 : mm_L M 7 11 = 468 := hL.2.2.2.2.2.2.2.1
  have a1 := hL.1.1
  have a2 := hL.1.2.1
  have a5 := hL.1.2.2.1
  have a3 : mm_L M 7 5 = 7 := hL.2.1
  have a4 : mm_L M 7 6 = 7 := hL.2.2.1
  have a6 : mm_L M 7 7 = 7 := hL.2.2.2.1
  have hm := hM.1
  have hw : D / 8 % n < n := Nat.mod_lt _ h1n
  have hn0 : ¬ nI n = 0 := nI_ne0 (by omega) (by omega)
  have d8 : nI D / 8 = nI (D / 8) := pk_div (d := 8) (by omega) (by omega) (by omega)
  have d64 : nI D / 64 = nI (D / 64) := pk_div (d := 64) (by omega) (by omega) (by omega)
  have d512 : nI D / 512 = nI (D / 512) := pk_div (d := 512) (by omega) (by omega) (by omega)
  have m8 : nI D - nI (D / 8) * 8 = nI (D % 8) := by rw [← d8]; exact pk_rem (d := 8) (by omega) (by omega) (by omega)
  have mn : nI (D / 8) - nI (D / 8) / nI n * nI n = nI (D / 8 % n) := pk_rem (by omega) (by omega) (by omega)
  have m9 : nI (D / 64) - nI (D / 64) / 9 * 9 = nI (D / 64 % 9) := pk_rem (d := 9) (by omega) (by omega) (by omega)
  have m41 : nI (D / 64) - nI (D / 64) / 41 * 41 = nI (D / 64 % 41) := pk_rem (d := 41) (by omega) (by omega) (by omega)
  have m5 : nI (D / 512) - nI (D / 512) / 5 * 5 = nI (D / 512 % 5) := pk_rem (d := 5) (by omega) (by omega) (by omega)
  have m24 : nI (D / 512) - nI (D / 512) / 24 * 24 = nI (D / 512 % 24) := pk_rem (d := 24) (by omega) (by omega) (by omega)
  have hk8 : D % 8 < 8 := Nat.mod_lt _ (by decide)
  have nz8 : ¬ (8 : Int32) = 0 := by decide
  have nz64 : ¬ (64 : Int32) = 0 := by decide
  have nz512 : ¬ (512 : Int32) = 0 := by decide
  have nz9 : ¬ (9 : Int32) = 0 := by decide
  have nz41 : ¬ (41 : Int32) = 0 := by decide
  have nz5 : ¬ (5 : Int32) = 0 := by decide
  have nz24 : ¬ (24 : Int32) = 0 := by decide
  unfold g_ac at h
  have h5 := wf_5 hW hw
  by_cases c01 : D % 8 = 0 ∨ D % 8 = 1
  · rw [if_pos c01] at h
    have f1 : ¬ (2 : Int32) ≤ nI (D % 8) := nI_ge (b := 2) (by omega) (by omega)
    have f2 : ¬ ((2 : Int32) ≤ nI (D % 8) ∧ nI (D % 8) ≤ 3) := fun z => f1 z.1
    have f3 : ¬ nI (D % 8) = 4 := fun z => by have := (nI_eq (a := D % 8) (b := 4) (by omega) (by omega)).mp z; omega
    by_cases c : ¬ 1 ≤ X.1.1 (D / 8 % n) 5 ∧ X.1.1 (D / 8 % n) 4 = 0 ∧ nI (D / 64 % 9 + 1) ≤ X.1.2.1 ∧ nI (D / 512 % 5) ≤ X.1.2.2
    · rw [if_pos c] at h
      simp (disch := omega) only [eC_159, eK_159_0, eK_159_1, eK_159_2, eK_159_3, pw_bipush, pw_goto, pw_iconst, pw_ldc2_w, pw_nop0, pw_return_, pw_sipush, qw_aload_n0, qw_gf_b, qw_gf_i, qw_gf_r, qw_i2l, qw_iadd, qw_iastore, qw_idiv, qw_if_eq, qw_if_icmp_ge, qw_if_icmp_ne, qw_iload4, qw_iload_n1, qw_iload_n2, qw_iload_n3, qw_invokestatic3, qw_invokevirtual3, qw_invokevirtual5, qw_irem, qw_istore4, qw_istore_n3, mm_rf_c, mm_rt_v, mm_rt_i, mm_rt_r, mm_alc_n, mm_alc_c, mm_rc_n, mm_rc_c, mm_wd_n, mm_wd_i, mm_wd_l, mm_wd_r, reduceCtorEq, false_implies, implies_true, true_implies, true_or, or_true, false_or, or_false, not_false_eq_true, mm_nl_n, mm_nl_i, mm_nl_r, mm_args_n, mm_args_i, mm_args_l, mm_args_r, mm_pad_0, mm_pad_n, mm_pad_c, List.length_cons, List.length_nil, List.nil_append, List.cons_append, Nat.zero_le, Nat.sub_zero, true_and, and_true, Nat.reduceAdd, Nat.reduceLeDiff, Nat.reduceLT, Nat.reduceSub, Nat.lt_irrefl, Nat.zero_add, Nat.add_zero, Nat.le_refl, k_20, k_10, k_01, ↓mm_if_T, ↓mm_if_F, ↓if10, ↓if00, not_true_eq_false, tf_01, ↓mm_if_tf, ↓mm_if_tn, ↓mm_if_nn, hm, hn0, d8, d64, d512, m8, mn, m9, m41, m5, m24, nz8, nz64, nz512, nz9, nz41, nz5, nz24, nI_1, l1, l2, a1, a2, a3, a4, a5, a6, nI_c7, nI_c8, nI_c15, nI_c22, nI_c29, nI_c36, nI_c361, nI_c38, nI_add, vi_, ci_, mm_L_s, mm_R_s, mm_I_c, mm_I_i, mm_I_k, mm_I_s, r_134 d hL hB hn hW hR hw, r_97 (d + 1) (nI (D % 8)) 2 3, r_121 (d + 1) hL hB hn hR hw hW, r_135 (d + 1) hL hB hn hR hw, ↓mm_if_f f1, ↓mm_if_t c]
      exact h _ (RB_pours hB hn hR hw _ _) (FB_s (FB_s (FB_s (FB_s (FB_s (FB_rf M B) (by omega)) (by omega)) (by omega)) (by omega)) (by omega))
    · rw [if_neg c] at h
      simp (disch := omega) only [eC_159, eK_159_0, eK_159_1, eK_159_2, eK_159_3, pw_bipush, pw_goto, pw_iconst, pw_ldc2_w, pw_nop0, pw_return_, pw_sipush, qw_aload_n0, qw_gf_b, qw_gf_i, qw_gf_r, qw_i2l, qw_iadd, qw_iastore, qw_idiv, qw_if_eq, qw_if_icmp_ge, qw_if_icmp_ne, qw_iload4, qw_iload_n1, qw_iload_n2, qw_iload_n3, qw_invokestatic3, qw_invokevirtual3, qw_invokevirtual5, qw_irem, qw_istore4, qw_istore_n3, mm_rf_c, mm_rt_v, mm_rt_i, mm_rt_r, mm_alc_n, mm_alc_c, mm_rc_n, mm_rc_c, mm_wd_n, mm_wd_i, mm_wd_l, mm_wd_r, reduceCtorEq, false_implies, implies_true, true_implies, true_or, or_true, false_or, or_false, not_false_eq_true, mm_nl_n, mm_nl_i, mm_nl_r, mm_args_n, mm_args_i, mm_args_l, mm_args_r, mm_pad_0, mm_pad_n, mm_pad_c, List.length_cons, List.length_nil, List.nil_append, List.cons_append, Nat.zero_le, Nat.sub_zero, true_and, and_true, Nat.reduceAdd, Nat.reduceLeDiff, Nat.reduceLT, Nat.reduceSub, Nat.lt_irrefl, Nat.zero_add, Nat.add_zero, Nat.le_refl, k_20, k_10, k_01, ↓mm_if_T, ↓mm_if_F, ↓if10, ↓if00, not_true_eq_false, tf_01, ↓mm_if_tf, ↓mm_if_tn, ↓mm_if_nn, hm, hn0, d8, d64, d512, m8, mn, m9, m41, m5, m24, nz8, nz64, nz512, nz9, nz41, nz5, nz24, nI_1, l1, l2, a1, a2, a3, a4, a5, a6, nI_c7, nI_c8, nI_c15, nI_c22, nI_c29, nI_c36, nI_c361, nI_c38, nI_add, vi_, ci_, mm_L_s, mm_R_s, mm_I_c, mm_I_i, mm_I_k, mm_I_s, r_134 d hL hB hn hW hR hw, r_97 (d + 1) (nI (D % 8)) 2 3, r_121 (d + 1) hL hB hn hR hw hW, r_135 (d + 1) hL hB hn hR hw, ↓mm_if_f f1, ↓mm_if_f f2, ↓mm_if_f f3, ↓mm_if_f c]
      exact h M hR (FB_rf M B)
  rw [if_neg c01] at h
  have f1 : (2 : Int32) ≤ nI (D % 8) := nI_le (a := 2) (by omega) (by omega)
  by_cases c23 : D % 8 = 2 ∨ D % 8 = 3
  · rw [if_pos c23] at h
    have f2 : ((2 : Int32) ≤ nI (D % 8) ∧ nI (D % 8) ≤ 3) := ⟨f1, nI_le (b := 3) (by omega) (by omega)⟩
    have f3 : ¬ nI (D % 8) = 4 := fun z => by have := (nI_eq (a := D % 8) (b := 4) (by omega) (by omega)).mp z; omega
    by_cases c : 1 ≤ X.1.1 (D / 8 % n) 5
    · rw [if_pos c] at h
      simp (disch := omega) only [eC_159, eK_159_0, eK_159_1, eK_159_2, eK_159_3, pw_bipush, pw_goto, pw_iconst, pw_ldc2_w, pw_nop0, pw_return_, pw_sipush, qw_aload_n0, qw_gf_b, qw_gf_i, qw_gf_r, qw_i2l, qw_iadd, qw_iastore, qw_idiv, qw_if_eq, qw_if_icmp_ge, qw_if_icmp_ne, qw_iload4, qw_iload_n1, qw_iload_n2, qw_iload_n3, qw_invokestatic3, qw_invokevirtual3, qw_invokevirtual5, qw_irem, qw_istore4, qw_istore_n3, mm_rf_c, mm_rt_v, mm_rt_i, mm_rt_r, mm_alc_n, mm_alc_c, mm_rc_n, mm_rc_c, mm_wd_n, mm_wd_i, mm_wd_l, mm_wd_r, reduceCtorEq, false_implies, implies_true, true_implies, true_or, or_true, false_or, or_false, not_false_eq_true, mm_nl_n, mm_nl_i, mm_nl_r, mm_args_n, mm_args_i, mm_args_l, mm_args_r, mm_pad_0, mm_pad_n, mm_pad_c, List.length_cons, List.length_nil, List.nil_append, List.cons_append, Nat.zero_le, Nat.sub_zero, true_and, and_true, Nat.reduceAdd, Nat.reduceLeDiff, Nat.reduceLT, Nat.reduceSub, Nat.lt_irrefl, Nat.zero_add, Nat.add_zero, Nat.le_refl, k_20, k_10, k_01, ↓mm_if_T, ↓mm_if_F, ↓if10, ↓if00, not_true_eq_false, tf_01, ↓mm_if_tf, ↓mm_if_tn, ↓mm_if_nn, hm, hn0, d8, d64, d512, m8, mn, m9, m41, m5, m24, nz8, nz64, nz512, nz9, nz41, nz5, nz24, nI_1, l1, l2, a1, a2, a3, a4, a5, a6, nI_c7, nI_c8, nI_c15, nI_c22, nI_c29, nI_c36, nI_c361, nI_c38, nI_add, vi_, ci_, mm_L_s, mm_R_s, mm_I_c, mm_I_i, mm_I_k, mm_I_s, r_134 d hL hB hn hW hR hw, r_97 (d + 1) (nI (D % 8)) 2 3, r_121 (d + 1) hL hB hn hR hw hW, r_135 (d + 1) hL hB hn hR hw, ↓mm_if_t f1, ↓mm_if_t f2, ↓mm_if_t c]
      exact h _ (RB_ha hB hn hR hw (h5.mp c) _ _) (FB_s (FB_s (FB_rf M B) (by omega)) (by omega))
    · rw [if_neg c] at h
      simp (disch := omega) only [eC_159, eK_159_0, eK_159_1, eK_159_2, eK_159_3, pw_bipush, pw_goto, pw_iconst, pw_ldc2_w, pw_nop0, pw_return_, pw_sipush, qw_aload_n0, qw_gf_b, qw_gf_i, qw_gf_r, qw_i2l, qw_iadd, qw_iastore, qw_idiv, qw_if_eq, qw_if_icmp_ge, qw_if_icmp_ne, qw_iload4, qw_iload_n1, qw_iload_n2, qw_iload_n3, qw_invokestatic3, qw_invokevirtual3, qw_invokevirtual5, qw_irem, qw_istore4, qw_istore_n3, mm_rf_c, mm_rt_v, mm_rt_i, mm_rt_r, mm_alc_n, mm_alc_c, mm_rc_n, mm_rc_c, mm_wd_n, mm_wd_i, mm_wd_l, mm_wd_r, reduceCtorEq, false_implies, implies_true, true_implies, true_or, or_true, false_or, or_false, not_false_eq_true, mm_nl_n, mm_nl_i, mm_nl_r, mm_args_n, mm_args_i, mm_args_l, mm_args_r, mm_pad_0, mm_pad_n, mm_pad_c, List.length_cons, List.length_nil, List.nil_append, List.cons_append, Nat.zero_le, Nat.sub_zero, true_and, and_true, Nat.reduceAdd, Nat.reduceLeDiff, Nat.reduceLT, Nat.reduceSub, Nat.lt_irrefl, Nat.zero_add, Nat.add_zero, Nat.le_refl, k_20, k_10, k_01, ↓mm_if_T, ↓mm_if_F, ↓if10, ↓if00, not_true_eq_false, tf_01, ↓mm_if_tf, ↓mm_if_tn, ↓mm_if_nn, hm, hn0, d8, d64, d512, m8, mn, m9, m41, m5, m24, nz8, nz64, nz512, nz9, nz41, nz5, nz24, nI_1, l1, l2, a1, a2, a3, a4, a5, a6, nI_c7, nI_c8, nI_c15, nI_c22, nI_c29, nI_c36, nI_c361, nI_c38, nI_add, vi_, ci_, mm_L_s, mm_R_s, mm_I_c, mm_I_i, mm_I_k, mm_I_s, r_134 d hL hB hn hW hR hw, r_97 (d + 1) (nI (D % 8)) 2 3, r_121 (d + 1) hL hB hn hR hw hW, r_135 (d + 1) hL hB hn hR hw, ↓mm_if_t f1, ↓mm_if_t f2, ↓mm_if_f f3, ↓mm_if_f c]
      exact h M hR (FB_rf M B)
  rw [if_neg c23] at h
  have f2 : ¬ ((2 : Int32) ≤ nI (D % 8) ∧ nI (D % 8) ≤ 3) := fun z => by have := (nI_leI (a := D % 8) (b := 3) (by omega) (by omega)).mp z.2; omega
  by_cases c4 : D % 8 = 4
  · rw [if_pos c4] at h
    have f3 : nI (D % 8) = 4 := by rw [c4]; rfl
    by_cases c : 1 ≤ X.1.1 (D / 8 % n) 5
    · rw [if_pos c] at h
      have n0 := h5.mp c
      simp (disch := omega) only [eC_159, eK_159_0, eK_159_1, eK_159_2, eK_159_3, pw_bipush, pw_goto, pw_iconst, pw_ldc2_w, pw_nop0, pw_return_, pw_sipush, qw_aload_n0, qw_gf_b, qw_gf_i, qw_gf_r, qw_i2l, qw_iadd, qw_iastore, qw_idiv, qw_if_eq, qw_if_icmp_ge, qw_if_icmp_ne, qw_iload4, qw_iload_n1, qw_iload_n2, qw_iload_n3, qw_invokestatic3, qw_invokevirtual3, qw_invokevirtual5, qw_irem, qw_istore4, qw_istore_n3, mm_rf_c, mm_rt_v, mm_rt_i, mm_rt_r, mm_alc_n, mm_alc_c, mm_rc_n, mm_rc_c, mm_wd_n, mm_wd_i, mm_wd_l, mm_wd_r, reduceCtorEq, false_implies, implies_true, true_implies, true_or, or_true, false_or, or_false, not_false_eq_true, mm_nl_n, mm_nl_i, mm_nl_r, mm_args_n, mm_args_i, mm_args_l, mm_args_r, mm_pad_0, mm_pad_n, mm_pad_c, List.length_cons, List.length_nil, List.nil_append, List.cons_append, Nat.zero_le, Nat.sub_zero, true_and, and_true, Nat.reduceAdd, Nat.reduceLeDiff, Nat.reduceLT, Nat.reduceSub, Nat.lt_irrefl, Nat.zero_add, Nat.add_zero, Nat.le_refl, k_20, k_10, k_01, ↓mm_if_T, ↓mm_if_F, ↓if10, ↓if00, not_true_eq_false, tf_01, ↓mm_if_tf, ↓mm_if_tn, ↓mm_if_nn, hm, hn0, d8, d64, d512, m8, mn, m9, m41, m5, m24, nz8, nz64, nz512, nz9, nz41, nz5, nz24, nI_1, l1, l2, a1, a2, a3, a4, a5, a6, nI_c7, nI_c8, nI_c15, nI_c22, nI_c29, nI_c36, nI_c361, nI_c38, nI_add, vi_, ci_, mm_L_s, mm_R_s, mm_I_c, mm_I_i, mm_I_k, mm_I_s, r_134 d hL hB hn hW hR hw, r_97 (d + 1) (nI (D % 8)) 2 3, r_121 (d + 1) hL hB hn hR hw hW, r_135 (d + 1) hL hB hn hR hw, ↓mm_if_t f1, ↓mm_if_f f2, ↓mm_if_t f3, ↓mm_if_t c, r_136 (d + 1) hL hB hn hR hw n0]
      exact h _ (RB_melts hB hn hR hw) (FB_s (FB_s (FB_s (FB_s (FB_s (FB_rf M B) (by omega)) (by omega)) (by omega)) (by omega)) (by omega))
    · rw [if_neg c] at h
      simp (disch := omega) only [eC_159, eK_159_0, eK_159_1, eK_159_2, eK_159_3, pw_bipush, pw_goto, pw_iconst, pw_ldc2_w, pw_nop0, pw_return_, pw_sipush, qw_aload_n0, qw_gf_b, qw_gf_i, qw_gf_r, qw_i2l, qw_iadd, qw_iastore, qw_idiv, qw_if_eq, qw_if_icmp_ge, qw_if_icmp_ne, qw_iload4, qw_iload_n1, qw_iload_n2, qw_iload_n3, qw_invokestatic3, qw_invokevirtual3, qw_invokevirtual5, qw_irem, qw_istore4, qw_istore_n3, mm_rf_c, mm_rt_v, mm_rt_i, mm_rt_r, mm_alc_n, mm_alc_c, mm_rc_n, mm_rc_c, mm_wd_n, mm_wd_i, mm_wd_l, mm_wd_r, reduceCtorEq, false_implies, implies_true, true_implies, true_or, or_true, false_or, or_false, not_false_eq_true, mm_nl_n, mm_nl_i, mm_nl_r, mm_args_n, mm_args_i, mm_args_l, mm_args_r, mm_pad_0, mm_pad_n, mm_pad_c, List.length_cons, List.length_nil, List.nil_append, List.cons_append, Nat.zero_le, Nat.sub_zero, true_and, and_true, Nat.reduceAdd, Nat.reduceLeDiff, Nat.reduceLT, Nat.reduceSub, Nat.lt_irrefl, Nat.zero_add, Nat.add_zero, Nat.le_refl, k_20, k_10, k_01, ↓mm_if_T, ↓mm_if_F, ↓if10, ↓if00, not_true_eq_false, tf_01, ↓mm_if_tf, ↓mm_if_tn, ↓mm_if_nn, hm, hn0, d8, d64, d512, m8, mn, m9, m41, m5, m24, nz8, nz64, nz512, nz9, nz41, nz5, nz24, nI_1, l1, l2, a1, a2, a3, a4, a5, a6, nI_c7, nI_c8, nI_c15, nI_c22, nI_c29, nI_c36, nI_c361, nI_c38, nI_add, vi_, ci_, mm_L_s, mm_R_s, mm_I_c, mm_I_i, mm_I_k, mm_I_s, r_134 d hL hB hn hW hR hw, r_97 (d + 1) (nI (D % 8)) 2 3, r_121 (d + 1) hL hB hn hR hw hW, r_135 (d + 1) hL hB hn hR hw, ↓mm_if_t f1, ↓mm_if_f f2, ↓mm_if_t f3, ↓mm_if_f c]
      exact h M hR (FB_rf M B)
  · rw [if_neg c4] at h
    have f3 : ¬ nI (D % 8) = 4 := fun z => by have := (nI_eq (a := D % 8) (b := 4) (by omega) (by omega)).mp z; omega
    simp (disch := omega) only [eC_159, eK_159_0, eK_159_1, eK_159_2, eK_159_3, pw_bipush, pw_goto, pw_iconst, pw_ldc2_w, pw_nop0, pw_return_, pw_sipush, qw_aload_n0, qw_gf_b, qw_gf_i, qw_gf_r, qw_i2l, qw_iadd, qw_iastore, qw_idiv, qw_if_eq, qw_if_icmp_ge, qw_if_icmp_ne, qw_iload4, qw_iload_n1, qw_iload_n2, qw_iload_n3, qw_invokestatic3, qw_invokevirtual3, qw_invokevirtual5, qw_irem, qw_istore4, qw_istore_n3, mm_rf_c, mm_rt_v, mm_rt_i, mm_rt_r, mm_alc_n, mm_alc_c, mm_rc_n, mm_rc_c, mm_wd_n, mm_wd_i, mm_wd_l, mm_wd_r, reduceCtorEq, false_implies, implies_true, true_implies, true_or, or_true, false_or, or_false, not_false_eq_true, mm_nl_n, mm_nl_i, mm_nl_r, mm_args_n, mm_args_i, mm_args_l, mm_args_r, mm_pad_0, mm_pad_n, mm_pad_c, List.length_cons, List.length_nil, List.nil_append, List.cons_append, Nat.zero_le, Nat.sub_zero, true_and, and_true, Nat.reduceAdd, Nat.reduceLeDiff, Nat.reduceLT, Nat.reduceSub, Nat.lt_irrefl, Nat.zero_add, Nat.add_zero, Nat.le_refl, k_20, k_10, k_01, ↓mm_if_T, ↓mm_if_F, ↓if10, ↓if00, not_true_eq_false, tf_01, ↓mm_if_tf, ↓mm_if_tn, ↓mm_if_nn, hm, hn0, d8, d64, d512, m8, mn, m9, m41, m5, m24, nz8, nz64, nz512, nz9, nz41, nz5, nz24, nI_1, l1, l2, a1, a2, a3, a4, a5, a6, nI_c7, nI_c8, nI_c15, nI_c22, nI_c29, nI_c36, nI_c361, nI_c38, nI_add, vi_, ci_, mm_L_s, mm_R_s, mm_I_c, mm_I_i, mm_I_k, mm_I_s, r_134 d hL hB hn hW hR hw, r_97 (d + 1) (nI (D % 8)) 2 3, r_121 (d + 1) hL hB hn hR hw hW, r_135 (d + 1) hL hB hn hR hw, ↓mm_if_t f1, ↓mm_if_f f2, ↓mm_if_f f3]
    exact h M hR (FB_rf M B)

theorem WF_ac {n D : Nat} {X : St} (h1n : 1 ≤ n) (h : WF n X.1) : WF n (g_ac n X D).1 := by
  have hw : D / 8 % n < n := Nat.mod_lt _ h1n
  have e9 : D / 64 % 9 < 9 := Nat.mod_lt _ (by decide)
  have e41 : D / 64 % 41 < 41 := Nat.mod_lt _ (by decide)
  have e5 : D / 512 % 5 < 5 := Nat.mod_lt _ (by decide)
  have e24 : D / 512 % 24 < 24 := Nat.mod_lt _ (by decide)
  unfold g_ac
  by_cases c01 : D % 8 = 0 ∨ D % 8 = 1
  · rw [if_pos c01]
    by_cases c : ¬ 1 ≤ X.1 (D / 8 % n) 5 ∧ X.1 (D / 8 % n) 4 = 0 ∧ nI (D / 64 % 9 + 1) ≤ X.2.1 ∧ nI (D / 512 % 5) ≤ X.2.2
    · rw [if_pos c]; exact WF_ca h ⟨nI_le (a := 1) (by omega) (by omega), nI_le (b := 30) (by omega) (by omega)⟩ ⟨nI_pos' (by omega), nI_le (b := 30) (by omega) (by omega)⟩
    · rw [if_neg c]; exact h
  rw [if_neg c01]
  by_cases c23 : D % 8 = 2 ∨ D % 8 = 3
  · rw [if_pos c23]
    by_cases c : 1 ≤ X.1 (D / 8 % n) 5
    · rw [if_pos c]; exact WF_ha h hw c ⟨nI_pos' (by omega), nI_le (b := 40) (by omega) (by omega)⟩ ⟨nI_pos' (by omega), nI_le (b := 23) (by omega) (by omega)⟩
    · rw [if_neg c]; exact h
  rw [if_neg c23]
  by_cases c4 : D % 8 = 4
  · rw [if_pos c4]
    by_cases c : 1 ≤ X.1 (D / 8 % n) 5
    · rw [if_pos c]; exact WF_me h
    · rw [if_neg c]; exact h
  · rw [if_neg c4]; exact h
theorem SK_ac {n D : Nat} {X : Sx} : SK n X (g_ac n X.1 D, X.2) := by
  intro w hw k hk
  unfold g_ac
  by_cases c01 : D % 8 = 0 ∨ D % 8 = 1
  · rw [if_pos c01]
    by_cases c : ¬ 1 ≤ X.1.1 (D / 8 % n) 5 ∧ X.1.1 (D / 8 % n) 4 = 0 ∧ nI (D / 64 % 9 + 1) ≤ X.1.2.1 ∧ nI (D / 512 % 5) ≤ X.1.2.2
    · rw [if_pos c]; unfold g_ca; simp (disch := omega) only [up_k]
    · rw [if_neg c]
  rw [if_neg c01]
  by_cases c23 : D % 8 = 2 ∨ D % 8 = 3
  · rw [if_pos c23]
    by_cases c : 1 ≤ X.1.1 (D / 8 % n) 5
    · rw [if_pos c]; unfold g_ha; simp (disch := omega) only [up_k]
    · rw [if_neg c]
  rw [if_neg c23]
  by_cases c4 : D % 8 = 4
  · rw [if_pos c4]
    by_cases c : 1 ≤ X.1.1 (D / 8 % n) 5
    · rw [if_pos c]; unfold g_me; simp (disch := omega) only [up_k]
    · rw [if_neg c]
  · rw [if_neg c4]
theorem WF_yr {n z : Nat} {X : Sx} (h1n : 1 ≤ n) (h : WF n X.1.1) : ∀ k, WF n (g_yr n X z k).1.1
  | 0 => h
  | k + 1 => WF_go (WF_ac h1n (WF_yr h1n h k))
theorem SK_yr {n z : Nat} {X : Sx} : ∀ k, SK n X (g_yr n X z k)
  | 0 => fun _ _ _ _ => rfl
  | k + 1 => fun w hw j hj => (SK_dx w hw j hj).trans ((SK_ac w hw j hj).trans (SK_yr k w hw j hj))

set_option maxHeartbeats 4000000 in
theorem k_160 (d : Nat) {n : Nat} {X : Sx} {M : mm_M} {post : mm_Post} (hn : n ≤ 7) (h1n : 1 ≤ n) (hW : WF n X.1.1) (hM : RM M n X.1.1) (z N : Nat) (hz : z ≤ 9999) (hN : N ≤ 60) (y : Int32) (h : ∀ M', FB M M' 429 → post (some (.inl (if y = 0 then nI (ctn (fun w => (g_yr n X z N).1.1 w 4) n) else (g_yr n X z N).1.2.1))) M') : ∀ (m k : Nat) (u v : Option mm_V) (M1 : mm_M), k + m = N → LyM M1 → RB M1 429 n (g_yr n X z k) → FB M M1 429 → pK (d + 5) 160 post 3 [some (.inr (.inr (6, 0))), some (.inl (nI z)), some (.inl (nI N)), some (.inl y), some (.inl (nI k)), u, v] [] M1 (0, 0) := by
  intro m
  induction m with
  | zero =>
    intro k u v M1 hk hL hR hF
    have e : k = N := by omega
    subst e
    have l1 := hL.1.2.2.2.2.2.2.1
    have l2 : mm_L M1 7 11 = 468 := hL.2.2.2.2.2.2.2.1
    have h7 := hR.2.1
    have h36 := hR.2.2.1
    obtain ⟨m, hm1, hm2, hm3⟩ := fb_n (A := (g_yr n X z k).1.1) hn
    rw [hm2] at h7
    by_cases c : y = 0
    · rw [if_pos c] at h
      rw [eK_160_3]
      simp (disch := omega) only [eK_160_0, eK_160_1, eK_160_2, eK_160_4, eK_160_5, eK_160_6, pw_goto, pw_iconst, pw_lconst, pw_ldc2_w, pw_lstore, pw_nop0, pw_sipush, qw_aload_n0, qw_gf_b, qw_gf_i, qw_gf_r, qw_i2l, qw_iaload, qw_if_eq, qw_if_icmp_ge, qw_if_ne, qw_iinc4, qw_iload4, qw_iload_n1, qw_iload_n2, qw_iload_n3, qw_invokestatic1, qw_invokestatic3, qw_invokevirtual3, qw_ireturn, qw_istore4, qw_l2i, qw_ladd, qw_lload5, qw_lmul, qw_lrem, mm_rf_c, mm_rt_v, mm_rt_i, mm_rt_r, mm_alc_n, mm_alc_c, mm_rc_n, mm_rc_c, mm_wd_n, mm_wd_i, mm_wd_l, mm_wd_r, reduceCtorEq, false_implies, implies_true, true_implies, true_or, or_true, false_or, or_false, not_false_eq_true, mm_nl_n, mm_nl_i, mm_nl_r, mm_args_n, mm_args_i, mm_args_l, mm_args_r, mm_pad_0, mm_pad_n, mm_pad_c, List.length_cons, List.length_nil, List.nil_append, List.cons_append, Nat.zero_le, Nat.sub_zero, true_and, and_true, Nat.reduceAdd, Nat.reduceLeDiff, Nat.reduceLT, Nat.reduceSub, Nat.lt_irrefl, Nat.zero_add, Nat.add_zero, Nat.le_refl, k_20, k_10, k_01, ↓mm_if_T, ↓mm_if_F, ↓if10, ↓if00, not_true_eq_false, tf_01, ↓mm_if_tf, ↓mm_if_tn, ↓mm_if_nn, l1, l2, i436, j436, h7, i465, j465, h36, r_100 (d + 4) m hm1, hm3, ↓mm_if_t c, ↓mm_if_t (nI_le (Nat.le_refl k) (show k < 2 ^ 31 by omega))]
      exact h M1 hF
    · rw [if_neg c] at h
      rw [eK_160_3]
      simp (disch := omega) only [eK_160_0, eK_160_1, eK_160_2, eK_160_4, eK_160_5, eK_160_6, pw_goto, pw_iconst, pw_lconst, pw_ldc2_w, pw_lstore, pw_nop0, pw_sipush, qw_aload_n0, qw_gf_b, qw_gf_i, qw_gf_r, qw_i2l, qw_iaload, qw_if_eq, qw_if_icmp_ge, qw_if_ne, qw_iinc4, qw_iload4, qw_iload_n1, qw_iload_n2, qw_iload_n3, qw_invokestatic1, qw_invokestatic3, qw_invokevirtual3, qw_ireturn, qw_istore4, qw_l2i, qw_ladd, qw_lload5, qw_lmul, qw_lrem, mm_rf_c, mm_rt_v, mm_rt_i, mm_rt_r, mm_alc_n, mm_alc_c, mm_rc_n, mm_rc_c, mm_wd_n, mm_wd_i, mm_wd_l, mm_wd_r, reduceCtorEq, false_implies, implies_true, true_implies, true_or, or_true, false_or, or_false, not_false_eq_true, mm_nl_n, mm_nl_i, mm_nl_r, mm_args_n, mm_args_i, mm_args_l, mm_args_r, mm_pad_0, mm_pad_n, mm_pad_c, List.length_cons, List.length_nil, List.nil_append, List.cons_append, Nat.zero_le, Nat.sub_zero, true_and, and_true, Nat.reduceAdd, Nat.reduceLeDiff, Nat.reduceLT, Nat.reduceSub, Nat.lt_irrefl, Nat.zero_add, Nat.add_zero, Nat.le_refl, k_20, k_10, k_01, ↓mm_if_T, ↓mm_if_F, ↓if10, ↓if00, not_true_eq_false, tf_01, ↓mm_if_tf, ↓mm_if_tn, ↓mm_if_nn, l1, l2, i436, j436, h7, i465, j465, h36, ↓mm_if_f c, ↓mm_if_t (nI_le (Nat.le_refl k) (show k < 2 ^ 31 by omega))]
      exact h M1 hF
  | succ m ih =>
    intro k u v M1 hk hL hR hF
    have hlt : ¬ nI N ≤ nI k := nI_ge (by omega) (by omega)
    have eD := g_dwN hz (show k ≤ 60 by omega)
    unfold g_dw at eD
    have nz : ¬ Int32.toInt64 65521 = 0 := by decide
    have W1 := WF_yr (z := z) h1n hW k
    have W2 := WF_ac (D := dwN z k) h1n W1
    rw [eK_160_3]
    simp (disch := omega) only [eK_160_0, eK_160_1, eK_160_2, eK_160_4, eK_160_5, eK_160_6, pw_goto, pw_iconst, pw_lconst, pw_ldc2_w, pw_lstore, pw_nop0, pw_sipush, qw_aload_n0, qw_gf_b, qw_gf_i, qw_gf_r, qw_i2l, qw_iaload, qw_if_eq, qw_if_icmp_ge, qw_if_ne, qw_iinc4, qw_iload4, qw_iload_n1, qw_iload_n2, qw_iload_n3, qw_invokestatic1, qw_invokestatic3, qw_invokevirtual3, qw_ireturn, qw_istore4, qw_l2i, qw_ladd, qw_lload5, qw_lmul, qw_lrem, mm_rf_c, mm_rt_v, mm_rt_i, mm_rt_r, mm_alc_n, mm_alc_c, mm_rc_n, mm_rc_c, mm_wd_n, mm_wd_i, mm_wd_l, mm_wd_r, reduceCtorEq, false_implies, implies_true, true_implies, true_or, or_true, false_or, or_false, not_false_eq_true, mm_nl_n, mm_nl_i, mm_nl_r, mm_args_n, mm_args_i, mm_args_l, mm_args_r, mm_pad_0, mm_pad_n, mm_pad_c, List.length_cons, List.length_nil, List.nil_append, List.cons_append, Nat.zero_le, Nat.sub_zero, true_and, and_true, Nat.reduceAdd, Nat.reduceLeDiff, Nat.reduceLT, Nat.reduceSub, Nat.lt_irrefl, Nat.zero_add, Nat.add_zero, Nat.le_refl, k_20, k_10, k_01, ↓mm_if_T, ↓mm_if_F, ↓if10, ↓if00, not_true_eq_false, tf_01, ↓mm_if_tf, ↓mm_if_tn, ↓mm_if_nn, ↓mm_if_f hlt, mm_pL_c, mm_at_0, mm_at_s, mm_set_0, mm_set_s, nz, eD]
    refine r_159 (B := 429) (d + 2) hL (by omega) hn (RM_c (RM_B hM hF) (SK_yr k)) hR W1 h1n (dwN z k) (dwN_lt z k) (fun M2 hR2 hF2 => ?_)
    simp (disch := omega) only [pw_goto, pw_iconst, pw_lconst, pw_ldc2_w, pw_lstore, pw_sipush, qw_aload_n0, qw_i2l, qw_if_icmp_ge, qw_iinc4, qw_iload4, qw_iload_n1, qw_iload_n2, qw_invokevirtual3, qw_l2i, qw_ladd, qw_lload5, qw_lmul, qw_lrem, mm_rf_c, mm_rt_v, mm_rt_i, mm_rt_r, mm_alc_n, mm_alc_c, mm_rc_n, mm_rc_c, mm_wd_n, mm_wd_i, mm_wd_l, mm_wd_r, reduceCtorEq, false_implies, implies_true, true_implies, true_or, or_true, false_or, or_false, not_false_eq_true, mm_nl_n, mm_nl_i, mm_nl_r, mm_args_n, mm_args_i, mm_args_l, mm_args_r, mm_pad_0, mm_pad_n, mm_pad_c, List.length_cons, List.length_nil, List.nil_append, List.cons_append, Nat.zero_le, Nat.sub_zero, true_and, and_true, Nat.reduceAdd, Nat.reduceLeDiff, Nat.reduceLT, Nat.reduceSub, Nat.lt_irrefl, Nat.zero_add, Nat.add_zero, Nat.le_refl, k_20, k_10, k_01, ↓mm_if_T, ↓mm_if_F, ↓if10, ↓if00, not_true_eq_false, tf_01, ↓mm_if_tf, ↓mm_if_tn, ↓mm_if_nn]
    refine r_143 (B := 429) d (LyM_2 hF2.1 hL) (by omega) hn (RM_c (RM_B hM (FB_tr hF hF2)) (fun w hw j hj => (SK_ac w hw j hj).trans (SK_yr k w hw j hj))) hR2 W2 0 (fun M3 hR3 hF3 => ?_)
    rw [if_pos rfl] at hR3
    simp (disch := omega) only [pw_goto, pw_iconst, pw_lconst, pw_ldc2_w, pw_lstore, pw_sipush, qw_aload_n0, qw_i2l, qw_if_icmp_ge, qw_iinc4, qw_iload4, qw_iload_n1, qw_iload_n2, qw_invokevirtual3, qw_l2i, qw_ladd, qw_lload5, qw_lmul, qw_lrem, mm_rf_c, mm_rt_v, mm_rt_i, mm_rt_r, mm_alc_n, mm_alc_c, mm_rc_n, mm_rc_c, mm_wd_n, mm_wd_i, mm_wd_l, mm_wd_r, reduceCtorEq, false_implies, implies_true, true_implies, true_or, or_true, false_or, or_false, not_false_eq_true, mm_nl_n, mm_nl_i, mm_nl_r, mm_args_n, mm_args_i, mm_args_l, mm_args_r, mm_pad_0, mm_pad_n, mm_pad_c, List.length_cons, List.length_nil, List.nil_append, List.cons_append, Nat.zero_le, Nat.sub_zero, true_and, and_true, Nat.reduceAdd, Nat.reduceLeDiff, Nat.reduceLT, Nat.reduceSub, Nat.lt_irrefl, Nat.zero_add, Nat.add_zero, Nat.le_refl, k_20, k_10, k_01, ↓mm_if_T, ↓mm_if_F, ↓if10, ↓if00, not_true_eq_false, tf_01, ↓mm_if_tf, ↓mm_if_tn, ↓mm_if_nn, nI_1]
    exact ih (k + 1) _ _ M3 (by omega) (LyM_2 hF3.1 (LyM_2 hF2.1 hL)) hR3 (FB_tr hF (FB_tr hF2 hF3))
theorem r_160 (d : Nat) {M : mm_M} {post : mm_Post} {n : Nat} {X : Sx} {a : Nat} {P : Nat → Sx} {b : Nat} {K : Nat → Sx} (hJ : J1 M n X a P b K) (hn : n ≤ 7) (ha : a ≤ 8) (hb : b ≤ 2) (hW : WF n X.1.1) (h1n : 1 ≤ n) (z x y : Int32) (h : ∀ M', J1 M' n X a P b K → FY M M' → post (some (.inl (G75 n X z x y))) M') : pC (d + 6) 160 [.inr (.inr (6, 0)), .inl z, .inl x, .inl y] M post := by
  obtain ⟨hL, hM, hR, h9, hP, h10, hK⟩ := id hJ
  unfold G75 at h
  by_cases c1 : 0 ≤ z ∧ z ≤ 9999
  · by_cases c2 : 1 ≤ x ∧ x ≤ 60
    · by_cases c3 : 0 ≤ y ∧ y ≤ 1
      · rw [if_pos ⟨⟨c1, c2⟩, c3⟩] at h
        obtain ⟨Z, hZ, rfl⟩ := nI_of2 (M := 9999) (n := 9999) (by decide) (Int32.not_lt.mpr c1.1) c1.2
        obtain ⟨N, hN, rfl⟩ := nI_of2 (M := 60) (n := 60) (by decide) (Int32.not_lt.mpr (Int32.le_trans (by decide) c2.1)) c2.2
        rw [nI_clamp (by omega), nI_clamp (by omega)] at h
        simp (disch := omega) only [eC_160, eK_160_0, eK_160_1, eK_160_2, eK_160_4, eK_160_5, eK_160_6, pw_goto, pw_iconst, pw_lconst, pw_ldc2_w, pw_nop0, pw_sipush, qw_aload_n0, qw_gf_b, qw_gf_i, qw_gf_r, qw_i2l, qw_iaload, qw_if_eq, qw_if_ne, qw_iload_n1, qw_iload_n2, qw_iload_n3, qw_invokestatic1, qw_invokestatic3, qw_invokevirtual3, qw_ireturn, qw_istore4, mm_rf_c, mm_rt_v, mm_rt_i, mm_rt_r, mm_alc_n, mm_alc_c, mm_rc_n, mm_rc_c, mm_wd_n, mm_wd_i, mm_wd_l, mm_wd_r, reduceCtorEq, false_implies, implies_true, true_implies, true_or, or_true, false_or, or_false, not_false_eq_true, mm_nl_n, mm_nl_i, mm_nl_r, mm_args_n, mm_args_i, mm_args_l, mm_args_r, mm_pad_0, mm_pad_n, mm_pad_c, List.length_cons, List.length_nil, List.nil_append, List.cons_append, Nat.zero_le, Nat.sub_zero, true_and, and_true, Nat.reduceAdd, Nat.reduceLeDiff, Nat.reduceLT, Nat.reduceSub, Nat.lt_irrefl, Nat.zero_add, Nat.add_zero, Nat.le_refl, k_20, k_10, k_01, ↓mm_if_T, ↓mm_if_F, ↓if10, ↓if00, not_true_eq_false, tf_01, ↓mm_if_tf, ↓mm_if_tn, ↓mm_if_nn, r_97 (d + 4) (nI Z) 0 9999, r_97 (d + 4) (nI N) 1 60, r_97 (d + 4) y 0 1, ↓mm_if_t c1, ↓mm_if_t c2, ↓mm_if_t c3]
        refine r_105 (B := 0) (C := 429) (d + 4) hL (by omega) (by omega) (by omega) (fun M1 hF hc => ?_)
        have := k_160 d hn h1n hW hM Z N hZ hN y (M := M) (post := post) (fun M' hF => h M' (J1_t hJ hn ha hb hF) (FY_B hF)) N 0 none none M1 (by omega) (LyM_2 hF.1 hL) (RB_cp hn hR hc) hF
        simp (disch := omega) only [pw_iconst, pw_nop0, pw_sipush, qw_aload_n0, qw_invokevirtual3, qw_istore4, mm_rf_c, mm_rt_v, mm_rt_i, mm_rt_r, mm_alc_n, mm_alc_c, mm_rc_n, mm_rc_c, mm_wd_n, mm_wd_i, mm_wd_l, mm_wd_r, reduceCtorEq, false_implies, implies_true, true_implies, true_or, or_true, false_or, or_false, not_false_eq_true, mm_nl_n, mm_nl_i, mm_nl_r, mm_args_n, mm_args_i, mm_args_l, mm_args_r, mm_pad_0, mm_pad_n, mm_pad_c, List.length_cons, List.length_nil, List.nil_append, List.cons_append, Nat.zero_le, Nat.sub_zero, true_and, and_true, Nat.reduceAdd, Nat.reduceLeDiff, Nat.reduceLT, Nat.reduceSub, Nat.lt_irrefl, Nat.zero_add, Nat.add_zero, Nat.le_refl, k_20, k_10, k_01, ↓mm_if_T, ↓mm_if_F, ↓if10, ↓if00, not_true_eq_false, tf_01, ↓mm_if_tf, ↓mm_if_tn, ↓mm_if_nn]
        exact this
      · rw [if_neg (fun z => c3 z.2)] at h
        simp (disch := omega) only [eC_160, eK_160_0, eK_160_1, eK_160_2, eK_160_4, eK_160_5, eK_160_6, pw_goto, pw_iconst, pw_lconst, pw_ldc2_w, pw_nop0, pw_sipush, qw_aload_n0, qw_gf_b, qw_gf_i, qw_gf_r, qw_i2l, qw_iaload, qw_if_eq, qw_if_ne, qw_iload_n1, qw_iload_n2, qw_iload_n3, qw_invokestatic1, qw_invokestatic3, qw_invokevirtual3, qw_ireturn, qw_istore4, mm_rf_c, mm_rt_v, mm_rt_i, mm_rt_r, mm_alc_n, mm_alc_c, mm_rc_n, mm_rc_c, mm_wd_n, mm_wd_i, mm_wd_l, mm_wd_r, reduceCtorEq, false_implies, implies_true, true_implies, true_or, or_true, false_or, or_false, not_false_eq_true, mm_nl_n, mm_nl_i, mm_nl_r, mm_args_n, mm_args_i, mm_args_l, mm_args_r, mm_pad_0, mm_pad_n, mm_pad_c, List.length_cons, List.length_nil, List.nil_append, List.cons_append, Nat.zero_le, Nat.sub_zero, true_and, and_true, Nat.reduceAdd, Nat.reduceLeDiff, Nat.reduceLT, Nat.reduceSub, Nat.lt_irrefl, Nat.zero_add, Nat.add_zero, Nat.le_refl, k_20, k_10, k_01, ↓mm_if_T, ↓mm_if_F, ↓if10, ↓if00, not_true_eq_false, tf_01, ↓mm_if_tf, ↓mm_if_tn, ↓mm_if_nn, r_97 (d + 4) z 0 9999, r_97 (d + 4) x 1 60, r_97 (d + 4) y 0 1, ↓mm_if_t c1, ↓mm_if_t c2, ↓mm_if_f c3]
        exact h M hJ (FY_rf M)
    · rw [if_neg (fun z => c2 z.1.2)] at h
      simp (disch := omega) only [eC_160, eK_160_0, eK_160_1, eK_160_2, eK_160_4, eK_160_5, eK_160_6, pw_goto, pw_iconst, pw_lconst, pw_ldc2_w, pw_nop0, pw_sipush, qw_aload_n0, qw_gf_b, qw_gf_i, qw_gf_r, qw_i2l, qw_iaload, qw_if_eq, qw_if_ne, qw_iload_n1, qw_iload_n2, qw_iload_n3, qw_invokestatic1, qw_invokestatic3, qw_invokevirtual3, qw_ireturn, qw_istore4, mm_rf_c, mm_rt_v, mm_rt_i, mm_rt_r, mm_alc_n, mm_alc_c, mm_rc_n, mm_rc_c, mm_wd_n, mm_wd_i, mm_wd_l, mm_wd_r, reduceCtorEq, false_implies, implies_true, true_implies, true_or, or_true, false_or, or_false, not_false_eq_true, mm_nl_n, mm_nl_i, mm_nl_r, mm_args_n, mm_args_i, mm_args_l, mm_args_r, mm_pad_0, mm_pad_n, mm_pad_c, List.length_cons, List.length_nil, List.nil_append, List.cons_append, Nat.zero_le, Nat.sub_zero, true_and, and_true, Nat.reduceAdd, Nat.reduceLeDiff, Nat.reduceLT, Nat.reduceSub, Nat.lt_irrefl, Nat.zero_add, Nat.add_zero, Nat.le_refl, k_20, k_10, k_01, ↓mm_if_T, ↓mm_if_F, ↓if10, ↓if00, not_true_eq_false, tf_01, ↓mm_if_tf, ↓mm_if_tn, ↓mm_if_nn, r_97 (d + 4) z 0 9999, r_97 (d + 4) x 1 60, ↓mm_if_t c1, ↓mm_if_f c2]
      exact h M hJ (FY_rf M)
  · rw [if_neg (fun z => c1 z.1.1)] at h
    simp (disch := omega) only [eC_160, eK_160_0, eK_160_1, eK_160_2, eK_160_4, eK_160_5, eK_160_6, pw_goto, pw_iconst, pw_lconst, pw_ldc2_w, pw_nop0, pw_sipush, qw_aload_n0, qw_gf_b, qw_gf_i, qw_gf_r, qw_i2l, qw_iaload, qw_if_eq, qw_if_ne, qw_iload_n1, qw_iload_n2, qw_iload_n3, qw_invokestatic1, qw_invokestatic3, qw_invokevirtual3, qw_ireturn, qw_istore4, mm_rf_c, mm_rt_v, mm_rt_i, mm_rt_r, mm_alc_n, mm_alc_c, mm_rc_n, mm_rc_c, mm_wd_n, mm_wd_i, mm_wd_l, mm_wd_r, reduceCtorEq, false_implies, implies_true, true_implies, true_or, or_true, false_or, or_false, not_false_eq_true, mm_nl_n, mm_nl_i, mm_nl_r, mm_args_n, mm_args_i, mm_args_l, mm_args_r, mm_pad_0, mm_pad_n, mm_pad_c, List.length_cons, List.length_nil, List.nil_append, List.cons_append, Nat.zero_le, Nat.sub_zero, true_and, and_true, Nat.reduceAdd, Nat.reduceLeDiff, Nat.reduceLT, Nat.reduceSub, Nat.lt_irrefl, Nat.zero_add, Nat.add_zero, Nat.le_refl, k_20, k_10, k_01, ↓mm_if_T, ↓mm_if_F, ↓if10, ↓if00, not_true_eq_false, tf_01, ↓mm_if_tf, ↓mm_if_tn, ↓mm_if_nn, r_97 (d + 4) z 0 9999, ↓mm_if_f c1]
    exact h M hJ (FY_rf M)

