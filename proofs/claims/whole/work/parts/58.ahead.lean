/-! THE REFERENCE: what comes; notes, letters -/
theorem i436 : vp_in (436 : Int32) 468 := vp_in_nI (n := 436) (by omega) (by omega)
theorem j436 : (436 : Int32).toNatClampNeg = 429 + 7 := nI_clamp (n := 436) (by omega)
theorem i465 : vp_in (465 : Int32) 468 := vp_in_nI (n := 465) (by omega) (by omega)
theorem j465 : (465 : Int32).toNatClampNeg = 429 + 36 := nI_clamp (n := 465) (by omega)
theorem RM_dn {M M' : mm_M} {n : Nat} {X : Sx} (h : RM M n X.1.1) (hF : FB M M' 429) (k : Nat) : RM M' n (g_dn n X k).1.1 := RM_c (RM_B h hF) (SK_dn k)
set_option maxHeartbeats 2000000 in
theorem k_146 (d : Nat) {n : Nat} {X : Sx} {M : mm_M} {post : mm_Post} (hn : n ≤ 7) (hW : WF n X.1.1) (hM : RM M n X.1.1) {w : Nat} (hw : w < n) (h : ∀ M', FB M M' 429 → post (some (.inl (g_fo n X w 61 0))) M') : ∀ (m k : Nat) (M1 : mm_M), k + m = 61 → g_fo n X w 61 0 = g_fo n X w m k → LyM M1 → RB M1 429 n (g_dn n X k) → FB M M1 429 → pK (d + 5) 146 post 2 [some (.inr (.inr (6, 0))), some (.inl (nI w)), some (.inl (nI k))] [] M1 (0, 0) := by
  intro m
  induction m with
  | zero =>
    intro k M1 hk e hL hR hF
    have e61 : k = 61 := by omega
    subst e61
    rw [e] at h
    rw [eK_146_2]
    simp (disch := omega) only [eK_146_0, eK_146_1, eK_146_3, eK_146_4, pw_bipush, pw_goto, pw_iconst, pw_nop0, pw_sipush, qw_aload_n0, qw_gf_b, qw_gf_i, qw_gf_r, qw_iaload, qw_if_eq, qw_if_icmp_gt, qw_if_ne, qw_iinc2, qw_iload_n1, qw_iload_n2, qw_invokestatic2, qw_invokevirtual2, qw_invokevirtual3, qw_ireturn, qw_istore_n2, mm_rf_c, mm_rt_v, mm_rt_i, mm_rt_r, mm_alc_n, mm_alc_c, mm_rc_n, mm_rc_c, mm_wd_n, mm_wd_i, mm_wd_l, mm_wd_r, reduceCtorEq, false_implies, implies_true, true_implies, true_or, or_true, false_or, or_false, not_false_eq_true, mm_nl_n, mm_nl_i, mm_nl_r, mm_args_n, mm_args_i, mm_args_l, mm_args_r, mm_pad_0, mm_pad_n, mm_pad_c, List.length_cons, List.length_nil, List.nil_append, List.cons_append, Nat.zero_le, Nat.sub_zero, true_and, and_true, Nat.reduceAdd, Nat.reduceLeDiff, Nat.reduceLT, Nat.reduceSub, Nat.lt_irrefl, Nat.zero_add, Nat.add_zero, Nat.le_refl, k_20, k_10, k_01, ↓mm_if_T, ↓mm_if_F, ↓if10, ↓if00, not_true_eq_false, tf_01, ↓mm_if_tf, ↓mm_if_tn, ↓mm_if_nn, ↓mm_if_t (show (60 : Int32) < nI 61 by decide)]
    exact h M1 hF
  | succ m ih =>
    intro k M1 hk e hL hR hF
    have l1 := hL.1.2.2.2.2.2.2.1
    have l2 : mm_L M1 7 11 = 468 := hL.2.2.2.2.2.2.2.1
    have hlt : ¬ (60 : Int32) < nI k := nI_nlt (a := 60) (by omega) (by omega)
    have h7 := hR.2.1
    have hun : g_fo n X w (m + 1) k = if (g_dn n X k).1.1 w 4 = 0 then g_fo n X w m (k + 1) else nI k := rfl
    by_cases c : (g_dn n X k).1.1 w 4 = 0
    · have f2 : ¬ (g_fb (g_dn n X k).1.1 n >>> (nI w &&& 31)) &&& 1 = 1 := fun z => (fb_has hn hw).mp z c
      rw [eK_146_2]
      simp (disch := omega) only [eK_146_0, eK_146_1, eK_146_3, eK_146_4, pw_bipush, pw_goto, pw_iconst, pw_nop0, pw_sipush, qw_aload_n0, qw_gf_b, qw_gf_i, qw_gf_r, qw_iaload, qw_if_eq, qw_if_icmp_gt, qw_if_ne, qw_iinc2, qw_iload_n1, qw_iload_n2, qw_invokestatic2, qw_invokevirtual2, qw_invokevirtual3, qw_ireturn, qw_istore_n2, mm_rf_c, mm_rt_v, mm_rt_i, mm_rt_r, mm_alc_n, mm_alc_c, mm_rc_n, mm_rc_c, mm_wd_n, mm_wd_i, mm_wd_l, mm_wd_r, reduceCtorEq, false_implies, implies_true, true_implies, true_or, or_true, false_or, or_false, not_false_eq_true, mm_nl_n, mm_nl_i, mm_nl_r, mm_args_n, mm_args_i, mm_args_l, mm_args_r, mm_pad_0, mm_pad_n, mm_pad_c, List.length_cons, List.length_nil, List.nil_append, List.cons_append, Nat.zero_le, Nat.sub_zero, true_and, and_true, Nat.reduceAdd, Nat.reduceLeDiff, Nat.reduceLT, Nat.reduceSub, Nat.lt_irrefl, Nat.zero_add, Nat.add_zero, Nat.le_refl, k_20, k_10, k_01, ↓mm_if_T, ↓mm_if_F, ↓if10, ↓if00, not_true_eq_false, tf_01, ↓mm_if_tf, ↓mm_if_tn, ↓mm_if_nn, l1, l2, i436, j436, h7, r_98 (d + 4), ↓mm_if_f hlt, ↓mm_if_f f2]
      refine r_143 (B := 429) d hL (by omega) hn (RM_dn hM hF k) hR (WF_dn hW k) 0 (fun M2 hR2 hF2 => ?_)
      rw [if_pos rfl] at hR2
      simp (disch := omega) only [pw_goto, pw_iconst, pw_sipush, qw_aload_n0, qw_iinc2, qw_invokevirtual3, mm_rf_c, mm_rt_v, mm_rt_i, mm_rt_r, mm_alc_n, mm_alc_c, mm_rc_n, mm_rc_c, mm_wd_n, mm_wd_i, mm_wd_l, mm_wd_r, reduceCtorEq, false_implies, implies_true, true_implies, true_or, or_true, false_or, or_false, not_false_eq_true, mm_nl_n, mm_nl_i, mm_nl_r, mm_args_n, mm_args_i, mm_args_l, mm_args_r, mm_pad_0, mm_pad_n, mm_pad_c, List.length_cons, List.length_nil, List.nil_append, List.cons_append, Nat.zero_le, Nat.sub_zero, true_and, and_true, Nat.reduceAdd, Nat.reduceLeDiff, Nat.reduceLT, Nat.reduceSub, Nat.lt_irrefl, Nat.zero_add, Nat.add_zero, Nat.le_refl, k_20, k_10, k_01, ↓mm_if_T, ↓mm_if_F, ↓if10, ↓if00, not_true_eq_false, tf_01, ↓mm_if_tf, ↓mm_if_tn, ↓mm_if_nn, qw_iinc2, pw_goto, nI_1]
      exact ih (k + 1) M2 (by omega) (by rw [e, hun, if_pos c]) (LyM_2 hF2.1 hL) hR2 (FB_tr hF hF2)
    · have f2 := (fb_has (A := (g_dn n X k).1.1) hn hw).mpr c
      rw [e, hun, if_neg c] at h
      rw [eK_146_2]
      simp (disch := omega) only [eK_146_0, eK_146_1, eK_146_3, eK_146_4, pw_bipush, pw_goto, pw_iconst, pw_nop0, pw_sipush, qw_aload_n0, qw_gf_b, qw_gf_i, qw_gf_r, qw_iaload, qw_if_eq, qw_if_icmp_gt, qw_if_ne, qw_iinc2, qw_iload_n1, qw_iload_n2, qw_invokestatic2, qw_invokevirtual2, qw_invokevirtual3, qw_ireturn, qw_istore_n2, mm_rf_c, mm_rt_v, mm_rt_i, mm_rt_r, mm_alc_n, mm_alc_c, mm_rc_n, mm_rc_c, mm_wd_n, mm_wd_i, mm_wd_l, mm_wd_r, reduceCtorEq, false_implies, implies_true, true_implies, true_or, or_true, false_or, or_false, not_false_eq_true, mm_nl_n, mm_nl_i, mm_nl_r, mm_args_n, mm_args_i, mm_args_l, mm_args_r, mm_pad_0, mm_pad_n, mm_pad_c, List.length_cons, List.length_nil, List.nil_append, List.cons_append, Nat.zero_le, Nat.sub_zero, true_and, and_true, Nat.reduceAdd, Nat.reduceLeDiff, Nat.reduceLT, Nat.reduceSub, Nat.lt_irrefl, Nat.zero_add, Nat.add_zero, Nat.le_refl, k_20, k_10, k_01, ↓mm_if_T, ↓mm_if_F, ↓if10, ↓if00, not_true_eq_false, tf_01, ↓mm_if_tf, ↓mm_if_tn, ↓mm_if_nn, l1, l2, i436, j436, h7, r_98 (d + 4), ↓mm_if_f hlt, ↓mm_if_t f2]
      exact h M1 hF
theorem r_146 (d : Nat) {M : mm_M} {post : mm_Post} {n : Nat} {X : Sx} {a : Nat} {P : Nat → Sx} {b : Nat} {K : Nat → Sx} (hJ : J1 M n X a P b K) (hn : n ≤ 7) (ha : a ≤ 8) (hb : b ≤ 2) (hW : WF n X.1.1) (x : Int32) (h : ∀ M', J1 M' n X a P b K → FY M M' → post (some (.inl (G64 n X x))) M') : pC (d + 6) 146 [.inr (.inr (6, 0)), .inl x] M post := by
  obtain ⟨hL, hM, hR, h9, hP, h10, hK⟩ := id hJ
  unfold G64 at h
  by_cases c1 : isw n x
  · rw [if_pos c1] at h
    obtain ⟨w, hw, rfl⟩ := isw_of hn c1
    obtain ⟨v1, v2, v3⟩ := nI_v7 hw hn
    rw [v2] at h
    simp (disch := omega) only [eC_146, eK_146_0, eK_146_1, eK_146_3, eK_146_4, pw_bipush, pw_goto, pw_iconst, pw_nop0, pw_sipush, qw_aload_n0, qw_if_ne, qw_iinc2, qw_iload_n1, qw_invokevirtual2, qw_invokevirtual3, qw_ireturn, qw_istore_n2, mm_rf_c, mm_rt_v, mm_rt_i, mm_rt_r, mm_alc_n, mm_alc_c, mm_rc_n, mm_rc_c, mm_wd_n, mm_wd_i, mm_wd_l, mm_wd_r, reduceCtorEq, false_implies, implies_true, true_implies, true_or, or_true, false_or, or_false, not_false_eq_true, mm_nl_n, mm_nl_i, mm_nl_r, mm_args_n, mm_args_i, mm_args_l, mm_args_r, mm_pad_0, mm_pad_n, mm_pad_c, List.length_cons, List.length_nil, List.nil_append, List.cons_append, Nat.zero_le, Nat.sub_zero, true_and, and_true, Nat.reduceAdd, Nat.reduceLeDiff, Nat.reduceLT, Nat.reduceSub, Nat.lt_irrefl, Nat.zero_add, Nat.add_zero, Nat.le_refl, k_20, k_10, k_01, ↓mm_if_T, ↓mm_if_F, ↓if10, ↓if00, not_true_eq_false, tf_01, ↓mm_if_tf, ↓mm_if_tn, ↓mm_if_nn, r_106 (d + 3) hM.1, ↓mm_if_t c1]
    refine r_105 (B := 0) (C := 429) (d + 4) hL (by omega) (by omega) (by omega) (fun M1 hF hc => ?_)
    have := k_146 d hn hW hM hw (M := M) (post := post) (fun M' hF => h M' (J1_t hJ hn ha hb hF) (FY_B hF)) 61 0 M1 (by omega) rfl (LyM_2 hF.1 hL) (RB_cp hn hR hc) hF
    simp (disch := omega) only [pw_iconst, pw_nop0, pw_sipush, qw_aload_n0, qw_invokevirtual3, qw_istore_n2, mm_rf_c, mm_rt_v, mm_rt_i, mm_rt_r, mm_alc_n, mm_alc_c, mm_rc_n, mm_rc_c, mm_wd_n, mm_wd_i, mm_wd_l, mm_wd_r, reduceCtorEq, false_implies, implies_true, true_implies, true_or, or_true, false_or, or_false, not_false_eq_true, mm_nl_n, mm_nl_i, mm_nl_r, mm_args_n, mm_args_i, mm_args_l, mm_args_r, mm_pad_0, mm_pad_n, mm_pad_c, List.length_cons, List.length_nil, List.nil_append, List.cons_append, Nat.zero_le, Nat.sub_zero, true_and, and_true, Nat.reduceAdd, Nat.reduceLeDiff, Nat.reduceLT, Nat.reduceSub, Nat.lt_irrefl, Nat.zero_add, Nat.add_zero, Nat.le_refl, k_20, k_10, k_01, ↓mm_if_T, ↓mm_if_F, ↓if10, ↓if00, not_true_eq_false, tf_01, ↓mm_if_tf, ↓mm_if_tn, ↓mm_if_nn]
    exact this
  · rw [if_neg c1] at h
    simp (disch := omega) only [eC_146, eK_146_0, eK_146_1, eK_146_3, eK_146_4, pw_bipush, pw_goto, pw_iconst, pw_nop0, pw_sipush, qw_aload_n0, qw_if_ne, qw_iinc2, qw_iload_n1, qw_invokevirtual2, qw_invokevirtual3, qw_ireturn, qw_istore_n2, mm_rf_c, mm_rt_v, mm_rt_i, mm_rt_r, mm_alc_n, mm_alc_c, mm_rc_n, mm_rc_c, mm_wd_n, mm_wd_i, mm_wd_l, mm_wd_r, reduceCtorEq, false_implies, implies_true, true_implies, true_or, or_true, false_or, or_false, not_false_eq_true, mm_nl_n, mm_nl_i, mm_nl_r, mm_args_n, mm_args_i, mm_args_l, mm_args_r, mm_pad_0, mm_pad_n, mm_pad_c, List.length_cons, List.length_nil, List.nil_append, List.cons_append, Nat.zero_le, Nat.sub_zero, true_and, and_true, Nat.reduceAdd, Nat.reduceLeDiff, Nat.reduceLT, Nat.reduceSub, Nat.lt_irrefl, Nat.zero_add, Nat.add_zero, Nat.le_refl, k_20, k_10, k_01, ↓mm_if_T, ↓mm_if_F, ↓if10, ↓if00, not_true_eq_false, tf_01, ↓mm_if_tf, ↓mm_if_tn, ↓mm_if_nn, r_106 (d + 3) hM.1, ↓mm_if_f c1]
    exact h M hJ (FY_rf M)

theorem k_147 (d : Nat) {n : Nat} {X : Sx} {M : mm_M} {post : mm_Post} (hn : n ≤ 7) (hW : WF n X.1.1) (hM : RM M n X.1.1) (N : Nat) (hN : N ≤ 60) (h : ∀ M', FB M M' 429 → post (some (.inl (g_fb (g_dn n X N).1.1 n))) M') : ∀ (m k : Nat) (M1 : mm_M), k + m = N → LyM M1 → RB M1 429 n (g_dn n X k) → FB M M1 429 → pK (d + 5) 147 post 2 [some (.inr (.inr (6, 0))), some (.inl (nI N)), some (.inl (nI k))] [] M1 (0, 0) := by
  intro m
  induction m with
  | zero =>
    intro k M1 hk hL hR hF
    have e : k = N := by omega
    subst e
    have l1 := hL.1.2.2.2.2.2.2.1
    have l2 : mm_L M1 7 11 = 468 := hL.2.2.2.2.2.2.2.1
    have h7 := hR.2.1
    rw [eK_147_2]
    simp (disch := omega) only [eK_147_0, eK_147_1, eK_147_3, pw_goto, pw_iconst, pw_lconst, pw_ldc2_w, pw_nop0, pw_sipush, qw_aload_n0, qw_gf_b, qw_gf_i, qw_gf_r, qw_i2l, qw_iaload, qw_if_icmp_ge, qw_if_ne, qw_iinc2, qw_iload_n1, qw_iload_n2, qw_invokestatic3, qw_invokevirtual3, qw_ireturn, qw_istore_n2, mm_rf_c, mm_rt_v, mm_rt_i, mm_rt_r, mm_alc_n, mm_alc_c, mm_rc_n, mm_rc_c, mm_wd_n, mm_wd_i, mm_wd_l, mm_wd_r, reduceCtorEq, false_implies, implies_true, true_implies, true_or, or_true, false_or, or_false, not_false_eq_true, mm_nl_n, mm_nl_i, mm_nl_r, mm_args_n, mm_args_i, mm_args_l, mm_args_r, mm_pad_0, mm_pad_n, mm_pad_c, List.length_cons, List.length_nil, List.nil_append, List.cons_append, Nat.zero_le, Nat.sub_zero, true_and, and_true, Nat.reduceAdd, Nat.reduceLeDiff, Nat.reduceLT, Nat.reduceSub, Nat.lt_irrefl, Nat.zero_add, Nat.add_zero, Nat.le_refl, k_20, k_10, k_01, ↓mm_if_T, ↓mm_if_F, ↓if10, ↓if00, not_true_eq_false, tf_01, ↓mm_if_tf, ↓mm_if_tn, ↓mm_if_nn, l1, l2, i436, j436, h7, ↓mm_if_t (nI_le (Nat.le_refl k) (show k < 2 ^ 31 by omega))]
    exact h M1 hF
  | succ m ih =>
    intro k M1 hk hL hR hF
    have hlt : ¬ nI N ≤ nI k := nI_ge (by omega) (by omega)
    rw [eK_147_2]
    simp (disch := omega) only [eK_147_0, eK_147_1, eK_147_3, pw_goto, pw_iconst, pw_lconst, pw_ldc2_w, pw_nop0, pw_sipush, qw_aload_n0, qw_gf_b, qw_gf_i, qw_gf_r, qw_i2l, qw_iaload, qw_if_icmp_ge, qw_if_ne, qw_iinc2, qw_iload_n1, qw_iload_n2, qw_invokestatic3, qw_invokevirtual3, qw_ireturn, qw_istore_n2, mm_rf_c, mm_rt_v, mm_rt_i, mm_rt_r, mm_alc_n, mm_alc_c, mm_rc_n, mm_rc_c, mm_wd_n, mm_wd_i, mm_wd_l, mm_wd_r, reduceCtorEq, false_implies, implies_true, true_implies, true_or, or_true, false_or, or_false, not_false_eq_true, mm_nl_n, mm_nl_i, mm_nl_r, mm_args_n, mm_args_i, mm_args_l, mm_args_r, mm_pad_0, mm_pad_n, mm_pad_c, List.length_cons, List.length_nil, List.nil_append, List.cons_append, Nat.zero_le, Nat.sub_zero, true_and, and_true, Nat.reduceAdd, Nat.reduceLeDiff, Nat.reduceLT, Nat.reduceSub, Nat.lt_irrefl, Nat.zero_add, Nat.add_zero, Nat.le_refl, k_20, k_10, k_01, ↓mm_if_T, ↓mm_if_F, ↓if10, ↓if00, not_true_eq_false, tf_01, ↓mm_if_tf, ↓mm_if_tn, ↓mm_if_nn, ↓mm_if_f hlt]
    refine r_143 (B := 429) d hL (by omega) hn (RM_dn hM hF k) hR (WF_dn hW k) 0 (fun M2 hR2 hF2 => ?_)
    rw [if_pos rfl] at hR2
    simp (disch := omega) only [pw_goto, pw_iconst, pw_sipush, qw_aload_n0, qw_if_icmp_ge, qw_iinc2, qw_iload_n1, qw_iload_n2, qw_invokevirtual3, mm_rf_c, mm_rt_v, mm_rt_i, mm_rt_r, mm_alc_n, mm_alc_c, mm_rc_n, mm_rc_c, mm_wd_n, mm_wd_i, mm_wd_l, mm_wd_r, reduceCtorEq, false_implies, implies_true, true_implies, true_or, or_true, false_or, or_false, not_false_eq_true, mm_nl_n, mm_nl_i, mm_nl_r, mm_args_n, mm_args_i, mm_args_l, mm_args_r, mm_pad_0, mm_pad_n, mm_pad_c, List.length_cons, List.length_nil, List.nil_append, List.cons_append, Nat.zero_le, Nat.sub_zero, true_and, and_true, Nat.reduceAdd, Nat.reduceLeDiff, Nat.reduceLT, Nat.reduceSub, Nat.lt_irrefl, Nat.zero_add, Nat.add_zero, Nat.le_refl, k_20, k_10, k_01, ↓mm_if_T, ↓mm_if_F, ↓if10, ↓if00, not_true_eq_false, tf_01, ↓mm_if_tf, ↓mm_if_tn, ↓mm_if_nn, nI_1]
    exact ih (k + 1) M2 (by omega) (LyM_2 hF2.1 hL) hR2 (FB_tr hF hF2)
theorem r_147 (d : Nat) {M : mm_M} {post : mm_Post} {n : Nat} {X : Sx} {a : Nat} {P : Nat → Sx} {b : Nat} {K : Nat → Sx} (hJ : J1 M n X a P b K) (hn : n ≤ 7) (ha : a ≤ 8) (hb : b ≤ 2) (hW : WF n X.1.1) (x : Int32) (h : ∀ M', J1 M' n X a P b K → FY M M' → post (some (.inl (G65 n X x))) M') : pC (d + 6) 147 [.inr (.inr (6, 0)), .inl x] M post := by
  obtain ⟨hL, hM, hR, h9, hP, h10, hK⟩ := id hJ
  unfold G65 at h
  by_cases c1 : 0 ≤ x ∧ x ≤ 60
  · rw [if_pos c1] at h
    obtain ⟨N, hN, rfl⟩ := nI_of2 (M := 60) (n := 60) (by decide) (Int32.not_lt.mpr c1.1) c1.2
    rw [nI_clamp (by omega)] at h
    simp (disch := omega) only [eC_147, eK_147_0, eK_147_1, eK_147_3, pw_iconst, pw_lconst, pw_ldc2_w, pw_nop0, pw_sipush, qw_aload_n0, qw_gf_b, qw_gf_i, qw_gf_r, qw_i2l, qw_iaload, qw_if_ne, qw_iload_n1, qw_invokestatic3, qw_invokevirtual3, qw_ireturn, qw_istore_n2, mm_rf_c, mm_rt_v, mm_rt_i, mm_rt_r, mm_alc_n, mm_alc_c, mm_rc_n, mm_rc_c, mm_wd_n, mm_wd_i, mm_wd_l, mm_wd_r, reduceCtorEq, false_implies, implies_true, true_implies, true_or, or_true, false_or, or_false, not_false_eq_true, mm_nl_n, mm_nl_i, mm_nl_r, mm_args_n, mm_args_i, mm_args_l, mm_args_r, mm_pad_0, mm_pad_n, mm_pad_c, List.length_cons, List.length_nil, List.nil_append, List.cons_append, Nat.zero_le, Nat.sub_zero, true_and, and_true, Nat.reduceAdd, Nat.reduceLeDiff, Nat.reduceLT, Nat.reduceSub, Nat.lt_irrefl, Nat.zero_add, Nat.add_zero, Nat.le_refl, k_20, k_10, k_01, ↓mm_if_T, ↓mm_if_F, ↓if10, ↓if00, not_true_eq_false, tf_01, ↓mm_if_tf, ↓mm_if_tn, ↓mm_if_nn, r_97 (d + 4) (nI N) 0 60, ↓mm_if_t c1]
    refine r_105 (B := 0) (C := 429) (d + 4) hL (by omega) (by omega) (by omega) (fun M1 hF hc => ?_)
    have := k_147 d hn hW hM N hN (M := M) (post := post) (fun M' hF => h M' (J1_t hJ hn ha hb hF) (FY_B hF)) N 0 M1 (by omega) (LyM_2 hF.1 hL) (RB_cp hn hR hc) hF
    simp (disch := omega) only [pw_iconst, pw_nop0, pw_sipush, qw_aload_n0, qw_invokevirtual3, qw_istore_n2, mm_rf_c, mm_rt_v, mm_rt_i, mm_rt_r, mm_alc_n, mm_alc_c, mm_rc_n, mm_rc_c, mm_wd_n, mm_wd_i, mm_wd_l, mm_wd_r, reduceCtorEq, false_implies, implies_true, true_implies, true_or, or_true, false_or, or_false, not_false_eq_true, mm_nl_n, mm_nl_i, mm_nl_r, mm_args_n, mm_args_i, mm_args_l, mm_args_r, mm_pad_0, mm_pad_n, mm_pad_c, List.length_cons, List.length_nil, List.nil_append, List.cons_append, Nat.zero_le, Nat.sub_zero, true_and, and_true, Nat.reduceAdd, Nat.reduceLeDiff, Nat.reduceLT, Nat.reduceSub, Nat.lt_irrefl, Nat.zero_add, Nat.add_zero, Nat.le_refl, k_20, k_10, k_01, ↓mm_if_T, ↓mm_if_F, ↓if10, ↓if00, not_true_eq_false, tf_01, ↓mm_if_tf, ↓mm_if_tn, ↓mm_if_nn]
    exact this
  · rw [if_neg c1] at h
    simp (disch := omega) only [eC_147, eK_147_0, eK_147_1, eK_147_3, pw_iconst, pw_lconst, pw_ldc2_w, pw_nop0, pw_sipush, qw_aload_n0, qw_gf_b, qw_gf_i, qw_gf_r, qw_i2l, qw_iaload, qw_if_ne, qw_iload_n1, qw_invokestatic3, qw_invokevirtual3, qw_ireturn, qw_istore_n2, mm_rf_c, mm_rt_v, mm_rt_i, mm_rt_r, mm_alc_n, mm_alc_c, mm_rc_n, mm_rc_c, mm_wd_n, mm_wd_i, mm_wd_l, mm_wd_r, reduceCtorEq, false_implies, implies_true, true_implies, true_or, or_true, false_or, or_false, not_false_eq_true, mm_nl_n, mm_nl_i, mm_nl_r, mm_args_n, mm_args_i, mm_args_l, mm_args_r, mm_pad_0, mm_pad_n, mm_pad_c, List.length_cons, List.length_nil, List.nil_append, List.cons_append, Nat.zero_le, Nat.sub_zero, true_and, and_true, Nat.reduceAdd, Nat.reduceLeDiff, Nat.reduceLT, Nat.reduceSub, Nat.lt_irrefl, Nat.zero_add, Nat.add_zero, Nat.le_refl, k_20, k_10, k_01, ↓mm_if_T, ↓mm_if_F, ↓if10, ↓if00, not_true_eq_false, tf_01, ↓mm_if_tf, ↓mm_if_tn, ↓mm_if_nn, r_97 (d + 4) x 0 60, ↓mm_if_f c1]
    exact h M hJ (FY_rf M)

def bt (m : Nat) : Nat → Int32
  | 0 => 0
  | k + 1 => bt m k + ((nI m >>> (nI k &&& 31)) &&& 1)
theorem b7_bt : ∀ m, m < 128 → bt m 7 = nI (pcn m) := by decide +kernel
theorem k_100 (d : Nat) (x : Nat) (M : mm_M) (post : mm_Post) (h : post (some (.inl (bt x 7))) M) : ∀ (m v : Nat), v + m = 7 → pK d 100 post 1 [some (.inl (nI x)), some (.inl (bt x v)), some (.inl (nI v))] [] M (0, 0) := by
  intro m
  induction m with
  | zero =>
    intro v hv
    have e : v = 7 := by omega
    subst e
    rw [eK_100_1]
    simp (disch := omega) only [eK_100_0, eK_100_2, pw_bipush, pw_goto, pw_iconst, pw_nop0, qw_iadd, qw_iand, qw_if_icmp_ge, qw_iinc2, qw_iload_n0, qw_iload_n1, qw_iload_n2, qw_ireturn, qw_ishr, qw_istore_n1, qw_istore_n2, mm_rf_c, mm_rt_v, mm_rt_i, mm_rt_r, mm_alc_n, mm_alc_c, mm_rc_n, mm_rc_c, mm_wd_n, mm_wd_i, mm_wd_l, mm_wd_r, reduceCtorEq, false_implies, implies_true, true_implies, true_or, or_true, false_or, or_false, not_false_eq_true, mm_nl_n, mm_nl_i, mm_nl_r, mm_args_n, mm_args_i, mm_args_l, mm_args_r, mm_pad_0, mm_pad_n, mm_pad_c, List.length_cons, List.length_nil, List.nil_append, List.cons_append, Nat.zero_le, Nat.sub_zero, true_and, and_true, Nat.reduceAdd, Nat.reduceLeDiff, Nat.reduceLT, Nat.reduceSub, Nat.lt_irrefl, Nat.zero_add, Nat.add_zero, Nat.le_refl, k_20, k_10, k_01, ↓mm_if_T, ↓mm_if_F, ↓if10, ↓if00, not_true_eq_false, tf_01, ↓mm_if_tf, ↓mm_if_tn, ↓mm_if_nn, ↓mm_if_t (show (7 : Int32) ≤ nI 7 by decide)]
    exact h
  | succ m ih =>
    intro v hv
    have hlt : ¬ (7 : Int32) ≤ nI v := nI_ge (b := 7) (by omega) (by omega)
    rw [eK_100_1]
    simp (disch := omega) only [eK_100_0, eK_100_2, pw_bipush, pw_goto, pw_iconst, pw_nop0, qw_iadd, qw_iand, qw_if_icmp_ge, qw_iinc2, qw_iload_n0, qw_iload_n1, qw_iload_n2, qw_ireturn, qw_ishr, qw_istore_n1, qw_istore_n2, mm_rf_c, mm_rt_v, mm_rt_i, mm_rt_r, mm_alc_n, mm_alc_c, mm_rc_n, mm_rc_c, mm_wd_n, mm_wd_i, mm_wd_l, mm_wd_r, reduceCtorEq, false_implies, implies_true, true_implies, true_or, or_true, false_or, or_false, not_false_eq_true, mm_nl_n, mm_nl_i, mm_nl_r, mm_args_n, mm_args_i, mm_args_l, mm_args_r, mm_pad_0, mm_pad_n, mm_pad_c, List.length_cons, List.length_nil, List.nil_append, List.cons_append, Nat.zero_le, Nat.sub_zero, true_and, and_true, Nat.reduceAdd, Nat.reduceLeDiff, Nat.reduceLT, Nat.reduceSub, Nat.lt_irrefl, Nat.zero_add, Nat.add_zero, Nat.le_refl, k_20, k_10, k_01, ↓mm_if_T, ↓mm_if_F, ↓if10, ↓if00, not_true_eq_false, tf_01, ↓mm_if_tf, ↓mm_if_tn, ↓mm_if_nn, ↓mm_if_f hlt, nI_1]
    exact ih (v + 1) (by omega)
theorem r_100 (d m : Nat) (hm : m < 128) (M : mm_M) (post : mm_Post) : pC (d + 1) 100 [.inl (nI m)] M post = post (some (.inl (nI (pcn m)))) M := by
  refine pC_one (fun post h => ?_) post
  rw [← b7_bt m hm] at h
  have := k_100 d m M post h 7 0 (by omega)
  simp (disch := omega) only [eC_100, eK_100_0, pw_iconst, pw_nop0, qw_istore_n1, qw_istore_n2, mm_rf_c, mm_rt_v, mm_rt_i, mm_rt_r, mm_alc_n, mm_alc_c, mm_rc_n, mm_rc_c, mm_wd_n, mm_wd_i, mm_wd_l, mm_wd_r, reduceCtorEq, false_implies, implies_true, true_implies, true_or, or_true, false_or, or_false, not_false_eq_true, mm_nl_n, mm_nl_i, mm_nl_r, mm_args_n, mm_args_i, mm_args_l, mm_args_r, mm_pad_0, mm_pad_n, mm_pad_c, List.length_cons, List.length_nil, List.nil_append, List.cons_append, Nat.zero_le, Nat.sub_zero, true_and, and_true, Nat.reduceAdd, Nat.reduceLeDiff, Nat.reduceLT, Nat.reduceSub, Nat.lt_irrefl, Nat.zero_add, Nat.add_zero, Nat.le_refl, k_20, k_10, k_01, ↓mm_if_T, ↓mm_if_F, ↓if10, ↓if00, not_true_eq_false, tf_01, ↓mm_if_tf, ↓mm_if_tn, ↓mm_if_nn]
  exact this
theorem fb_n {A : Nat → Nat → Int32} {n : Nat} (hn : n ≤ 7) : ∃ m, m < 128 ∧ g_fb A n = nI m ∧ nI (pcn m) = nI (ctn (fun w => A w 4) n) := by
  have e := bI_bm (fun w => A w 4) n hn
  have l := bm_lt (fun w => A w 4) n
  have p := b7_pw n hn
  exact ⟨bm (fun w => A w 4) n, by omega, by rw [g_fb_bI]; exact e.1, by rw [e.2]⟩

def FZ6 (M M' : mm_M) : Prop := M'.2 = M.2 ∧ ∀ c i k, ¬ (c = 6 ∧ (k = 11 ∨ k = 16)) → ¬ (c = 7 ∧ (i = 12 ∨ i = 13)) → ¬ c = 8 → mm_I M' c i k = mm_I M c i k
theorem FZ6_rf (M : mm_M) : FZ6 M M := ⟨rfl, fun _ _ _ _ _ _ => rfl⟩
theorem FZ6_s {M M' : mm_M} {c i k : Nat} {v : Int32} (h : FZ6 M M') (hc : (c = 6 ∧ (k = 11 ∨ k = 16)) ∨ (c = 7 ∧ (i = 12 ∨ i = 13)) ∨ c = 8) : FZ6 M (mm_sI M' c i k v) := ⟨h.1, fun c' i' k' a b e => by rw [mm_I_sI, if_neg (by omega)]; exact h.2 c' i' k' a b e⟩
theorem J1_6 {M M' : mm_M} {n : Nat} {X : Sx} {a : Nat} {P : Nat → Sx} {b : Nat} {K : Nat → Sx} (h : J1 M n X a P b K) (hn : n ≤ 7) (ha : a ≤ 8) (hb : b ≤ 2) (hF : FZ6 M M') : J1 M' n X a P b K := J1_f h hn ha hb hF.1 (fun c i k q => hF.2 c i k (by omega) (by omega) (by omega))
set_option maxHeartbeats 2000000 in
theorem r_154 (d : Nat) {M : mm_M} {post : mm_Post} {q : Nat} {nx nl : Nat → Int32} {t : Nat} {lt : Nat → Int32} (hL : LyM M) (hJ : J2 M q nx nl t lt) (hq : q ≤ 6) (ht : t ≤ 200) (x l : Int32) (h : ∀ M', J2 M' (T70 q nx nl x l).2.1 (T70 q nx nl x l).2.2.1 (T70 q nx nl x l).2.2.2 t lt → FZ6 M M' → post (some (.inl (T70 q nx nl x l).1)) M') : pC (d + 2) 154 [.inr (.inr (6, 0)), .inl x, .inl l] M post := by
  obtain ⟨j1, j2, j3, j4⟩ := id hJ
  have l1 := hL.1.2.2.2.2.2.2.2.2.1
  have l2 := hL.1.2.2.2.2.2.2.2.2.2.1
  have l3 : mm_L M 7 12 = 6 := hL.2.2.2.2.2.2.2.2.2.1
  have l4 : mm_L M 7 13 = 6 := hL.2.2.2.2.2.2.2.2.2.2.1
  unfold T70 at h
  by_cases c1 : 0 ≤ x ∧ x ≤ 40
  · by_cases c2 : 0 ≤ l ∧ l ≤ 99
    · rw [if_pos ⟨c1, c2⟩] at h
      by_cases c3 : q < 6
      · rw [if_pos c3] at h
        dsimp only at h
        have c3' : ¬ nI q = 6 := fun z => by have := (nI_eq (a := q) (b := 6) (by omega) (by omega)).mp z; omega
        simp (disch := omega) only [eC_154, eK_154_0, eK_154_1, eK_154_2, eK_154_3, pw_bipush, pw_iconst, pw_lconst, pw_ldc2_w, pw_nop0, qw_aload_n0, qw_dup_i, qw_dup_r, qw_gf_b, qw_gf_i, qw_gf_r, qw_i2l, qw_iadd, qw_iastore, qw_if_eq, qw_if_icmp_ne, qw_if_ne, qw_iload_n1, qw_iload_n2, qw_invokestatic3, qw_ireturn, qw_pf_b, qw_pf_i, qw_pf_r, mm_rf_c, mm_rt_v, mm_rt_i, mm_rt_r, mm_alc_n, mm_alc_c, mm_rc_n, mm_rc_c, mm_wd_n, mm_wd_i, mm_wd_l, mm_wd_r, reduceCtorEq, false_implies, implies_true, true_implies, true_or, or_true, false_or, or_false, not_false_eq_true, mm_nl_n, mm_nl_i, mm_nl_r, mm_args_n, mm_args_i, mm_args_l, mm_args_r, mm_pad_0, mm_pad_n, mm_pad_c, List.length_cons, List.length_nil, List.nil_append, List.cons_append, Nat.zero_le, Nat.sub_zero, true_and, and_true, Nat.reduceAdd, Nat.reduceLeDiff, Nat.reduceLT, Nat.reduceSub, Nat.lt_irrefl, Nat.zero_add, Nat.add_zero, Nat.le_refl, k_20, k_10, k_01, ↓mm_if_T, ↓mm_if_F, ↓if10, ↓if00, not_true_eq_false, tf_01, ↓mm_if_tf, ↓mm_if_tn, ↓mm_if_nn, r_97 d x 0 40, r_97 d l 0 99, ↓mm_if_t c1, ↓mm_if_t c2, j1, ↓mm_if_f c3', l1, l2, l3, l4, vi_, ci_, mm_L_s, mm_R_s, mm_I_c, mm_I_s, nI_1]
        refine h _ ⟨mm_I_s, fun i hi => ?_, ?_, fun i hi => ?_⟩ (FZ6_s (FZ6_s (FZ6_s (FZ6_rf M) (by omega)) (by omega)) (by omega))
        · unfold fu
          by_cases e : i = q
          · subst e
            simp (disch := omega) only [mm_I_c, mm_I_i, mm_I_s, if_true, and_self]
          · obtain ⟨y1, y2⟩ := j2 i (by omega)
            simp (disch := omega) only [mm_I_c, mm_I_i, mm_I_k, e, if_false, y1, y2, and_self]
        · simp (disch := omega) only [mm_I_c, mm_I_k, j3]
        · simp (disch := omega) only [mm_I_c, j4]
      · rw [if_neg c3] at h
        have e6 : q = 6 := by omega
        subst e6
        have c3' : nI 6 = 6 := rfl
        simp (disch := omega) only [eC_154, eK_154_0, eK_154_1, eK_154_2, eK_154_3, pw_bipush, pw_iconst, pw_lconst, pw_ldc2_w, pw_nop0, qw_aload_n0, qw_dup_i, qw_dup_r, qw_gf_b, qw_gf_i, qw_gf_r, qw_i2l, qw_iadd, qw_iastore, qw_if_eq, qw_if_icmp_ne, qw_if_ne, qw_iload_n1, qw_iload_n2, qw_invokestatic3, qw_ireturn, qw_pf_b, qw_pf_i, qw_pf_r, mm_rf_c, mm_rt_v, mm_rt_i, mm_rt_r, mm_alc_n, mm_alc_c, mm_rc_n, mm_rc_c, mm_wd_n, mm_wd_i, mm_wd_l, mm_wd_r, reduceCtorEq, false_implies, implies_true, true_implies, true_or, or_true, false_or, or_false, not_false_eq_true, mm_nl_n, mm_nl_i, mm_nl_r, mm_args_n, mm_args_i, mm_args_l, mm_args_r, mm_pad_0, mm_pad_n, mm_pad_c, List.length_cons, List.length_nil, List.nil_append, List.cons_append, Nat.zero_le, Nat.sub_zero, true_and, and_true, Nat.reduceAdd, Nat.reduceLeDiff, Nat.reduceLT, Nat.reduceSub, Nat.lt_irrefl, Nat.zero_add, Nat.add_zero, Nat.le_refl, k_20, k_10, k_01, ↓mm_if_T, ↓mm_if_F, ↓if10, ↓if00, not_true_eq_false, tf_01, ↓mm_if_tf, ↓mm_if_tn, ↓mm_if_nn, r_97 d x 0 40, r_97 d l 0 99, ↓mm_if_t c1, ↓mm_if_t c2, j1, ↓mm_if_t c3']
        exact h M hJ (FZ6_rf M)
    · rw [if_neg (fun z => c2 z.2)] at h
      simp (disch := omega) only [eC_154, eK_154_0, eK_154_1, eK_154_2, eK_154_3, pw_bipush, pw_iconst, pw_lconst, pw_ldc2_w, pw_nop0, qw_aload_n0, qw_dup_i, qw_dup_r, qw_gf_b, qw_gf_i, qw_gf_r, qw_i2l, qw_iadd, qw_iastore, qw_if_eq, qw_if_icmp_ne, qw_if_ne, qw_iload_n1, qw_iload_n2, qw_invokestatic3, qw_ireturn, qw_pf_b, qw_pf_i, qw_pf_r, mm_rf_c, mm_rt_v, mm_rt_i, mm_rt_r, mm_alc_n, mm_alc_c, mm_rc_n, mm_rc_c, mm_wd_n, mm_wd_i, mm_wd_l, mm_wd_r, reduceCtorEq, false_implies, implies_true, true_implies, true_or, or_true, false_or, or_false, not_false_eq_true, mm_nl_n, mm_nl_i, mm_nl_r, mm_args_n, mm_args_i, mm_args_l, mm_args_r, mm_pad_0, mm_pad_n, mm_pad_c, List.length_cons, List.length_nil, List.nil_append, List.cons_append, Nat.zero_le, Nat.sub_zero, true_and, and_true, Nat.reduceAdd, Nat.reduceLeDiff, Nat.reduceLT, Nat.reduceSub, Nat.lt_irrefl, Nat.zero_add, Nat.add_zero, Nat.le_refl, k_20, k_10, k_01, ↓mm_if_T, ↓mm_if_F, ↓if10, ↓if00, not_true_eq_false, tf_01, ↓mm_if_tf, ↓mm_if_tn, ↓mm_if_nn, r_97 d x 0 40, r_97 d l 0 99, ↓mm_if_t c1, ↓mm_if_f c2]
      exact h M hJ (FZ6_rf M)
  · rw [if_neg (fun z => c1 z.1)] at h
    simp (disch := omega) only [eC_154, eK_154_0, eK_154_1, eK_154_2, eK_154_3, pw_bipush, pw_iconst, pw_lconst, pw_ldc2_w, pw_nop0, qw_aload_n0, qw_dup_i, qw_dup_r, qw_gf_b, qw_gf_i, qw_gf_r, qw_i2l, qw_iadd, qw_iastore, qw_if_eq, qw_if_icmp_ne, qw_if_ne, qw_iload_n1, qw_iload_n2, qw_invokestatic3, qw_ireturn, qw_pf_b, qw_pf_i, qw_pf_r, mm_rf_c, mm_rt_v, mm_rt_i, mm_rt_r, mm_alc_n, mm_alc_c, mm_rc_n, mm_rc_c, mm_wd_n, mm_wd_i, mm_wd_l, mm_wd_r, reduceCtorEq, false_implies, implies_true, true_implies, true_or, or_true, false_or, or_false, not_false_eq_true, mm_nl_n, mm_nl_i, mm_nl_r, mm_args_n, mm_args_i, mm_args_l, mm_args_r, mm_pad_0, mm_pad_n, mm_pad_c, List.length_cons, List.length_nil, List.nil_append, List.cons_append, Nat.zero_le, Nat.sub_zero, true_and, and_true, Nat.reduceAdd, Nat.reduceLeDiff, Nat.reduceLT, Nat.reduceSub, Nat.lt_irrefl, Nat.zero_add, Nat.add_zero, Nat.le_refl, k_20, k_10, k_01, ↓mm_if_T, ↓mm_if_F, ↓if10, ↓if00, not_true_eq_false, tf_01, ↓mm_if_tf, ↓mm_if_tn, ↓mm_if_nn, r_97 d x 0 40, ↓mm_if_f c1]
    exact h M hJ (FZ6_rf M)
theorem r_155 (d : Nat) {M : mm_M} {post : mm_Post} {q : Nat} {nx nl : Nat → Int32} {t : Nat} {lt : Nat → Int32} (hL : LyM M) (hJ : J2 M q nx nl t lt) (hq : q ≤ 6) (ht : t ≤ 200) (h : ∀ M', J2 M' 0 nx nl t lt → FZ6 M M' → post (some (.inl (nI q))) M') : pC (d + 1) 155 [.inr (.inr (6, 0))] M post := by
  obtain ⟨j1, j2, j3, j4⟩ := id hJ
  simp (disch := omega) only [eC_155, eK_155_0, pw_iconst, qw_aload_n0, qw_gf_b, qw_gf_i, qw_gf_r, qw_iload_n1, qw_ireturn, qw_istore_n1, qw_pf_b, qw_pf_i, qw_pf_r, mm_rf_c, mm_rt_v, mm_rt_i, mm_rt_r, mm_alc_n, mm_alc_c, mm_rc_n, mm_rc_c, mm_wd_n, mm_wd_i, mm_wd_l, mm_wd_r, reduceCtorEq, false_implies, implies_true, true_implies, true_or, or_true, false_or, or_false, not_false_eq_true, mm_nl_n, mm_nl_i, mm_nl_r, mm_args_n, mm_args_i, mm_args_l, mm_args_r, mm_pad_0, mm_pad_n, mm_pad_c, List.length_cons, List.length_nil, List.nil_append, List.cons_append, Nat.zero_le, Nat.sub_zero, true_and, and_true, Nat.reduceAdd, Nat.reduceLeDiff, Nat.reduceLT, Nat.reduceSub, Nat.lt_irrefl, Nat.zero_add, Nat.add_zero, Nat.le_refl, k_20, k_10, k_01, ↓mm_if_T, ↓mm_if_F, ↓if10, ↓if00, not_true_eq_false, tf_01, ↓mm_if_tf, ↓mm_if_tn, ↓mm_if_nn, j1]
  exact h _ ⟨mm_I_s, fun i hi => by omega, by rw [mm_I_k (by omega)]; exact j3, fun i hi => by rw [mm_I_c (by omega)]; exact j4 i hi⟩ (FZ6_s (FZ6_rf M) (by omega))
theorem r_108 (d : Nat) {M : mm_M} {post : mm_Post} {q : Nat} {nx nl : Nat → Int32} {t : Nat} {lt : Nat → Int32} (hL : LyM M) (hJ : J2 M q nx nl t lt) (hq : q ≤ 6) (ht : t ≤ 200) (h : ∀ M', J2 M' q nx nl 0 lt → FZ6 M M' → post (some (.inl (nI t))) M') : pC (d + 1) 108 [.inr (.inr (6, 0))] M post := by
  obtain ⟨j1, j2, j3, j4⟩ := id hJ
  simp (disch := omega) only [eC_108, eK_108_0, pw_iconst, qw_aload_n0, qw_gf_b, qw_gf_i, qw_gf_r, qw_iload_n1, qw_ireturn, qw_istore_n1, qw_pf_b, qw_pf_i, qw_pf_r, mm_rf_c, mm_rt_v, mm_rt_i, mm_rt_r, mm_alc_n, mm_alc_c, mm_rc_n, mm_rc_c, mm_wd_n, mm_wd_i, mm_wd_l, mm_wd_r, reduceCtorEq, false_implies, implies_true, true_implies, true_or, or_true, false_or, or_false, not_false_eq_true, mm_nl_n, mm_nl_i, mm_nl_r, mm_args_n, mm_args_i, mm_args_l, mm_args_r, mm_pad_0, mm_pad_n, mm_pad_c, List.length_cons, List.length_nil, List.nil_append, List.cons_append, Nat.zero_le, Nat.sub_zero, true_and, and_true, Nat.reduceAdd, Nat.reduceLeDiff, Nat.reduceLT, Nat.reduceSub, Nat.lt_irrefl, Nat.zero_add, Nat.add_zero, Nat.le_refl, k_20, k_10, k_01, ↓mm_if_T, ↓mm_if_F, ↓if10, ↓if00, not_true_eq_false, tf_01, ↓mm_if_tf, ↓mm_if_tn, ↓mm_if_nn, j3]
  exact h _ ⟨by rw [mm_I_k (by omega)]; exact j1, fun i hi => by rw [mm_I_c (by omega), mm_I_c (by omega)]; exact j2 i hi, mm_I_s, fun i hi => by omega⟩ (FZ6_s (FZ6_rf M) (by omega))
theorem b7_by : ∀ k, k < 127 → vp_nar .byte (nI k).toInt8.toInt32 = nI k := by decide +kernel
set_option maxHeartbeats 2000000 in
theorem r_107 (d : Nat) {M : mm_M} {post : mm_Post} {q : Nat} {nx nl : Nat → Int32} {t : Nat} {lt : Nat → Int32} (hL : LyM M) (hJ : J2 M q nx nl t lt) (hq : q ≤ 6) (ht : t ≤ 200) (x : Int32) (h : ∀ M', J2 M' q nx nl (T49 t lt x).2.1 (T49 t lt x).2.2 → FZ6 M M' → post (some (.inl (T49 t lt x).1)) M') : pC (d + 2) 107 [.inr (.inr (6, 0)), .inl x] M post := by
  obtain ⟨j1, j2, j3, j4⟩ := id hJ
  have l1 : mm_R M 6 0 12 = some 0 := hL.1.2.2.2.2.2.2.2.1
  have l2 : mm_L M 8 0 = 200 := hL.2.2.2.2.2.2.2.2.1
  unfold T49 at h
  by_cases c1 : 32 ≤ x ∧ x ≤ 126
  · rw [if_pos c1] at h
    obtain ⟨k, hk, rfl⟩ := nI_of2 (M := 126) (n := 126) (by decide) (Int32.not_lt.mpr (Int32.le_trans (by decide) c1.1)) c1.2
    have eb := b7_by k (by omega)
    by_cases c3 : t < 200
    · rw [if_pos c3] at h
      dsimp only at h
      have c3' : ¬ nI t = 200 := fun z => by have := (nI_eq (a := t) (b := 200) (by omega) (by omega)).mp z; omega
      simp (disch := omega) only [eC_107, eK_107_0, eK_107_1, eK_107_2, pw_bipush, pw_iconst, pw_ldc2_w, pw_sipush, qw_aload_n0, qw_bastore, qw_dup_i, qw_dup_r, qw_gf_b, qw_gf_i, qw_gf_r, qw_i2b, qw_i2l, qw_iadd, qw_if_icmp_ne, qw_if_ne, qw_iload_n1, qw_invokestatic3, qw_ireturn, qw_pf_b, qw_pf_i, qw_pf_r, mm_rf_c, mm_rt_v, mm_rt_i, mm_rt_r, mm_alc_n, mm_alc_c, mm_rc_n, mm_rc_c, mm_wd_n, mm_wd_i, mm_wd_l, mm_wd_r, reduceCtorEq, false_implies, implies_true, true_implies, true_or, or_true, false_or, or_false, not_false_eq_true, mm_nl_n, mm_nl_i, mm_nl_r, mm_args_n, mm_args_i, mm_args_l, mm_args_r, mm_pad_0, mm_pad_n, mm_pad_c, List.length_cons, List.length_nil, List.nil_append, List.cons_append, Nat.zero_le, Nat.sub_zero, true_and, and_true, Nat.reduceAdd, Nat.reduceLeDiff, Nat.reduceLT, Nat.reduceSub, Nat.lt_irrefl, Nat.zero_add, Nat.add_zero, Nat.le_refl, k_20, k_10, k_01, ↓mm_if_T, ↓mm_if_F, ↓if10, ↓if00, not_true_eq_false, tf_01, ↓mm_if_tf, ↓mm_if_tn, ↓mm_if_nn, r_97 d (nI k) 32 126, ↓mm_if_t c1, j3, ↓mm_if_f c3', l1, l2, vi_, ci_, mm_L_s, mm_R_s, mm_I_c, mm_I_s, nI_1, eb]
      refine h _ ⟨?_, fun i hi => ?_, mm_I_s, fun i hi => ?_⟩ (FZ6_s (FZ6_s (FZ6_rf M) (by omega)) (by omega))
      · simp (disch := omega) only [mm_I_c, mm_I_k, j1]
      · obtain ⟨y1, y2⟩ := j2 i (by omega)
        simp (disch := omega) only [mm_I_c, y1, y2, and_self]
      · unfold fu
        by_cases e : i = t
        · subst e
          simp (disch := omega) only [mm_I_c, mm_I_s, if_true]
        · simp (disch := omega) only [mm_I_c, mm_I_k, e, if_false]
          exact j4 i (by omega)
    · rw [if_neg c3] at h
      have e6 : t = 200 := by omega
      subst e6
      have c3' : nI 200 = 200 := rfl
      simp (disch := omega) only [eC_107, eK_107_0, eK_107_1, eK_107_2, pw_bipush, pw_iconst, pw_ldc2_w, pw_sipush, qw_aload_n0, qw_bastore, qw_dup_i, qw_dup_r, qw_gf_b, qw_gf_i, qw_gf_r, qw_i2b, qw_i2l, qw_iadd, qw_if_icmp_ne, qw_if_ne, qw_iload_n1, qw_invokestatic3, qw_ireturn, qw_pf_b, qw_pf_i, qw_pf_r, mm_rf_c, mm_rt_v, mm_rt_i, mm_rt_r, mm_alc_n, mm_alc_c, mm_rc_n, mm_rc_c, mm_wd_n, mm_wd_i, mm_wd_l, mm_wd_r, reduceCtorEq, false_implies, implies_true, true_implies, true_or, or_true, false_or, or_false, not_false_eq_true, mm_nl_n, mm_nl_i, mm_nl_r, mm_args_n, mm_args_i, mm_args_l, mm_args_r, mm_pad_0, mm_pad_n, mm_pad_c, List.length_cons, List.length_nil, List.nil_append, List.cons_append, Nat.zero_le, Nat.sub_zero, true_and, and_true, Nat.reduceAdd, Nat.reduceLeDiff, Nat.reduceLT, Nat.reduceSub, Nat.lt_irrefl, Nat.zero_add, Nat.add_zero, Nat.le_refl, k_20, k_10, k_01, ↓mm_if_T, ↓mm_if_F, ↓if10, ↓if00, not_true_eq_false, tf_01, ↓mm_if_tf, ↓mm_if_tn, ↓mm_if_nn, r_97 d (nI k) 32 126, ↓mm_if_t c1, j3, ↓mm_if_t c3']
      exact h M hJ (FZ6_rf M)
  · rw [if_neg c1] at h
    simp (disch := omega) only [eC_107, eK_107_0, eK_107_1, eK_107_2, pw_bipush, pw_iconst, pw_ldc2_w, pw_sipush, qw_aload_n0, qw_bastore, qw_dup_i, qw_dup_r, qw_gf_b, qw_gf_i, qw_gf_r, qw_i2b, qw_i2l, qw_iadd, qw_if_icmp_ne, qw_if_ne, qw_iload_n1, qw_invokestatic3, qw_ireturn, qw_pf_b, qw_pf_i, qw_pf_r, mm_rf_c, mm_rt_v, mm_rt_i, mm_rt_r, mm_alc_n, mm_alc_c, mm_rc_n, mm_rc_c, mm_wd_n, mm_wd_i, mm_wd_l, mm_wd_r, reduceCtorEq, false_implies, implies_true, true_implies, true_or, or_true, false_or, or_false, not_false_eq_true, mm_nl_n, mm_nl_i, mm_nl_r, mm_args_n, mm_args_i, mm_args_l, mm_args_r, mm_pad_0, mm_pad_n, mm_pad_c, List.length_cons, List.length_nil, List.nil_append, List.cons_append, Nat.zero_le, Nat.sub_zero, true_and, and_true, Nat.reduceAdd, Nat.reduceLeDiff, Nat.reduceLT, Nat.reduceSub, Nat.lt_irrefl, Nat.zero_add, Nat.add_zero, Nat.le_refl, k_20, k_10, k_01, ↓mm_if_T, ↓mm_if_F, ↓if10, ↓if00, not_true_eq_false, tf_01, ↓mm_if_tf, ↓mm_if_tn, ↓mm_if_nn, r_97 d x 32 126, ↓mm_if_f c1]
    exact h M hJ (FZ6_rf M)

