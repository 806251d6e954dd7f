/-! THE REFERENCE: who is heard -/
set_option maxHeartbeats 4000000 in
theorem r_123 (d : Nat) {M : mm_M} {post : mm_Post} {B n : Nat} {X : Sx} (hL : LyM M) (hB : B ≤ 429) (hn : n ≤ 7) (hM : RM M n X.1.1) (hR : RB M B n X) (hW : WF n X.1.1) {w : Nat} (hw : w < n) (ev : Int32) : pC (d + 3) 123 [.inr (.inr (6, 0)), .inl (nI B), .inl (nI w), .inl ev] M post = post (some (.inl (tf (X.1.1 w 5 = 2 ∧ ¬ f_rbi (X.1.1 w 0) (g_at X.1.1 w w) (X.1.1 w 7) ev = 0)))) M := by
  have l1 := hL.1.2.2.2.2.2.2.1
  have l2 : mm_L M 7 11 = 468 := hL.2.2.2.2.2.2.2.1
  have a1 := hL.1.1
  have a2 := hL.1.2.1
  have a3 : mm_L M 7 5 = 7 := hL.2.1
  have a4 : mm_L M 7 6 = 7 := hL.2.2.1
  have e151 : nI B + 15 + nI w = nI (B + 15 + w) := by rw [show nI B + 15 = nI (B + 15) from nI_add B 15, nI_add]
  have e152 : vp_in (nI (B + 15 + w)) 468 := vp_in_nI (by omega) (by omega)
  have e153 : (nI (B + 15 + w)).toNatClampNeg = B + 15 + w := nI_clamp (by omega)
  obtain ⟨q1, q2, q3⟩ := nI_v7 hw hn
  obtain ⟨_, b1, b2, b3, _⟩ := hR.1 w hw
  obtain ⟨h0, h1, h2⟩ := hM.2 w hw
  have hx := (hW w hw).2.1
  by_cases hh : X.1.1 w 5 = 2
  · have hne : ¬ X.1.1 w 5 = 0 := by rw [hh]; decide
    rw [if_neg hne] at b2
    simp only [eC_123, eK_123_0, eK_123_1, eK_123_2, eK_123_3, eK_123_4, eK_123_5, eK_123_6, eK_123_7, pw_aload_n, pw_bipush, pw_getfield, pw_goto, pw_iadd, pw_iaload, pw_iconst, pw_ifCond, pw_if_icmp, pw_iload, pw_iload_n, pw_invokevirtual, pw_ireturn, pw_istore, pw_nop0, mm_pI_c, mm_pL_c, mm_pA_c, mm_pR_c, mm_p1_i, mm_p1_r, mm_pN_0, mm_pN_s, mm_lI_c, mm_lL_c, mm_lA_c, mm_wd_n, mm_wd_i, mm_wd_l, mm_wd_r, mm_gf_i, mm_gf_b, mm_gf_r, mm_rf_c, mm_pf_i, mm_pf_b, mm_pf_r, mm_rt_v, mm_rt_i, mm_rt_r, mm_c_eq, mm_c_ne, mm_c_lt, mm_c_ge, mm_c_gt, mm_c_le, mm_sw_n, mm_sw_c, mm_alc_n, mm_alc_c, mm_rc_n, mm_rc_c, reduceCtorEq, false_implies, implies_true, true_implies, true_or, or_true, false_or, or_false, not_false_eq_true, mm_at_0, mm_at_s, mm_set_0, mm_set_s, mm_nl_n, mm_nl_i, mm_nl_r, mm_args_n, mm_args_i, mm_args_l, mm_args_r, mm_pad_0, mm_pad_n, mm_pad_c, List.length_cons, List.length_nil, List.nil_append, List.cons_append, Nat.zero_le, Nat.sub_zero, true_and, and_true, Nat.reduceAdd, Nat.reduceLeDiff, Nat.reduceLT, Nat.reduceSub, Nat.lt_irrefl, Nat.zero_add, Nat.add_zero, k_20, k_10, k_01, mm_if_T, mm_if_F, not_true_eq_false, not_false_eq_true, l1, l2, a1, a2, a3, a4, q1, q2, e151, e152, e153, b2, h0, h1, r_120 (d + 1) hL hB hn hR hw hW, hh, r_122 d hL hB hn hR hw hW hh _ hx, tf_0, mm_if_v]
    unfold f_rbi g_at tf
    clear hR hM hL hW b1 b3 e151 e152 e153
    grind
  · have e : tf (X.1.1 w 5 = 2 ∧ ¬ f_rbi (X.1.1 w 0) (g_at X.1.1 w w) (X.1.1 w 7) ev = 0) = 0 := by unfold tf; exact if_neg (fun z => hh z.1)
    rw [e]
    simp only [eC_123, eK_123_0, eK_123_1, eK_123_2, eK_123_3, eK_123_4, eK_123_5, eK_123_6, eK_123_7, pw_aload_n, pw_bipush, pw_getfield, pw_goto, pw_iadd, pw_iaload, pw_iconst, pw_ifCond, pw_if_icmp, pw_iload, pw_iload_n, pw_invokevirtual, pw_ireturn, pw_istore, pw_nop0, mm_pI_c, mm_pL_c, mm_pA_c, mm_pR_c, mm_p1_i, mm_p1_r, mm_pN_0, mm_pN_s, mm_lI_c, mm_lL_c, mm_lA_c, mm_wd_n, mm_wd_i, mm_wd_l, mm_wd_r, mm_gf_i, mm_gf_b, mm_gf_r, mm_rf_c, mm_pf_i, mm_pf_b, mm_pf_r, mm_rt_v, mm_rt_i, mm_rt_r, mm_c_eq, mm_c_ne, mm_c_lt, mm_c_ge, mm_c_gt, mm_c_le, mm_sw_n, mm_sw_c, mm_alc_n, mm_alc_c, mm_rc_n, mm_rc_c, reduceCtorEq, false_implies, implies_true, true_implies, true_or, or_true, false_or, or_false, not_false_eq_true, mm_at_0, mm_at_s, mm_set_0, mm_set_s, mm_nl_n, mm_nl_i, mm_nl_r, mm_args_n, mm_args_i, mm_args_l, mm_args_r, mm_pad_0, mm_pad_n, mm_pad_c, List.length_cons, List.length_nil, List.nil_append, List.cons_append, Nat.zero_le, Nat.sub_zero, true_and, and_true, Nat.reduceAdd, Nat.reduceLeDiff, Nat.reduceLT, Nat.reduceSub, Nat.lt_irrefl, Nat.zero_add, Nat.add_zero, k_20, k_10, k_01, mm_if_T, mm_if_F, not_true_eq_false, not_false_eq_true, r_120 (d + 1) hL hB hn hR hw hW, hh, tf_0, mm_if_v]

set_option maxHeartbeats 8000000 in
theorem k_124 (d : Nat) {M : mm_M} {post : mm_Post} {B n : Nat} {X : Sx} (hL : LyM M) (hB : B ≤ 429) (hn : n ≤ 7) (hM : RM M n X.1.1) (hR : RB M B n X) (hW : WF n X.1.1) {w : Nat} (hw : w < n) (hh : X.1.1 w 5 = 2) (h : post (some (.inl (g_cv X.1.1 w n))) M) : ∀ (m v : Nat) (u z : Option mm_V), v + m = n → pK (d + 2) 124 post 1 [some (.inr (.inr (6, 0))), some (.inl (nI B)), some (.inl (nI w)), some (.inl (g_cv X.1.1 w v)), some (.inl (nI v)), u, z] [] M (0, 0) := by
  have l1 := hL.1.2.2.2.2.2.2.1
  have l2 : mm_L M 7 11 = 468 := hL.2.2.2.2.2.2.2.1
  have a1 := hL.1.1
  have a2 := hL.1.2.1
  have a3 : mm_L M 7 5 = 7 := hL.2.1
  have a4 : mm_L M 7 6 = 7 := hL.2.2.1
  have e291 : nI B + 29 + nI w = nI (B + 29 + w) := by rw [show nI B + 29 = nI (B + 29) from nI_add B 29, nI_add]
  have e292 : vp_in (nI (B + 29 + w)) 468 := vp_in_nI (by omega) (by omega)
  have e293 : (nI (B + 29 + w)).toNatClampNeg = B + 29 + w := nI_clamp (by omega)
  obtain ⟨q1, q2, q3⟩ := nI_v7 hw hn
  obtain ⟨_, _, _, _, c4⟩ := hR.1 w hw
  have c5 := c4 hh
  obtain ⟨h0, h1, h2⟩ := hM.2 w hw
  have hm := hM.1
  have hx := (hW w hw).2.1
  intro m
  induction m with
  | zero =>
    intro v u z hv
    have e : v = n := by omega
    subst e
    rw [eK_124_1]
    simp only [eK_124_0, eK_124_2, eK_124_3, eK_124_4, eK_124_5, eK_124_6, eK_124_7, eK_124_8, pw_aload_n, pw_bipush, pw_getfield, pw_goto, pw_iadd, pw_iaload, pw_iconst, pw_ifCond, pw_if_icmp, pw_iinc, pw_iload, pw_iload_n, pw_invokevirtual, pw_ior, pw_ireturn, pw_ishl, pw_istore, pw_istore_n, pw_nop0, mm_pI_c, mm_pL_c, mm_pA_c, mm_pR_c, mm_p1_i, mm_p1_r, mm_pN_0, mm_pN_s, mm_lI_c, mm_lL_c, mm_lA_c, mm_wd_n, mm_wd_i, mm_wd_l, mm_wd_r, mm_gf_i, mm_gf_b, mm_gf_r, mm_rf_c, mm_pf_i, mm_pf_b, mm_pf_r, mm_rt_v, mm_rt_i, mm_rt_r, mm_c_eq, mm_c_ne, mm_c_lt, mm_c_ge, mm_c_gt, mm_c_le, mm_sw_n, mm_sw_c, mm_alc_n, mm_alc_c, mm_rc_n, mm_rc_c, reduceCtorEq, false_implies, implies_true, true_implies, true_or, or_true, false_or, or_false, not_false_eq_true, mm_at_0, mm_at_s, mm_set_0, mm_set_s, mm_nl_n, mm_nl_i, mm_nl_r, mm_args_n, mm_args_i, mm_args_l, mm_args_r, mm_pad_0, mm_pad_n, mm_pad_c, List.length_cons, List.length_nil, List.nil_append, List.cons_append, Nat.zero_le, Nat.sub_zero, true_and, and_true, Nat.reduceAdd, Nat.reduceLeDiff, Nat.reduceLT, Nat.reduceSub, Nat.lt_irrefl, Nat.zero_add, Nat.add_zero, k_20, k_10, k_01, mm_if_T, mm_if_F, not_true_eq_false, not_false_eq_true, hm, mm_if_t (nI_le (Nat.le_refl v) (show v < 2 ^ 31 by omega))]
    exact h
  | succ m ih =>
    intro v u z hv
    have hvn : v < n := by omega
    have f291 : nI B + 29 + nI v = nI (B + 29 + v) := by rw [show nI B + 29 = nI (B + 29) from nI_add B 29, nI_add]
    have f292 : vp_in (nI (B + 29 + v)) 468 := vp_in_nI (by omega) (by omega)
    have f293 : (nI (B + 29 + v)).toNatClampNeg = B + 29 + v := nI_clamp (by omega)
    obtain ⟨v1, v2, v3⟩ := nI_v7 hvn hn
    obtain ⟨_, b1, b2, b3, b4⟩ := hR.1 v hvn
    have q5 := nI_e7 (show v < 8 by omega) (show w < 8 by omega)
    have key := fun u z => ih (v + 1) u z (by omega)
    have hun : g_cv X.1.1 w (v + 1) = if ¬ v = w ∧ X.1.1 v 5 = 2 ∧ X.1.1 v 10 = X.1.1 w 10 ∧ ¬ g_dr X.1.1 v w = 0 then g_cv X.1.1 w v ||| (1 <<< (nI v &&& 31)) else g_cv X.1.1 w v := rfl
    rw [hun] at key
    rw [eK_124_1]
    by_cases hv5 : X.1.1 v 5 = 2
    · have b5 := b4 hv5
      simp only [eK_124_0, eK_124_2, eK_124_3, eK_124_4, eK_124_5, eK_124_6, eK_124_7, eK_124_8, pw_aload_n, pw_bipush, pw_getfield, pw_goto, pw_iadd, pw_iaload, pw_iconst, pw_ifCond, pw_if_icmp, pw_iinc, pw_iload, pw_iload_n, pw_invokevirtual, pw_ior, pw_ireturn, pw_ishl, pw_istore, pw_istore_n, pw_nop0, mm_pI_c, mm_pL_c, mm_pA_c, mm_pR_c, mm_p1_i, mm_p1_r, mm_pN_0, mm_pN_s, mm_lI_c, mm_lL_c, mm_lA_c, mm_wd_n, mm_wd_i, mm_wd_l, mm_wd_r, mm_gf_i, mm_gf_b, mm_gf_r, mm_rf_c, mm_pf_i, mm_pf_b, mm_pf_r, mm_rt_v, mm_rt_i, mm_rt_r, mm_c_eq, mm_c_ne, mm_c_lt, mm_c_ge, mm_c_gt, mm_c_le, mm_sw_n, mm_sw_c, mm_alc_n, mm_alc_c, mm_rc_n, mm_rc_c, reduceCtorEq, false_implies, implies_true, true_implies, true_or, or_true, false_or, or_false, not_false_eq_true, mm_at_0, mm_at_s, mm_set_0, mm_set_s, mm_nl_n, mm_nl_i, mm_nl_r, mm_args_n, mm_args_i, mm_args_l, mm_args_r, mm_pad_0, mm_pad_n, mm_pad_c, List.length_cons, List.length_nil, List.nil_append, List.cons_append, Nat.zero_le, Nat.sub_zero, true_and, and_true, Nat.reduceAdd, Nat.reduceLeDiff, Nat.reduceLT, Nat.reduceSub, Nat.lt_irrefl, Nat.zero_add, Nat.add_zero, k_20, k_10, k_01, mm_if_T, mm_if_F, not_true_eq_false, not_false_eq_true, hm, mm_if_f v3, l1, l2, a2, a4, q1, q2, q5, e291, e292, e293, f291, f292, f293, b5, c5, h1, r_120 (d + 1) hL hB hn hR hvn hW, hv5, r_122 d hL hB hn hR hvn hW hv5 _ hx, r_122 d hL hB hn hR hw hW hh _ hx, tf_0, mm_if_v, nI_1, Int32.or_zero]
      unfold g_dr g_at tf at key
      clear hR hM hL hW ih h hun
      done
    · have key2 := key
      rw [if_neg (fun z => hv5 z.2.1)] at key2
      simp only [eK_124_0, eK_124_2, eK_124_3, eK_124_4, eK_124_5, eK_124_6, eK_124_7, eK_124_8, pw_aload_n, pw_bipush, pw_getfield, pw_goto, pw_iadd, pw_iaload, pw_iconst, pw_ifCond, pw_if_icmp, pw_iinc, pw_iload, pw_iload_n, pw_invokevirtual, pw_ior, pw_ireturn, pw_ishl, pw_istore, pw_istore_n, pw_nop0, mm_pI_c, mm_pL_c, mm_pA_c, mm_pR_c, mm_p1_i, mm_p1_r, mm_pN_0, mm_pN_s, mm_lI_c, mm_lL_c, mm_lA_c, mm_wd_n, mm_wd_i, mm_wd_l, mm_wd_r, mm_gf_i, mm_gf_b, mm_gf_r, mm_rf_c, mm_pf_i, mm_pf_b, mm_pf_r, mm_rt_v, mm_rt_i, mm_rt_r, mm_c_eq, mm_c_ne, mm_c_lt, mm_c_ge, mm_c_gt, mm_c_le, mm_sw_n, mm_sw_c, mm_alc_n, mm_alc_c, mm_rc_n, mm_rc_c, reduceCtorEq, false_implies, implies_true, true_implies, true_or, or_true, false_or, or_false, not_false_eq_true, mm_at_0, mm_at_s, mm_set_0, mm_set_s, mm_nl_n, mm_nl_i, mm_nl_r, mm_args_n, mm_args_i, mm_args_l, mm_args_r, mm_pad_0, mm_pad_n, mm_pad_c, List.length_cons, List.length_nil, List.nil_append, List.cons_append, Nat.zero_le, Nat.sub_zero, true_and, and_true, Nat.reduceAdd, Nat.reduceLeDiff, Nat.reduceLT, Nat.reduceSub, Nat.lt_irrefl, Nat.zero_add, Nat.add_zero, k_20, k_10, k_01, mm_if_T, mm_if_F, not_true_eq_false, not_false_eq_true, hm, mm_if_f v3, l1, l2, a2, a4, q1, q2, q5, r_120 (d + 1) hL hB hn hR hvn hW, hv5, tf_0, mm_if_v, nI_1, Int32.or_zero]
      clear hR hM hL hW ih h hun key
      done

