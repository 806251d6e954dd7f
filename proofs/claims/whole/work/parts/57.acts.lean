/-! THE REFERENCE: acts -/
theorem fb_has {A : Nat → Nat → Int32} {n w : Nat} (hn : n ≤ 7) (hw : w < n) : (g_fb A n >>> (nI w &&& 31)) &&& 1 = 1 ↔ ¬ A w 4 = 0 := by
  rw [g_fb_bI, bI_bit hn hw, tf_1]
set_option maxHeartbeats 2000000 in
theorem r_134 (d : Nat) {M : mm_M} {post : mm_Post} {B n : Nat} {X : Sx} (hL : LyM M) (hB : B ≤ 429) (hn : n ≤ 7) (hW : WF n X.1.1) (hR : RB M B n X) {w : Nat} (hw : w < n) (c t : Int32) : pC (d + 2) 134 [.inr (.inr (6, 0)), .inl (nI B), .inl (nI w), .inl c, .inl t] M post = post (some (.inl (tf (¬ 1 ≤ X.1.1 w 5 ∧ X.1.1 w 4 = 0 ∧ c ≤ X.1.2.1 ∧ t ≤ X.1.2.2)))) M := by
  have l1 := hL.1.2.2.2.2.2.2.1
  have l2 : mm_L M 7 11 = 468 := hL.2.2.2.2.2.2.2.1
  have a1 := hL.1.1
  have a2 := hL.1.2.1
  have a5 := hL.1.2.2.1
  have a3 : mm_L M 7 5 = 7 := hL.2.1
  have a4 : mm_L M 7 6 = 7 := hL.2.2.1
  have a6 : mm_L M 7 7 = 7 := hL.2.2.2.1
  have h7 := hR.2.1
  have h3 := hR.2.2.1
  have h4 := hR.2.2.2.1
  by_cases c1 : 1 ≤ X.1.1 w 5
  · rw [tf_f (fun z => z.1 c1)]
    simp (disch := omega) only [eC_134, eK_134_0, eK_134_1, eK_134_2, pw_bipush, pw_goto, pw_iconst, pw_nop0, qw_aload_n0, qw_gf_b, qw_gf_i, qw_gf_r, qw_iadd, qw_iaload, qw_if_icmp_gt, qw_if_ne, qw_iload4, qw_iload_n1, qw_iload_n2, qw_iload_n3, qw_invokestatic2, qw_invokevirtual3, qw_ireturn, mm_rf_c, mm_rt_v, mm_rt_i, mm_rt_r, mm_alc_n, mm_alc_c, mm_rc_n, mm_rc_c, mm_wd_n, mm_wd_i, mm_wd_l, mm_wd_r, reduceCtorEq, false_implies, implies_true, true_implies, true_or, or_true, false_or, or_false, not_false_eq_true, mm_nl_n, mm_nl_i, mm_nl_r, mm_args_n, mm_args_i, mm_args_l, mm_args_r, mm_pad_0, mm_pad_n, mm_pad_c, List.length_cons, List.length_nil, List.nil_append, List.cons_append, Nat.zero_le, Nat.sub_zero, true_and, and_true, Nat.reduceAdd, Nat.reduceLeDiff, Nat.reduceLT, Nat.reduceSub, Nat.lt_irrefl, Nat.zero_add, Nat.add_zero, Nat.le_refl, k_20, k_10, k_01, ↓mm_if_T, ↓mm_if_F, ↓if10, ↓if00, not_true_eq_false, tf_01, ↓mm_if_tf, ↓mm_if_tn, ↓mm_if_nn, l1, l2, a1, a2, a3, a4, a5, a6, nI_c7, nI_c8, nI_c15, nI_c22, nI_c29, nI_c36, nI_c361, nI_c38, nI_add, vi_, ci_, mm_L_s, mm_R_s, mm_I_c, mm_I_i, mm_I_k, mm_I_s, h7, h3, h4, r_121 d hL hB hn hR hw hW, r_98 (d + 0), ↓mm_if_t c1]
  by_cases c2 : X.1.1 w 4 = 0
  · have f2 : ¬ (g_fb X.1.1 n >>> (nI w &&& 31)) &&& 1 = 1 := fun z => (fb_has hn hw).mp z c2
    by_cases c3 : c ≤ X.1.2.1
    · have f3 := Int32.not_lt.mpr c3
      by_cases c4 : t ≤ X.1.2.2
      · rw [tf_t ⟨c1, c2, c3, c4⟩]
        have f4 := Int32.not_lt.mpr c4
        simp (disch := omega) only [eC_134, eK_134_0, eK_134_1, eK_134_2, pw_bipush, pw_goto, pw_iconst, pw_nop0, qw_aload_n0, qw_gf_b, qw_gf_i, qw_gf_r, qw_iadd, qw_iaload, qw_if_icmp_gt, qw_if_ne, qw_iload4, qw_iload_n1, qw_iload_n2, qw_iload_n3, qw_invokestatic2, qw_invokevirtual3, qw_ireturn, mm_rf_c, mm_rt_v, mm_rt_i, mm_rt_r, mm_alc_n, mm_alc_c, mm_rc_n, mm_rc_c, mm_wd_n, mm_wd_i, mm_wd_l, mm_wd_r, reduceCtorEq, false_implies, implies_true, true_implies, true_or, or_true, false_or, or_false, not_false_eq_true, mm_nl_n, mm_nl_i, mm_nl_r, mm_args_n, mm_args_i, mm_args_l, mm_args_r, mm_pad_0, mm_pad_n, mm_pad_c, List.length_cons, List.length_nil, List.nil_append, List.cons_append, Nat.zero_le, Nat.sub_zero, true_and, and_true, Nat.reduceAdd, Nat.reduceLeDiff, Nat.reduceLT, Nat.reduceSub, Nat.lt_irrefl, Nat.zero_add, Nat.add_zero, Nat.le_refl, k_20, k_10, k_01, ↓mm_if_T, ↓mm_if_F, ↓if10, ↓if00, not_true_eq_false, tf_01, ↓mm_if_tf, ↓mm_if_tn, ↓mm_if_nn, l1, l2, a1, a2, a3, a4, a5, a6, nI_c7, nI_c8, nI_c15, nI_c22, nI_c29, nI_c36, nI_c361, nI_c38, nI_add, vi_, ci_, mm_L_s, mm_R_s, mm_I_c, mm_I_i, mm_I_k, mm_I_s, h7, h3, h4, r_121 d hL hB hn hR hw hW, r_98 (d + 0), ↓mm_if_f c1, ↓mm_if_f f2, ↓mm_if_f f3, ↓mm_if_f f4]
      · rw [tf_f (fun z => c4 z.2.2.2)]
        have f4 := Int32.not_le.mp c4
        simp (disch := omega) only [eC_134, eK_134_0, eK_134_1, eK_134_2, pw_bipush, pw_goto, pw_iconst, pw_nop0, qw_aload_n0, qw_gf_b, qw_gf_i, qw_gf_r, qw_iadd, qw_iaload, qw_if_icmp_gt, qw_if_ne, qw_iload4, qw_iload_n1, qw_iload_n2, qw_iload_n3, qw_invokestatic2, qw_invokevirtual3, qw_ireturn, mm_rf_c, mm_rt_v, mm_rt_i, mm_rt_r, mm_alc_n, mm_alc_c, mm_rc_n, mm_rc_c, mm_wd_n, mm_wd_i, mm_wd_l, mm_wd_r, reduceCtorEq, false_implies, implies_true, true_implies, true_or, or_true, false_or, or_false, not_false_eq_true, mm_nl_n, mm_nl_i, mm_nl_r, mm_args_n, mm_args_i, mm_args_l, mm_args_r, mm_pad_0, mm_pad_n, mm_pad_c, List.length_cons, List.length_nil, List.nil_append, List.cons_append, Nat.zero_le, Nat.sub_zero, true_and, and_true, Nat.reduceAdd, Nat.reduceLeDiff, Nat.reduceLT, Nat.reduceSub, Nat.lt_irrefl, Nat.zero_add, Nat.add_zero, Nat.le_refl, k_20, k_10, k_01, ↓mm_if_T, ↓mm_if_F, ↓if10, ↓if00, not_true_eq_false, tf_01, ↓mm_if_tf, ↓mm_if_tn, ↓mm_if_nn, l1, l2, a1, a2, a3, a4, a5, a6, nI_c7, nI_c8, nI_c15, nI_c22, nI_c29, nI_c36, nI_c361, nI_c38, nI_add, vi_, ci_, mm_L_s, mm_R_s, mm_I_c, mm_I_i, mm_I_k, mm_I_s, h7, h3, h4, r_121 d hL hB hn hR hw hW, r_98 (d + 0), ↓mm_if_f c1, ↓mm_if_f f2, ↓mm_if_f f3, ↓mm_if_t f4]
    · rw [tf_f (fun z => c3 z.2.2.1)]
      have f3 := Int32.not_le.mp c3
      simp (disch := omega) only [eC_134, eK_134_0, eK_134_1, eK_134_2, pw_bipush, pw_goto, pw_iconst, pw_nop0, qw_aload_n0, qw_gf_b, qw_gf_i, qw_gf_r, qw_iadd, qw_iaload, qw_if_icmp_gt, qw_if_ne, qw_iload4, qw_iload_n1, qw_iload_n2, qw_iload_n3, qw_invokestatic2, qw_invokevirtual3, qw_ireturn, mm_rf_c, mm_rt_v, mm_rt_i, mm_rt_r, mm_alc_n, mm_alc_c, mm_rc_n, mm_rc_c, mm_wd_n, mm_wd_i, mm_wd_l, mm_wd_r, reduceCtorEq, false_implies, implies_true, true_implies, true_or, or_true, false_or, or_false, not_false_eq_true, mm_nl_n, mm_nl_i, mm_nl_r, mm_args_n, mm_args_i, mm_args_l, mm_args_r, mm_pad_0, mm_pad_n, mm_pad_c, List.length_cons, List.length_nil, List.nil_append, List.cons_append, Nat.zero_le, Nat.sub_zero, true_and, and_true, Nat.reduceAdd, Nat.reduceLeDiff, Nat.reduceLT, Nat.reduceSub, Nat.lt_irrefl, Nat.zero_add, Nat.add_zero, Nat.le_refl, k_20, k_10, k_01, ↓mm_if_T, ↓mm_if_F, ↓if10, ↓if00, not_true_eq_false, tf_01, ↓mm_if_tf, ↓mm_if_tn, ↓mm_if_nn, l1, l2, a1, a2, a3, a4, a5, a6, nI_c7, nI_c8, nI_c15, nI_c22, nI_c29, nI_c36, nI_c361, nI_c38, nI_add, vi_, ci_, mm_L_s, mm_R_s, mm_I_c, mm_I_i, mm_I_k, mm_I_s, h7, h3, h4, r_121 d hL hB hn hR hw hW, r_98 (d + 0), ↓mm_if_f c1, ↓mm_if_f f2, ↓mm_if_t f3]
  · rw [tf_f (fun z => c2 z.2.1)]
    have f2 := (fb_has (A := X.1.1) hn hw).mpr c2
    simp (disch := omega) only [eC_134, eK_134_0, eK_134_1, eK_134_2, pw_bipush, pw_goto, pw_iconst, pw_nop0, qw_aload_n0, qw_gf_b, qw_gf_i, qw_gf_r, qw_iadd, qw_iaload, qw_if_icmp_gt, qw_if_ne, qw_iload4, qw_iload_n1, qw_iload_n2, qw_iload_n3, qw_invokestatic2, qw_invokevirtual3, qw_ireturn, mm_rf_c, mm_rt_v, mm_rt_i, mm_rt_r, mm_alc_n, mm_alc_c, mm_rc_n, mm_rc_c, mm_wd_n, mm_wd_i, mm_wd_l, mm_wd_r, reduceCtorEq, false_implies, implies_true, true_implies, true_or, or_true, false_or, or_false, not_false_eq_true, mm_nl_n, mm_nl_i, mm_nl_r, mm_args_n, mm_args_i, mm_args_l, mm_args_r, mm_pad_0, mm_pad_n, mm_pad_c, List.length_cons, List.length_nil, List.nil_append, List.cons_append, Nat.zero_le, Nat.sub_zero, true_and, and_true, Nat.reduceAdd, Nat.reduceLeDiff, Nat.reduceLT, Nat.reduceSub, Nat.lt_irrefl, Nat.zero_add, Nat.add_zero, Nat.le_refl, k_20, k_10, k_01, ↓mm_if_T, ↓mm_if_F, ↓if10, ↓if00, not_true_eq_false, tf_01, ↓mm_if_tf, ↓mm_if_tn, ↓mm_if_nn, l1, l2, a1, a2, a3, a4, a5, a6, nI_c7, nI_c8, nI_c15, nI_c22, nI_c29, nI_c36, nI_c361, nI_c38, nI_add, vi_, ci_, mm_L_s, mm_R_s, mm_I_c, mm_I_i, mm_I_k, mm_I_s, h7, h3, h4, r_121 d hL hB hn hR hw hW, r_98 (d + 0), ↓mm_if_f c1, ↓mm_if_t f2]

set_option maxHeartbeats 4000000 in
theorem k_138 (d : Nat) {M : mm_M} {post : mm_Post} {B n : Nat} {X : Sx} (hL : LyM M) (hB : B ≤ 429) (hn : n ≤ 7) (hM : RM M n X.1.1) (hR : RB M B n X) (hW : WF n X.1.1) {w : Nat} (hw : w < n) (hh : X.1.1 w 5 = 2) (op f : Int32) (hf : f = 0 ↔ ¬ op = 0) (h : post (some (.inl (g_ot X.1.1 w (X.1.1 w 9) f n))) M) : ∀ (m v : Nat), v + m = n → pK (d + 2) 138 post 1 [some (.inr (.inr (6, 0))), some (.inl (nI B)), some (.inl (nI w)), some (.inl op), some (.inl (g_ot X.1.1 w (X.1.1 w 9) f v)), some (.inl (nI v))] [] M (0, 0) := by
  have l1 := hL.1.2.2.2.2.2.2.1
  have l2 : mm_L M 7 11 = 468 := hL.2.2.2.2.2.2.2.1
  have a1 := hL.1.1
  have a2 := hL.1.2.1
  have a5 := hL.1.2.2.1
  have a3 : mm_L M 7 5 = 7 := hL.2.1
  have a4 : mm_L M 7 6 = 7 := hL.2.2.1
  have a6 : mm_L M 7 7 = 7 := hL.2.2.2.1
  have hm := hM.1
  have h7 := hR.2.1
  intro m
  induction m with
  | zero =>
    intro v hv
    have e : v = n := by omega
    subst e
    rw [eK_138_1]
    simp (disch := omega) only [eK_138_0, eK_138_2, eK_138_3, eK_138_4, eK_138_5, pw_bipush, pw_goto, pw_iconst, pw_nop0, qw_aload_n0, qw_gf_b, qw_gf_i, qw_gf_r, qw_iadd, qw_iaload, qw_if_eq, qw_if_icmp_eq, qw_if_icmp_ge, qw_if_icmp_lt, qw_if_ne, qw_iinc5, qw_iload4, qw_iload5, qw_iload_n1, qw_iload_n2, qw_iload_n3, qw_invokestatic2, qw_invokevirtual4, qw_ireturn, qw_istore4, qw_istore5, mm_rf_c, mm_rt_v, mm_rt_i, mm_rt_r, mm_alc_n, mm_alc_c, mm_rc_n, mm_rc_c, mm_wd_n, mm_wd_i, mm_wd_l, mm_wd_r, reduceCtorEq, false_implies, implies_true, true_implies, true_or, or_true, false_or, or_false, not_false_eq_true, mm_nl_n, mm_nl_i, mm_nl_r, mm_args_n, mm_args_i, mm_args_l, mm_args_r, mm_pad_0, mm_pad_n, mm_pad_c, List.length_cons, List.length_nil, List.nil_append, List.cons_append, Nat.zero_le, Nat.sub_zero, true_and, and_true, Nat.reduceAdd, Nat.reduceLeDiff, Nat.reduceLT, Nat.reduceSub, Nat.lt_irrefl, Nat.zero_add, Nat.add_zero, Nat.le_refl, k_20, k_10, k_01, ↓mm_if_T, ↓mm_if_F, ↓if10, ↓if00, not_true_eq_false, tf_01, ↓mm_if_tf, ↓mm_if_tn, ↓mm_if_nn, hm, ↓mm_if_t (nI_le (Nat.le_refl v) (show v < 2 ^ 31 by omega))]
    exact h
  | succ m ih =>
    intro v hv
    have hvn : v < n := by omega
    obtain ⟨v1, v2, v3⟩ := nI_v7 hvn hn
    obtain ⟨h0, h1, h2⟩ := hM.2 v hvn
    have hx := (hW v hvn).2.1
    have q5 := nI_e7 (show v < 8 by omega) (show w < 8 by omega)
    have key := ih (v + 1) (by omega)
    have hun : g_ot X.1.1 w (X.1.1 w 9) f (v + 1) = if (¬ v = w ∧ (¬ f = 0 ∨ X.1.1 v 4 = 0)) ∧ 1 ≤ f_lf (X.1.1 w 8) (X.1.1 w 9) (X.1.1 v 1) then g_ot X.1.1 w (X.1.1 w 9) f v + 1 else g_ot X.1.1 w (X.1.1 w 9) f v := rfl
    rw [hun] at key
    by_cases c1 : v = w
    · rw [if_neg (fun z => z.1.1 c1)] at key
      have c1' : nI v = nI w := by rw [c1]
      rw [eK_138_1]
      simp (disch := omega) only [eK_138_0, eK_138_2, eK_138_3, eK_138_4, eK_138_5, pw_bipush, pw_goto, pw_iconst, pw_nop0, qw_aload_n0, qw_gf_b, qw_gf_i, qw_gf_r, qw_iadd, qw_iaload, qw_if_eq, qw_if_icmp_eq, qw_if_icmp_ge, qw_if_icmp_lt, qw_if_ne, qw_iinc5, qw_iload4, qw_iload5, qw_iload_n1, qw_iload_n2, qw_iload_n3, qw_invokestatic2, qw_invokevirtual4, qw_ireturn, qw_istore4, qw_istore5, mm_rf_c, mm_rt_v, mm_rt_i, mm_rt_r, mm_alc_n, mm_alc_c, mm_rc_n, mm_rc_c, mm_wd_n, mm_wd_i, mm_wd_l, mm_wd_r, reduceCtorEq, false_implies, implies_true, true_implies, true_or, or_true, false_or, or_false, not_false_eq_true, mm_nl_n, mm_nl_i, mm_nl_r, mm_args_n, mm_args_i, mm_args_l, mm_args_r, mm_pad_0, mm_pad_n, mm_pad_c, List.length_cons, List.length_nil, List.nil_append, List.cons_append, Nat.zero_le, Nat.sub_zero, true_and, and_true, Nat.reduceAdd, Nat.reduceLeDiff, Nat.reduceLT, Nat.reduceSub, Nat.lt_irrefl, Nat.zero_add, Nat.add_zero, Nat.le_refl, k_20, k_10, k_01, ↓mm_if_T, ↓mm_if_F, ↓if10, ↓if00, not_true_eq_false, tf_01, ↓mm_if_tf, ↓mm_if_tn, ↓mm_if_nn, l1, l2, a1, a2, a3, a4, a5, a6, nI_c7, nI_c8, nI_c15, nI_c22, nI_c29, nI_c36, nI_c361, nI_c38, nI_add, vi_, ci_, mm_L_s, mm_R_s, mm_I_c, mm_I_i, mm_I_k, mm_I_s, hm, ↓mm_if_f v3, v1, v2, h1, h7, nI_1, Int32.add_zero, r_98 (d + 1), r_122 d hL hB hn hR hw hW hh _ hx, ↓mm_if_t c1']
      exact key
    have c1' : ¬ nI v = nI w := by rw [q5]; exact c1
    by_cases c5 : f_lf (X.1.1 w 8) (X.1.1 w 9) (X.1.1 v 1) < 1
    · rw [if_neg (fun z => Int32.not_le.mpr c5 z.2)] at key
      by_cases c2 : op = 0
      · rw [eK_138_1]
        simp (disch := omega) only [eK_138_0, eK_138_2, eK_138_3, eK_138_4, eK_138_5, pw_bipush, pw_goto, pw_iconst, pw_nop0, qw_aload_n0, qw_gf_b, qw_gf_i, qw_gf_r, qw_iadd, qw_iaload, qw_if_eq, qw_if_icmp_eq, qw_if_icmp_ge, qw_if_icmp_lt, qw_if_ne, qw_iinc5, qw_iload4, qw_iload5, qw_iload_n1, qw_iload_n2, qw_iload_n3, qw_invokestatic2, qw_invokevirtual4, qw_ireturn, qw_istore4, qw_istore5, mm_rf_c, mm_rt_v, mm_rt_i, mm_rt_r, mm_alc_n, mm_alc_c, mm_rc_n, mm_rc_c, mm_wd_n, mm_wd_i, mm_wd_l, mm_wd_r, reduceCtorEq, false_implies, implies_true, true_implies, true_or, or_true, false_or, or_false, not_false_eq_true, mm_nl_n, mm_nl_i, mm_nl_r, mm_args_n, mm_args_i, mm_args_l, mm_args_r, mm_pad_0, mm_pad_n, mm_pad_c, List.length_cons, List.length_nil, List.nil_append, List.cons_append, Nat.zero_le, Nat.sub_zero, true_and, and_true, Nat.reduceAdd, Nat.reduceLeDiff, Nat.reduceLT, Nat.reduceSub, Nat.lt_irrefl, Nat.zero_add, Nat.add_zero, Nat.le_refl, k_20, k_10, k_01, ↓mm_if_T, ↓mm_if_F, ↓if10, ↓if00, not_true_eq_false, tf_01, ↓mm_if_tf, ↓mm_if_tn, ↓mm_if_nn, l1, l2, a1, a2, a3, a4, a5, a6, nI_c7, nI_c8, nI_c15, nI_c22, nI_c29, nI_c36, nI_c361, nI_c38, nI_add, vi_, ci_, mm_L_s, mm_R_s, mm_I_c, mm_I_i, mm_I_k, mm_I_s, hm, ↓mm_if_f v3, v1, v2, h1, h7, nI_1, Int32.add_zero, r_98 (d + 1), r_122 d hL hB hn hR hw hW hh _ hx, ↓mm_if_f c1', ↓mm_if_t c2, ↓mm_if_t c5]
        exact key
      · by_cases c3 : X.1.1 v 4 = 0
        · have f2 : ¬ (g_fb X.1.1 n >>> (nI v &&& 31)) &&& 1 = 1 := fun z => (fb_has hn hvn).mp z c3
          rw [eK_138_1]
          simp (disch := omega) only [eK_138_0, eK_138_2, eK_138_3, eK_138_4, eK_138_5, pw_bipush, pw_goto, pw_iconst, pw_nop0, qw_aload_n0, qw_gf_b, qw_gf_i, qw_gf_r, qw_iadd, qw_iaload, qw_if_eq, qw_if_icmp_eq, qw_if_icmp_ge, qw_if_icmp_lt, qw_if_ne, qw_iinc5, qw_iload4, qw_iload5, qw_iload_n1, qw_iload_n2, qw_iload_n3, qw_invokestatic2, qw_invokevirtual4, qw_ireturn, qw_istore4, qw_istore5, mm_rf_c, mm_rt_v, mm_rt_i, mm_rt_r, mm_alc_n, mm_alc_c, mm_rc_n, mm_rc_c, mm_wd_n, mm_wd_i, mm_wd_l, mm_wd_r, reduceCtorEq, false_implies, implies_true, true_implies, true_or, or_true, false_or, or_false, not_false_eq_true, mm_nl_n, mm_nl_i, mm_nl_r, mm_args_n, mm_args_i, mm_args_l, mm_args_r, mm_pad_0, mm_pad_n, mm_pad_c, List.length_cons, List.length_nil, List.nil_append, List.cons_append, Nat.zero_le, Nat.sub_zero, true_and, and_true, Nat.reduceAdd, Nat.reduceLeDiff, Nat.reduceLT, Nat.reduceSub, Nat.lt_irrefl, Nat.zero_add, Nat.add_zero, Nat.le_refl, k_20, k_10, k_01, ↓mm_if_T, ↓mm_if_F, ↓if10, ↓if00, not_true_eq_false, tf_01, ↓mm_if_tf, ↓mm_if_tn, ↓mm_if_nn, l1, l2, a1, a2, a3, a4, a5, a6, nI_c7, nI_c8, nI_c15, nI_c22, nI_c29, nI_c36, nI_c361, nI_c38, nI_add, vi_, ci_, mm_L_s, mm_R_s, mm_I_c, mm_I_i, mm_I_k, mm_I_s, hm, ↓mm_if_f v3, v1, v2, h1, h7, nI_1, Int32.add_zero, r_98 (d + 1), r_122 d hL hB hn hR hw hW hh _ hx, ↓mm_if_f c1', ↓mm_if_f c2, ↓mm_if_f f2, ↓mm_if_t c5]
          exact key
        · have f2 := (fb_has (A := X.1.1) hn hvn).mpr c3
          rw [eK_138_1]
          simp (disch := omega) only [eK_138_0, eK_138_2, eK_138_3, eK_138_4, eK_138_5, pw_bipush, pw_goto, pw_iconst, pw_nop0, qw_aload_n0, qw_gf_b, qw_gf_i, qw_gf_r, qw_iadd, qw_iaload, qw_if_eq, qw_if_icmp_eq, qw_if_icmp_ge, qw_if_icmp_lt, qw_if_ne, qw_iinc5, qw_iload4, qw_iload5, qw_iload_n1, qw_iload_n2, qw_iload_n3, qw_invokestatic2, qw_invokevirtual4, qw_ireturn, qw_istore4, qw_istore5, mm_rf_c, mm_rt_v, mm_rt_i, mm_rt_r, mm_alc_n, mm_alc_c, mm_rc_n, mm_rc_c, mm_wd_n, mm_wd_i, mm_wd_l, mm_wd_r, reduceCtorEq, false_implies, implies_true, true_implies, true_or, or_true, false_or, or_false, not_false_eq_true, mm_nl_n, mm_nl_i, mm_nl_r, mm_args_n, mm_args_i, mm_args_l, mm_args_r, mm_pad_0, mm_pad_n, mm_pad_c, List.length_cons, List.length_nil, List.nil_append, List.cons_append, Nat.zero_le, Nat.sub_zero, true_and, and_true, Nat.reduceAdd, Nat.reduceLeDiff, Nat.reduceLT, Nat.reduceSub, Nat.lt_irrefl, Nat.zero_add, Nat.add_zero, Nat.le_refl, k_20, k_10, k_01, ↓mm_if_T, ↓mm_if_F, ↓if10, ↓if00, not_true_eq_false, tf_01, ↓mm_if_tf, ↓mm_if_tn, ↓mm_if_nn, l1, l2, a1, a2, a3, a4, a5, a6, nI_c7, nI_c8, nI_c15, nI_c22, nI_c29, nI_c36, nI_c361, nI_c38, nI_add, vi_, ci_, mm_L_s, mm_R_s, mm_I_c, mm_I_i, mm_I_k, mm_I_s, hm, ↓mm_if_f v3, v1, v2, h1, h7, nI_1, Int32.add_zero, r_98 (d + 1), r_122 d hL hB hn hR hw hW hh _ hx, ↓mm_if_f c1', ↓mm_if_f c2, ↓mm_if_t f2]
          exact key
    · by_cases c2 : op = 0
      · rw [if_pos ⟨⟨c1, Or.inl (fun z => hf.mp z c2)⟩, Int32.not_lt.mp c5⟩] at key
        rw [eK_138_1]
        simp (disch := omega) only [eK_138_0, eK_138_2, eK_138_3, eK_138_4, eK_138_5, pw_bipush, pw_goto, pw_iconst, pw_nop0, qw_aload_n0, qw_gf_b, qw_gf_i, qw_gf_r, qw_iadd, qw_iaload, qw_if_eq, qw_if_icmp_eq, qw_if_icmp_ge, qw_if_icmp_lt, qw_if_ne, qw_iinc5, qw_iload4, qw_iload5, qw_iload_n1, qw_iload_n2, qw_iload_n3, qw_invokestatic2, qw_invokevirtual4, qw_ireturn, qw_istore4, qw_istore5, mm_rf_c, mm_rt_v, mm_rt_i, mm_rt_r, mm_alc_n, mm_alc_c, mm_rc_n, mm_rc_c, mm_wd_n, mm_wd_i, mm_wd_l, mm_wd_r, reduceCtorEq, false_implies, implies_true, true_implies, true_or, or_true, false_or, or_false, not_false_eq_true, mm_nl_n, mm_nl_i, mm_nl_r, mm_args_n, mm_args_i, mm_args_l, mm_args_r, mm_pad_0, mm_pad_n, mm_pad_c, List.length_cons, List.length_nil, List.nil_append, List.cons_append, Nat.zero_le, Nat.sub_zero, true_and, and_true, Nat.reduceAdd, Nat.reduceLeDiff, Nat.reduceLT, Nat.reduceSub, Nat.lt_irrefl, Nat.zero_add, Nat.add_zero, Nat.le_refl, k_20, k_10, k_01, ↓mm_if_T, ↓mm_if_F, ↓if10, ↓if00, not_true_eq_false, tf_01, ↓mm_if_tf, ↓mm_if_tn, ↓mm_if_nn, l1, l2, a1, a2, a3, a4, a5, a6, nI_c7, nI_c8, nI_c15, nI_c22, nI_c29, nI_c36, nI_c361, nI_c38, nI_add, vi_, ci_, mm_L_s, mm_R_s, mm_I_c, mm_I_i, mm_I_k, mm_I_s, hm, ↓mm_if_f v3, v1, v2, h1, h7, nI_1, Int32.add_zero, r_98 (d + 1), r_122 d hL hB hn hR hw hW hh _ hx, ↓mm_if_f c1', ↓mm_if_t c2, ↓mm_if_f c5]
        exact key
      · by_cases c3 : X.1.1 v 4 = 0
        · rw [if_pos ⟨⟨c1, Or.inr c3⟩, Int32.not_lt.mp c5⟩] at key
          have f2 : ¬ (g_fb X.1.1 n >>> (nI v &&& 31)) &&& 1 = 1 := fun z => (fb_has hn hvn).mp z c3
          rw [eK_138_1]
          simp (disch := omega) only [eK_138_0, eK_138_2, eK_138_3, eK_138_4, eK_138_5, pw_bipush, pw_goto, pw_iconst, pw_nop0, qw_aload_n0, qw_gf_b, qw_gf_i, qw_gf_r, qw_iadd, qw_iaload, qw_if_eq, qw_if_icmp_eq, qw_if_icmp_ge, qw_if_icmp_lt, qw_if_ne, qw_iinc5, qw_iload4, qw_iload5, qw_iload_n1, qw_iload_n2, qw_iload_n3, qw_invokestatic2, qw_invokevirtual4, qw_ireturn, qw_istore4, qw_istore5, mm_rf_c, mm_rt_v, mm_rt_i, mm_rt_r, mm_alc_n, mm_alc_c, mm_rc_n, mm_rc_c, mm_wd_n, mm_wd_i, mm_wd_l, mm_wd_r, reduceCtorEq, false_implies, implies_true, true_implies, true_or, or_true, false_or, or_false, not_false_eq_true, mm_nl_n, mm_nl_i, mm_nl_r, mm_args_n, mm_args_i, mm_args_l, mm_args_r, mm_pad_0, mm_pad_n, mm_pad_c, List.length_cons, List.length_nil, List.nil_append, List.cons_append, Nat.zero_le, Nat.sub_zero, true_and, and_true, Nat.reduceAdd, Nat.reduceLeDiff, Nat.reduceLT, Nat.reduceSub, Nat.lt_irrefl, Nat.zero_add, Nat.add_zero, Nat.le_refl, k_20, k_10, k_01, ↓mm_if_T, ↓mm_if_F, ↓if10, ↓if00, not_true_eq_false, tf_01, ↓mm_if_tf, ↓mm_if_tn, ↓mm_if_nn, l1, l2, a1, a2, a3, a4, a5, a6, nI_c7, nI_c8, nI_c15, nI_c22, nI_c29, nI_c36, nI_c361, nI_c38, nI_add, vi_, ci_, mm_L_s, mm_R_s, mm_I_c, mm_I_i, mm_I_k, mm_I_s, hm, ↓mm_if_f v3, v1, v2, h1, h7, nI_1, Int32.add_zero, r_98 (d + 1), r_122 d hL hB hn hR hw hW hh _ hx, ↓mm_if_f c1', ↓mm_if_f c2, ↓mm_if_f f2, ↓mm_if_f c5]
          exact key
        · rw [if_neg (fun z => z.1.2.elim (fun y => y (hf.mpr c2)) c3)] at key
          have f2 := (fb_has (A := X.1.1) hn hvn).mpr c3
          rw [eK_138_1]
          simp (disch := omega) only [eK_138_0, eK_138_2, eK_138_3, eK_138_4, eK_138_5, pw_bipush, pw_goto, pw_iconst, pw_nop0, qw_aload_n0, qw_gf_b, qw_gf_i, qw_gf_r, qw_iadd, qw_iaload, qw_if_eq, qw_if_icmp_eq, qw_if_icmp_ge, qw_if_icmp_lt, qw_if_ne, qw_iinc5, qw_iload4, qw_iload5, qw_iload_n1, qw_iload_n2, qw_iload_n3, qw_invokestatic2, qw_invokevirtual4, qw_ireturn, qw_istore4, qw_istore5, mm_rf_c, mm_rt_v, mm_rt_i, mm_rt_r, mm_alc_n, mm_alc_c, mm_rc_n, mm_rc_c, mm_wd_n, mm_wd_i, mm_wd_l, mm_wd_r, reduceCtorEq, false_implies, implies_true, true_implies, true_or, or_true, false_or, or_false, not_false_eq_true, mm_nl_n, mm_nl_i, mm_nl_r, mm_args_n, mm_args_i, mm_args_l, mm_args_r, mm_pad_0, mm_pad_n, mm_pad_c, List.length_cons, List.length_nil, List.nil_append, List.cons_append, Nat.zero_le, Nat.sub_zero, true_and, and_true, Nat.reduceAdd, Nat.reduceLeDiff, Nat.reduceLT, Nat.reduceSub, Nat.lt_irrefl, Nat.zero_add, Nat.add_zero, Nat.le_refl, k_20, k_10, k_01, ↓mm_if_T, ↓mm_if_F, ↓if10, ↓if00, not_true_eq_false, tf_01, ↓mm_if_tf, ↓mm_if_tn, ↓mm_if_nn, l1, l2, a1, a2, a3, a4, a5, a6, nI_c7, nI_c8, nI_c15, nI_c22, nI_c29, nI_c36, nI_c361, nI_c38, nI_add, vi_, ci_, mm_L_s, mm_R_s, mm_I_c, mm_I_i, mm_I_k, mm_I_s, hm, ↓mm_if_f v3, v1, v2, h1, h7, nI_1, Int32.add_zero, r_98 (d + 1), r_122 d hL hB hn hR hw hW hh _ hx, ↓mm_if_f c1', ↓mm_if_f c2, ↓mm_if_t f2]
          exact key
theorem r_138 (d : Nat) {M : mm_M} {post : mm_Post} {B n : Nat} {X : Sx} (hL : LyM M) (hB : B ≤ 429) (hn : n ≤ 7) (hM : RM M n X.1.1) (hR : RB M B n X) (hW : WF n X.1.1) {w : Nat} (hw : w < n) (hh : X.1.1 w 5 = 2) (op f : Int32) (hf : f = 0 ↔ ¬ op = 0) : pC (d + 3) 138 [.inr (.inr (6, 0)), .inl (nI B), .inl (nI w), .inl op] M post = post (some (.inl (g_ot X.1.1 w (X.1.1 w 9) f n))) M := by
  refine pC_one (fun post h => ?_) post
  have := k_138 d hL hB hn hM hR hW hw hh op f hf h n 0 (by omega)
  simp (disch := omega) only [eC_138, eK_138_0, pw_iconst, pw_nop0, qw_istore4, qw_istore5, mm_rf_c, mm_rt_v, mm_rt_i, mm_rt_r, mm_alc_n, mm_alc_c, mm_rc_n, mm_rc_c, mm_wd_n, mm_wd_i, mm_wd_l, mm_wd_r, reduceCtorEq, false_implies, implies_true, true_implies, true_or, or_true, false_or, or_false, not_false_eq_true, mm_nl_n, mm_nl_i, mm_nl_r, mm_args_n, mm_args_i, mm_args_l, mm_args_r, mm_pad_0, mm_pad_n, mm_pad_c, List.length_cons, List.length_nil, List.nil_append, List.cons_append, Nat.zero_le, Nat.sub_zero, true_and, and_true, Nat.reduceAdd, Nat.reduceLeDiff, Nat.reduceLT, Nat.reduceSub, Nat.lt_irrefl, Nat.zero_add, Nat.add_zero, Nat.le_refl, k_20, k_10, k_01, ↓mm_if_T, ↓mm_if_F, ↓if10, ↓if00, not_true_eq_false, tf_01, ↓mm_if_tf, ↓mm_if_tn, ↓mm_if_nn]
  exact this

theorem r_139 (d : Nat) (p h : Int32) (M : mm_M) (post : mm_Post) : pC (d + 2) 139 [.inl p, .inl h] M post = post (some (.inl (tf ((0 ≤ p ∧ p ≤ 40) ∧ (0 ≤ h ∧ h ≤ 23))))) M := by
  by_cases c1 : 0 ≤ p ∧ p ≤ 40
  · by_cases c2 : 0 ≤ h ∧ h ≤ 23
    · rw [tf_t ⟨c1, c2⟩]
      simp (disch := omega) only [eC_139, eK_139_0, eK_139_1, eK_139_2, pw_goto, pw_iconst, pw_lconst, pw_ldc2_w, pw_nop0, qw_i2l, qw_if_eq, qw_iload_n0, qw_iload_n1, qw_invokestatic3, qw_ireturn, mm_rf_c, mm_rt_v, mm_rt_i, mm_rt_r, mm_alc_n, mm_alc_c, mm_rc_n, mm_rc_c, mm_wd_n, mm_wd_i, mm_wd_l, mm_wd_r, reduceCtorEq, false_implies, implies_true, true_implies, true_or, or_true, false_or, or_false, not_false_eq_true, mm_nl_n, mm_nl_i, mm_nl_r, mm_args_n, mm_args_i, mm_args_l, mm_args_r, mm_pad_0, mm_pad_n, mm_pad_c, List.length_cons, List.length_nil, List.nil_append, List.cons_append, Nat.zero_le, Nat.sub_zero, true_and, and_true, Nat.reduceAdd, Nat.reduceLeDiff, Nat.reduceLT, Nat.reduceSub, Nat.lt_irrefl, Nat.zero_add, Nat.add_zero, Nat.le_refl, k_20, k_10, k_01, ↓mm_if_T, ↓mm_if_F, ↓if10, ↓if00, not_true_eq_false, tf_01, ↓mm_if_tf, ↓mm_if_tn, ↓mm_if_nn, r_97 d p 0 40, r_97 d h 0 23, ↓mm_if_t c1, ↓mm_if_t c2]
    · rw [tf_f (fun z => c2 z.2)]
      simp (disch := omega) only [eC_139, eK_139_0, eK_139_1, eK_139_2, pw_goto, pw_iconst, pw_lconst, pw_ldc2_w, pw_nop0, qw_i2l, qw_if_eq, qw_iload_n0, qw_iload_n1, qw_invokestatic3, qw_ireturn, mm_rf_c, mm_rt_v, mm_rt_i, mm_rt_r, mm_alc_n, mm_alc_c, mm_rc_n, mm_rc_c, mm_wd_n, mm_wd_i, mm_wd_l, mm_wd_r, reduceCtorEq, false_implies, implies_true, true_implies, true_or, or_true, false_or, or_false, not_false_eq_true, mm_nl_n, mm_nl_i, mm_nl_r, mm_args_n, mm_args_i, mm_args_l, mm_args_r, mm_pad_0, mm_pad_n, mm_pad_c, List.length_cons, List.length_nil, List.nil_append, List.cons_append, Nat.zero_le, Nat.sub_zero, true_and, and_true, Nat.reduceAdd, Nat.reduceLeDiff, Nat.reduceLT, Nat.reduceSub, Nat.lt_irrefl, Nat.zero_add, Nat.add_zero, Nat.le_refl, k_20, k_10, k_01, ↓mm_if_T, ↓mm_if_F, ↓if10, ↓if00, not_true_eq_false, tf_01, ↓mm_if_tf, ↓mm_if_tn, ↓mm_if_nn, r_97 d p 0 40, r_97 d h 0 23, ↓mm_if_t c1, ↓mm_if_f c2]
  · rw [tf_f (fun z => c1 z.1)]
    simp (disch := omega) only [eC_139, eK_139_0, eK_139_1, eK_139_2, pw_goto, pw_iconst, pw_lconst, pw_ldc2_w, pw_nop0, qw_i2l, qw_if_eq, qw_iload_n0, qw_iload_n1, qw_invokestatic3, qw_ireturn, mm_rf_c, mm_rt_v, mm_rt_i, mm_rt_r, mm_alc_n, mm_alc_c, mm_rc_n, mm_rc_c, mm_wd_n, mm_wd_i, mm_wd_l, mm_wd_r, reduceCtorEq, false_implies, implies_true, true_implies, true_or, or_true, false_or, or_false, not_false_eq_true, mm_nl_n, mm_nl_i, mm_nl_r, mm_args_n, mm_args_i, mm_args_l, mm_args_r, mm_pad_0, mm_pad_n, mm_pad_c, List.length_cons, List.length_nil, List.nil_append, List.cons_append, Nat.zero_le, Nat.sub_zero, true_and, and_true, Nat.reduceAdd, Nat.reduceLeDiff, Nat.reduceLT, Nat.reduceSub, Nat.lt_irrefl, Nat.zero_add, Nat.add_zero, Nat.le_refl, k_20, k_10, k_01, ↓mm_if_T, ↓mm_if_F, ↓if10, ↓if00, not_true_eq_false, tf_01, ↓mm_if_tf, ↓mm_if_tn, ↓mm_if_nn, r_97 d p 0 40, ↓mm_if_f c1]

theorem z_134 (d : Nat) {M : mm_M} {post : mm_Post} {n : Nat} {X : Sx} (hL : LyM M) (hn : n ≤ 7) (hM : RM M n X.1.1) (hR : RB M 0 n X) (hW : WF n X.1.1) {w : Nat} (hw : w < n) (c t : Int32) : pC (d + 2) 134 [.inr (.inr (6, 0)), .inl 0, .inl (nI w), .inl c, .inl t] M post = post (some (.inl (tf (¬ 1 ≤ X.1.1 w 5 ∧ X.1.1 w 4 = 0 ∧ c ≤ X.1.2.1 ∧ t ≤ X.1.2.2)))) M := r_134 d hL (show 0 ≤ 429 by omega) hn hW hR hw c t
theorem z_135 (d : Nat) {M : mm_M} {post : mm_Post} {n : Nat} {X : Sx} (hL : LyM M) (hn : n ≤ 7) (hR : RB M 0 n X) {w : Nat} (hw : w < n) (c t : Int32) : pC (d + 1) 135 [.inr (.inr (6, 0)), .inl 0, .inl (nI w), .inl c, .inl t] M post = post none (mm_sI (mm_sI (mm_sI (mm_sI (mm_sI M 7 11 (0 + 8 + w) c) 7 11 (0 + 15 + w) t) 7 11 (0 + 22 + w) (-1)) 7 11 (0 + 36) (X.1.2.1 - c)) 7 11 (0 + 37) (X.1.2.2 - t)) := r_135 d hL (show 0 ≤ 429 by omega) hn hR hw c t
theorem z_136 (d : Nat) {M : mm_M} {post : mm_Post} {n : Nat} {X : Sx} (hL : LyM M) (hn : n ≤ 7) (hR : RB M 0 n X) {w : Nat} (hw : w < n) (hb : ¬ X.1.1 w 5 = 0) : pC (d + 1) 136 [.inr (.inr (6, 0)), .inl 0, .inl (nI w)] M post = post none (mm_sI (mm_sI (mm_sI (mm_sI (mm_sI M 7 11 (0 + 36) (X.1.2.1 + X.1.1 w 6)) 7 11 (0 + 37) (X.1.2.2 + X.1.1 w 7)) 7 11 (0 + 8 + w) 0) 7 11 (0 + 15 + w) 0) 7 11 (0 + 22 + w) (-1)) := r_136 d hL (show 0 ≤ 429 by omega) hn hR hw hb
theorem z_138 (d : Nat) {M : mm_M} {post : mm_Post} {n : Nat} {X : Sx} (hL : LyM M) (hn : n ≤ 7) (hM : RM M n X.1.1) (hR : RB M 0 n X) (hW : WF n X.1.1) {w : Nat} (hw : w < n) (hh : X.1.1 w 5 = 2) (op f : Int32) (hf : f = 0 ↔ ¬ op = 0) : pC (d + 3) 138 [.inr (.inr (6, 0)), .inl 0, .inl (nI w), .inl op] M post = post (some (.inl (g_ot X.1.1 w (X.1.1 w 9) f n))) M := r_138 d hL (show 0 ≤ 429 by omega) hn hM hR hW hw hh op f hf
theorem z_143 (d : Nat) {M : mm_M} {post : mm_Post} {n : Nat} {X : Sx} (hL : LyM M) (hn : n ≤ 7) (hM : RM M n X.1.1) (hR : RB M 0 n X) (hW : WF n X.1.1) (sn : Int32) (h : ∀ M', RB M' 0 n (if sn = 0 then g_dx n X else g_sn X) → FB M M' 0 → post none M') : pC (d + 5) 143 [.inr (.inr (6, 0)), .inl 0, .inl sn] M post := r_143 d hL (show 0 ≤ 429 by omega) hn hM hR hW sn h

set_option maxHeartbeats 2000000 in
theorem r_137 (d : Nat) {M : mm_M} {post : mm_Post} {n : Nat} {X : Sx} {a : Nat} {P : Nat → Sx} {b : Nat} {K : Nat → Sx} (hJ : J1 M n X a P b K) (hn : n ≤ 7) (ha : a ≤ 8) (hb : b ≤ 2) (hW : WF n X.1.1) (x c t : Int32) (h : ∀ M', J1 M' n (T58 n X a P x c t).2.1 (T58 n X a P x c t).2.2.1 (T58 n X a P x c t).2.2.2 b K → FY M M' → post (some (.inl (T58 n X a P x c t).1)) M') : pC (d + 4) 137 [.inr (.inr (6, 0)), .inl x, .inl c, .inl t] M post := by
  obtain ⟨hL, hM, hR, h9, hP, h10, hK⟩ := id hJ
  unfold T58 at h
  by_cases c1 : isw n x
  · by_cases c2 : 1 ≤ c ∧ c ≤ 30
    · by_cases c3 : 0 ≤ t ∧ t ≤ 30
      · rw [if_pos ⟨c1, c2, c3⟩] at h
        obtain ⟨w, hw, rfl⟩ := isw_of hn c1
        obtain ⟨v1, v2, v3⟩ := nI_v7 hw hn
        rw [v2] at h
        by_cases c4 : ¬ 1 ≤ X.1.1 w 5 ∧ X.1.1 w 4 = 0 ∧ c ≤ X.1.2.1 ∧ t ≤ X.1.2.2
        · rw [if_pos c4] at h
          dsimp only at h
          simp (disch := omega) only [eC_137, eK_137_0, eK_137_1, eK_137_2, eK_137_3, pw_bipush, pw_iconst, pw_lconst, pw_ldc2_w, pw_nop0, qw_aload_n0, qw_i2l, qw_if_eq, qw_if_ne, qw_iload_n1, qw_iload_n2, qw_iload_n3, qw_invokestatic2, qw_invokestatic3, qw_invokevirtual1, qw_invokevirtual2, qw_invokevirtual5, qw_ireturn, mm_rf_c, mm_rt_v, mm_rt_i, mm_rt_r, mm_alc_n, mm_alc_c, mm_rc_n, mm_rc_c, mm_wd_n, mm_wd_i, mm_wd_l, mm_wd_r, reduceCtorEq, false_implies, implies_true, true_implies, true_or, or_true, false_or, or_false, not_false_eq_true, mm_nl_n, mm_nl_i, mm_nl_r, mm_args_n, mm_args_i, mm_args_l, mm_args_r, mm_pad_0, mm_pad_n, mm_pad_c, List.length_cons, List.length_nil, List.nil_append, List.cons_append, Nat.zero_le, Nat.sub_zero, true_and, and_true, Nat.reduceAdd, Nat.reduceLeDiff, Nat.reduceLT, Nat.reduceSub, Nat.lt_irrefl, Nat.zero_add, Nat.add_zero, Nat.le_refl, k_20, k_10, k_01, ↓mm_if_T, ↓mm_if_F, ↓if10, ↓if00, not_true_eq_false, tf_01, ↓mm_if_tf, ↓mm_if_tn, ↓mm_if_nn, r_106 (d + 1) hM.1, r_97 (d + 2) c 1 30, r_97 (d + 2) t 0 30, ↓mm_if_t c1, ↓mm_if_t c2, ↓mm_if_t c3, z_134 (d + 1) hL hn hM hR hW hw c t, ↓mm_if_t c4]
          refine r_133 (d + 1) hJ hn ha hb (fun M1 hJ1 hF1 => ?_)
          have hR1 := hJ1.2.2.1
          simp (disch := omega) only [eC_137, eK_137_0, eK_137_1, eK_137_2, eK_137_3, pw_bipush, pw_iconst, pw_lconst, pw_ldc2_w, pw_nop0, qw_aload_n0, qw_i2l, qw_if_eq, qw_if_ne, qw_iload_n1, qw_iload_n2, qw_iload_n3, qw_invokestatic2, qw_invokestatic3, qw_invokevirtual1, qw_invokevirtual2, qw_invokevirtual5, qw_ireturn, mm_rf_c, mm_rt_v, mm_rt_i, mm_rt_r, mm_alc_n, mm_alc_c, mm_rc_n, mm_rc_c, mm_wd_n, mm_wd_i, mm_wd_l, mm_wd_r, reduceCtorEq, false_implies, implies_true, true_implies, true_or, or_true, false_or, or_false, not_false_eq_true, mm_nl_n, mm_nl_i, mm_nl_r, mm_args_n, mm_args_i, mm_args_l, mm_args_r, mm_pad_0, mm_pad_n, mm_pad_c, List.length_cons, List.length_nil, List.nil_append, List.cons_append, Nat.zero_le, Nat.sub_zero, true_and, and_true, Nat.reduceAdd, Nat.reduceLeDiff, Nat.reduceLT, Nat.reduceSub, Nat.lt_irrefl, Nat.zero_add, Nat.add_zero, Nat.le_refl, k_20, k_10, k_01, ↓mm_if_T, ↓mm_if_F, ↓if10, ↓if00, not_true_eq_false, tf_01, ↓mm_if_tf, ↓mm_if_tn, ↓mm_if_nn, z_135 (d + 2) hJ1.1 hn hR1 hw c t, r_118 (d + 2)]
          refine h _ (J1_now hJ1 hn (FB_s (FB_s (FB_s (FB_s (FB_s (FB_rf M1 0) (by omega)) (by omega)) (by omega)) (by omega)) (by omega)) (RB_pours (by omega) hn hR1 hw c t) (fun w' hw' k hk => ?_)) (FY_tr hF1 (FY_B (FB_s (FB_s (FB_s (FB_s (FB_s (FB_rf M1 0) (by omega)) (by omega)) (by omega)) (by omega)) (by omega))))
          unfold g_ca
          simp (disch := omega) only [up_k]
        · rw [if_neg c4] at h
          simp (disch := omega) only [eC_137, eK_137_0, eK_137_1, eK_137_2, eK_137_3, pw_bipush, pw_iconst, pw_lconst, pw_ldc2_w, pw_nop0, qw_aload_n0, qw_i2l, qw_if_eq, qw_if_ne, qw_iload_n1, qw_iload_n2, qw_iload_n3, qw_invokestatic2, qw_invokestatic3, qw_invokevirtual1, qw_invokevirtual2, qw_invokevirtual5, qw_ireturn, mm_rf_c, mm_rt_v, mm_rt_i, mm_rt_r, mm_alc_n, mm_alc_c, mm_rc_n, mm_rc_c, mm_wd_n, mm_wd_i, mm_wd_l, mm_wd_r, reduceCtorEq, false_implies, implies_true, true_implies, true_or, or_true, false_or, or_false, not_false_eq_true, mm_nl_n, mm_nl_i, mm_nl_r, mm_args_n, mm_args_i, mm_args_l, mm_args_r, mm_pad_0, mm_pad_n, mm_pad_c, List.length_cons, List.length_nil, List.nil_append, List.cons_append, Nat.zero_le, Nat.sub_zero, true_and, and_true, Nat.reduceAdd, Nat.reduceLeDiff, Nat.reduceLT, Nat.reduceSub, Nat.lt_irrefl, Nat.zero_add, Nat.add_zero, Nat.le_refl, k_20, k_10, k_01, ↓mm_if_T, ↓mm_if_F, ↓if10, ↓if00, not_true_eq_false, tf_01, ↓mm_if_tf, ↓mm_if_tn, ↓mm_if_nn, r_106 (d + 1) hM.1, r_97 (d + 2) c 1 30, r_97 (d + 2) t 0 30, ↓mm_if_t c1, ↓mm_if_t c2, ↓mm_if_t c3, z_134 (d + 1) hL hn hM hR hW hw c t, ↓mm_if_f c4]
          exact h M hJ (FY_rf M)
      · rw [if_neg (fun z => c3 z.2.2)] at h
        simp (disch := omega) only [eC_137, eK_137_0, eK_137_1, eK_137_2, eK_137_3, pw_bipush, pw_iconst, pw_lconst, pw_ldc2_w, pw_nop0, qw_aload_n0, qw_i2l, qw_if_eq, qw_if_ne, qw_iload_n1, qw_iload_n2, qw_iload_n3, qw_invokestatic2, qw_invokestatic3, qw_invokevirtual1, qw_invokevirtual2, qw_invokevirtual5, qw_ireturn, mm_rf_c, mm_rt_v, mm_rt_i, mm_rt_r, mm_alc_n, mm_alc_c, mm_rc_n, mm_rc_c, mm_wd_n, mm_wd_i, mm_wd_l, mm_wd_r, reduceCtorEq, false_implies, implies_true, true_implies, true_or, or_true, false_or, or_false, not_false_eq_true, mm_nl_n, mm_nl_i, mm_nl_r, mm_args_n, mm_args_i, mm_args_l, mm_args_r, mm_pad_0, mm_pad_n, mm_pad_c, List.length_cons, List.length_nil, List.nil_append, List.cons_append, Nat.zero_le, Nat.sub_zero, true_and, and_true, Nat.reduceAdd, Nat.reduceLeDiff, Nat.reduceLT, Nat.reduceSub, Nat.lt_irrefl, Nat.zero_add, Nat.add_zero, Nat.le_refl, k_20, k_10, k_01, ↓mm_if_T, ↓mm_if_F, ↓if10, ↓if00, not_true_eq_false, tf_01, ↓mm_if_tf, ↓mm_if_tn, ↓mm_if_nn, r_106 (d + 1) hM.1, r_97 (d + 2) c 1 30, r_97 (d + 2) t 0 30, ↓mm_if_t c1, ↓mm_if_t c2, ↓mm_if_f c3]
        exact h M hJ (FY_rf M)
    · rw [if_neg (fun z => c2 z.2.1)] at h
      simp (disch := omega) only [eC_137, eK_137_0, eK_137_1, eK_137_2, eK_137_3, pw_bipush, pw_iconst, pw_lconst, pw_ldc2_w, pw_nop0, qw_aload_n0, qw_i2l, qw_if_eq, qw_if_ne, qw_iload_n1, qw_iload_n2, qw_iload_n3, qw_invokestatic2, qw_invokestatic3, qw_invokevirtual1, qw_invokevirtual2, qw_invokevirtual5, qw_ireturn, mm_rf_c, mm_rt_v, mm_rt_i, mm_rt_r, mm_alc_n, mm_alc_c, mm_rc_n, mm_rc_c, mm_wd_n, mm_wd_i, mm_wd_l, mm_wd_r, reduceCtorEq, false_implies, implies_true, true_implies, true_or, or_true, false_or, or_false, not_false_eq_true, mm_nl_n, mm_nl_i, mm_nl_r, mm_args_n, mm_args_i, mm_args_l, mm_args_r, mm_pad_0, mm_pad_n, mm_pad_c, List.length_cons, List.length_nil, List.nil_append, List.cons_append, Nat.zero_le, Nat.sub_zero, true_and, and_true, Nat.reduceAdd, Nat.reduceLeDiff, Nat.reduceLT, Nat.reduceSub, Nat.lt_irrefl, Nat.zero_add, Nat.add_zero, Nat.le_refl, k_20, k_10, k_01, ↓mm_if_T, ↓mm_if_F, ↓if10, ↓if00, not_true_eq_false, tf_01, ↓mm_if_tf, ↓mm_if_tn, ↓mm_if_nn, r_106 (d + 1) hM.1, r_97 (d + 2) c 1 30, ↓mm_if_t c1, ↓mm_if_f c2]
      exact h M hJ (FY_rf M)
  · rw [if_neg (fun z => c1 z.1)] at h
    simp (disch := omega) only [eC_137, eK_137_0, eK_137_1, eK_137_2, eK_137_3, pw_bipush, pw_iconst, pw_lconst, pw_ldc2_w, pw_nop0, qw_aload_n0, qw_i2l, qw_if_eq, qw_if_ne, qw_iload_n1, qw_iload_n2, qw_iload_n3, qw_invokestatic2, qw_invokestatic3, qw_invokevirtual1, qw_invokevirtual2, qw_invokevirtual5, qw_ireturn, mm_rf_c, mm_rt_v, mm_rt_i, mm_rt_r, mm_alc_n, mm_alc_c, mm_rc_n, mm_rc_c, mm_wd_n, mm_wd_i, mm_wd_l, mm_wd_r, reduceCtorEq, false_implies, implies_true, true_implies, true_or, or_true, false_or, or_false, not_false_eq_true, mm_nl_n, mm_nl_i, mm_nl_r, mm_args_n, mm_args_i, mm_args_l, mm_args_r, mm_pad_0, mm_pad_n, mm_pad_c, List.length_cons, List.length_nil, List.nil_append, List.cons_append, Nat.zero_le, Nat.sub_zero, true_and, and_true, Nat.reduceAdd, Nat.reduceLeDiff, Nat.reduceLT, Nat.reduceSub, Nat.lt_irrefl, Nat.zero_add, Nat.add_zero, Nat.le_refl, k_20, k_10, k_01, ↓mm_if_T, ↓mm_if_F, ↓if10, ↓if00, not_true_eq_false, tf_01, ↓mm_if_tf, ↓mm_if_tn, ↓mm_if_nn, r_106 (d + 1) hM.1, ↓mm_if_f c1]
    exact h M hJ (FY_rf M)

set_option maxHeartbeats 2000000 in
theorem r_140 (d : Nat) {M : mm_M} {post : mm_Post} {n : Nat} {X : Sx} {a : Nat} {P : Nat → Sx} {b : Nat} {K : Nat → Sx} (hJ : J1 M n X a P b K) (hn : n ≤ 7) (ha : a ≤ 8) (hb : b ≤ 2) (hW : WF n X.1.1) (x p r : Int32) (h : ∀ M', J1 M' n (T59 n X a P x p r).2.1 (T59 n X a P x p r).2.2.1 (T59 n X a P x p r).2.2.2 b K → FY M M' → post (some (.inl (T59 n X a P x p r).1)) M') : pC (d + 4) 140 [.inr (.inr (6, 0)), .inl x, .inl p, .inl r] M post := by
  obtain ⟨hL, hM, hR, h9, hP, h10, hK⟩ := id hJ
  unfold T59 at h
  by_cases c1 : isw n x
  · by_cases c2 : (0 ≤ p ∧ p ≤ 40) ∧ (0 ≤ r ∧ r ≤ 23)
    · rw [if_pos ⟨c1, c2.1, c2.2⟩] at h
      obtain ⟨w, hw, rfl⟩ := isw_of hn c1
      obtain ⟨v1, v2, v3⟩ := nI_v7 hw hn
      rw [v2] at h
      by_cases c4 : 1 ≤ X.1.1 w 5
      · rw [if_pos c4] at h
        dsimp only at h
        simp (disch := omega) only [eC_140, eK_140_0, eK_140_1, eK_140_2, eK_140_3, pw_bipush, pw_iconst, pw_nop0, qw_aload_n0, qw_gf_b, qw_gf_i, qw_gf_r, qw_iadd, qw_iastore, qw_if_eq, qw_if_ne, qw_iload_n1, qw_iload_n2, qw_iload_n3, qw_invokestatic2, qw_invokevirtual1, qw_invokevirtual2, qw_invokevirtual3, qw_invokevirtual4, qw_ireturn, mm_rf_c, mm_rt_v, mm_rt_i, mm_rt_r, mm_alc_n, mm_alc_c, mm_rc_n, mm_rc_c, mm_wd_n, mm_wd_i, mm_wd_l, mm_wd_r, reduceCtorEq, false_implies, implies_true, true_implies, true_or, or_true, false_or, or_false, not_false_eq_true, mm_nl_n, mm_nl_i, mm_nl_r, mm_args_n, mm_args_i, mm_args_l, mm_args_r, mm_pad_0, mm_pad_n, mm_pad_c, List.length_cons, List.length_nil, List.nil_append, List.cons_append, Nat.zero_le, Nat.sub_zero, true_and, and_true, Nat.reduceAdd, Nat.reduceLeDiff, Nat.reduceLT, Nat.reduceSub, Nat.lt_irrefl, Nat.zero_add, Nat.add_zero, Nat.le_refl, k_20, k_10, k_01, ↓mm_if_T, ↓mm_if_F, ↓if10, ↓if00, not_true_eq_false, tf_01, ↓mm_if_tf, ↓mm_if_tn, ↓mm_if_nn, r_106 (d + 1) hM.1, r_139 (d + 1), ↓mm_if_t c1, ↓mm_if_t c2, z_121 (d + 2) hL hn hM hR hW hw, ↓mm_if_t c4]
        refine r_133 (d + 1) hJ hn ha hb (fun M1 hJ1 hF1 => ?_)
        have hR1 := hJ1.2.2.1
        have hL1 := hJ1.1
        have l1 := hL1.1.2.2.2.2.2.2.1
        have l2 : mm_L M1 7 11 = 468 := hL1.2.2.2.2.2.2.2.1
        have n0 := (wf_5 hW hw).mp c4
        have R2 := RB_ha (show 0 ≤ 429 by omega) hn hR1 hw n0 p r
        have F2 : FB M1 (mm_sI (mm_sI M1 7 11 (0 + 22 + w) p) 7 11 (0 + 29 + w) r) 0 := (FB_s (FB_s (FB_rf M1 0) (by omega)) (by omega))
        have s2 : SK n X ((g_ha X.1.1 w p r, X.1.2), X.2) := fun w' hw' k hk => by
          unfold g_ha
          simp (disch := omega) only [up_k]
        have J2 := J1_now hJ1 hn F2 R2 s2
        have W2 := WF_ha hW hw c4 c2.1 c2.2
        have e9 : (g_ha X.1.1 w p r) w 9 = p := by unfold g_ha; simp (disch := omega) only [up_k, up_s]
        have h5 : (g_ha X.1.1 w p r) w 5 = 2 := by unfold g_ha; simp (disch := omega) only [up_k, up_s]
        have o1 := fun post => z_138 (post := post) d J2.1 hn J2.2.1 J2.2.2.1 W2 hw h5 0 1 (by decide)
        dsimp only at o1
        rw [e9] at o1
        simp (disch := omega) only [eC_140, eK_140_0, eK_140_1, eK_140_2, eK_140_3, pw_bipush, pw_iconst, pw_nop0, qw_aload_n0, qw_gf_b, qw_gf_i, qw_gf_r, qw_iadd, qw_iastore, qw_if_eq, qw_if_ne, qw_iload_n1, qw_iload_n2, qw_iload_n3, qw_invokestatic2, qw_invokevirtual1, qw_invokevirtual2, qw_invokevirtual3, qw_invokevirtual4, qw_ireturn, mm_rf_c, mm_rt_v, mm_rt_i, mm_rt_r, mm_alc_n, mm_alc_c, mm_rc_n, mm_rc_c, mm_wd_n, mm_wd_i, mm_wd_l, mm_wd_r, reduceCtorEq, false_implies, implies_true, true_implies, true_or, or_true, false_or, or_false, not_false_eq_true, mm_nl_n, mm_nl_i, mm_nl_r, mm_args_n, mm_args_i, mm_args_l, mm_args_r, mm_pad_0, mm_pad_n, mm_pad_c, List.length_cons, List.length_nil, List.nil_append, List.cons_append, Nat.zero_le, Nat.sub_zero, true_and, and_true, Nat.reduceAdd, Nat.reduceLeDiff, Nat.reduceLT, Nat.reduceSub, Nat.lt_irrefl, Nat.zero_add, Nat.add_zero, Nat.le_refl, k_20, k_10, k_01, ↓mm_if_T, ↓mm_if_F, ↓if10, ↓if00, not_true_eq_false, tf_01, ↓mm_if_tf, ↓mm_if_tn, ↓mm_if_nn, l1, l2, c22_, c29_, vi_, ci_, mm_L_s, mm_R_s, o1]
        exact h _ J2 (FY_tr hF1 (FY_B F2))
      · rw [if_neg c4] at h
        simp (disch := omega) only [eC_140, eK_140_0, eK_140_1, eK_140_2, eK_140_3, pw_bipush, pw_iconst, pw_nop0, qw_aload_n0, qw_gf_b, qw_gf_i, qw_gf_r, qw_iadd, qw_iastore, qw_if_eq, qw_if_ne, qw_iload_n1, qw_iload_n2, qw_iload_n3, qw_invokestatic2, qw_invokevirtual1, qw_invokevirtual2, qw_invokevirtual3, qw_invokevirtual4, qw_ireturn, mm_rf_c, mm_rt_v, mm_rt_i, mm_rt_r, mm_alc_n, mm_alc_c, mm_rc_n, mm_rc_c, mm_wd_n, mm_wd_i, mm_wd_l, mm_wd_r, reduceCtorEq, false_implies, implies_true, true_implies, true_or, or_true, false_or, or_false, not_false_eq_true, mm_nl_n, mm_nl_i, mm_nl_r, mm_args_n, mm_args_i, mm_args_l, mm_args_r, mm_pad_0, mm_pad_n, mm_pad_c, List.length_cons, List.length_nil, List.nil_append, List.cons_append, Nat.zero_le, Nat.sub_zero, true_and, and_true, Nat.reduceAdd, Nat.reduceLeDiff, Nat.reduceLT, Nat.reduceSub, Nat.lt_irrefl, Nat.zero_add, Nat.add_zero, Nat.le_refl, k_20, k_10, k_01, ↓mm_if_T, ↓mm_if_F, ↓if10, ↓if00, not_true_eq_false, tf_01, ↓mm_if_tf, ↓mm_if_tn, ↓mm_if_nn, r_106 (d + 1) hM.1, r_139 (d + 1), ↓mm_if_t c1, ↓mm_if_t c2, z_121 (d + 2) hL hn hM hR hW hw, ↓mm_if_f c4]
        exact h M hJ (FY_rf M)
    · rw [if_neg (fun z => c2 z.2)] at h
      simp (disch := omega) only [eC_140, eK_140_0, eK_140_1, eK_140_2, eK_140_3, pw_bipush, pw_iconst, pw_nop0, qw_aload_n0, qw_gf_b, qw_gf_i, qw_gf_r, qw_iadd, qw_iastore, qw_if_eq, qw_if_ne, qw_iload_n1, qw_iload_n2, qw_iload_n3, qw_invokestatic2, qw_invokevirtual1, qw_invokevirtual2, qw_invokevirtual3, qw_invokevirtual4, qw_ireturn, mm_rf_c, mm_rt_v, mm_rt_i, mm_rt_r, mm_alc_n, mm_alc_c, mm_rc_n, mm_rc_c, mm_wd_n, mm_wd_i, mm_wd_l, mm_wd_r, reduceCtorEq, false_implies, implies_true, true_implies, true_or, or_true, false_or, or_false, not_false_eq_true, mm_nl_n, mm_nl_i, mm_nl_r, mm_args_n, mm_args_i, mm_args_l, mm_args_r, mm_pad_0, mm_pad_n, mm_pad_c, List.length_cons, List.length_nil, List.nil_append, List.cons_append, Nat.zero_le, Nat.sub_zero, true_and, and_true, Nat.reduceAdd, Nat.reduceLeDiff, Nat.reduceLT, Nat.reduceSub, Nat.lt_irrefl, Nat.zero_add, Nat.add_zero, Nat.le_refl, k_20, k_10, k_01, ↓mm_if_T, ↓mm_if_F, ↓if10, ↓if00, not_true_eq_false, tf_01, ↓mm_if_tf, ↓mm_if_tn, ↓mm_if_nn, r_106 (d + 1) hM.1, r_139 (d + 1), ↓mm_if_t c1, ↓mm_if_f c2]
      exact h M hJ (FY_rf M)
  · rw [if_neg (fun z => c1 z.1)] at h
    simp (disch := omega) only [eC_140, eK_140_0, eK_140_1, eK_140_2, eK_140_3, pw_bipush, pw_iconst, pw_nop0, qw_aload_n0, qw_gf_b, qw_gf_i, qw_gf_r, qw_iadd, qw_iastore, qw_if_eq, qw_if_ne, qw_iload_n1, qw_iload_n2, qw_iload_n3, qw_invokestatic2, qw_invokevirtual1, qw_invokevirtual2, qw_invokevirtual3, qw_invokevirtual4, qw_ireturn, mm_rf_c, mm_rt_v, mm_rt_i, mm_rt_r, mm_alc_n, mm_alc_c, mm_rc_n, mm_rc_c, mm_wd_n, mm_wd_i, mm_wd_l, mm_wd_r, reduceCtorEq, false_implies, implies_true, true_implies, true_or, or_true, false_or, or_false, not_false_eq_true, mm_nl_n, mm_nl_i, mm_nl_r, mm_args_n, mm_args_i, mm_args_l, mm_args_r, mm_pad_0, mm_pad_n, mm_pad_c, List.length_cons, List.length_nil, List.nil_append, List.cons_append, Nat.zero_le, Nat.sub_zero, true_and, and_true, Nat.reduceAdd, Nat.reduceLeDiff, Nat.reduceLT, Nat.reduceSub, Nat.lt_irrefl, Nat.zero_add, Nat.add_zero, Nat.le_refl, k_20, k_10, k_01, ↓mm_if_T, ↓mm_if_F, ↓if10, ↓if00, not_true_eq_false, tf_01, ↓mm_if_tf, ↓mm_if_tn, ↓mm_if_nn, r_106 (d + 1) hM.1, ↓mm_if_f c1]
    exact h M hJ (FY_rf M)

set_option maxHeartbeats 2000000 in
theorem r_141 (d : Nat) {M : mm_M} {post : mm_Post} {n : Nat} {X : Sx} {a : Nat} {P : Nat → Sx} {b : Nat} {K : Nat → Sx} (hJ : J1 M n X a P b K) (hn : n ≤ 7) (ha : a ≤ 8) (hb : b ≤ 2) (hW : WF n X.1.1) (x : Int32) (h : ∀ M', J1 M' n (T60 n X a P x).2.1 (T60 n X a P x).2.2.1 (T60 n X a P x).2.2.2 b K → FY M M' → post (some (.inl (T60 n X a P x).1)) M') : pC (d + 3) 141 [.inr (.inr (6, 0)), .inl x] M post := by
  obtain ⟨hL, hM, hR, h9, hP, h10, hK⟩ := id hJ
  unfold T60 at h
  by_cases c1 : isw n x
  · rw [if_pos c1] at h
    obtain ⟨w, hw, rfl⟩ := isw_of hn c1
    obtain ⟨v1, v2, v3⟩ := nI_v7 hw hn
    rw [v2] at h
    by_cases c4 : X.1.1 w 5 = 2
    · rw [if_pos c4] at h
      dsimp only at h
      simp (disch := omega) only [eC_141, eK_141_0, eK_141_1, eK_141_2, pw_bipush, pw_iconst, qw_aload_n0, qw_gf_b, qw_gf_i, qw_gf_r, qw_iadd, qw_iaload, qw_iastore, qw_if_ne, qw_iload_n1, qw_iload_n2, qw_invokevirtual1, qw_invokevirtual2, qw_invokevirtual3, qw_ireturn, qw_istore_n2, mm_rf_c, mm_rt_v, mm_rt_i, mm_rt_r, mm_alc_n, mm_alc_c, mm_rc_n, mm_rc_c, mm_wd_n, mm_wd_i, mm_wd_l, mm_wd_r, reduceCtorEq, false_implies, implies_true, true_implies, true_or, or_true, false_or, or_false, not_false_eq_true, mm_nl_n, mm_nl_i, mm_nl_r, mm_args_n, mm_args_i, mm_args_l, mm_args_r, mm_pad_0, mm_pad_n, mm_pad_c, List.length_cons, List.length_nil, List.nil_append, List.cons_append, Nat.zero_le, Nat.sub_zero, true_and, and_true, Nat.reduceAdd, Nat.reduceLeDiff, Nat.reduceLT, Nat.reduceSub, Nat.lt_irrefl, Nat.zero_add, Nat.add_zero, Nat.le_refl, k_20, k_10, k_01, ↓mm_if_T, ↓mm_if_F, ↓if10, ↓if00, not_true_eq_false, tf_01, ↓mm_if_tf, ↓mm_if_tn, ↓mm_if_nn, r_106 (d + 0) hM.1, ↓mm_if_t c1, z_120 (d + 1) hL hn hM hR hW hw, ↓mm_if_t c4]
      refine r_133 d hJ hn ha hb (fun M1 hJ1 hF1 => ?_)
      have hR1 := hJ1.2.2.1
      have hL1 := hJ1.1
      have l1 := hL1.1.2.2.2.2.2.2.1
      have l2 : mm_L M1 7 11 = 468 := hL1.2.2.2.2.2.2.2.1
      have n0 : ¬ X.1.1 w 5 = 0 := by rw [c4]; decide
      have R2 := RB_td (show 0 ≤ 429 by omega) hn hR1 hw n0
      have h9' := (hR1.1 w hw).2.2.2.1
      rw [if_pos c4] at h9'
      simp (disch := omega) only [eC_141, eK_141_0, eK_141_1, eK_141_2, pw_bipush, pw_iconst, qw_aload_n0, qw_gf_b, qw_gf_i, qw_gf_r, qw_iadd, qw_iaload, qw_iastore, qw_if_ne, qw_iload_n1, qw_iload_n2, qw_invokevirtual1, qw_invokevirtual2, qw_invokevirtual3, qw_ireturn, qw_istore_n2, mm_rf_c, mm_rt_v, mm_rt_i, mm_rt_r, mm_alc_n, mm_alc_c, mm_rc_n, mm_rc_c, mm_wd_n, mm_wd_i, mm_wd_l, mm_wd_r, reduceCtorEq, false_implies, implies_true, true_implies, true_or, or_true, false_or, or_false, not_false_eq_true, mm_nl_n, mm_nl_i, mm_nl_r, mm_args_n, mm_args_i, mm_args_l, mm_args_r, mm_pad_0, mm_pad_n, mm_pad_c, List.length_cons, List.length_nil, List.nil_append, List.cons_append, Nat.zero_le, Nat.sub_zero, true_and, and_true, Nat.reduceAdd, Nat.reduceLeDiff, Nat.reduceLT, Nat.reduceSub, Nat.lt_irrefl, Nat.zero_add, Nat.add_zero, Nat.le_refl, k_20, k_10, k_01, ↓mm_if_T, ↓mm_if_F, ↓if10, ↓if00, not_true_eq_false, tf_01, ↓mm_if_tf, ↓mm_if_tn, ↓mm_if_nn, l1, l2, c22_, vi_, ci_, mm_L_s, mm_R_s, h9']
      refine h _ (J1_now hJ1 hn (FB_s (FB_rf M1 0) (by omega)) R2 (fun w' hw' k hk => ?_)) (FY_tr hF1 (FY_B (FB_s (FB_rf M1 0) (by omega))))
      simp (disch := omega) only [up_k]
    · rw [if_neg c4] at h
      simp (disch := omega) only [eC_141, eK_141_0, eK_141_1, eK_141_2, pw_bipush, pw_iconst, qw_aload_n0, qw_gf_b, qw_gf_i, qw_gf_r, qw_iadd, qw_iaload, qw_iastore, qw_if_ne, qw_iload_n1, qw_iload_n2, qw_invokevirtual1, qw_invokevirtual2, qw_invokevirtual3, qw_ireturn, qw_istore_n2, mm_rf_c, mm_rt_v, mm_rt_i, mm_rt_r, mm_alc_n, mm_alc_c, mm_rc_n, mm_rc_c, mm_wd_n, mm_wd_i, mm_wd_l, mm_wd_r, reduceCtorEq, false_implies, implies_true, true_implies, true_or, or_true, false_or, or_false, not_false_eq_true, mm_nl_n, mm_nl_i, mm_nl_r, mm_args_n, mm_args_i, mm_args_l, mm_args_r, mm_pad_0, mm_pad_n, mm_pad_c, List.length_cons, List.length_nil, List.nil_append, List.cons_append, Nat.zero_le, Nat.sub_zero, true_and, and_true, Nat.reduceAdd, Nat.reduceLeDiff, Nat.reduceLT, Nat.reduceSub, Nat.lt_irrefl, Nat.zero_add, Nat.add_zero, Nat.le_refl, k_20, k_10, k_01, ↓mm_if_T, ↓mm_if_F, ↓if10, ↓if00, not_true_eq_false, tf_01, ↓mm_if_tf, ↓mm_if_tn, ↓mm_if_nn, r_106 (d + 0) hM.1, ↓mm_if_t c1, z_120 (d + 1) hL hn hM hR hW hw, ↓mm_if_f c4]
      exact h M hJ (FY_rf M)
  · rw [if_neg c1] at h
    simp (disch := omega) only [eC_141, eK_141_0, eK_141_1, eK_141_2, pw_bipush, pw_iconst, qw_aload_n0, qw_gf_b, qw_gf_i, qw_gf_r, qw_iadd, qw_iaload, qw_iastore, qw_if_ne, qw_iload_n1, qw_iload_n2, qw_invokevirtual1, qw_invokevirtual2, qw_invokevirtual3, qw_ireturn, qw_istore_n2, mm_rf_c, mm_rt_v, mm_rt_i, mm_rt_r, mm_alc_n, mm_alc_c, mm_rc_n, mm_rc_c, mm_wd_n, mm_wd_i, mm_wd_l, mm_wd_r, reduceCtorEq, false_implies, implies_true, true_implies, true_or, or_true, false_or, or_false, not_false_eq_true, mm_nl_n, mm_nl_i, mm_nl_r, mm_args_n, mm_args_i, mm_args_l, mm_args_r, mm_pad_0, mm_pad_n, mm_pad_c, List.length_cons, List.length_nil, List.nil_append, List.cons_append, Nat.zero_le, Nat.sub_zero, true_and, and_true, Nat.reduceAdd, Nat.reduceLeDiff, Nat.reduceLT, Nat.reduceSub, Nat.lt_irrefl, Nat.zero_add, Nat.add_zero, Nat.le_refl, k_20, k_10, k_01, ↓mm_if_T, ↓mm_if_F, ↓if10, ↓if00, not_true_eq_false, tf_01, ↓mm_if_tf, ↓mm_if_tn, ↓mm_if_nn, r_106 (d + 0) hM.1, ↓mm_if_f c1]
    exact h M hJ (FY_rf M)

set_option maxHeartbeats 2000000 in
theorem r_142 (d : Nat) {M : mm_M} {post : mm_Post} {n : Nat} {X : Sx} {a : Nat} {P : Nat → Sx} {b : Nat} {K : Nat → Sx} (hJ : J1 M n X a P b K) (hn : n ≤ 7) (ha : a ≤ 8) (hb : b ≤ 2) (hW : WF n X.1.1) (x : Int32) (h : ∀ M', J1 M' n (T61 n X a P x).2.1 (T61 n X a P x).2.2.1 (T61 n X a P x).2.2.2 b K → FY M M' → post (some (.inl (T61 n X a P x).1)) M') : pC (d + 3) 142 [.inr (.inr (6, 0)), .inl x] M post := by
  obtain ⟨hL, hM, hR, h9, hP, h10, hK⟩ := id hJ
  unfold T61 at h
  by_cases c1 : isw n x
  · rw [if_pos c1] at h
    obtain ⟨w, hw, rfl⟩ := isw_of hn c1
    obtain ⟨v1, v2, v3⟩ := nI_v7 hw hn
    rw [v2] at h
    by_cases c4 : 1 ≤ X.1.1 w 5
    · rw [if_pos c4] at h
      dsimp only at h
      simp (disch := omega) only [eC_142, eK_142_0, eK_142_1, eK_142_2, pw_bipush, pw_iconst, qw_aload_n0, qw_gf_b, qw_gf_i, qw_gf_r, qw_iaload, qw_if_ne, qw_iload_n1, qw_invokevirtual1, qw_invokevirtual2, qw_invokevirtual3, qw_ireturn, mm_rf_c, mm_rt_v, mm_rt_i, mm_rt_r, mm_alc_n, mm_alc_c, mm_rc_n, mm_rc_c, mm_wd_n, mm_wd_i, mm_wd_l, mm_wd_r, reduceCtorEq, false_implies, implies_true, true_implies, true_or, or_true, false_or, or_false, not_false_eq_true, mm_nl_n, mm_nl_i, mm_nl_r, mm_args_n, mm_args_i, mm_args_l, mm_args_r, mm_pad_0, mm_pad_n, mm_pad_c, List.length_cons, List.length_nil, List.nil_append, List.cons_append, Nat.zero_le, Nat.sub_zero, true_and, and_true, Nat.reduceAdd, Nat.reduceLeDiff, Nat.reduceLT, Nat.reduceSub, Nat.lt_irrefl, Nat.zero_add, Nat.add_zero, Nat.le_refl, k_20, k_10, k_01, ↓mm_if_T, ↓mm_if_F, ↓if10, ↓if00, not_true_eq_false, tf_01, ↓mm_if_tf, ↓mm_if_tn, ↓mm_if_nn, r_106 (d + 0) hM.1, ↓mm_if_t c1, z_121 (d + 1) hL hn hM hR hW hw, ↓mm_if_t c4]
      refine r_133 d hJ hn ha hb (fun M1 hJ1 hF1 => ?_)
      have hR1 := hJ1.2.2.1
      have hL1 := hJ1.1
      have l1 := hL1.1.2.2.2.2.2.2.1
      have l2 : mm_L M1 7 11 = 468 := hL1.2.2.2.2.2.2.2.1
      have n0 := (wf_5 hW hw).mp c4
      have R2 := RB_melts (show 0 ≤ 429 by omega) hn hR1 hw
      have i7 : vp_in (36 : Int32) 468 := vp_in_nI (n := 36) (by omega) (by omega)
      have j7 : (36 : Int32).toNatClampNeg = 0 + 36 := nI_clamp (n := 36) (by omega)
      simp (disch := omega) only [eC_142, eK_142_0, eK_142_1, eK_142_2, pw_bipush, pw_iconst, qw_aload_n0, qw_gf_b, qw_gf_i, qw_gf_r, qw_iaload, qw_if_ne, qw_iload_n1, qw_invokevirtual1, qw_invokevirtual2, qw_invokevirtual3, qw_ireturn, mm_rf_c, mm_rt_v, mm_rt_i, mm_rt_r, mm_alc_n, mm_alc_c, mm_rc_n, mm_rc_c, mm_wd_n, mm_wd_i, mm_wd_l, mm_wd_r, reduceCtorEq, false_implies, implies_true, true_implies, true_or, or_true, false_or, or_false, not_false_eq_true, mm_nl_n, mm_nl_i, mm_nl_r, mm_args_n, mm_args_i, mm_args_l, mm_args_r, mm_pad_0, mm_pad_n, mm_pad_c, List.length_cons, List.length_nil, List.nil_append, List.cons_append, Nat.zero_le, Nat.sub_zero, true_and, and_true, Nat.reduceAdd, Nat.reduceLeDiff, Nat.reduceLT, Nat.reduceSub, Nat.lt_irrefl, Nat.add_zero, Nat.le_refl, k_20, k_10, k_01, ↓mm_if_T, ↓mm_if_F, ↓if10, ↓if00, not_true_eq_false, tf_01, ↓mm_if_tf, ↓mm_if_tn, ↓mm_if_nn, z_136 (d + 1) hL1 hn hR1 hw n0, l1, l2, i7, j7, mm_L_s, mm_R_s, mm_I_k, mm_I_s]
      refine h _ (J1_now hJ1 hn (FB_s (FB_s (FB_s (FB_s (FB_s (FB_rf M1 0) (by omega)) (by omega)) (by omega)) (by omega)) (by omega)) R2 (fun w' hw' k hk => ?_)) (FY_tr hF1 (FY_B (FB_s (FB_s (FB_s (FB_s (FB_s (FB_rf M1 0) (by omega)) (by omega)) (by omega)) (by omega)) (by omega))))
      unfold g_me
      simp (disch := omega) only [up_k]
    · rw [if_neg c4] at h
      simp (disch := omega) only [eC_142, eK_142_0, eK_142_1, eK_142_2, pw_bipush, pw_iconst, qw_aload_n0, qw_gf_b, qw_gf_i, qw_gf_r, qw_iaload, qw_if_ne, qw_iload_n1, qw_invokevirtual1, qw_invokevirtual2, qw_invokevirtual3, qw_ireturn, mm_rf_c, mm_rt_v, mm_rt_i, mm_rt_r, mm_alc_n, mm_alc_c, mm_rc_n, mm_rc_c, mm_wd_n, mm_wd_i, mm_wd_l, mm_wd_r, reduceCtorEq, false_implies, implies_true, true_implies, true_or, or_true, false_or, or_false, not_false_eq_true, mm_nl_n, mm_nl_i, mm_nl_r, mm_args_n, mm_args_i, mm_args_l, mm_args_r, mm_pad_0, mm_pad_n, mm_pad_c, List.length_cons, List.length_nil, List.nil_append, List.cons_append, Nat.zero_le, Nat.sub_zero, true_and, and_true, Nat.reduceAdd, Nat.reduceLeDiff, Nat.reduceLT, Nat.reduceSub, Nat.lt_irrefl, Nat.zero_add, Nat.add_zero, Nat.le_refl, k_20, k_10, k_01, ↓mm_if_T, ↓mm_if_F, ↓if10, ↓if00, not_true_eq_false, tf_01, ↓mm_if_tf, ↓mm_if_tn, ↓mm_if_nn, r_106 (d + 0) hM.1, ↓mm_if_t c1, z_121 (d + 1) hL hn hM hR hW hw, ↓mm_if_f c4]
      exact h M hJ (FY_rf M)
  · rw [if_neg c1] at h
    simp (disch := omega) only [eC_142, eK_142_0, eK_142_1, eK_142_2, pw_bipush, pw_iconst, qw_aload_n0, qw_gf_b, qw_gf_i, qw_gf_r, qw_iaload, qw_if_ne, qw_iload_n1, qw_invokevirtual1, qw_invokevirtual2, qw_invokevirtual3, qw_ireturn, mm_rf_c, mm_rt_v, mm_rt_i, mm_rt_r, mm_alc_n, mm_alc_c, mm_rc_n, mm_rc_c, mm_wd_n, mm_wd_i, mm_wd_l, mm_wd_r, reduceCtorEq, false_implies, implies_true, true_implies, true_or, or_true, false_or, or_false, not_false_eq_true, mm_nl_n, mm_nl_i, mm_nl_r, mm_args_n, mm_args_i, mm_args_l, mm_args_r, mm_pad_0, mm_pad_n, mm_pad_c, List.length_cons, List.length_nil, List.nil_append, List.cons_append, Nat.zero_le, Nat.sub_zero, true_and, and_true, Nat.reduceAdd, Nat.reduceLeDiff, Nat.reduceLT, Nat.reduceSub, Nat.lt_irrefl, Nat.zero_add, Nat.add_zero, Nat.le_refl, k_20, k_10, k_01, ↓mm_if_T, ↓mm_if_F, ↓if10, ↓if00, not_true_eq_false, tf_01, ↓mm_if_tf, ↓mm_if_tn, ↓mm_if_nn, r_106 (d + 0) hM.1, ↓mm_if_f c1]
    exact h M hJ (FY_rf M)

theorem SK_dx {n : Nat} {X : Sx} : SK n X (g_dx n X) := fun w _ k hk => g_gl_k hk n
theorem SK_dn {n : Nat} {X : Sx} : ∀ k, SK n X (g_dn n X k)
  | 0 => fun _ _ _ _ => rfl
  | k + 1 => fun w hw j hj => (SK_dx w hw j hj).trans (SK_dn k w hw j hj)
theorem k_144 (d : Nat) {n : Nat} {X : Sx} {a : Nat} {P : Nat → Sx} {b : Nat} {K : Nat → Sx} {M : mm_M} {post : mm_Post} (hn : n ≤ 7) (N : Nat) (hN : N ≤ 24) (hW : WF n X.1.1) (h : ∀ M', J1 M' n (g_dn n X N) a P b K → FY M M' → post (some (.inl (g_dn n X N).2)) M') : ∀ (m i : Nat) (M1 : mm_M), i + m = N → J1 M1 n (g_dn n X i) a P b K → FY M M1 → pK (d + 5) 144 post 2 [some (.inr (.inr (6, 0))), some (.inl (nI N)), some (.inl (nI i))] [] M1 (0, 0) := by
  intro m
  induction m with
  | zero =>
    intro i M1 hi hJ hF
    have e : i = N := by omega
    subst e
    have hL1 := hJ.1
    have l1 := hL1.1.2.2.2.2.2.2.1
    have l2 : mm_L M1 7 11 = 468 := hL1.2.2.2.2.2.2.2.1
    have i7 : vp_in (38 : Int32) 468 := vp_in_nI (n := 38) (by omega) (by omega)
    have j7 : (38 : Int32).toNatClampNeg = 38 := nI_clamp (n := 38) (by omega)
    have h8 := hJ.2.2.1.2.2.2.2
    rw [Nat.zero_add] at h8
    rw [eK_144_2]
    simp (disch := omega) only [eK_144_0, eK_144_1, eK_144_3, pw_bipush, pw_goto, pw_iconst, pw_lconst, pw_ldc2_w, pw_nop0, qw_aload_n0, qw_gf_b, qw_gf_i, qw_gf_r, qw_i2l, qw_iaload, qw_if_icmp_ge, qw_if_ne, qw_iinc2, qw_iload_n1, qw_iload_n2, qw_invokestatic3, qw_invokevirtual1, qw_invokevirtual3, qw_ireturn, qw_istore_n2, mm_rf_c, mm_rt_v, mm_rt_i, mm_rt_r, mm_alc_n, mm_alc_c, mm_rc_n, mm_rc_c, mm_wd_n, mm_wd_i, mm_wd_l, mm_wd_r, reduceCtorEq, false_implies, implies_true, true_implies, true_or, or_true, false_or, or_false, not_false_eq_true, mm_nl_n, mm_nl_i, mm_nl_r, mm_args_n, mm_args_i, mm_args_l, mm_args_r, mm_pad_0, mm_pad_n, mm_pad_c, List.length_cons, List.length_nil, List.nil_append, List.cons_append, Nat.zero_le, Nat.sub_zero, true_and, and_true, Nat.reduceAdd, Nat.reduceLeDiff, Nat.reduceLT, Nat.reduceSub, Nat.lt_irrefl, Nat.zero_add, Nat.add_zero, Nat.le_refl, k_20, k_10, k_01, ↓mm_if_T, ↓mm_if_F, ↓if10, ↓if00, not_true_eq_false, tf_01, ↓mm_if_tf, ↓mm_if_tn, ↓mm_if_nn, l1, l2, i7, j7, h8, ↓mm_if_t (nI_le (Nat.le_refl i) (show i < 2 ^ 31 by omega))]
    exact h M1 hJ hF
  | succ m ih =>
    intro i M1 hi hJ hF
    have hlt : ¬ nI N ≤ nI i := nI_ge (by omega) (by omega)
    rw [eK_144_2]
    simp (disch := omega) only [eK_144_0, eK_144_1, eK_144_3, pw_bipush, pw_goto, pw_iconst, pw_lconst, pw_ldc2_w, pw_nop0, qw_aload_n0, qw_gf_b, qw_gf_i, qw_gf_r, qw_i2l, qw_iaload, qw_if_icmp_ge, qw_if_ne, qw_iinc2, qw_iload_n1, qw_iload_n2, qw_invokestatic3, qw_invokevirtual1, qw_invokevirtual3, qw_ireturn, qw_istore_n2, mm_rf_c, mm_rt_v, mm_rt_i, mm_rt_r, mm_alc_n, mm_alc_c, mm_rc_n, mm_rc_c, mm_wd_n, mm_wd_i, mm_wd_l, mm_wd_r, reduceCtorEq, false_implies, implies_true, true_implies, true_or, or_true, false_or, or_false, not_false_eq_true, mm_nl_n, mm_nl_i, mm_nl_r, mm_args_n, mm_args_i, mm_args_l, mm_args_r, mm_pad_0, mm_pad_n, mm_pad_c, List.length_cons, List.length_nil, List.nil_append, List.cons_append, Nat.zero_le, Nat.sub_zero, true_and, and_true, Nat.reduceAdd, Nat.reduceLeDiff, Nat.reduceLT, Nat.reduceSub, Nat.lt_irrefl, Nat.zero_add, Nat.add_zero, Nat.le_refl, k_20, k_10, k_01, ↓mm_if_T, ↓mm_if_F, ↓if10, ↓if00, not_true_eq_false, tf_01, ↓mm_if_tf, ↓mm_if_tn, ↓mm_if_nn, ↓mm_if_f hlt]
    refine z_143 d hJ.1 hn hJ.2.1 hJ.2.2.1 (WF_dn hW i) 0 (fun M2 hR2 hF2 => ?_)
    rw [if_pos rfl] at hR2
    simp (disch := omega) only [pw_goto, pw_iconst, qw_aload_n0, qw_if_icmp_ge, qw_iinc2, qw_iload_n1, qw_iload_n2, qw_invokevirtual3, mm_rf_c, mm_rt_v, mm_rt_i, mm_rt_r, mm_alc_n, mm_alc_c, mm_rc_n, mm_rc_c, mm_wd_n, mm_wd_i, mm_wd_l, mm_wd_r, reduceCtorEq, false_implies, implies_true, true_implies, true_or, or_true, false_or, or_false, not_false_eq_true, mm_nl_n, mm_nl_i, mm_nl_r, mm_args_n, mm_args_i, mm_args_l, mm_args_r, mm_pad_0, mm_pad_n, mm_pad_c, List.length_cons, List.length_nil, List.nil_append, List.cons_append, Nat.zero_le, Nat.sub_zero, true_and, and_true, Nat.reduceAdd, Nat.reduceLeDiff, Nat.reduceLT, Nat.reduceSub, Nat.lt_irrefl, Nat.zero_add, Nat.add_zero, Nat.le_refl, k_20, k_10, k_01, ↓mm_if_T, ↓mm_if_F, ↓if10, ↓if00, not_true_eq_false, tf_01, ↓mm_if_tf, ↓mm_if_tn, ↓mm_if_nn, nI_1]
    exact ih (i + 1) M2 (by omega) (J1_now hJ hn hF2 hR2 SK_dx) (FY_tr hF (FY_B hF2))

set_option maxHeartbeats 2000000 in
theorem r_144 (d : Nat) {M : mm_M} {post : mm_Post} {n : Nat} {X : Sx} {a : Nat} {P : Nat → Sx} {b : Nat} {K : Nat → Sx} (hJ : J1 M n X a P b K) (hn : n ≤ 7) (ha : a ≤ 8) (hb : b ≤ 2) (hW : WF n X.1.1) (x : Int32) (h : ∀ M', J1 M' n (T62 n X a P x).2.1 (T62 n X a P x).2.2.1 (T62 n X a P x).2.2.2 b K → FY M M' → post (some (.inl (T62 n X a P x).1)) M') : pC (d + 6) 144 [.inr (.inr (6, 0)), .inl x] M post := by
  obtain ⟨hL, hM, hR, h9, hP, h10, hK⟩ := id hJ
  unfold T62 at h
  by_cases c1 : 1 ≤ x ∧ x ≤ 24
  · rw [if_pos c1] at h
    dsimp only at h
    obtain ⟨N, hN, rfl⟩ := nI_of2 (M := 24) (n := 24) (by decide) (Int32.not_lt.mpr (Int32.le_trans (by decide) c1.1)) c1.2
    rw [nI_clamp (by omega)] at h
    simp (disch := omega) only [eC_144, eK_144_0, eK_144_1, eK_144_3, pw_bipush, pw_iconst, pw_lconst, pw_ldc2_w, pw_nop0, qw_aload_n0, qw_gf_b, qw_gf_i, qw_gf_r, qw_i2l, qw_iaload, qw_if_ne, qw_iload_n1, qw_invokestatic3, qw_invokevirtual1, qw_ireturn, qw_istore_n2, mm_rf_c, mm_rt_v, mm_rt_i, mm_rt_r, mm_alc_n, mm_alc_c, mm_rc_n, mm_rc_c, mm_wd_n, mm_wd_i, mm_wd_l, mm_wd_r, reduceCtorEq, false_implies, implies_true, true_implies, true_or, or_true, false_or, or_false, not_false_eq_true, mm_nl_n, mm_nl_i, mm_nl_r, mm_args_n, mm_args_i, mm_args_l, mm_args_r, mm_pad_0, mm_pad_n, mm_pad_c, List.length_cons, List.length_nil, List.nil_append, List.cons_append, Nat.zero_le, Nat.sub_zero, true_and, and_true, Nat.reduceAdd, Nat.reduceLeDiff, Nat.reduceLT, Nat.reduceSub, Nat.lt_irrefl, Nat.zero_add, Nat.add_zero, Nat.le_refl, k_20, k_10, k_01, ↓mm_if_T, ↓mm_if_F, ↓if10, ↓if00, not_true_eq_false, tf_01, ↓mm_if_tf, ↓mm_if_tn, ↓mm_if_nn, r_97 (d + 4) (nI N) 1 24, ↓mm_if_t c1]
    refine r_133 (d + 3) hJ hn ha hb (fun M1 hJ1 hF1 => ?_)
    have := k_144 d hn N hN hW (M := M1) (fun M' j f => h M' j (FY_tr hF1 f)) N 0 M1 (by omega) hJ1 (FY_rf M1)
    simp (disch := omega) only [pw_iconst, pw_nop0, qw_aload_n0, qw_invokevirtual1, qw_istore_n2, mm_rf_c, mm_rt_v, mm_rt_i, mm_rt_r, mm_alc_n, mm_alc_c, mm_rc_n, mm_rc_c, mm_wd_n, mm_wd_i, mm_wd_l, mm_wd_r, reduceCtorEq, false_implies, implies_true, true_implies, true_or, or_true, false_or, or_false, not_false_eq_true, mm_nl_n, mm_nl_i, mm_nl_r, mm_args_n, mm_args_i, mm_args_l, mm_args_r, mm_pad_0, mm_pad_n, mm_pad_c, List.length_cons, List.length_nil, List.nil_append, List.cons_append, Nat.zero_le, Nat.sub_zero, true_and, and_true, Nat.reduceAdd, Nat.reduceLeDiff, Nat.reduceLT, Nat.reduceSub, Nat.lt_irrefl, Nat.zero_add, Nat.add_zero, Nat.le_refl, k_20, k_10, k_01, ↓mm_if_T, ↓mm_if_F, ↓if10, ↓if00, not_true_eq_false, tf_01, ↓mm_if_tf, ↓mm_if_tn, ↓mm_if_nn]
    exact this
  · rw [if_neg c1] at h
    simp (disch := omega) only [eC_144, eK_144_0, eK_144_1, eK_144_3, pw_bipush, pw_iconst, pw_lconst, pw_ldc2_w, pw_nop0, qw_aload_n0, qw_gf_b, qw_gf_i, qw_gf_r, qw_i2l, qw_iaload, qw_if_ne, qw_iload_n1, qw_invokestatic3, qw_invokevirtual1, qw_ireturn, qw_istore_n2, mm_rf_c, mm_rt_v, mm_rt_i, mm_rt_r, mm_alc_n, mm_alc_c, mm_rc_n, mm_rc_c, mm_wd_n, mm_wd_i, mm_wd_l, mm_wd_r, reduceCtorEq, false_implies, implies_true, true_implies, true_or, or_true, false_or, or_false, not_false_eq_true, mm_nl_n, mm_nl_i, mm_nl_r, mm_args_n, mm_args_i, mm_args_l, mm_args_r, mm_pad_0, mm_pad_n, mm_pad_c, List.length_cons, List.length_nil, List.nil_append, List.cons_append, Nat.zero_le, Nat.sub_zero, true_and, and_true, Nat.reduceAdd, Nat.reduceLeDiff, Nat.reduceLT, Nat.reduceSub, Nat.lt_irrefl, Nat.zero_add, Nat.add_zero, Nat.le_refl, k_20, k_10, k_01, ↓mm_if_T, ↓mm_if_F, ↓if10, ↓if00, not_true_eq_false, tf_01, ↓mm_if_tf, ↓mm_if_tn, ↓mm_if_nn, r_97 (d + 4) x 1 24, ↓mm_if_f c1]
    exact h M hJ (FY_rf M)

theorem nI_m1' {a : Nat} (h : 1 ≤ a) : nI a - 1 = nI (a - 1) := nI_m1 (by omega)
set_option maxHeartbeats 2000000 in
theorem r_145 (d : Nat) {M : mm_M} {post : mm_Post} {n : Nat} {X : Sx} {a : Nat} {P : Nat → Sx} {b : Nat} {K : Nat → Sx} (hJ : J1 M n X a P b K) (hn : n ≤ 7) (ha : a ≤ 8) (hb : b ≤ 2) (hW : WF n X.1.1)  (h : ∀ M', J1 M' n (T63 X a P).2.1 (T63 X a P).2.2.1 (T63 X a P).2.2.2 b K → FY M M' → post (some (.inl (T63 X a P).1)) M') : pC (d + 2) 145 [.inr (.inr (6, 0))] M post := by
  obtain ⟨hL, hM, hR, h9, hP, h10, hK⟩ := id hJ
  unfold T63 at h
  by_cases c1 : 1 ≤ a
  · rw [if_pos c1] at h
    dsimp only at h
    have c1' : ¬ nI a = 0 := nI_ne0 (by omega) (by omega)
    have e39 := nI_39 a (by omega)
    simp (disch := omega) only [eC_145, eK_145_0, eK_145_1, pw_bipush, pw_iconst, qw_aload_n0, qw_dup_i, qw_dup_r, qw_gf_b, qw_gf_i, qw_gf_r, qw_if_ne, qw_imul, qw_invokevirtual3, qw_ireturn, qw_isub, qw_pf_b, qw_pf_i, qw_pf_r, mm_rf_c, mm_rt_v, mm_rt_i, mm_rt_r, mm_alc_n, mm_alc_c, mm_rc_n, mm_rc_c, mm_wd_n, mm_wd_i, mm_wd_l, mm_wd_r, reduceCtorEq, false_implies, implies_true, true_implies, true_or, or_true, false_or, or_false, not_false_eq_true, mm_nl_n, mm_nl_i, mm_nl_r, mm_args_n, mm_args_i, mm_args_l, mm_args_r, mm_pad_0, mm_pad_n, mm_pad_c, List.length_cons, List.length_nil, List.nil_append, List.cons_append, Nat.zero_le, Nat.sub_zero, true_and, and_true, Nat.reduceAdd, Nat.reduceLeDiff, Nat.reduceLT, Nat.reduceSub, Nat.lt_irrefl, Nat.zero_add, Nat.add_zero, Nat.le_refl, k_20, k_10, k_01, ↓mm_if_T, ↓mm_if_F, ↓if10, ↓if00, not_true_eq_false, tf_01, ↓mm_if_tf, ↓mm_if_tn, ↓mm_if_nn, h9, ↓mm_if_f c1', e39]
    refine r_105 (B := 39 * a) (C := 0) d hL (by omega) (by omega) (by omega) (fun M1 hF hc => ?_)
    have h91 : mm_I M1 6 0 9 = nI a := by rw [hF.2 6 0 9 (by omega)]; exact h9
    obtain ⟨p1, p2⟩ := hP (a - 1) (by omega)
    rw [show 39 * (a - 1 + 1) = 39 * a by omega] at p1
    simp (disch := omega) only [eC_145, eK_145_0, eK_145_1, pw_bipush, pw_iconst, qw_aload_n0, qw_dup_i, qw_dup_r, qw_gf_b, qw_gf_i, qw_gf_r, qw_if_ne, qw_imul, qw_invokevirtual3, qw_ireturn, qw_isub, qw_pf_b, qw_pf_i, qw_pf_r, mm_rf_c, mm_rt_v, mm_rt_i, mm_rt_r, mm_alc_n, mm_alc_c, mm_rc_n, mm_rc_c, mm_wd_n, mm_wd_i, mm_wd_l, mm_wd_r, reduceCtorEq, false_implies, implies_true, true_implies, true_or, or_true, false_or, or_false, not_false_eq_true, mm_nl_n, mm_nl_i, mm_nl_r, mm_args_n, mm_args_i, mm_args_l, mm_args_r, mm_pad_0, mm_pad_n, mm_pad_c, List.length_cons, List.length_nil, List.nil_append, List.cons_append, Nat.zero_le, Nat.sub_zero, true_and, and_true, Nat.reduceAdd, Nat.reduceLeDiff, Nat.reduceLT, Nat.reduceSub, Nat.lt_irrefl, Nat.zero_add, Nat.add_zero, Nat.le_refl, k_20, k_10, k_01, ↓mm_if_T, ↓mm_if_F, ↓if10, ↓if00, not_true_eq_false, tf_01, ↓mm_if_tf, ↓mm_if_tn, ↓mm_if_nn, h91, nI_m1', mm_I_s]
    have J' : J1 M1 n (P (a - 1)) a P b K := J1_now hJ hn hF (RB_cp hn p1 hc) p2
    obtain ⟨i1, i2, i3, i4, i5, i6, i7⟩ := J'
    exact h _ ⟨LyM_2 rfl i1, RM_e i2 (fun c i k q => by rw [mm_I_sI, if_neg (by omega)]), RB_e i3 hn (fun k _ _ => by rw [mm_I_c (by omega)]), mm_I_s, fun i hi => ⟨RB_e (i5 i (by omega)).1 hn (fun k _ _ => by rw [mm_I_c (by omega)]), (i5 i (by omega)).2⟩, by rw [mm_I_k (by omega)]; exact i6, fun i hi => ⟨RB_e (i7 i hi).1 hn (fun k _ _ => by rw [mm_I_c (by omega)]), (i7 i hi).2⟩⟩ (FY_6 (FY_B hF) (by omega))
  · rw [if_neg c1] at h
    have e0 : a = 0 := by omega
    subst e0
    have c1' : nI 0 = 0 := rfl
    simp (disch := omega) only [eC_145, eK_145_0, eK_145_1, pw_bipush, pw_iconst, qw_aload_n0, qw_dup_i, qw_dup_r, qw_gf_b, qw_gf_i, qw_gf_r, qw_if_ne, qw_imul, qw_invokevirtual3, qw_ireturn, qw_isub, qw_pf_b, qw_pf_i, qw_pf_r, mm_rf_c, mm_rt_v, mm_rt_i, mm_rt_r, mm_alc_n, mm_alc_c, mm_rc_n, mm_rc_c, mm_wd_n, mm_wd_i, mm_wd_l, mm_wd_r, reduceCtorEq, false_implies, implies_true, true_implies, true_or, or_true, false_or, or_false, not_false_eq_true, mm_nl_n, mm_nl_i, mm_nl_r, mm_args_n, mm_args_i, mm_args_l, mm_args_r, mm_pad_0, mm_pad_n, mm_pad_c, List.length_cons, List.length_nil, List.nil_append, List.cons_append, Nat.zero_le, Nat.sub_zero, true_and, and_true, Nat.reduceAdd, Nat.reduceLeDiff, Nat.reduceLT, Nat.reduceSub, Nat.lt_irrefl, Nat.zero_add, Nat.add_zero, Nat.le_refl, k_20, k_10, k_01, ↓mm_if_T, ↓mm_if_F, ↓if10, ↓if00, not_true_eq_false, tf_01, ↓mm_if_tf, ↓mm_if_tn, ↓mm_if_nn, h9, ↓mm_if_t c1']
    exact h M hJ (FY_rf M)

set_option maxHeartbeats 2000000 in
theorem r_161 (d : Nat) {M : mm_M} {post : mm_Post} {n : Nat} {X : Sx} {a : Nat} {P : Nat → Sx} {b : Nat} {K : Nat → Sx} (hJ : J1 M n X a P b K) (hn : n ≤ 7) (ha : a ≤ 8) (hb : b ≤ 2) (h : ∀ M', J1 M' n X a P (T76 X b K).2.1 (T76 X b K).2.2 → FY M M' → post (some (.inl (T76 X b K).1)) M') : pC (d + 2) 161 [.inr (.inr (6, 0))] M post := by
  obtain ⟨hL, hM, hR, h9, hP, h10, hK⟩ := id hJ
  unfold T76 at h
  by_cases c1 : b < 2
  · rw [if_pos c1] at h
    dsimp only at h
    have c1' : ¬ nI b = 2 := fun z => by have := (nI_eq (a := b) (b := 2) (by omega) (by omega)).mp z; omega
    have e9 : 9 + nI b = nI (9 + b) := nI_add 9 b
    have e39 := nI_39 (9 + b) (by omega)
    simp (disch := omega) only [eC_161, eK_161_0, eK_161_1, pw_bipush, pw_iconst, qw_aload_n0, qw_dup_i, qw_dup_r, qw_gf_b, qw_gf_i, qw_gf_r, qw_iadd, qw_if_icmp_ne, qw_imul, qw_invokevirtual3, qw_ireturn, qw_pf_b, qw_pf_i, qw_pf_r, mm_rf_c, mm_rt_v, mm_rt_i, mm_rt_r, mm_alc_n, mm_alc_c, mm_rc_n, mm_rc_c, mm_wd_n, mm_wd_i, mm_wd_l, mm_wd_r, reduceCtorEq, false_implies, implies_true, true_implies, true_or, or_true, false_or, or_false, not_false_eq_true, mm_nl_n, mm_nl_i, mm_nl_r, mm_args_n, mm_args_i, mm_args_l, mm_args_r, mm_pad_0, mm_pad_n, mm_pad_c, List.length_cons, List.length_nil, List.nil_append, List.cons_append, Nat.zero_le, Nat.sub_zero, true_and, and_true, Nat.reduceAdd, Nat.reduceLeDiff, Nat.reduceLT, Nat.reduceSub, Nat.lt_irrefl, Nat.zero_add, Nat.add_zero, Nat.le_refl, k_20, k_10, k_01, ↓mm_if_T, ↓mm_if_F, ↓if10, ↓if00, not_true_eq_false, tf_01, ↓mm_if_tf, ↓mm_if_tn, ↓mm_if_nn, h10, ↓mm_if_f c1', e9, e39]
    refine r_105 (B := 0) (C := 39 * (9 + b)) d hL (by omega) (by omega) (by omega) (fun M1 hF hc => ?_)
    have h101 : mm_I M1 6 0 10 = nI b := by rw [hF.2 6 0 10 (by omega)]; exact h10
    simp (disch := omega) only [eC_161, eK_161_0, eK_161_1, pw_bipush, pw_iconst, qw_aload_n0, qw_dup_i, qw_dup_r, qw_gf_b, qw_gf_i, qw_gf_r, qw_iadd, qw_if_icmp_ne, qw_imul, qw_invokevirtual3, qw_ireturn, qw_pf_b, qw_pf_i, qw_pf_r, mm_rf_c, mm_rt_v, mm_rt_i, mm_rt_r, mm_alc_n, mm_alc_c, mm_rc_n, mm_rc_c, mm_wd_n, mm_wd_i, mm_wd_l, mm_wd_r, reduceCtorEq, false_implies, implies_true, true_implies, true_or, or_true, false_or, or_false, not_false_eq_true, mm_nl_n, mm_nl_i, mm_nl_r, mm_args_n, mm_args_i, mm_args_l, mm_args_r, mm_pad_0, mm_pad_n, mm_pad_c, List.length_cons, List.length_nil, List.nil_append, List.cons_append, Nat.zero_le, Nat.sub_zero, true_and, and_true, Nat.reduceAdd, Nat.reduceLeDiff, Nat.reduceLT, Nat.reduceSub, Nat.lt_irrefl, Nat.zero_add, Nat.add_zero, Nat.le_refl, k_20, k_10, k_01, ↓mm_if_T, ↓mm_if_F, ↓if10, ↓if00, not_true_eq_false, tf_01, ↓mm_if_tf, ↓mm_if_tn, ↓mm_if_nn, h101, nI_1, mm_I_s]
    refine h _ ⟨LyM_2 (M := M) hF.1 hL, RM_e (RM_B hM hF) (fun c i k q => by rw [mm_I_sI, if_neg (by omega)]), RB_e (RB_B hR hF (by omega) hn) hn (fun k _ _ => by rw [mm_I_c (by omega)]), by rw [mm_I_k (by omega), hF.2 6 0 9 (by omega)]; exact h9, fun i hi => ⟨RB_e (RB_B (hP i hi).1 hF (by omega) hn) hn (fun k _ _ => by rw [mm_I_c (by omega)]), (hP i hi).2⟩, mm_I_s, fun i hi => ?_⟩ (FY_6 (FY_B hF) (by omega))
    by_cases e : i = b
    · subst e
      simp only [if_true]
      exact ⟨RB_e (RB_cp hn hR hc) hn (fun k _ _ => by rw [mm_I_c (by omega)]), fun w hw k hk => rfl⟩
    · simp only [e, if_false]
      exact ⟨RB_e (RB_B (hK i (by omega)).1 hF (by omega) hn) hn (fun k _ _ => by rw [mm_I_c (by omega)]), (hK i (by omega)).2⟩
  · rw [if_neg c1] at h
    have e0 : b = 2 := by omega
    subst e0
    have c1' : nI 2 = 2 := rfl
    simp (disch := omega) only [eC_161, eK_161_0, eK_161_1, pw_bipush, pw_iconst, qw_aload_n0, qw_dup_i, qw_dup_r, qw_gf_b, qw_gf_i, qw_gf_r, qw_iadd, qw_if_icmp_ne, qw_imul, qw_invokevirtual3, qw_ireturn, qw_pf_b, qw_pf_i, qw_pf_r, mm_rf_c, mm_rt_v, mm_rt_i, mm_rt_r, mm_alc_n, mm_alc_c, mm_rc_n, mm_rc_c, mm_wd_n, mm_wd_i, mm_wd_l, mm_wd_r, reduceCtorEq, false_implies, implies_true, true_implies, true_or, or_true, false_or, or_false, not_false_eq_true, mm_nl_n, mm_nl_i, mm_nl_r, mm_args_n, mm_args_i, mm_args_l, mm_args_r, mm_pad_0, mm_pad_n, mm_pad_c, List.length_cons, List.length_nil, List.nil_append, List.cons_append, Nat.zero_le, Nat.sub_zero, true_and, and_true, Nat.reduceAdd, Nat.reduceLeDiff, Nat.reduceLT, Nat.reduceSub, Nat.lt_irrefl, Nat.zero_add, Nat.add_zero, Nat.le_refl, k_20, k_10, k_01, ↓mm_if_T, ↓mm_if_F, ↓if10, ↓if00, not_true_eq_false, tf_01, ↓mm_if_tf, ↓mm_if_tn, ↓mm_if_nn, h10, ↓mm_if_t c1']
    exact h M hJ (FY_rf M)

set_option maxHeartbeats 2000000 in
theorem r_162 (d : Nat) {M : mm_M} {post : mm_Post} {n : Nat} {X : Sx} {a : Nat} {P : Nat → Sx} {b : Nat} {K : Nat → Sx} (hJ : J1 M n X a P b K) (hn : n ≤ 7) (ha : a ≤ 8) (hb : b ≤ 2) (h : ∀ M', J1 M' n (T77 X a b K).2.1 (T77 X a b K).2.2.1 P (T77 X a b K).2.2.2 K → FY M M' → post (some (.inl (T77 X a b K).1)) M') : pC (d + 2) 162 [.inr (.inr (6, 0))] M post := by
  obtain ⟨hL, hM, hR, h9, hP, h10, hK⟩ := id hJ
  unfold T77 at h
  by_cases c1 : 1 ≤ b
  · rw [if_pos c1] at h
    dsimp only at h
    have c1' : ¬ nI b = 0 := nI_ne0 (by omega) (by omega)
    have e9 : 9 + nI (b - 1) = nI (9 + (b - 1)) := nI_add 9 (b - 1)
    have e39 := nI_39 (9 + (b - 1)) (by omega)
    simp (disch := omega) only [eC_162, eK_162_0, eK_162_1, pw_bipush, pw_iconst, qw_aload_n0, qw_dup_i, qw_dup_r, qw_gf_b, qw_gf_i, qw_gf_r, qw_iadd, qw_if_ne, qw_imul, qw_invokevirtual3, qw_ireturn, qw_isub, qw_pf_b, qw_pf_i, qw_pf_r, mm_rf_c, mm_rt_v, mm_rt_i, mm_rt_r, mm_alc_n, mm_alc_c, mm_rc_n, mm_rc_c, mm_wd_n, mm_wd_i, mm_wd_l, mm_wd_r, reduceCtorEq, false_implies, implies_true, true_implies, true_or, or_true, false_or, or_false, not_false_eq_true, mm_nl_n, mm_nl_i, mm_nl_r, mm_args_n, mm_args_i, mm_args_l, mm_args_r, mm_pad_0, mm_pad_n, mm_pad_c, List.length_cons, List.length_nil, List.nil_append, List.cons_append, Nat.zero_le, Nat.sub_zero, true_and, and_true, Nat.reduceAdd, Nat.reduceLeDiff, Nat.reduceLT, Nat.reduceSub, Nat.lt_irrefl, Nat.zero_add, Nat.add_zero, Nat.le_refl, k_20, k_10, k_01, ↓mm_if_T, ↓mm_if_F, ↓if10, ↓if00, not_true_eq_false, tf_01, ↓mm_if_tf, ↓mm_if_tn, ↓mm_if_nn, h10, ↓mm_if_f c1', nI_m1', mm_I_s, e9, e39]
    refine r_105 (B := 39 * (9 + (b - 1))) (C := 0) d (LyM_2 rfl hL) (by omega) (by omega) (by omega) (fun M1 hF hc => ?_)
    have h101 : mm_I M1 6 0 10 = nI (b - 1) := by rw [hF.2 6 0 10 (by omega)]; exact mm_I_s
    simp (disch := omega) only [eC_162, eK_162_0, eK_162_1, pw_bipush, pw_iconst, qw_aload_n0, qw_dup_i, qw_dup_r, qw_gf_b, qw_gf_i, qw_gf_r, qw_iadd, qw_if_ne, qw_imul, qw_invokevirtual3, qw_ireturn, qw_isub, qw_pf_b, qw_pf_i, qw_pf_r, mm_rf_c, mm_rt_v, mm_rt_i, mm_rt_r, mm_alc_n, mm_alc_c, mm_rc_n, mm_rc_c, mm_wd_n, mm_wd_i, mm_wd_l, mm_wd_r, reduceCtorEq, false_implies, implies_true, true_implies, true_or, or_true, false_or, or_false, not_false_eq_true, mm_nl_n, mm_nl_i, mm_nl_r, mm_args_n, mm_args_i, mm_args_l, mm_args_r, mm_pad_0, mm_pad_n, mm_pad_c, List.length_cons, List.length_nil, List.nil_append, List.cons_append, Nat.zero_le, Nat.sub_zero, true_and, and_true, Nat.reduceAdd, Nat.reduceLeDiff, Nat.reduceLT, Nat.reduceSub, Nat.lt_irrefl, Nat.zero_add, Nat.add_zero, Nat.le_refl, k_20, k_10, k_01, ↓mm_if_T, ↓mm_if_F, ↓if10, ↓if00, not_true_eq_false, tf_01, ↓mm_if_tf, ↓mm_if_tn, ↓mm_if_nn, h101, nI_m1', mm_I_s, mm_I_k]
    have J0 : J1 (mm_sI M 6 0 10 (nI (b - 1))) n X a P (b - 1) K := ⟨LyM_2 rfl hL, RM_e hM (fun c i k q => by rw [mm_I_sI, if_neg (by omega)]), RB_e hR hn (fun k _ _ => by rw [mm_I_c (by omega)]), by rw [mm_I_k (by omega)]; exact h9, fun i hi => ⟨RB_e (hP i hi).1 hn (fun k _ _ => by rw [mm_I_c (by omega)]), (hP i hi).2⟩, mm_I_s, fun i hi => ⟨RB_e (hK i (by omega)).1 hn (fun k _ _ => by rw [mm_I_c (by omega)]), (hK i (by omega)).2⟩⟩
    obtain ⟨p1, p2⟩ := hK (b - 1) (by omega)
    have p3 : RB (mm_sI M 6 0 10 (nI (b - 1))) (39 * (9 + (b - 1))) n (K (b - 1)) := RB_e p1 hn (fun k _ _ => by rw [mm_I_c (by omega)])
    obtain ⟨i1, i2, i3, i4, i5, i6, i7⟩ := J1_now J0 hn hF (RB_cp hn p3 hc) p2
    exact h _ ⟨LyM_2 rfl i1, RM_e i2 (fun c i k q => by rw [mm_I_sI, if_neg (by omega)]), RB_e i3 hn (fun k _ _ => by rw [mm_I_c (by omega)]), mm_I_s, fun i hi => by omega, by rw [mm_I_k (by omega)]; exact i6, fun i hi => ⟨RB_e (i7 i hi).1 hn (fun k _ _ => by rw [mm_I_c (by omega)]), (i7 i hi).2⟩⟩ (FY_6 (FY_tr (FY_6 (FY_rf M) (by omega)) (FY_B hF)) (by omega))
  · rw [if_neg c1] at h
    have e0 : b = 0 := by omega
    subst e0
    have c1' : nI 0 = 0 := rfl
    simp (disch := omega) only [eC_162, eK_162_0, eK_162_1, pw_bipush, pw_iconst, qw_aload_n0, qw_dup_i, qw_dup_r, qw_gf_b, qw_gf_i, qw_gf_r, qw_iadd, qw_if_ne, qw_imul, qw_invokevirtual3, qw_ireturn, qw_isub, qw_pf_b, qw_pf_i, qw_pf_r, mm_rf_c, mm_rt_v, mm_rt_i, mm_rt_r, mm_alc_n, mm_alc_c, mm_rc_n, mm_rc_c, mm_wd_n, mm_wd_i, mm_wd_l, mm_wd_r, reduceCtorEq, false_implies, implies_true, true_implies, true_or, or_true, false_or, or_false, not_false_eq_true, mm_nl_n, mm_nl_i, mm_nl_r, mm_args_n, mm_args_i, mm_args_l, mm_args_r, mm_pad_0, mm_pad_n, mm_pad_c, List.length_cons, List.length_nil, List.nil_append, List.cons_append, Nat.zero_le, Nat.sub_zero, true_and, and_true, Nat.reduceAdd, Nat.reduceLeDiff, Nat.reduceLT, Nat.reduceSub, Nat.lt_irrefl, Nat.zero_add, Nat.add_zero, Nat.le_refl, k_20, k_10, k_01, ↓mm_if_T, ↓mm_if_F, ↓if10, ↓if00, not_true_eq_false, tf_01, ↓mm_if_tf, ↓mm_if_tn, ↓mm_if_nn, h10, ↓mm_if_t c1']
    exact h M hJ (FY_rf M)

