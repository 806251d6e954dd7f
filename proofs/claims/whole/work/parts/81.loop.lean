/-! THE LAW: its loop -/
theorem mm_sw_all {K : Nat → Prop} {d : Nat} {x : Int32} (hd : K d) : ∀ ts : List (Int32 × Nat), (∀ p, p ∈ ts → K p.2) → mm_sw ts d x K
  | [], _ => hd
  | p :: ts, h => ⟨fun _ => h p (List.mem_cons_self), fun _ => mm_sw_all hd ts (fun q hq => h q (List.mem_cons_of_mem _ hq))⟩
set_option maxHeartbeats 4000000 in
theorem k_166 {L : Nat} {xs : Nat → Int32} (hL : L ≤ 320) {post : mm_Post} (hp : ∀ M, post (some (.inl 1)) M) : ∀ (m i : Nat), L ≤ i + m → i ≤ 1000 → ∀ M n X a P b K q nx nl t lt, LI L xs M n X a P b K q nx nl t lt → pK 40 166 post 1 [some (.inr (.inr (11, 0))), some (.inr (.inr (5, 0))), some (.inr (.inr (6, 0))), some (.inl (nI i))] [] M (0, 0) := by
  intro m
  induction m with
  | zero =>
    intro i hm hi M n X a P b K q nx nl t lt h
    have s0 := h.2.2.2.2.2.2.1
    have c : Int32.ofNat L - 5 < nI i := by
      show nI L - nI 5 < nI i
      rw [i_lt, pk_sub_toInt (by omega) (by omega), nI_toInt (by omega)]
      omega
    have hh := hp M
    rw [eK_166_1]
    simp (disch := omega) only [eK_166_33, pw_arraylength, pw_bipush, pw_iconst, pw_tableswitch, qw_aload_n0, qw_iaload, qw_iand, qw_if_icmp_gt, qw_iload_n3, qw_ireturn, qw_isub, mm_rf_c, mm_rt_v, mm_rt_i, mm_rt_r, mm_alc_n, mm_alc_c, mm_rc_n, mm_rc_c, mm_wd_n, mm_wd_i, mm_wd_l, mm_wd_r, reduceCtorEq, false_implies, implies_true, true_implies, true_or, or_true, false_or, or_false, not_false_eq_true, mm_nl_n, mm_nl_i, mm_nl_r, mm_args_n, mm_args_i, mm_args_l, mm_args_r, mm_pad_0, mm_pad_n, mm_pad_c, List.length_cons, List.length_nil, List.nil_append, List.cons_append, Nat.zero_le, Nat.sub_zero, true_and, and_true, Nat.reduceAdd, Nat.reduceLeDiff, Nat.reduceLT, Nat.reduceSub, Nat.lt_irrefl, Nat.zero_add, Nat.add_zero, Nat.le_refl, k_20, k_10, k_01, ↓mm_if_T, ↓mm_if_F, ↓if10, ↓if00, not_true_eq_false, tf_01, ↓mm_if_tf, ↓mm_if_tn, ↓mm_if_nn, pw_arraylength, mm_pR_c, s0, ↓mm_if_t c]
    exact hh
  | succ m ih =>
    intro i hm hi M n X a P b K q nx nl t lt h
    have s0 := h.2.2.2.2.2.2.1
    by_cases cc : i + 5 ≤ L
    · have w0 := h.2.2.2.2.2.2.2 i (by omega)
      have c : ¬ Int32.ofNat L - 5 < nI i := by
        show ¬ nI L - nI 5 < nI i
        rw [i_lt, pk_sub_toInt (by omega) (by omega), nI_toInt (by omega)]
        omega
      have nxt : NX L xs post i := by
        intro M n X a P b K q nx nl t lt h
        have e5 : nI i + 5 = nI (i + 5) := nI_add i 5
        have := ih (i + 5) (by omega) (by omega) M n X a P b K q nx nl t lt h
        rw [eK_166_32]
        simp (disch := omega) only [pw_goto, qw_iinc3, mm_rf_c, mm_rt_v, mm_rt_i, mm_rt_r, mm_alc_n, mm_alc_c, mm_rc_n, mm_rc_c, mm_wd_n, mm_wd_i, mm_wd_l, mm_wd_r, reduceCtorEq, false_implies, implies_true, true_implies, true_or, or_true, false_or, or_false, not_false_eq_true, mm_nl_n, mm_nl_i, mm_nl_r, mm_args_n, mm_args_i, mm_args_l, mm_args_r, mm_pad_0, mm_pad_n, mm_pad_c, List.length_cons, List.length_nil, List.nil_append, List.cons_append, Nat.zero_le, Nat.sub_zero, true_and, and_true, Nat.reduceAdd, Nat.reduceLeDiff, Nat.reduceLT, Nat.reduceSub, Nat.lt_irrefl, Nat.zero_add, Nat.add_zero, Nat.le_refl, k_20, k_10, k_01, ↓mm_if_T, ↓mm_if_F, ↓if10, ↓if00, not_true_eq_false, tf_01, ↓mm_if_tf, ↓mm_if_tn, ↓mm_if_nn, e5]
        exact this
      rw [eK_166_1]
      simp (disch := omega) only [pw_arraylength, pw_bipush, pw_iconst, pw_tableswitch, qw_aload_n0, qw_iaload, qw_iand, qw_if_icmp_gt, qw_iload_n3, qw_isub, mm_rf_c, mm_rt_v, mm_rt_i, mm_rt_r, mm_alc_n, mm_alc_c, mm_rc_n, mm_rc_c, mm_wd_n, mm_wd_i, mm_wd_l, mm_wd_r, reduceCtorEq, false_implies, implies_true, true_implies, true_or, or_true, false_or, or_false, not_false_eq_true, mm_nl_n, mm_nl_i, mm_nl_r, mm_args_n, mm_args_i, mm_args_l, mm_args_r, mm_pad_0, mm_pad_n, mm_pad_c, List.length_cons, List.length_nil, List.nil_append, List.cons_append, Nat.zero_le, Nat.sub_zero, true_and, and_true, Nat.reduceAdd, Nat.reduceLeDiff, Nat.reduceLT, Nat.reduceSub, Nat.lt_irrefl, Nat.zero_add, Nat.add_zero, Nat.le_refl, k_20, k_10, k_01, ↓mm_if_T, ↓mm_if_F, ↓if10, ↓if00, not_true_eq_false, tf_01, ↓mm_if_tf, ↓mm_if_tn, ↓mm_if_nn, pw_arraylength, mm_pR_c, s0, ↓mm_if_f c, v320 hL, ci_, w0, pw_tableswitch, mm_pI_c]
      refine mm_sw_all (nxt M n X a P b K q nx nl t lt h) _ (fun p hp => ?_)
      simp only [List.mem_cons, List.not_mem_nil, or_false] at hp
      rcases hp with rfl | rfl | rfl | rfl | rfl | rfl | rfl | rfl | rfl | rfl | rfl | rfl | rfl | rfl | rfl | rfl | rfl | rfl | rfl | rfl | rfl | rfl | rfl | rfl | rfl | rfl | rfl | rfl | rfl | rfl
      · exact b_2 hL cc nxt h
      · exact b_3 hL cc nxt h
      · exact b_4 hL cc nxt h
      · exact b_5 hL cc nxt h
      · exact b_6 hL cc nxt h
      · exact b_7 hL cc nxt h
      · exact b_8 hL cc nxt h
      · exact b_9 hL cc nxt h
      · exact b_10 hL cc nxt h
      · exact b_11 hL cc nxt h
      · exact b_12 hL cc nxt h
      · exact b_13 hL cc nxt h
      · exact b_14 hL cc nxt h
      · exact b_15 hL cc nxt h
      · exact b_16 hL cc nxt h
      · exact b_17 hL cc nxt h
      · exact b_18 hL cc nxt h
      · exact b_19 hL cc nxt h
      · exact b_20 hL cc nxt h
      · exact b_21 hL cc nxt h
      · exact b_22 hL cc nxt h
      · exact b_23 hL cc nxt h
      · exact b_24 hL cc nxt h
      · exact b_25 hL cc nxt h
      · exact b_26 hL cc nxt h
      · exact b_27 hL cc nxt h
      · exact b_28 hL cc nxt h
      · exact b_29 hL cc nxt h
      · exact b_30 hL cc nxt h
      · exact b_31 hL cc nxt h
    · have c : Int32.ofNat L - 5 < nI i := by
        show nI L - nI 5 < nI i
        rw [i_lt, pk_sub_toInt (by omega) (by omega), nI_toInt (by omega)]
        omega
      have hh := hp M
      rw [eK_166_1]
      simp (disch := omega) only [eK_166_33, pw_arraylength, pw_bipush, pw_iconst, pw_tableswitch, qw_aload_n0, qw_iaload, qw_iand, qw_if_icmp_gt, qw_iload_n3, qw_ireturn, qw_isub, mm_rf_c, mm_rt_v, mm_rt_i, mm_rt_r, mm_alc_n, mm_alc_c, mm_rc_n, mm_rc_c, mm_wd_n, mm_wd_i, mm_wd_l, mm_wd_r, reduceCtorEq, false_implies, implies_true, true_implies, true_or, or_true, false_or, or_false, not_false_eq_true, mm_nl_n, mm_nl_i, mm_nl_r, mm_args_n, mm_args_i, mm_args_l, mm_args_r, mm_pad_0, mm_pad_n, mm_pad_c, List.length_cons, List.length_nil, List.nil_append, List.cons_append, Nat.zero_le, Nat.sub_zero, true_and, and_true, Nat.reduceAdd, Nat.reduceLeDiff, Nat.reduceLT, Nat.reduceSub, Nat.lt_irrefl, Nat.zero_add, Nat.add_zero, Nat.le_refl, k_20, k_10, k_01, ↓mm_if_T, ↓mm_if_F, ↓if10, ↓if00, not_true_eq_false, tf_01, ↓mm_if_tf, ↓mm_if_tn, ↓mm_if_nn, pw_arraylength, mm_pR_c, s0, ↓mm_if_t c]
      exact hh

