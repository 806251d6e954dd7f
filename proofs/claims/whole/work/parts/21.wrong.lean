/-! THE CLASS: a wrong with its bell -/
/-- only cell (c0, i0) has changed, and there numbers alone -/
def F1 (M M' : mm_M) (c0 i0 : Nat) : Prop := M'.2 = M.2 ∧ ∀ c i k, ¬ (c = c0 ∧ i = i0) → mm_I M' c i k = mm_I M c i k
theorem F1_rf (M : mm_M) (c i : Nat) : F1 M M c i := ⟨rfl, fun _ _ _ _ => rfl⟩
theorem F1_s {M M' : mm_M} {c i k : Nat} {v : Int32} (h : F1 M M' c i) : F1 M (mm_sI M' c i k v) c i := ⟨h.1, fun c' i' k' hn => by rw [mm_I_sI, if_neg (fun z => hn ⟨z.1, z.2.1⟩)]; exact h.2 c' i' k' hn⟩

set_option maxHeartbeats 2000000 in
theorem t_38 (d : Nat) (i j : Nat) (M : mm_M) (post : mm_Post) (hb : mm_I M 4 j 4 = 0 ∨ mm_I M 4 j 4 = 1) (h : ∀ M', F1 M M' 4 i → (∀ k, k < 11 → mm_I M' 4 i k = mm_I M 4 j k) → post none M') : pC (d + 1) 38 [.inr (.inr (4, i)), .inr (.inr (4, j))] M post := by
  simp only [eC_38, eK_38_0, pw_aload_n, pw_getfield, pw_putfield, pw_return_, mm_pI_c, mm_pL_c, mm_pA_c, mm_pR_c, mm_p1_i, mm_p1_r, mm_pN_0, mm_pN_s, mm_lI_c, mm_lL_c, mm_lA_c, mm_wd_n, mm_wd_i, mm_wd_l, mm_wd_r, mm_gf_i, mm_gf_b, mm_gf_r, mm_rf_c, mm_pf_i, mm_pf_b, mm_pf_r, mm_rt_v, mm_rt_i, mm_rt_r, mm_c_eq, mm_c_ne, mm_c_lt, mm_c_ge, mm_c_gt, mm_c_le, mm_sw_n, mm_sw_c, mm_alc_n, mm_alc_c, mm_rc_n, mm_rc_c, reduceCtorEq, false_implies, implies_true, true_implies, true_or, or_true, false_or, or_false, not_false_eq_true, mm_at_0, mm_at_s, mm_set_0, mm_set_s, mm_nl_n, mm_nl_i, mm_nl_r, mm_args_n, mm_args_i, mm_args_l, mm_args_r, mm_pad_0, mm_pad_n, mm_pad_c, List.length_cons, List.length_nil, List.nil_append, List.cons_append, Nat.zero_le, Nat.sub_zero, true_and, and_true, Nat.reduceAdd, Nat.reduceLeDiff, Nat.reduceLT, Nat.reduceSub, Nat.lt_irrefl, Nat.zero_add, Nat.add_zero, mm_I_k, mm_I_c, mm_I_s, mm_R_sI, mm_L_sI, mm_N_sI, Nat.reduceEqDiff, not_false_eq_true, ne_eq]
  refine ⟨hb, h _ (by repeat (first | exact F1_rf _ _ _ | apply F1_s)) (fun k hk => ?_)⟩
  match k, hk with
  | 0, _ => simp only [mm_I_k, mm_I_c, mm_I_s, mm_R_sI, mm_L_sI, mm_N_sI, Nat.reduceEqDiff, not_false_eq_true, ne_eq]
  | 1, _ => simp only [mm_I_k, mm_I_c, mm_I_s, mm_R_sI, mm_L_sI, mm_N_sI, Nat.reduceEqDiff, not_false_eq_true, ne_eq]
  | 2, _ => simp only [mm_I_k, mm_I_c, mm_I_s, mm_R_sI, mm_L_sI, mm_N_sI, Nat.reduceEqDiff, not_false_eq_true, ne_eq]
  | 3, _ => simp only [mm_I_k, mm_I_c, mm_I_s, mm_R_sI, mm_L_sI, mm_N_sI, Nat.reduceEqDiff, not_false_eq_true, ne_eq]
  | 4, _ => simp only [mm_I_k, mm_I_c, mm_I_s, mm_R_sI, mm_L_sI, mm_N_sI, Nat.reduceEqDiff, not_false_eq_true, ne_eq]
  | 5, _ => simp only [mm_I_k, mm_I_c, mm_I_s, mm_R_sI, mm_L_sI, mm_N_sI, Nat.reduceEqDiff, not_false_eq_true, ne_eq]
  | 6, _ => simp only [mm_I_k, mm_I_c, mm_I_s, mm_R_sI, mm_L_sI, mm_N_sI, Nat.reduceEqDiff, not_false_eq_true, ne_eq]
  | 7, _ => simp only [mm_I_k, mm_I_c, mm_I_s, mm_R_sI, mm_L_sI, mm_N_sI, Nat.reduceEqDiff, not_false_eq_true, ne_eq]
  | 8, _ => simp only [mm_I_k, mm_I_c, mm_I_s, mm_R_sI, mm_L_sI, mm_N_sI, Nat.reduceEqDiff, not_false_eq_true, ne_eq]
  | 9, _ => simp only [mm_I_k, mm_I_c, mm_I_s, mm_R_sI, mm_L_sI, mm_N_sI, Nat.reduceEqDiff, not_false_eq_true, ne_eq]
  | 10, _ => simp only [mm_I_k, mm_I_c, mm_I_s, mm_R_sI, mm_L_sI, mm_N_sI, Nat.reduceEqDiff, not_false_eq_true, ne_eq]
  | k + 11, h => exact absurd h (by omega)
set_option maxHeartbeats 2000000 in
theorem t_39 (d : Nat) (i : Nat) (x y z : Int32) (M : mm_M) (post : mm_Post) : pC (d + 1) 39 [.inr (.inr (4, i)), .inl x, .inl y, .inl z] M post = post none (mm_sI (mm_sI (mm_sI (mm_sI (mm_sI (mm_sI M 4 i 0 x) 4 i 1 y) 4 i 2 z) 4 i 3 0) 4 i 4 0) 4 i 5 0) := by
  simp only [eC_39, eK_39_0, pw_aload_n, pw_iconst, pw_iload_n, pw_putfield, pw_return_, mm_pI_c, mm_pL_c, mm_pA_c, mm_pR_c, mm_p1_i, mm_p1_r, mm_pN_0, mm_pN_s, mm_lI_c, mm_lL_c, mm_lA_c, mm_wd_n, mm_wd_i, mm_wd_l, mm_wd_r, mm_gf_i, mm_gf_b, mm_gf_r, mm_rf_c, mm_pf_i, mm_pf_b, mm_pf_r, mm_rt_v, mm_rt_i, mm_rt_r, mm_c_eq, mm_c_ne, mm_c_lt, mm_c_ge, mm_c_gt, mm_c_le, mm_sw_n, mm_sw_c, mm_alc_n, mm_alc_c, mm_rc_n, mm_rc_c, reduceCtorEq, false_implies, implies_true, true_implies, true_or, or_true, false_or, or_false, not_false_eq_true, mm_at_0, mm_at_s, mm_set_0, mm_set_s, mm_nl_n, mm_nl_i, mm_nl_r, mm_args_n, mm_args_i, mm_args_l, mm_args_r, mm_pad_0, mm_pad_n, mm_pad_c, List.length_cons, List.length_nil, List.nil_append, List.cons_append, Nat.zero_le, Nat.sub_zero, true_and, and_true, Nat.reduceAdd, Nat.reduceLeDiff, Nat.reduceLT, Nat.reduceSub, Nat.lt_irrefl, Nat.zero_add, Nat.add_zero]
  try rfl
set_option maxHeartbeats 2000000 in
theorem t_42 (d : Nat) (i : Nat) (x y : Int32) (M : mm_M) (post : mm_Post) : pC (d + 3) 42 [.inr (.inr (4, i)), .inl x, .inl y] M post = post none (mm_sI (mm_sI (mm_sI (mm_sI M 4 i 6 x) 4 i 7 y) 4 i 8 (f_lo x y)) 4 i 5 1) := by
  simp only [eC_42, eK_42_0, pw_aload_n, pw_iconst, pw_iload_n, pw_invokestatic, pw_putfield, pw_return_, mm_pI_c, mm_pL_c, mm_pA_c, mm_pR_c, mm_p1_i, mm_p1_r, mm_pN_0, mm_pN_s, mm_lI_c, mm_lL_c, mm_lA_c, mm_wd_n, mm_wd_i, mm_wd_l, mm_wd_r, mm_gf_i, mm_gf_b, mm_gf_r, mm_rf_c, mm_pf_i, mm_pf_b, mm_pf_r, mm_rt_v, mm_rt_i, mm_rt_r, mm_c_eq, mm_c_ne, mm_c_lt, mm_c_ge, mm_c_gt, mm_c_le, mm_sw_n, mm_sw_c, mm_alc_n, mm_alc_c, mm_rc_n, mm_rc_c, reduceCtorEq, false_implies, implies_true, true_implies, true_or, or_true, false_or, or_false, not_false_eq_true, mm_at_0, mm_at_s, mm_set_0, mm_set_s, mm_nl_n, mm_nl_i, mm_nl_r, mm_args_n, mm_args_i, mm_args_l, mm_args_r, mm_pad_0, mm_pad_n, mm_pad_c, List.length_cons, List.length_nil, List.nil_append, List.cons_append, Nat.zero_le, Nat.sub_zero, true_and, and_true, Nat.reduceAdd, Nat.reduceLeDiff, Nat.reduceLT, Nat.reduceSub, Nat.lt_irrefl, Nat.zero_add, Nat.add_zero, t_84]
  try rfl
set_option maxHeartbeats 2000000 in
theorem t_43 (d : Nat) (i : Nat) (x y : Int32) (M : mm_M) (post : mm_Post) : pC (d + 1) 43 [.inr (.inr (4, i)), .inl x, .inl y] M post = post none (mm_sI (mm_sI (mm_sI M 4 i 9 x) 4 i 10 y) 4 i 5 2) := by
  simp only [eC_43, eK_43_0, pw_aload_n, pw_iconst, pw_iload_n, pw_putfield, pw_return_, mm_pI_c, mm_pL_c, mm_pA_c, mm_pR_c, mm_p1_i, mm_p1_r, mm_pN_0, mm_pN_s, mm_lI_c, mm_lL_c, mm_lA_c, mm_wd_n, mm_wd_i, mm_wd_l, mm_wd_r, mm_gf_i, mm_gf_b, mm_gf_r, mm_rf_c, mm_pf_i, mm_pf_b, mm_pf_r, mm_rt_v, mm_rt_i, mm_rt_r, mm_c_eq, mm_c_ne, mm_c_lt, mm_c_ge, mm_c_gt, mm_c_le, mm_sw_n, mm_sw_c, mm_alc_n, mm_alc_c, mm_rc_n, mm_rc_c, reduceCtorEq, false_implies, implies_true, true_implies, true_or, or_true, false_or, or_false, not_false_eq_true, mm_at_0, mm_at_s, mm_set_0, mm_set_s, mm_nl_n, mm_nl_i, mm_nl_r, mm_args_n, mm_args_i, mm_args_l, mm_args_r, mm_pad_0, mm_pad_n, mm_pad_c, List.length_cons, List.length_nil, List.nil_append, List.cons_append, Nat.zero_le, Nat.sub_zero, true_and, and_true, Nat.reduceAdd, Nat.reduceLeDiff, Nat.reduceLT, Nat.reduceSub, Nat.lt_irrefl, Nat.zero_add, Nat.add_zero]
  try rfl
/-- whom a bell reaches, as an int -/
def f_rbi (k l t ev : Int32) : Int32 := if k = 1 then tf (8 ≤ l) else if k = 2 then tf (1 ≤ l ∧ ¬ ev = 0) else if k = 3 then tf (1 ≤ l ∧ t = 0) else tf (1 ≤ l)
set_option maxHeartbeats 2000000 in
theorem t_46 (d : Nat) (i : Nat) (l t ev : Int32) (M : mm_M) (post : mm_Post) : pC (d + 1) 46 [.inr (.inr (4, i)), .inl l, .inl t, .inl ev] M post = post (some (.inl (f_rbi (mm_I M 4 i 0) l t ev))) M := by
  simp only [eC_46, eK_46_0, eK_46_1, eK_46_2, eK_46_3, eK_46_4, eK_46_5, eK_46_6, eK_46_7, eK_46_8, eK_46_9, eK_46_10, eK_46_11, eK_46_12, pw_aload_n, pw_bipush, pw_getfield, pw_goto, pw_iconst, pw_ifCond, pw_if_icmp, pw_iload_n, pw_ireturn, pw_nop0, pw_tableswitch, mm_pI_c, mm_pL_c, mm_pA_c, mm_pR_c, mm_p1_i, mm_p1_r, mm_pN_0, mm_pN_s, mm_lI_c, mm_lL_c, mm_lA_c, mm_wd_n, mm_wd_i, mm_wd_l, mm_wd_r, mm_gf_i, mm_gf_b, mm_gf_r, mm_rf_c, mm_pf_i, mm_pf_b, mm_pf_r, mm_rt_v, mm_rt_i, mm_rt_r, mm_c_eq, mm_c_ne, mm_c_lt, mm_c_ge, mm_c_gt, mm_c_le, mm_sw_n, mm_sw_c, mm_alc_n, mm_alc_c, mm_rc_n, mm_rc_c, reduceCtorEq, false_implies, implies_true, true_implies, true_or, or_true, false_or, or_false, not_false_eq_true, mm_at_0, mm_at_s, mm_set_0, mm_set_s, mm_nl_n, mm_nl_i, mm_nl_r, mm_args_n, mm_args_i, mm_args_l, mm_args_r, mm_pad_0, mm_pad_n, mm_pad_c, List.length_cons, List.length_nil, List.nil_append, List.cons_append, Nat.zero_le, Nat.sub_zero, true_and, and_true, Nat.reduceAdd, Nat.reduceLeDiff, Nat.reduceLT, Nat.reduceSub, Nat.lt_irrefl, Nat.zero_add, Nat.add_zero, mm_if_v]
  refine congrArg (fun z => post (some (.inl z)) M) ?_
  unfold f_rbi tf
  grind
set_option maxHeartbeats 2000000 in
theorem t_47 (d : Nat) (i : Nat) (l t r ev : Int32) (M : mm_M) (post : mm_Post) : pC (d + 2) 47 [.inr (.inr (4, i)), .inl l, .inl t, .inl r, .inl ev] M post = post (some (.inl (tf (¬ f_rbi (mm_I M 4 i 0) l t ev = 0 ∧ r < l)))) M := by
  simp only [eC_47, eK_47_0, eK_47_1, eK_47_2, pw_aload_n, pw_goto, pw_iconst, pw_ifCond, pw_if_icmp, pw_iload, pw_iload_n, pw_invokevirtual, pw_ireturn, pw_nop0, mm_pI_c, mm_pL_c, mm_pA_c, mm_pR_c, mm_p1_i, mm_p1_r, mm_pN_0, mm_pN_s, mm_lI_c, mm_lL_c, mm_lA_c, mm_wd_n, mm_wd_i, mm_wd_l, mm_wd_r, mm_gf_i, mm_gf_b, mm_gf_r, mm_rf_c, mm_pf_i, mm_pf_b, mm_pf_r, mm_rt_v, mm_rt_i, mm_rt_r, mm_c_eq, mm_c_ne, mm_c_lt, mm_c_ge, mm_c_gt, mm_c_le, mm_sw_n, mm_sw_c, mm_alc_n, mm_alc_c, mm_rc_n, mm_rc_c, reduceCtorEq, false_implies, implies_true, true_implies, true_or, or_true, false_or, or_false, not_false_eq_true, mm_at_0, mm_at_s, mm_set_0, mm_set_s, mm_nl_n, mm_nl_i, mm_nl_r, mm_args_n, mm_args_i, mm_args_l, mm_args_r, mm_pad_0, mm_pad_n, mm_pad_c, List.length_cons, List.length_nil, List.nil_append, List.cons_append, Nat.zero_le, Nat.sub_zero, true_and, and_true, Nat.reduceAdd, Nat.reduceLeDiff, Nat.reduceLT, Nat.reduceSub, Nat.lt_irrefl, Nat.zero_add, Nat.add_zero, t_46, mm_if_v]
  refine congrArg (fun z => post (some (.inl z)) M) ?_
  unfold tf
  grind
