/-! THE CLASS: a street set to another; begun; a wrong told -/
theorem FS_F1 {M M' : mm_M} {s w : Nat} (h : F1 M M' 4 (7 * s + w)) (hw : w < 7) : FS M M' s := ⟨h.1, fun c i k _ b => h.2 c i k (fun z => b ⟨z.1, by omega, by omega⟩)⟩
set_option maxHeartbeats 4000000 in
theorem l_10 (d : Nat) {s s' n : Nat} {A : Nat → Nat → Int32} {dy cp tn : Int32} {M : mm_M} {post : mm_Post} (hs : s < 20) (hs' : s' < 20) (hne : ¬ s' = s) (hn : n ≤ 7) (hb : ∀ w, w < n → A w 4 = 0 ∨ A w 4 = 1) (h : ∀ M', RS M' s n A dy cp tn → FS M M' s → post none M') : ∀ (m v : Nat) (M1 : mm_M), v + m = n → LyS M1 → RS M1 s' n A dy cp tn → RS M1 s v A dy cp tn ∨ (mm_I M1 2 s 1 = nI n ∧ mm_I M1 2 s 2 = dy ∧ mm_I M1 2 s 3 = cp ∧ mm_I M1 2 s 4 = tn ∧ ∀ w, w < v → ∀ k, k < 11 → mm_I M1 4 (7 * s + w) k = A w k) → mm_I M1 2 s 1 = nI n → FS M M1 s → pK (d + 1) 10 post 1 [some (.inr (.inr (2, s))), some (.inr (.inr (2, s'))), some (.inl (nI v))] [] M1 (0, 0) := by
  intro m
  induction m with
  | zero =>
    intro v M1 hv hL hR hI hsz hF
    have e : v = n := by omega
    subst e
    rw [eK_10_1]
    simp only [eK_10_0, eK_10_2, pw_aaload, pw_aload_n, pw_bipush, pw_getfield, pw_goto, pw_iconst, pw_if_icmp, pw_iinc, pw_iload_n, pw_invokevirtual, pw_istore_n, pw_nop0, pw_putfield, pw_return_, mm_pI_c, mm_pL_c, mm_pA_c, mm_pR_c, mm_p1_i, mm_p1_r, mm_pN_0, mm_pN_s, mm_lI_c, mm_lL_c, mm_lA_c, mm_wd_n, mm_wd_i, mm_wd_l, mm_wd_r, mm_gf_i, mm_gf_b, mm_gf_r, mm_rf_c, mm_pf_i, mm_pf_b, mm_pf_r, mm_rt_v, mm_rt_i, mm_rt_r, mm_c_eq, mm_c_ne, mm_c_lt, mm_c_ge, mm_c_gt, mm_c_le, mm_sw_n, mm_sw_c, mm_alc_n, mm_alc_c, mm_rc_n, mm_rc_c, reduceCtorEq, false_implies, implies_true, true_implies, true_or, or_true, false_or, or_false, not_false_eq_true, mm_at_0, mm_at_s, mm_set_0, mm_set_s, mm_nl_n, mm_nl_i, mm_nl_r, mm_args_n, mm_args_i, mm_args_l, mm_args_r, mm_pad_0, mm_pad_n, mm_pad_c, List.length_cons, List.length_nil, List.nil_append, List.cons_append, Nat.zero_le, Nat.sub_zero, true_and, and_true, Nat.reduceAdd, Nat.reduceLeDiff, Nat.reduceLT, Nat.reduceSub, Nat.lt_irrefl, Nat.zero_add, Nat.add_zero, k_20, k_10, k_01, mm_if_T, mm_if_F, not_true_eq_false, not_false_eq_true, hsz, mm_if_t (nI_le (Nat.le_refl v) (show v < 2 ^ 31 by omega))]
    refine h M1 ?_ hF
    rcases hI with hI | ⟨a1, a2, a3, a4, a5⟩
    · exact hI
    · exact ⟨a1, a2, a3, a4, a5⟩
  | succ m ih =>
    intro v M1 hv hL hR hI hsz hF
    have hvn : v < n := by omega
    obtain ⟨h1, h2, h3⟩ := hL s hs
    obtain ⟨h1', h2', h3'⟩ := hL s' hs'
    obtain ⟨q1, q2, q3⟩ := nI_v7 hvn hn
    have q4 := h3 v (by omega)
    have q4' := h3' v (by omega)
    have hR0 := hR
    obtain ⟨s1, s2, s3, s4, s5⟩ := hR
    have q7 : ¬ (7 : Int32) ≤ nI v := nI_ge (b := 7) (show v < 7 by omega) (by omega)
    rw [eK_10_1]
    simp only [eK_10_0, eK_10_2, pw_aaload, pw_aload_n, pw_bipush, pw_getfield, pw_goto, pw_iconst, pw_if_icmp, pw_iinc, pw_iload_n, pw_invokevirtual, pw_istore_n, pw_nop0, pw_putfield, pw_return_, mm_pI_c, mm_pL_c, mm_pA_c, mm_pR_c, mm_p1_i, mm_p1_r, mm_pN_0, mm_pN_s, mm_lI_c, mm_lL_c, mm_lA_c, mm_wd_n, mm_wd_i, mm_wd_l, mm_wd_r, mm_gf_i, mm_gf_b, mm_gf_r, mm_rf_c, mm_pf_i, mm_pf_b, mm_pf_r, mm_rt_v, mm_rt_i, mm_rt_r, mm_c_eq, mm_c_ne, mm_c_lt, mm_c_ge, mm_c_gt, mm_c_le, mm_sw_n, mm_sw_c, mm_alc_n, mm_alc_c, mm_rc_n, mm_rc_c, reduceCtorEq, false_implies, implies_true, true_implies, true_or, or_true, false_or, or_false, not_false_eq_true, mm_at_0, mm_at_s, mm_set_0, mm_set_s, mm_nl_n, mm_nl_i, mm_nl_r, mm_args_n, mm_args_i, mm_args_l, mm_args_r, mm_pad_0, mm_pad_n, mm_pad_c, List.length_cons, List.length_nil, List.nil_append, List.cons_append, Nat.zero_le, Nat.sub_zero, true_and, and_true, Nat.reduceAdd, Nat.reduceLeDiff, Nat.reduceLT, Nat.reduceSub, Nat.lt_irrefl, Nat.zero_add, Nat.add_zero, k_20, k_10, k_01, mm_if_T, mm_if_F, not_true_eq_false, not_false_eq_true, hsz, mm_if_f q3, mm_if_f q7, nI_1, h1, h2, h1', h2', q1, q2, q4, q4']
    refine t_38 d (7 * s + v) (7 * s' + v) M1 _ (by rw [s5 v hvn 4 (by omega)]; exact hb v hvn) (fun M' hF1 hk => ?_)
    simp only [mm_rt_v, List.nil_append]
    have hFS := FS_F1 hF1 (show v < 7 by omega)
    have k2 : ∀ k, mm_I M' 2 s k = mm_I M1 2 s k := fun k => hF1.2 2 s k (fun z => by omega)
    refine ih (v + 1) M' (by omega) (LyS_2 hF1.1 hL) (RS_F hR0 hFS hne hn) (Or.inr ?_) (by rw [k2]; exact hsz) (FS_tr hF hFS)
    have hI' : mm_I M1 2 s 1 = nI n ∧ mm_I M1 2 s 2 = dy ∧ mm_I M1 2 s 3 = cp ∧ mm_I M1 2 s 4 = tn ∧ ∀ w, w < v → ∀ k, k < 11 → mm_I M1 4 (7 * s + w) k = A w k := by
      rcases hI with ⟨a1, a2, a3, a4, a5⟩ | hI
      · exact ⟨hsz, a2, a3, a4, a5⟩
      · exact hI
    obtain ⟨a1, a2, a3, a4, a5⟩ := hI'
    refine ⟨by rw [k2]; exact a1, by rw [k2]; exact a2, by rw [k2]; exact a3, by rw [k2]; exact a4, fun w hw k hk1 => ?_⟩
    by_cases e : w = v
    · subst e
      rw [hk k hk1]
      exact s5 w hvn k hk1
    · rw [hF1.2 4 (7 * s + w) k (fun z => by omega)]
      exact a5 w (by omega) k hk1

set_option maxHeartbeats 4000000 in
theorem t_10 (d : Nat) {s s' n : Nat} {A : Nat → Nat → Int32} {dy cp tn : Int32} {M : mm_M} {post : mm_Post} (hs : s < 20) (hs' : s' < 20) (hne : ¬ s' = s) (hn : n ≤ 7) (hL : LyS M) (hR : RS M s' n A dy cp tn) (hb : ∀ w, w < n → A w 4 = 0 ∨ A w 4 = 1) (h : ∀ M', RS M' s n A dy cp tn → FS M M' s → post none M') : pC (d + 2) 10 [.inr (.inr (2, s)), .inr (.inr (2, s'))] M post := by
  have hR0 := hR
  obtain ⟨s1, s2, s3, s4, s5⟩ := hR
  have hne' : ¬ s = s' := fun z => hne z.symm
  have key := fun M1 => l_10 d (M := M) (post := post) hs hs' hne hn hb h n 0 M1 (by omega)
  simp only [eC_10, eK_10_0, eK_10_2, pw_aaload, pw_aload_n, pw_bipush, pw_getfield, pw_goto, pw_iconst, pw_if_icmp, pw_iinc, pw_iload_n, pw_invokevirtual, pw_istore_n, pw_nop0, pw_putfield, pw_return_, mm_pI_c, mm_pL_c, mm_pA_c, mm_pR_c, mm_p1_i, mm_p1_r, mm_pN_0, mm_pN_s, mm_lI_c, mm_lL_c, mm_lA_c, mm_wd_n, mm_wd_i, mm_wd_l, mm_wd_r, mm_gf_i, mm_gf_b, mm_gf_r, mm_rf_c, mm_pf_i, mm_pf_b, mm_pf_r, mm_rt_v, mm_rt_i, mm_rt_r, mm_c_eq, mm_c_ne, mm_c_lt, mm_c_ge, mm_c_gt, mm_c_le, mm_sw_n, mm_sw_c, mm_alc_n, mm_alc_c, mm_rc_n, mm_rc_c, reduceCtorEq, false_implies, implies_true, true_implies, true_or, or_true, false_or, or_false, not_false_eq_true, mm_at_0, mm_at_s, mm_set_0, mm_set_s, mm_nl_n, mm_nl_i, mm_nl_r, mm_args_n, mm_args_i, mm_args_l, mm_args_r, mm_pad_0, mm_pad_n, mm_pad_c, List.length_cons, List.length_nil, List.nil_append, List.cons_append, Nat.zero_le, Nat.sub_zero, true_and, and_true, Nat.reduceAdd, Nat.reduceLeDiff, Nat.reduceLT, Nat.reduceSub, Nat.lt_irrefl, Nat.zero_add, Nat.add_zero, k_20, k_10, k_01, mm_if_T, mm_if_F, not_true_eq_false, not_false_eq_true, s1, s2, s3, s4, mm_I_k, mm_I_c, mm_I_s, mm_R_sI, mm_L_sI, mm_N_sI, Nat.reduceEqDiff, not_false_eq_true, ne_eq]
  have hFS : FS M (mm_sI (mm_sI (mm_sI (mm_sI M 2 s 1 (nI n)) 2 s 2 dy) 2 s 3 cp) 2 s 4 tn) s := FS_2 (FS_2 (FS_2 (FS_2 (FS_rf _ _))))
  refine key _ (LyS_2 rfl hL) (RS_F hR0 hFS hne hn) (Or.inr ⟨?_, ?_, ?_, ?_, fun w hw => absurd hw (Nat.not_lt_zero _)⟩) ?_ hFS <;> simp only [mm_I_k, mm_I_c, mm_I_s, mm_R_sI, mm_L_sI, mm_N_sI, Nat.reduceEqDiff, not_false_eq_true, ne_eq]

set_option maxHeartbeats 2000000 in
theorem e_9 (d s : Nat) (M : mm_M) (post : mm_Post) : pC (d + 1) 9 [.inr (.inr (2, s))] M post = post none (mm_sI (mm_sI (mm_sI (mm_sI M 2 s 1 0) 2 s 2 0) 2 s 3 20) 2 s 4 10) := by
  simp only [eC_9, eK_9_0, pw_aload_n, pw_bipush, pw_iconst, pw_putfield, pw_return_, mm_pI_c, mm_pL_c, mm_pA_c, mm_pR_c, mm_p1_i, mm_p1_r, mm_pN_0, mm_pN_s, mm_lI_c, mm_lL_c, mm_lA_c, mm_wd_n, mm_wd_i, mm_wd_l, mm_wd_r, mm_gf_i, mm_gf_b, mm_gf_r, mm_rf_c, mm_pf_i, mm_pf_b, mm_pf_r, mm_rt_v, mm_rt_i, mm_rt_r, mm_c_eq, mm_c_ne, mm_c_lt, mm_c_ge, mm_c_gt, mm_c_le, mm_sw_n, mm_sw_c, mm_alc_n, mm_alc_c, mm_rc_n, mm_rc_c, reduceCtorEq, false_implies, implies_true, true_implies, true_or, or_true, false_or, or_false, not_false_eq_true, mm_at_0, mm_at_s, mm_set_0, mm_set_s, mm_nl_n, mm_nl_i, mm_nl_r, mm_args_n, mm_args_i, mm_args_l, mm_args_r, mm_pad_0, mm_pad_n, mm_pad_c, List.length_cons, List.length_nil, List.nil_append, List.cons_append, Nat.zero_le, Nat.sub_zero, true_and, and_true, Nat.reduceAdd, Nat.reduceLeDiff, Nat.reduceLT, Nat.reduceSub, Nat.lt_irrefl, Nat.zero_add, Nat.add_zero, k_20, k_10, k_01, mm_if_T, mm_if_F, not_true_eq_false, not_false_eq_true]
set_option maxHeartbeats 2000000 in
theorem e_12 (d : Nat) {s n : Nat} {A : Nat → Nat → Int32} {dy cp tn : Int32} {M : mm_M} {post : mm_Post} (hs : s < 20) (hn : n ≤ 7) (hL : LyS M) (hR : RS M s n A dy cp tn) {w : Nat} (hw : w < n) (c t : Int32) : pC (d + 2) 12 [.inr (.inr (2, s)), .inl (nI w), .inl c, .inl t] M post = post (some (.inl (tf (¬ 1 ≤ A w 5 ∧ A w 4 = 0 ∧ c ≤ cp ∧ t ≤ tn)))) M := by
  have hR0 := hR
  obtain ⟨h1, h2, h3⟩ := hL s hs
  obtain ⟨s1, s2, s3, s4, s5⟩ := hR
  obtain ⟨q1, q2, q3⟩ := nI_v7 (show w < n by omega) hn
  have q4 := h3 w (by omega)
  have r := s5 w (by omega)
  have r4 := r 4 (by omega)
  have r5 := r 5 (by omega)
  simp only [eC_12, eK_12_0, eK_12_1, eK_12_2, pw_aaload, pw_aload_n, pw_getfield, pw_goto, pw_iconst, pw_ifCond, pw_if_icmp, pw_iload_n, pw_invokevirtual, pw_ireturn, pw_nop0, mm_pI_c, mm_pL_c, mm_pA_c, mm_pR_c, mm_p1_i, mm_p1_r, mm_pN_0, mm_pN_s, mm_lI_c, mm_lL_c, mm_lA_c, mm_wd_n, mm_wd_i, mm_wd_l, mm_wd_r, mm_gf_i, mm_gf_b, mm_gf_r, mm_rf_c, mm_pf_i, mm_pf_b, mm_pf_r, mm_rt_v, mm_rt_i, mm_rt_r, mm_c_eq, mm_c_ne, mm_c_lt, mm_c_ge, mm_c_gt, mm_c_le, mm_sw_n, mm_sw_c, mm_alc_n, mm_alc_c, mm_rc_n, mm_rc_c, reduceCtorEq, false_implies, implies_true, true_implies, true_or, or_true, false_or, or_false, not_false_eq_true, mm_at_0, mm_at_s, mm_set_0, mm_set_s, mm_nl_n, mm_nl_i, mm_nl_r, mm_args_n, mm_args_i, mm_args_l, mm_args_r, mm_pad_0, mm_pad_n, mm_pad_c, List.length_cons, List.length_nil, List.nil_append, List.cons_append, Nat.zero_le, Nat.sub_zero, true_and, and_true, Nat.reduceAdd, Nat.reduceLeDiff, Nat.reduceLT, Nat.reduceSub, Nat.lt_irrefl, Nat.zero_add, Nat.add_zero, k_20, k_10, k_01, mm_if_T, mm_if_F, not_true_eq_false, not_false_eq_true, h1, h2, s3, s4, q1, q2, q4, r4, r5, t_40, tf_0, mm_if_v]
  refine congrArg (fun z => post (some (.inl z)) M) ?_
  unfold tf
  grind
set_option maxHeartbeats 4000000 in
theorem t_11 (d : Nat) {s n : Nat} {A : Nat → Nat → Int32} {dy cp tn : Int32} {M : mm_M} {post : mm_Post} (hs : s < 20) (hn : n ≤ 7) (hL : LyS M) (hR : RS M s n A dy cp tn) (x y z : Int32) (h7 : n = 7 → post (some (.inl 0)) M) (h : n < 7 → ∀ M' A', RS M' s (n + 1) A' dy cp tn → (∀ w, w < n → ∀ k, k < 11 → A' w k = A w k) → A' n 0 = x → A' n 1 = y → A' n 2 = z → A' n 3 = 0 → A' n 4 = 0 → A' n 5 = 0 → FS M M' s → post (some (.inl 1)) M') : pC (d + 2) 11 [.inr (.inr (2, s)), .inl x, .inl y, .inl z] M post := by
  have hR0 := hR
  obtain ⟨h1, h2, h3⟩ := hL s hs
  obtain ⟨s1, s2, s3, s4, s5⟩ := hR
  by_cases e : n = 7
  · have hc : ¬ nI n < (7 : Int32) := by rw [e]; decide
    simp only [eC_11, eK_11_0, eK_11_1, pw_aaload, pw_aload_n, pw_bipush, pw_dup, pw_getfield, pw_iadd, pw_iconst, pw_if_icmp, pw_iload_n, pw_invokevirtual, pw_ireturn, pw_putfield, mm_pI_c, mm_pL_c, mm_pA_c, mm_pR_c, mm_p1_i, mm_p1_r, mm_pN_0, mm_pN_s, mm_lI_c, mm_lL_c, mm_lA_c, mm_wd_n, mm_wd_i, mm_wd_l, mm_wd_r, mm_gf_i, mm_gf_b, mm_gf_r, mm_rf_c, mm_pf_i, mm_pf_b, mm_pf_r, mm_rt_v, mm_rt_i, mm_rt_r, mm_c_eq, mm_c_ne, mm_c_lt, mm_c_ge, mm_c_gt, mm_c_le, mm_sw_n, mm_sw_c, mm_alc_n, mm_alc_c, mm_rc_n, mm_rc_c, reduceCtorEq, false_implies, implies_true, true_implies, true_or, or_true, false_or, or_false, not_false_eq_true, mm_at_0, mm_at_s, mm_set_0, mm_set_s, mm_nl_n, mm_nl_i, mm_nl_r, mm_args_n, mm_args_i, mm_args_l, mm_args_r, mm_pad_0, mm_pad_n, mm_pad_c, List.length_cons, List.length_nil, List.nil_append, List.cons_append, Nat.zero_le, Nat.sub_zero, true_and, and_true, Nat.reduceAdd, Nat.reduceLeDiff, Nat.reduceLT, Nat.reduceSub, Nat.lt_irrefl, Nat.zero_add, Nat.add_zero, k_20, k_10, k_01, mm_if_T, mm_if_F, not_true_eq_false, not_false_eq_true, s1, mm_if_f hc]
    exact h7 e
  · have hlt : n < 7 := by omega
    have hc : nI n < (7 : Int32) := nI_lt (b := 7) hlt (by omega)
    have q1 : vp_in (nI n) 7 := vp_in_nI hlt (by omega)
    have q2 : (nI n).toNatClampNeg = n := nI_clamp (by omega)
    have q4 := h3 n hlt
    simp only [eC_11, eK_11_0, eK_11_1, pw_aaload, pw_aload_n, pw_bipush, pw_dup, pw_getfield, pw_iadd, pw_iconst, pw_if_icmp, pw_iload_n, pw_invokevirtual, pw_ireturn, pw_putfield, mm_pI_c, mm_pL_c, mm_pA_c, mm_pR_c, mm_p1_i, mm_p1_r, mm_pN_0, mm_pN_s, mm_lI_c, mm_lL_c, mm_lA_c, mm_wd_n, mm_wd_i, mm_wd_l, mm_wd_r, mm_gf_i, mm_gf_b, mm_gf_r, mm_rf_c, mm_pf_i, mm_pf_b, mm_pf_r, mm_rt_v, mm_rt_i, mm_rt_r, mm_c_eq, mm_c_ne, mm_c_lt, mm_c_ge, mm_c_gt, mm_c_le, mm_sw_n, mm_sw_c, mm_alc_n, mm_alc_c, mm_rc_n, mm_rc_c, reduceCtorEq, false_implies, implies_true, true_implies, true_or, or_true, false_or, or_false, not_false_eq_true, mm_at_0, mm_at_s, mm_set_0, mm_set_s, mm_nl_n, mm_nl_i, mm_nl_r, mm_args_n, mm_args_i, mm_args_l, mm_args_r, mm_pad_0, mm_pad_n, mm_pad_c, List.length_cons, List.length_nil, List.nil_append, List.cons_append, Nat.zero_le, Nat.sub_zero, true_and, and_true, Nat.reduceAdd, Nat.reduceLeDiff, Nat.reduceLT, Nat.reduceSub, Nat.lt_irrefl, Nat.zero_add, Nat.add_zero, k_20, k_10, k_01, mm_if_T, mm_if_F, not_true_eq_false, not_false_eq_true, s1, h1, h2, mm_if_t hc, q1, q2, q4, t_39, nI_1, mm_I_k, mm_I_c, mm_I_s, mm_R_sI, mm_L_sI, mm_N_sI, Nat.reduceEqDiff, not_false_eq_true, ne_eq]
    have hFS : FS M (mm_sI (mm_sI (mm_sI (mm_sI (mm_sI (mm_sI (mm_sI M 4 (7 * s + n) 0 x) 4 (7 * s + n) 1 y) 4 (7 * s + n) 2 z) 4 (7 * s + n) 3 0) 4 (7 * s + n) 4 0) 4 (7 * s + n) 5 0) 2 s 1 (nI (n + 1))) s := FS_2 (FS_4 (FS_4 (FS_4 (FS_4 (FS_4 (FS_4 (FS_rf _ _) hlt) hlt) hlt) hlt) hlt) hlt)
    refine h hlt _ (fun w k => mm_I (mm_sI (mm_sI (mm_sI (mm_sI (mm_sI (mm_sI (mm_sI M 4 (7 * s + n) 0 x) 4 (7 * s + n) 1 y) 4 (7 * s + n) 2 z) 4 (7 * s + n) 3 0) 4 (7 * s + n) 4 0) 4 (7 * s + n) 5 0) 2 s 1 (nI (n + 1))) 4 (7 * s + w) k) ⟨mm_I_s, ?_, ?_, ?_, fun _ _ _ _ => rfl⟩ (fun w hw k hk => ?_) ?_ ?_ ?_ ?_ ?_ ?_ hFS
    · simp only [s2, mm_I_k, mm_I_c, mm_I_s, mm_R_sI, mm_L_sI, mm_N_sI, Nat.reduceEqDiff, not_false_eq_true, ne_eq]
    · simp only [s3, mm_I_k, mm_I_c, mm_I_s, mm_R_sI, mm_L_sI, mm_N_sI, Nat.reduceEqDiff, not_false_eq_true, ne_eq]
    · simp only [s4, mm_I_k, mm_I_c, mm_I_s, mm_R_sI, mm_L_sI, mm_N_sI, Nat.reduceEqDiff, not_false_eq_true, ne_eq]
    · have hne : ¬ 7 * s + w = 7 * s + n := by omega
      simp only [mm_I_i hne, mm_I_k, mm_I_c, mm_I_s, mm_R_sI, mm_L_sI, mm_N_sI, Nat.reduceEqDiff, not_false_eq_true, ne_eq]
      exact s5 w hw k hk
    all_goals simp only [mm_I_k, mm_I_c, mm_I_s, mm_R_sI, mm_L_sI, mm_N_sI, Nat.reduceEqDiff, not_false_eq_true, ne_eq]

