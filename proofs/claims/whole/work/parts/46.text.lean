/-! THE CLASS: the text read -/
def p_rd (L : Nat → Int32) (t : Nat) : Nat → Nat → Nat × St → (Nat × St) ⊕ Nat
  | 0, _, Z => .inl Z
  | m + 1, p, Z => if p < t then (match p_it L p Z with
    | none => .inr p
    | some (Z', q) => p_rd L t m q Z') else .inl Z
def Z0 : Nat × St := (0, (fun _ _ => 0, (20, 10)))

set_option maxHeartbeats 4000000 in
theorem l_28 (d : Nat) {s : Nat} {M : mm_M} {post : mm_Post} {t : Nat} {lt : Nat → Int32} {R : (Nat × St) ⊕ Nat} (hs : s < 20) (hok : ∀ M' A' Z, R = .inl Z → Z.1 ≤ 7 → RS M' s Z.1 A' 0 Z.2.2.1 Z.2.2.2 → Eqv Z.1 A' Z.2.1 → F2 M M' s → post (some (.inl (-4))) M') (hno : ∀ M' p, R = .inr p → p < 200 → F2 M M' s → post (some (.inl (nI p))) M') : ∀ (m j p : Nat) (Z : Nat × St) (A : Nat → Nat → Int32) (u : Option mm_V) (M1 : mm_M), j + m = 200 → j ≤ p → p ≤ t → LyS M1 → Z.1 ≤ 7 → RS M1 s Z.1 A 0 Z.2.2.1 Z.2.2.2 → Eqv Z.1 A Z.2.1 → TX M1 t lt p → F2 M M1 s → R = p_rd (lL t lt) t m p Z → pK (d + 5) 28 post 1 [some (.inr (.inr (3, 0))), some (.inr (.inr (2, s))), some (.inl (nI j)), u] [] M1 (0, 0) := by
  intro m
  induction m with
  | zero =>
    intro j p Z A u M1 hj hjp hpt hL hZ hR hE hT hF he
    have hq : (200 : Int32) ≤ nI j := nI_le (a := 200) (by omega) (by omega)
    have hp := hok M1 A Z he hZ hR hE hF
    rw [eK_28_1]
    simp only [eK_28_0, eK_28_2, eK_28_3, pw_aload_n, pw_bipush, pw_getfield, pw_goto, pw_iconst, pw_ifCond, pw_if_icmp, pw_iinc, pw_iload_n, pw_invokevirtual, pw_ireturn, pw_istore_n, pw_nop0, pw_putfield, pw_sipush, mm_pI_c, mm_pL_c, mm_pA_c, mm_pR_c, mm_p1_i, mm_p1_r, mm_pN_0, mm_pN_s, mm_lI_c, mm_lL_c, mm_lA_c, mm_wd_n, mm_wd_i, mm_wd_l, mm_wd_r, mm_gf_i, mm_gf_b, mm_gf_r, mm_rf_c, mm_pf_i, mm_pf_b, mm_pf_r, mm_rt_v, mm_rt_i, mm_rt_r, mm_c_eq, mm_c_ne, mm_c_lt, mm_c_ge, mm_c_gt, mm_c_le, mm_sw_n, mm_sw_c, mm_alc_n, mm_alc_c, mm_rc_n, mm_rc_c, reduceCtorEq, false_implies, implies_true, true_implies, true_or, or_true, false_or, or_false, not_false_eq_true, mm_at_0, mm_at_s, mm_set_0, mm_set_s, mm_nl_n, mm_nl_i, mm_nl_r, mm_args_n, mm_args_i, mm_args_l, mm_args_r, mm_pad_0, mm_pad_n, mm_pad_c, List.length_cons, List.length_nil, List.nil_append, List.cons_append, Nat.zero_le, Nat.sub_zero, true_and, and_true, Nat.reduceAdd, Nat.reduceLeDiff, Nat.reduceLT, Nat.reduceSub, Nat.lt_irrefl, Nat.zero_add, Nat.add_zero, k_20, k_10, k_01, mm_if_T, mm_if_F, not_true_eq_false, not_false_eq_true, mm_if_t hq]
    exact hp
  | succ m ih =>
    intro j p Z A u M1 hj hjp hpt hL hZ hR hE hT hF he
    have hq : ¬ (200 : Int32) ≤ nI j := nI_ge (a := j) (b := 200) (by omega) (by omega)
    have ht := hT.2.1
    have e3 := hT.2.2.1
    have e2 := hT.2.2.2.2
    have hun : p_rd (lL t lt) t (m + 1) p Z = if p < t then (match p_it (lL t lt) p Z with
      | none => .inr p
      | some (Z', q) => p_rd (lL t lt) t m q Z') else .inl Z := rfl
    rw [hun] at he
    by_cases hlt : p < t
    · have hq2 : ¬ nI t ≤ nI p := nI_ge (by omega) (by omega)
      rw [if_pos hlt] at he
      rw [eK_28_1]
      simp only [eK_28_0, eK_28_2, eK_28_3, pw_aload_n, pw_bipush, pw_getfield, pw_goto, pw_iconst, pw_ifCond, pw_if_icmp, pw_iinc, pw_iload_n, pw_invokevirtual, pw_ireturn, pw_istore_n, pw_nop0, pw_putfield, pw_sipush, mm_pI_c, mm_pL_c, mm_pA_c, mm_pR_c, mm_p1_i, mm_p1_r, mm_pN_0, mm_pN_s, mm_lI_c, mm_lL_c, mm_lA_c, mm_wd_n, mm_wd_i, mm_wd_l, mm_wd_r, mm_gf_i, mm_gf_b, mm_gf_r, mm_rf_c, mm_pf_i, mm_pf_b, mm_pf_r, mm_rt_v, mm_rt_i, mm_rt_r, mm_c_eq, mm_c_ne, mm_c_lt, mm_c_ge, mm_c_gt, mm_c_le, mm_sw_n, mm_sw_c, mm_alc_n, mm_alc_c, mm_rc_n, mm_rc_c, reduceCtorEq, false_implies, implies_true, true_implies, true_or, or_true, false_or, or_false, not_false_eq_true, mm_at_0, mm_at_s, mm_set_0, mm_set_s, mm_nl_n, mm_nl_i, mm_nl_r, mm_args_n, mm_args_i, mm_args_l, mm_args_r, mm_pad_0, mm_pad_n, mm_pad_c, List.length_cons, List.length_nil, List.nil_append, List.cons_append, Nat.zero_le, Nat.sub_zero, true_and, and_true, Nat.reduceAdd, Nat.reduceLeDiff, Nat.reduceLT, Nat.reduceSub, Nat.lt_irrefl, Nat.zero_add, Nat.add_zero, k_20, k_10, k_01, mm_if_T, mm_if_F, not_true_eq_false, not_false_eq_true, mm_if_f hq, mm_if_f hq2, e2, e3]
      refine t_29 d hs hZ hL hR hE hT (by omega) (fun M' A' Z' q hi h7 hR' hE' hT' l1 l2 hF' => ?_) (fun M' hi hF' => ?_)
      · rw [hi] at he
        have key := ih (j + 1) q Z' A' (some (.inl (nI p))) M' (by omega) (by omega) l2 (LyS_2 hF'.1 hL) h7 hR' hE' hT' (F2_tr hF hF') he
        simp only [eK_28_0, eK_28_2, eK_28_3, pw_aload_n, pw_bipush, pw_getfield, pw_goto, pw_iconst, pw_ifCond, pw_if_icmp, pw_iinc, pw_iload_n, pw_invokevirtual, pw_ireturn, pw_istore_n, pw_nop0, pw_putfield, pw_sipush, mm_pI_c, mm_pL_c, mm_pA_c, mm_pR_c, mm_p1_i, mm_p1_r, mm_pN_0, mm_pN_s, mm_lI_c, mm_lL_c, mm_lA_c, mm_wd_n, mm_wd_i, mm_wd_l, mm_wd_r, mm_gf_i, mm_gf_b, mm_gf_r, mm_rf_c, mm_pf_i, mm_pf_b, mm_pf_r, mm_rt_v, mm_rt_i, mm_rt_r, mm_c_eq, mm_c_ne, mm_c_lt, mm_c_ge, mm_c_gt, mm_c_le, mm_sw_n, mm_sw_c, mm_alc_n, mm_alc_c, mm_rc_n, mm_rc_c, reduceCtorEq, false_implies, implies_true, true_implies, true_or, or_true, false_or, or_false, not_false_eq_true, mm_at_0, mm_at_s, mm_set_0, mm_set_s, mm_nl_n, mm_nl_i, mm_nl_r, mm_args_n, mm_args_i, mm_args_l, mm_args_r, mm_pad_0, mm_pad_n, mm_pad_c, List.length_cons, List.length_nil, List.nil_append, List.cons_append, Nat.zero_le, Nat.sub_zero, true_and, and_true, Nat.reduceAdd, Nat.reduceLeDiff, Nat.reduceLT, Nat.reduceSub, Nat.lt_irrefl, Nat.zero_add, Nat.add_zero, k_20, k_10, k_01, mm_if_T, mm_if_F, not_true_eq_false, not_false_eq_true, nI_1, mm_if_v]
        exact key
      · rw [hi] at he
        have hp := hno M' p he (by omega) (F2_tr hF hF')
        simp only [eK_28_0, eK_28_2, eK_28_3, pw_aload_n, pw_bipush, pw_getfield, pw_goto, pw_iconst, pw_ifCond, pw_if_icmp, pw_iinc, pw_iload_n, pw_invokevirtual, pw_ireturn, pw_istore_n, pw_nop0, pw_putfield, pw_sipush, mm_pI_c, mm_pL_c, mm_pA_c, mm_pR_c, mm_p1_i, mm_p1_r, mm_pN_0, mm_pN_s, mm_lI_c, mm_lL_c, mm_lA_c, mm_wd_n, mm_wd_i, mm_wd_l, mm_wd_r, mm_gf_i, mm_gf_b, mm_gf_r, mm_rf_c, mm_pf_i, mm_pf_b, mm_pf_r, mm_rt_v, mm_rt_i, mm_rt_r, mm_c_eq, mm_c_ne, mm_c_lt, mm_c_ge, mm_c_gt, mm_c_le, mm_sw_n, mm_sw_c, mm_alc_n, mm_alc_c, mm_rc_n, mm_rc_c, reduceCtorEq, false_implies, implies_true, true_implies, true_or, or_true, false_or, or_false, not_false_eq_true, mm_at_0, mm_at_s, mm_set_0, mm_set_s, mm_nl_n, mm_nl_i, mm_nl_r, mm_args_n, mm_args_i, mm_args_l, mm_args_r, mm_pad_0, mm_pad_n, mm_pad_c, List.length_cons, List.length_nil, List.nil_append, List.cons_append, Nat.zero_le, Nat.sub_zero, true_and, and_true, Nat.reduceAdd, Nat.reduceLeDiff, Nat.reduceLT, Nat.reduceSub, Nat.lt_irrefl, Nat.zero_add, Nat.add_zero, k_20, k_10, k_01, mm_if_T, mm_if_F, not_true_eq_false, not_false_eq_true, mm_if_v]
        exact hp
    · have hq2 : nI t ≤ nI p := nI_le (by omega) (by omega)
      rw [if_neg hlt] at he
      have hp := hok M1 A Z he hZ hR hE hF
      rw [eK_28_1]
      simp only [eK_28_0, eK_28_2, eK_28_3, pw_aload_n, pw_bipush, pw_getfield, pw_goto, pw_iconst, pw_ifCond, pw_if_icmp, pw_iinc, pw_iload_n, pw_invokevirtual, pw_ireturn, pw_istore_n, pw_nop0, pw_putfield, pw_sipush, mm_pI_c, mm_pL_c, mm_pA_c, mm_pR_c, mm_p1_i, mm_p1_r, mm_pN_0, mm_pN_s, mm_lI_c, mm_lL_c, mm_lA_c, mm_wd_n, mm_wd_i, mm_wd_l, mm_wd_r, mm_gf_i, mm_gf_b, mm_gf_r, mm_rf_c, mm_pf_i, mm_pf_b, mm_pf_r, mm_rt_v, mm_rt_i, mm_rt_r, mm_c_eq, mm_c_ne, mm_c_lt, mm_c_ge, mm_c_gt, mm_c_le, mm_sw_n, mm_sw_c, mm_alc_n, mm_alc_c, mm_rc_n, mm_rc_c, reduceCtorEq, false_implies, implies_true, true_implies, true_or, or_true, false_or, or_false, not_false_eq_true, mm_at_0, mm_at_s, mm_set_0, mm_set_s, mm_nl_n, mm_nl_i, mm_nl_r, mm_args_n, mm_args_i, mm_args_l, mm_args_r, mm_pad_0, mm_pad_n, mm_pad_c, List.length_cons, List.length_nil, List.nil_append, List.cons_append, Nat.zero_le, Nat.sub_zero, true_and, and_true, Nat.reduceAdd, Nat.reduceLeDiff, Nat.reduceLT, Nat.reduceSub, Nat.lt_irrefl, Nat.zero_add, Nat.add_zero, k_20, k_10, k_01, mm_if_T, mm_if_F, not_true_eq_false, not_false_eq_true, mm_if_f hq, mm_if_t hq2, e2, e3]
      exact hp

set_option maxHeartbeats 4000000 in
theorem t_28 (d : Nat) {s : Nat} {M : mm_M} {post : mm_Post} {t : Nat} {lt : Nat → Int32} (hs : s < 20) (hL : LyS M) (ly : mm_R M 3 0 0 = some 0 ∧ mm_R M 3 0 1 = some 1 ∧ mm_L M 7 0 = 200 ∧ mm_L M 7 1 = 5) (ht : t ≤ 200) (e3 : mm_I M 3 0 3 = nI t) (el : ∀ i, i < t → mm_I M 7 0 i = lt i) (hok : ∀ M' A' Z, p_rd (lL t lt) t 200 0 Z0 = .inl Z → Z.1 ≤ 7 → RS M' s Z.1 A' 0 Z.2.2.1 Z.2.2.2 → Eqv Z.1 A' Z.2.1 → F2 M M' s → post (some (.inl (-4))) M') (hno : ∀ M' p, p_rd (lL t lt) t 200 0 Z0 = .inr p → p < 200 → F2 M M' s → post (some (.inl (nI p))) M') : pC (d + 6) 28 [.inr (.inr (3, 0)), .inr (.inr (2, s))] M post := by
  have hF1 : FS M (mm_sI (mm_sI (mm_sI (mm_sI M 2 s 1 0) 2 s 2 0) 2 s 3 20) 2 s 4 10) s := FS_2 (FS_2 (FS_2 (FS_2 (FS_rf M s))))
  have hR1 : RS (mm_sI (mm_sI (mm_sI (mm_sI M 2 s 1 0) 2 s 2 0) 2 s 3 20) 2 s 4 10) s 0 (fun _ _ => 0) 0 20 10 := ⟨by rw [mm_I_k (by omega), mm_I_k (by omega), mm_I_k (by omega), mm_I_s]; rfl, by rw [mm_I_k (by omega), mm_I_k (by omega), mm_I_s], by rw [mm_I_k (by omega), mm_I_s], by rw [mm_I_s], fun w hw => by omega⟩
  have hF2 : FZ (mm_sI (mm_sI (mm_sI (mm_sI M 2 s 1 0) 2 s 2 0) 2 s 3 20) 2 s 4 10) (mm_sI (mm_sI (mm_sI (mm_sI (mm_sI M 2 s 1 0) 2 s 2 0) 2 s 3 20) 2 s 4 10) 3 0 2 0) := FZ_3 (FZ_rf _)
  have hF3 : F2 M (mm_sI (mm_sI (mm_sI (mm_sI (mm_sI M 2 s 1 0) 2 s 2 0) 2 s 3 20) 2 s 4 10) 3 0 2 0) s := F2_tr (F2_S hF1) (F2_Z hF2)
  have hT : TX (mm_sI (mm_sI (mm_sI (mm_sI (mm_sI M 2 s 1 0) 2 s 2 0) 2 s 3 20) 2 s 4 10) 3 0 2 0) t lt 0 := ⟨ly, ht, by rw [hF2.2 _ _ _ (by omega) (by omega), hF1.2 _ _ _ (by omega) (by omega)]; exact e3, fun i hi => by rw [hF2.2 _ _ _ (by omega) (by omega), hF1.2 _ _ _ (by omega) (by omega)]; exact el i hi, mm_I_s⟩
  have key := l_28 d hs hok hno 200 0 0 Z0 (fun _ _ => 0) none _ (by omega) (by omega) (by omega) (LyS_2 hF3.1 hL) (by decide) (RS_Z hR1 hF2) (Eqv_rf 0 _) hT hF3 rfl
  simp only [eC_28, eK_28_0, eK_28_2, eK_28_3, pw_aload_n, pw_bipush, pw_getfield, pw_goto, pw_iconst, pw_ifCond, pw_if_icmp, pw_iinc, pw_iload_n, pw_invokevirtual, pw_ireturn, pw_istore_n, pw_nop0, pw_putfield, pw_sipush, mm_pI_c, mm_pL_c, mm_pA_c, mm_pR_c, mm_p1_i, mm_p1_r, mm_pN_0, mm_pN_s, mm_lI_c, mm_lL_c, mm_lA_c, mm_wd_n, mm_wd_i, mm_wd_l, mm_wd_r, mm_gf_i, mm_gf_b, mm_gf_r, mm_rf_c, mm_pf_i, mm_pf_b, mm_pf_r, mm_rt_v, mm_rt_i, mm_rt_r, mm_c_eq, mm_c_ne, mm_c_lt, mm_c_ge, mm_c_gt, mm_c_le, mm_sw_n, mm_sw_c, mm_alc_n, mm_alc_c, mm_rc_n, mm_rc_c, reduceCtorEq, false_implies, implies_true, true_implies, true_or, or_true, false_or, or_false, not_false_eq_true, mm_at_0, mm_at_s, mm_set_0, mm_set_s, mm_nl_n, mm_nl_i, mm_nl_r, mm_args_n, mm_args_i, mm_args_l, mm_args_r, mm_pad_0, mm_pad_n, mm_pad_c, List.length_cons, List.length_nil, List.nil_append, List.cons_append, Nat.zero_le, Nat.sub_zero, true_and, and_true, Nat.reduceAdd, Nat.reduceLeDiff, Nat.reduceLT, Nat.reduceSub, Nat.lt_irrefl, Nat.zero_add, Nat.add_zero, k_20, k_10, k_01, mm_if_T, mm_if_F, not_true_eq_false, not_false_eq_true, e_9]
  exact key

