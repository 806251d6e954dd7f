/-! THE CLASS: what is noted; letters; counts -/
theorem RX_I {M : mm_M} {s n : Nat} {X : Sx} (h : RX M s n X) {c i k : Nat} {v : Int32} (hc : ¬ c = 2 ∧ ¬ c = 4) : RX (mm_sI M c i k v) s n X := by
  obtain ⟨h1, h2, h3, h4, h5⟩ := h
  exact ⟨by rw [mm_I_c (by omega)]; exact h1, by rw [mm_I_c (by omega)]; exact h2, by rw [mm_I_c (by omega)]; exact h3, by rw [mm_I_c (by omega)]; exact h4, fun w hw k hk => by rw [mm_I_c (by omega)]; exact h5 w hw k hk⟩
theorem I1_I {M : mm_M} {n : Nat} {X : Sx} {a : Nat} {P : Nat → Sx} {b : Nat} {K : Nat → Sx} (h : I1 M n X a P b K) {c i k : Nat} {v : Int32} (hc : ¬ c = 2 ∧ ¬ c = 4 ∧ ¬ c = 5) : I1 (mm_sI M c i k v) n X a P b K := by
  obtain ⟨ps, hC, hn, hR0, hW0, ha, ha2, hP, hb, hb2, hK⟩ := h
  exact ⟨ps, LyC_2 (M := M) rfl hC, hn, RX_I hR0 (by omega), hW0, ha, by rw [mm_I_c (by omega)]; exact ha2, fun i hi => ⟨RX_I (hP i hi).1 (by omega), (hP i hi).2⟩, hb, by rw [mm_I_c (by omega)]; exact hb2, fun i hi => ⟨RX_I (hK i hi).1 (by omega), (hK i hi).2⟩⟩
theorem I1_ly {M : mm_M} {n : Nat} {X : Sx} {a : Nat} {P : Nat → Sx} {b : Nat} {K : Nat → Sx} (h : I1 M n X a P b K) : ∃ ps, LyC M ps := by obtain ⟨ps, hC, -⟩ := h; exact ⟨ps, hC⟩
abbrev S6 : Type := Int32 × Nat × (Nat → Int32) × (Nat → Int32)
def fu (f : Nat → Int32) (k : Nat) (v : Int32) : Nat → Int32 := fun i => if i = k then v else f i
def T70 (q : Nat) (nx nl : Nat → Int32) (x l : Int32) : S6 := if (0 ≤ x ∧ x ≤ 40) ∧ (0 ≤ l ∧ l ≤ 99) then (if q < 6 then (nI (q + 1), q + 1, fu nx q x, fu nl q l) else (-3, q, nx, nl)) else (-1, q, nx, nl)
def T49 (t : Nat) (lt : Nat → Int32) (x : Int32) : Int32 × Nat × (Nat → Int32) := if 32 ≤ x ∧ x ≤ 126 then (if t < 200 then (nI (t + 1), t + 1, fu lt t x) else (-3, t, lt)) else (-1, t, lt)

set_option maxHeartbeats 4000000 in
theorem C70 (d : Nat) {n : Nat} {X : Sx} {a : Nat} {P : Nat → Sx} {b : Nat} {K : Nat → Sx} {q : Nat} {nx nl : Nat → Int32} {t : Nat} {lt : Nat → Int32} {M : mm_M} {post : mm_Post} (hI : I1 M n X a P b K) (hJ : I2 M q nx nl t lt) (x l : Int32) (h : ∀ M', I1 M' n X a P b K → I2 M' (T70 q nx nl x l).2.1 (T70 q nx nl x l).2.2.1 (T70 q nx nl x l).2.2.2 t lt → FC M M' → post (some (.inl (T70 q nx nl x l).1)) M') : pC (d + 3) 70 [.inr (.inr (5, 0)), .inl x, .inl l] M post := by
  obtain ⟨ps, hC⟩ := I1_ly hI
  obtain ⟨hS, c0, c1, c2, c3, c4, c5, c6, m0, m1, m2, k1, k2, ct, cn, cp0, hps, hpi⟩ := id hC
  obtain ⟨n1, n2, n3, n4⟩ := cn
  obtain ⟨j1, j2, j3, j4, j5, j6⟩ := id hJ
  by_cases hv : (0 ≤ x ∧ x ≤ 40) ∧ (0 ≤ l ∧ l ≤ 99)
  · by_cases hq : q < 6
    · have e : T70 q nx nl x l = (nI (q + 1), q + 1, fu nx q x, fu nl q l) := by unfold T70; rw [if_pos hv, if_pos hq]
      rw [e] at h
      dsimp only at h
      have hc : nI q < (6 : Int32) := nI_lt (b := 6) hq (by omega)
      have va : vp_in (nI q) 6 := vp_in_nI hq (by omega)
      have na : (nI q).toNatClampNeg = q := nI_clamp (by omega)
      have e8 : pC (d + 2) 5 [.inr (.inr (1, 0)), .inl x, .inl l] M = fun post => post (some (.inl 1)) (mm_sI (mm_sI (mm_sI M 7 2 q x) 7 3 q l) 1 0 2 (nI (q + 1))) := by
        funext post
        simp only [eC_5, eK_5_0, eK_5_1, pw_aload_n, pw_bipush, pw_dup, pw_getfield, pw_iadd, pw_iastore, pw_iconst, pw_if_icmp, pw_iload_n, pw_ireturn, pw_putfield, mm_pI_c, mm_pL_c, mm_pA_c, mm_pR_c, mm_p1_i, mm_p1_r, mm_pN_0, mm_pN_s, mm_lI_c, mm_lL_c, mm_lA_c, mm_wd_n, mm_wd_i, mm_wd_l, mm_wd_r, mm_gf_i, mm_gf_b, mm_gf_r, mm_rf_c, mm_pf_i, mm_pf_b, mm_pf_r, mm_rt_v, mm_rt_i, mm_rt_r, mm_c_eq, mm_c_ne, mm_c_lt, mm_c_ge, mm_c_gt, mm_c_le, mm_sw_n, mm_sw_c, mm_alc_n, mm_alc_c, mm_rc_n, mm_rc_c, reduceCtorEq, false_implies, implies_true, true_implies, true_or, or_true, false_or, or_false, not_false_eq_true, mm_at_0, mm_at_s, mm_set_0, mm_set_s, mm_nl_n, mm_nl_i, mm_nl_r, mm_args_n, mm_args_i, mm_args_l, mm_args_r, mm_pad_0, mm_pad_n, mm_pad_c, List.length_cons, List.length_nil, List.nil_append, List.cons_append, Nat.zero_le, Nat.sub_zero, true_and, and_true, Nat.reduceAdd, Nat.reduceLeDiff, Nat.reduceLT, Nat.reduceSub, Nat.lt_irrefl, Nat.zero_add, Nat.add_zero, k_20, k_10, k_01, mm_if_T, mm_if_F, not_true_eq_false, not_false_eq_true, j2, mm_if_t hc, n1, n2, n3, n4, va, na, nI_1, mm_R_sI, mm_L_sI, mm_I_c, mm_I_s, Nat.reduceEqDiff]
      simp only [eC_70, eK_70_0, eK_70_1, eK_70_2, eK_70_3, eK_70_4, pw_aload_n, pw_bipush, pw_getfield, pw_goto, pw_iconst, pw_ifCond, pw_iload_n, pw_invokestatic, pw_invokevirtual, pw_ireturn, pw_nop0, mm_pI_c, mm_pL_c, mm_pA_c, mm_pR_c, mm_p1_i, mm_p1_r, mm_pN_0, mm_pN_s, mm_lI_c, mm_lL_c, mm_lA_c, mm_wd_n, mm_wd_i, mm_wd_l, mm_wd_r, mm_gf_i, mm_gf_b, mm_gf_r, mm_rf_c, mm_pf_i, mm_pf_b, mm_pf_r, mm_rt_v, mm_rt_i, mm_rt_r, mm_c_eq, mm_c_ne, mm_c_lt, mm_c_ge, mm_c_gt, mm_c_le, mm_sw_n, mm_sw_c, mm_alc_n, mm_alc_c, mm_rc_n, mm_rc_c, reduceCtorEq, false_implies, implies_true, true_implies, true_or, or_true, false_or, or_false, not_false_eq_true, mm_at_0, mm_at_s, mm_set_0, mm_set_s, mm_nl_n, mm_nl_i, mm_nl_r, mm_args_n, mm_args_i, mm_args_l, mm_args_r, mm_pad_0, mm_pad_n, mm_pad_c, List.length_cons, List.length_nil, List.nil_append, List.cons_append, Nat.zero_le, Nat.sub_zero, true_and, and_true, Nat.reduceAdd, Nat.reduceLeDiff, Nat.reduceLT, Nat.reduceSub, Nat.lt_irrefl, Nat.zero_add, Nat.add_zero, k_20, k_10, k_01, mm_if_T, mm_if_F, not_true_eq_false, not_false_eq_true, t_80, t_82, tf_0, hv, c1, e8, mm_R_sI, mm_I_s]
      refine h _ (I1_I (I1_I (I1_I hI (by omega)) (by omega)) (by omega)) ⟨by omega, mm_I_s, fun i hi => ?_, j4, by rw [mm_I_c (by omega), mm_I_c (by omega), mm_I_c (by omega)]; exact j5, fun i hi => by rw [mm_I_c (by omega), mm_I_i (by omega), mm_I_i (by omega)]; exact j6 i hi⟩ (FC_I (FC_I (FC_I (FC_rf _) (by omega)) (by omega)) (by omega))
      simp only [mm_I_sI, fu]
      by_cases ei : i = q
      · simp [ei]
      · have := j3 i (by omega)
        simp [ei, this]
    · have e : T70 q nx nl x l = (-3, q, nx, nl) := by unfold T70; rw [if_pos hv, if_neg hq]
      rw [e] at h
      have e6 : q = 6 := by omega
      subst e6
      have hc : ¬ nI 6 < (6 : Int32) := by decide
      have e8 : pC (d + 2) 5 [.inr (.inr (1, 0)), .inl x, .inl l] M = fun post => post (some (.inl 0)) M := by
        funext post
        simp only [eC_5, eK_5_0, eK_5_1, pw_aload_n, pw_bipush, pw_dup, pw_getfield, pw_iadd, pw_iastore, pw_iconst, pw_if_icmp, pw_iload_n, pw_ireturn, pw_putfield, mm_pI_c, mm_pL_c, mm_pA_c, mm_pR_c, mm_p1_i, mm_p1_r, mm_pN_0, mm_pN_s, mm_lI_c, mm_lL_c, mm_lA_c, mm_wd_n, mm_wd_i, mm_wd_l, mm_wd_r, mm_gf_i, mm_gf_b, mm_gf_r, mm_rf_c, mm_pf_i, mm_pf_b, mm_pf_r, mm_rt_v, mm_rt_i, mm_rt_r, mm_c_eq, mm_c_ne, mm_c_lt, mm_c_ge, mm_c_gt, mm_c_le, mm_sw_n, mm_sw_c, mm_alc_n, mm_alc_c, mm_rc_n, mm_rc_c, reduceCtorEq, false_implies, implies_true, true_implies, true_or, or_true, false_or, or_false, not_false_eq_true, mm_at_0, mm_at_s, mm_set_0, mm_set_s, mm_nl_n, mm_nl_i, mm_nl_r, mm_args_n, mm_args_i, mm_args_l, mm_args_r, mm_pad_0, mm_pad_n, mm_pad_c, List.length_cons, List.length_nil, List.nil_append, List.cons_append, Nat.zero_le, Nat.sub_zero, true_and, and_true, Nat.reduceAdd, Nat.reduceLeDiff, Nat.reduceLT, Nat.reduceSub, Nat.lt_irrefl, Nat.zero_add, Nat.add_zero, k_20, k_10, k_01, mm_if_T, mm_if_F, not_true_eq_false, not_false_eq_true, j2, mm_if_f hc]
      simp only [eC_70, eK_70_0, eK_70_1, eK_70_2, eK_70_3, eK_70_4, pw_aload_n, pw_bipush, pw_getfield, pw_goto, pw_iconst, pw_ifCond, pw_iload_n, pw_invokestatic, pw_invokevirtual, pw_ireturn, pw_nop0, mm_pI_c, mm_pL_c, mm_pA_c, mm_pR_c, mm_p1_i, mm_p1_r, mm_pN_0, mm_pN_s, mm_lI_c, mm_lL_c, mm_lA_c, mm_wd_n, mm_wd_i, mm_wd_l, mm_wd_r, mm_gf_i, mm_gf_b, mm_gf_r, mm_rf_c, mm_pf_i, mm_pf_b, mm_pf_r, mm_rt_v, mm_rt_i, mm_rt_r, mm_c_eq, mm_c_ne, mm_c_lt, mm_c_ge, mm_c_gt, mm_c_le, mm_sw_n, mm_sw_c, mm_alc_n, mm_alc_c, mm_rc_n, mm_rc_c, reduceCtorEq, false_implies, implies_true, true_implies, true_or, or_true, false_or, or_false, not_false_eq_true, mm_at_0, mm_at_s, mm_set_0, mm_set_s, mm_nl_n, mm_nl_i, mm_nl_r, mm_args_n, mm_args_i, mm_args_l, mm_args_r, mm_pad_0, mm_pad_n, mm_pad_c, List.length_cons, List.length_nil, List.nil_append, List.cons_append, Nat.zero_le, Nat.sub_zero, true_and, and_true, Nat.reduceAdd, Nat.reduceLeDiff, Nat.reduceLT, Nat.reduceSub, Nat.lt_irrefl, Nat.zero_add, Nat.add_zero, k_20, k_10, k_01, mm_if_T, mm_if_F, not_true_eq_false, not_false_eq_true, t_80, t_82, tf_0, hv, c1, e8]
      exact h M hI hJ (FC_rf M)
  · have e : T70 q nx nl x l = (-1, q, nx, nl) := by unfold T70; rw [if_neg hv]
    rw [e] at h
    have hM := h M hI hJ (FC_rf M)
    simp only [eC_70, eK_70_0, eK_70_1, eK_70_2, eK_70_3, eK_70_4, pw_aload_n, pw_bipush, pw_getfield, pw_goto, pw_iconst, pw_ifCond, pw_iload_n, pw_invokestatic, pw_invokevirtual, pw_ireturn, pw_nop0, mm_pI_c, mm_pL_c, mm_pA_c, mm_pR_c, mm_p1_i, mm_p1_r, mm_pN_0, mm_pN_s, mm_lI_c, mm_lL_c, mm_lA_c, mm_wd_n, mm_wd_i, mm_wd_l, mm_wd_r, mm_gf_i, mm_gf_b, mm_gf_r, mm_rf_c, mm_pf_i, mm_pf_b, mm_pf_r, mm_rt_v, mm_rt_i, mm_rt_r, mm_c_eq, mm_c_ne, mm_c_lt, mm_c_ge, mm_c_gt, mm_c_le, mm_sw_n, mm_sw_c, mm_alc_n, mm_alc_c, mm_rc_n, mm_rc_c, reduceCtorEq, false_implies, implies_true, true_implies, true_or, or_true, false_or, or_false, not_false_eq_true, mm_at_0, mm_at_s, mm_set_0, mm_set_s, mm_nl_n, mm_nl_i, mm_nl_r, mm_args_n, mm_args_i, mm_args_l, mm_args_r, mm_pad_0, mm_pad_n, mm_pad_c, List.length_cons, List.length_nil, List.nil_append, List.cons_append, Nat.zero_le, Nat.sub_zero, true_and, and_true, Nat.reduceAdd, Nat.reduceLeDiff, Nat.reduceLT, Nat.reduceSub, Nat.lt_irrefl, Nat.zero_add, Nat.add_zero, k_20, k_10, k_01, mm_if_T, mm_if_F, not_true_eq_false, not_false_eq_true, t_80, t_82, tf_0, mm_if]
    grind

set_option maxHeartbeats 4000000 in
theorem C71 (d : Nat) {n : Nat} {X : Sx} {a : Nat} {P : Nat → Sx} {b : Nat} {K : Nat → Sx} {q : Nat} {nx nl : Nat → Int32} {t : Nat} {lt : Nat → Int32} {M : mm_M} {post : mm_Post} (hI : I1 M n X a P b K) (hJ : I2 M q nx nl t lt) (h : ∀ M', I1 M' n X a P b K → I2 M' 0 nx nl t lt → FC M M' → post (some (.inl (nI q))) M') : pC (d + 2) 71 [.inr (.inr (5, 0))] M post := by
  obtain ⟨ps, hC⟩ := I1_ly hI
  obtain ⟨hS, c0, c1, c2, c3, c4, c5, c6, m0, m1, m2, k1, k2, ct, cn, cp0, hps, hpi⟩ := id hC
  obtain ⟨j1, j2, j3, j4, j5, j6⟩ := id hJ
  have e8 : ∀ post, pC (d + 1) 6 [.inr (.inr (1, 0))] M post = post none (mm_sI M 1 0 2 0) := by
    intro post
    simp only [eC_6, eK_6_0, pw_aload_n, pw_iconst, pw_putfield, pw_return_, mm_pI_c, mm_pL_c, mm_pA_c, mm_pR_c, mm_p1_i, mm_p1_r, mm_pN_0, mm_pN_s, mm_lI_c, mm_lL_c, mm_lA_c, mm_wd_n, mm_wd_i, mm_wd_l, mm_wd_r, mm_gf_i, mm_gf_b, mm_gf_r, mm_rf_c, mm_pf_i, mm_pf_b, mm_pf_r, mm_rt_v, mm_rt_i, mm_rt_r, mm_c_eq, mm_c_ne, mm_c_lt, mm_c_ge, mm_c_gt, mm_c_le, mm_sw_n, mm_sw_c, mm_alc_n, mm_alc_c, mm_rc_n, mm_rc_c, reduceCtorEq, false_implies, implies_true, true_implies, true_or, or_true, false_or, or_false, not_false_eq_true, mm_at_0, mm_at_s, mm_set_0, mm_set_s, mm_nl_n, mm_nl_i, mm_nl_r, mm_args_n, mm_args_i, mm_args_l, mm_args_r, mm_pad_0, mm_pad_n, mm_pad_c, List.length_cons, List.length_nil, List.nil_append, List.cons_append, Nat.zero_le, Nat.sub_zero, true_and, and_true, Nat.reduceAdd, Nat.reduceLeDiff, Nat.reduceLT, Nat.reduceSub, Nat.lt_irrefl, Nat.zero_add, Nat.add_zero, k_20, k_10, k_01, mm_if_T, mm_if_F, not_true_eq_false, not_false_eq_true]
  simp only [eC_71, eK_71_0, pw_aload_n, pw_getfield, pw_iload_n, pw_invokevirtual, pw_ireturn, pw_istore_n, mm_pI_c, mm_pL_c, mm_pA_c, mm_pR_c, mm_p1_i, mm_p1_r, mm_pN_0, mm_pN_s, mm_lI_c, mm_lL_c, mm_lA_c, mm_wd_n, mm_wd_i, mm_wd_l, mm_wd_r, mm_gf_i, mm_gf_b, mm_gf_r, mm_rf_c, mm_pf_i, mm_pf_b, mm_pf_r, mm_rt_v, mm_rt_i, mm_rt_r, mm_c_eq, mm_c_ne, mm_c_lt, mm_c_ge, mm_c_gt, mm_c_le, mm_sw_n, mm_sw_c, mm_alc_n, mm_alc_c, mm_rc_n, mm_rc_c, reduceCtorEq, false_implies, implies_true, true_implies, true_or, or_true, false_or, or_false, not_false_eq_true, mm_at_0, mm_at_s, mm_set_0, mm_set_s, mm_nl_n, mm_nl_i, mm_nl_r, mm_args_n, mm_args_i, mm_args_l, mm_args_r, mm_pad_0, mm_pad_n, mm_pad_c, List.length_cons, List.length_nil, List.nil_append, List.cons_append, Nat.zero_le, Nat.sub_zero, true_and, and_true, Nat.reduceAdd, Nat.reduceLeDiff, Nat.reduceLT, Nat.reduceSub, Nat.lt_irrefl, Nat.zero_add, Nat.add_zero, k_20, k_10, k_01, mm_if_T, mm_if_F, not_true_eq_false, not_false_eq_true, c1, j2, e8]
  exact h _ (I1_I hI (by omega)) ⟨by omega, mm_I_s, fun i hi => absurd hi (Nat.not_lt_zero _), j4, by rw [mm_I_c (by omega)]; exact j5, fun i hi => by rw [mm_I_c (by omega)]; exact j6 i hi⟩ (FC_I (FC_rf _) (by omega))

set_option maxHeartbeats 4000000 in
theorem C50 (d : Nat) {n : Nat} {X : Sx} {a : Nat} {P : Nat → Sx} {b : Nat} {K : Nat → Sx} {q : Nat} {nx nl : Nat → Int32} {t : Nat} {lt : Nat → Int32} {M : mm_M} {post : mm_Post} (hI : I1 M n X a P b K) (hJ : I2 M q nx nl t lt) (h : ∀ M', I1 M' n X a P b K → I2 M' q nx nl 0 lt → FC M M' → post (some (.inl (nI t))) M') : pC (d + 2) 50 [.inr (.inr (5, 0))] M post := by
  obtain ⟨ps, hC⟩ := I1_ly hI
  obtain ⟨hS, c0, c1, c2, c3, c4, c5, c6, m0, m1, m2, k1, k2, ct, cn, cp0, hps, hpi⟩ := id hC
  obtain ⟨j1, j2, j3, j4, j5, j6⟩ := id hJ
  have e8 : ∀ post, pC (d + 1) 27 [.inr (.inr (3, 0))] M post = post none (mm_sI M 3 0 3 0) := by
    intro post
    simp only [eC_27, eK_27_0, pw_aload_n, pw_iconst, pw_putfield, pw_return_, mm_pI_c, mm_pL_c, mm_pA_c, mm_pR_c, mm_p1_i, mm_p1_r, mm_pN_0, mm_pN_s, mm_lI_c, mm_lL_c, mm_lA_c, mm_wd_n, mm_wd_i, mm_wd_l, mm_wd_r, mm_gf_i, mm_gf_b, mm_gf_r, mm_rf_c, mm_pf_i, mm_pf_b, mm_pf_r, mm_rt_v, mm_rt_i, mm_rt_r, mm_c_eq, mm_c_ne, mm_c_lt, mm_c_ge, mm_c_gt, mm_c_le, mm_sw_n, mm_sw_c, mm_alc_n, mm_alc_c, mm_rc_n, mm_rc_c, reduceCtorEq, false_implies, implies_true, true_implies, true_or, or_true, false_or, or_false, not_false_eq_true, mm_at_0, mm_at_s, mm_set_0, mm_set_s, mm_nl_n, mm_nl_i, mm_nl_r, mm_args_n, mm_args_i, mm_args_l, mm_args_r, mm_pad_0, mm_pad_n, mm_pad_c, List.length_cons, List.length_nil, List.nil_append, List.cons_append, Nat.zero_le, Nat.sub_zero, true_and, and_true, Nat.reduceAdd, Nat.reduceLeDiff, Nat.reduceLT, Nat.reduceSub, Nat.lt_irrefl, Nat.zero_add, Nat.add_zero, k_20, k_10, k_01, mm_if_T, mm_if_F, not_true_eq_false, not_false_eq_true]
  simp only [eC_50, eK_50_0, pw_aload_n, pw_getfield, pw_iload_n, pw_invokevirtual, pw_ireturn, pw_istore_n, mm_pI_c, mm_pL_c, mm_pA_c, mm_pR_c, mm_p1_i, mm_p1_r, mm_pN_0, mm_pN_s, mm_lI_c, mm_lL_c, mm_lA_c, mm_wd_n, mm_wd_i, mm_wd_l, mm_wd_r, mm_gf_i, mm_gf_b, mm_gf_r, mm_rf_c, mm_pf_i, mm_pf_b, mm_pf_r, mm_rt_v, mm_rt_i, mm_rt_r, mm_c_eq, mm_c_ne, mm_c_lt, mm_c_ge, mm_c_gt, mm_c_le, mm_sw_n, mm_sw_c, mm_alc_n, mm_alc_c, mm_rc_n, mm_rc_c, reduceCtorEq, false_implies, implies_true, true_implies, true_or, or_true, false_or, or_false, not_false_eq_true, mm_at_0, mm_at_s, mm_set_0, mm_set_s, mm_nl_n, mm_nl_i, mm_nl_r, mm_args_n, mm_args_i, mm_args_l, mm_args_r, mm_pad_0, mm_pad_n, mm_pad_c, List.length_cons, List.length_nil, List.nil_append, List.cons_append, Nat.zero_le, Nat.sub_zero, true_and, and_true, Nat.reduceAdd, Nat.reduceLeDiff, Nat.reduceLT, Nat.reduceSub, Nat.lt_irrefl, Nat.zero_add, Nat.add_zero, k_20, k_10, k_01, mm_if_T, mm_if_F, not_true_eq_false, not_false_eq_true, c0, j5, e8]
  exact h _ (I1_I hI (by omega)) ⟨j1, by rw [mm_I_c (by omega)]; exact j2, fun i hi => by rw [mm_I_c (by omega), mm_I_c (by omega)]; exact j3 i hi, by omega, mm_I_s, fun i hi => absurd hi (Nat.not_lt_zero _)⟩ (FC_I (FC_rf _) (by omega))

set_option maxHeartbeats 4000000 in
theorem e_26 (d : Nat) {ps : Nat → Nat} {M : mm_M} {post : mm_Post} {t : Nat} (hC : LyC M ps) (ht : t ≤ 200) (hl : mm_I M 3 0 3 = nI t) (x : Int32) : pC (d + 1) 26 [.inr (.inr (3, 0)), .inl x] M post = if t < 200 then post (some (.inl 1)) (mm_sI (mm_sI M 7 0 t x) 3 0 3 (nI (t + 1))) else post (some (.inl 0)) M := by
  obtain ⟨hS, c0, c1, c2, c3, c4, c5, c6, m0, m1, m2, k1, k2, ct, cn, cp0, hps, hpi⟩ := id hC
  obtain ⟨n1, n2, n3, n4⟩ := ct
  by_cases hq : t < 200
  · rw [if_pos hq]
    have hc : nI t < (200 : Int32) := nI_lt (b := 200) hq (by omega)
    have va : vp_in (nI t) 200 := vp_in_nI hq (by omega)
    have na : (nI t).toNatClampNeg = t := nI_clamp (by omega)
    simp only [eC_26, eK_26_0, eK_26_1, pw_aload_n, pw_dup, pw_getfield, pw_iadd, pw_iastore, pw_iconst, pw_if_icmp, pw_iload_n, pw_ireturn, pw_putfield, pw_sipush, mm_pI_c, mm_pL_c, mm_pA_c, mm_pR_c, mm_p1_i, mm_p1_r, mm_pN_0, mm_pN_s, mm_lI_c, mm_lL_c, mm_lA_c, mm_wd_n, mm_wd_i, mm_wd_l, mm_wd_r, mm_gf_i, mm_gf_b, mm_gf_r, mm_rf_c, mm_pf_i, mm_pf_b, mm_pf_r, mm_rt_v, mm_rt_i, mm_rt_r, mm_c_eq, mm_c_ne, mm_c_lt, mm_c_ge, mm_c_gt, mm_c_le, mm_sw_n, mm_sw_c, mm_alc_n, mm_alc_c, mm_rc_n, mm_rc_c, reduceCtorEq, false_implies, implies_true, true_implies, true_or, or_true, false_or, or_false, not_false_eq_true, mm_at_0, mm_at_s, mm_set_0, mm_set_s, mm_nl_n, mm_nl_i, mm_nl_r, mm_args_n, mm_args_i, mm_args_l, mm_args_r, mm_pad_0, mm_pad_n, mm_pad_c, List.length_cons, List.length_nil, List.nil_append, List.cons_append, Nat.zero_le, Nat.sub_zero, true_and, and_true, Nat.reduceAdd, Nat.reduceLeDiff, Nat.reduceLT, Nat.reduceSub, Nat.lt_irrefl, Nat.zero_add, Nat.add_zero, k_20, k_10, k_01, mm_if_T, mm_if_F, not_true_eq_false, not_false_eq_true, hl, mm_if_t hc, n1, n2, n3, n4, va, na, nI_1, mm_R_sI, mm_L_sI, mm_I_c, mm_I_s, Nat.reduceEqDiff]
  · rw [if_neg hq]
    have e6 : t = 200 := by omega
    subst e6
    have hc : ¬ nI 200 < (200 : Int32) := by decide
    simp only [eC_26, eK_26_0, eK_26_1, pw_aload_n, pw_dup, pw_getfield, pw_iadd, pw_iastore, pw_iconst, pw_if_icmp, pw_iload_n, pw_ireturn, pw_putfield, pw_sipush, mm_pI_c, mm_pL_c, mm_pA_c, mm_pR_c, mm_p1_i, mm_p1_r, mm_pN_0, mm_pN_s, mm_lI_c, mm_lL_c, mm_lA_c, mm_wd_n, mm_wd_i, mm_wd_l, mm_wd_r, mm_gf_i, mm_gf_b, mm_gf_r, mm_rf_c, mm_pf_i, mm_pf_b, mm_pf_r, mm_rt_v, mm_rt_i, mm_rt_r, mm_c_eq, mm_c_ne, mm_c_lt, mm_c_ge, mm_c_gt, mm_c_le, mm_sw_n, mm_sw_c, mm_alc_n, mm_alc_c, mm_rc_n, mm_rc_c, reduceCtorEq, false_implies, implies_true, true_implies, true_or, or_true, false_or, or_false, not_false_eq_true, mm_at_0, mm_at_s, mm_set_0, mm_set_s, mm_nl_n, mm_nl_i, mm_nl_r, mm_args_n, mm_args_i, mm_args_l, mm_args_r, mm_pad_0, mm_pad_n, mm_pad_c, List.length_cons, List.length_nil, List.nil_append, List.cons_append, Nat.zero_le, Nat.sub_zero, true_and, and_true, Nat.reduceAdd, Nat.reduceLeDiff, Nat.reduceLT, Nat.reduceSub, Nat.lt_irrefl, Nat.zero_add, Nat.add_zero, k_20, k_10, k_01, mm_if_T, mm_if_F, not_true_eq_false, not_false_eq_true, hl, mm_if_f hc]

set_option maxHeartbeats 4000000 in
theorem C49 (d : Nat) {n : Nat} {X : Sx} {a : Nat} {P : Nat → Sx} {b : Nat} {K : Nat → Sx} {q : Nat} {nx nl : Nat → Int32} {t : Nat} {lt : Nat → Int32} {M : mm_M} {post : mm_Post} (hI : I1 M n X a P b K) (hJ : I2 M q nx nl t lt) (x : Int32) (h : ∀ M', I1 M' n X a P b K → I2 M' q nx nl (T49 t lt x).2.1 (T49 t lt x).2.2 → FC M M' → post (some (.inl (T49 t lt x).1)) M') : pC (d + 2) 49 [.inr (.inr (5, 0)), .inl x] M post := by
  obtain ⟨ps, hC⟩ := I1_ly hI
  obtain ⟨hS, c0, c1, c2, c3, c4, c5, c6, m0, m1, m2, k1, k2, ct, cn, cp0, hps, hpi⟩ := id hC
  obtain ⟨j1, j2, j3, j4, j5, j6⟩ := id hJ
  by_cases hv : 32 ≤ x ∧ x ≤ 126
  · by_cases hq : t < 200
    · have e : T49 t lt x = (nI (t + 1), t + 1, fu lt t x) := by unfold T49; rw [if_pos hv, if_pos hq]
      rw [e] at h
      dsimp only at h
      simp only [eC_49, eK_49_0, eK_49_1, eK_49_2, eK_49_3, pw_aload_n, pw_bipush, pw_getfield, pw_goto, pw_iconst, pw_ifCond, pw_iload_n, pw_invokestatic, pw_invokevirtual, pw_ireturn, pw_nop0, mm_pI_c, mm_pL_c, mm_pA_c, mm_pR_c, mm_p1_i, mm_p1_r, mm_pN_0, mm_pN_s, mm_lI_c, mm_lL_c, mm_lA_c, mm_wd_n, mm_wd_i, mm_wd_l, mm_wd_r, mm_gf_i, mm_gf_b, mm_gf_r, mm_rf_c, mm_pf_i, mm_pf_b, mm_pf_r, mm_rt_v, mm_rt_i, mm_rt_r, mm_c_eq, mm_c_ne, mm_c_lt, mm_c_ge, mm_c_gt, mm_c_le, mm_sw_n, mm_sw_c, mm_alc_n, mm_alc_c, mm_rc_n, mm_rc_c, reduceCtorEq, false_implies, implies_true, true_implies, true_or, or_true, false_or, or_false, not_false_eq_true, mm_at_0, mm_at_s, mm_set_0, mm_set_s, mm_nl_n, mm_nl_i, mm_nl_r, mm_args_n, mm_args_i, mm_args_l, mm_args_r, mm_pad_0, mm_pad_n, mm_pad_c, List.length_cons, List.length_nil, List.nil_append, List.cons_append, Nat.zero_le, Nat.sub_zero, true_and, and_true, Nat.reduceAdd, Nat.reduceLeDiff, Nat.reduceLT, Nat.reduceSub, Nat.lt_irrefl, Nat.zero_add, Nat.add_zero, k_20, k_10, k_01, mm_if_T, mm_if_F, not_true_eq_false, not_false_eq_true, t_82, tf_0, hv, c0, e_26 d hC j4 j5, hq, if_true, mm_R_sI, mm_I_s]
      refine h _ (I1_I (I1_I hI (by omega)) (by omega)) ⟨j1, by rw [mm_I_c (by omega), mm_I_c (by omega)]; exact j2, fun i hi => by rw [mm_I_c (by omega), mm_I_i (by omega), mm_I_c (by omega), mm_I_i (by omega)]; exact j3 i hi, by omega, mm_I_s, fun i hi => ?_⟩ (FC_I (FC_I (FC_rf _) (by omega)) (by omega))
      rw [mm_I_c (by omega), mm_I_sI]
      unfold fu
      by_cases ei : i = t
      · subst ei; simp
      · simp [ei, j6 i (by omega)]
    · have e : T49 t lt x = (-3, t, lt) := by unfold T49; rw [if_pos hv, if_neg hq]
      rw [e] at h
      simp only [eC_49, eK_49_0, eK_49_1, eK_49_2, eK_49_3, pw_aload_n, pw_bipush, pw_getfield, pw_goto, pw_iconst, pw_ifCond, pw_iload_n, pw_invokestatic, pw_invokevirtual, pw_ireturn, pw_nop0, mm_pI_c, mm_pL_c, mm_pA_c, mm_pR_c, mm_p1_i, mm_p1_r, mm_pN_0, mm_pN_s, mm_lI_c, mm_lL_c, mm_lA_c, mm_wd_n, mm_wd_i, mm_wd_l, mm_wd_r, mm_gf_i, mm_gf_b, mm_gf_r, mm_rf_c, mm_pf_i, mm_pf_b, mm_pf_r, mm_rt_v, mm_rt_i, mm_rt_r, mm_c_eq, mm_c_ne, mm_c_lt, mm_c_ge, mm_c_gt, mm_c_le, mm_sw_n, mm_sw_c, mm_alc_n, mm_alc_c, mm_rc_n, mm_rc_c, reduceCtorEq, false_implies, implies_true, true_implies, true_or, or_true, false_or, or_false, not_false_eq_true, mm_at_0, mm_at_s, mm_set_0, mm_set_s, mm_nl_n, mm_nl_i, mm_nl_r, mm_args_n, mm_args_i, mm_args_l, mm_args_r, mm_pad_0, mm_pad_n, mm_pad_c, List.length_cons, List.length_nil, List.nil_append, List.cons_append, Nat.zero_le, Nat.sub_zero, true_and, and_true, Nat.reduceAdd, Nat.reduceLeDiff, Nat.reduceLT, Nat.reduceSub, Nat.lt_irrefl, Nat.zero_add, Nat.add_zero, k_20, k_10, k_01, mm_if_T, mm_if_F, not_true_eq_false, not_false_eq_true, t_82, tf_0, hv, c0, e_26 d hC j4 j5, hq, if_false]
      exact h M hI hJ (FC_rf M)
  · have e : T49 t lt x = (-1, t, lt) := by unfold T49; rw [if_neg hv]
    rw [e] at h
    simp only [eC_49, eK_49_0, eK_49_1, eK_49_2, eK_49_3, pw_aload_n, pw_bipush, pw_getfield, pw_goto, pw_iconst, pw_ifCond, pw_iload_n, pw_invokestatic, pw_invokevirtual, pw_ireturn, pw_nop0, mm_pI_c, mm_pL_c, mm_pA_c, mm_pR_c, mm_p1_i, mm_p1_r, mm_pN_0, mm_pN_s, mm_lI_c, mm_lL_c, mm_lA_c, mm_wd_n, mm_wd_i, mm_wd_l, mm_wd_r, mm_gf_i, mm_gf_b, mm_gf_r, mm_rf_c, mm_pf_i, mm_pf_b, mm_pf_r, mm_rt_v, mm_rt_i, mm_rt_r, mm_c_eq, mm_c_ne, mm_c_lt, mm_c_ge, mm_c_gt, mm_c_le, mm_sw_n, mm_sw_c, mm_alc_n, mm_alc_c, mm_rc_n, mm_rc_c, reduceCtorEq, false_implies, implies_true, true_implies, true_or, or_true, false_or, or_false, not_false_eq_true, mm_at_0, mm_at_s, mm_set_0, mm_set_s, mm_nl_n, mm_nl_i, mm_nl_r, mm_args_n, mm_args_i, mm_args_l, mm_args_r, mm_pad_0, mm_pad_n, mm_pad_c, List.length_cons, List.length_nil, List.nil_append, List.cons_append, Nat.zero_le, Nat.sub_zero, true_and, and_true, Nat.reduceAdd, Nat.reduceLeDiff, Nat.reduceLT, Nat.reduceSub, Nat.lt_irrefl, Nat.zero_add, Nat.add_zero, k_20, k_10, k_01, mm_if_T, mm_if_F, not_true_eq_false, not_false_eq_true, t_82, tf_0, hv]
    exact h M hI hJ (FC_rf M)

