/-! THE CLASS: streets kept; what is noted; letters -/
def T76 (X : Sx) (b : Nat) (K : Nat → Sx) : Int32 × Nat × (Nat → Sx) := if b < 2 then (nI (b + 1), b + 1, fun i => if i = b then X else K i) else (-3, b, K)
def T77 (X : Sx) (a b : Nat) (K : Nat → Sx) : Int32 × Sx × Nat × Nat := if 1 ≤ b then (nI (b - 1), K (b - 1), 0, b - 1) else (-2, X, a, b)

set_option maxHeartbeats 4000000 in
theorem C76 (d : Nat) {n : Nat} {X : Sx} {a : Nat} {P : Nat → Sx} {b : Nat} {K : Nat → Sx} {M : mm_M} {post : mm_Post} (hI : I1 M n X a P b K) (h : ∀ M', I1 M' n X a P (T76 X b K).2.1 (T76 X b K).2.2 → FX M M' → post (some (.inl (T76 X b K).1)) M') : pC (d + 3) 76 [.inr (.inr (5, 0))] M post := by
  obtain ⟨ps, hC, hn, hR, hW, ha, ha2, hP, hb, hb2, hK⟩ := id hI
  obtain ⟨hS, c0, c1, c2, c3, c4, c5, c6, m0, m1, m2, k1, k2, ct, cn, cp0, hps, hpi⟩ := id hC
  by_cases hval : b < 2
  · have e : T76 X b K = (nI (b + 1), b + 1, fun i => if i = b then X else K i) := if_pos hval
    rw [e] at h
    dsimp only at h
    have hc : nI b < (2 : Int32) := nI_lt (b := 2) hval (by omega)
    have va : vp_in (nI b) 2 := vp_in_nI (by omega) (by omega)
    have na : (nI b).toNatClampNeg = b := nI_clamp (by omega)
    have hka := k1 b hval
    simp only [eC_76, eK_76_0, eK_76_1, pw_aaload, pw_aload_n, pw_bipush, pw_dup, pw_getfield, pw_iadd, pw_iconst, pw_if_icmp, pw_invokevirtual, pw_ireturn, pw_putfield, mm_pI_c, mm_pL_c, mm_pA_c, mm_pR_c, mm_p1_i, mm_p1_r, mm_pN_0, mm_pN_s, mm_lI_c, mm_lL_c, mm_lA_c, mm_wd_n, mm_wd_i, mm_wd_l, mm_wd_r, mm_gf_i, mm_gf_b, mm_gf_r, mm_rf_c, mm_pf_i, mm_pf_b, mm_pf_r, mm_rt_v, mm_rt_i, mm_rt_r, mm_c_eq, mm_c_ne, mm_c_lt, mm_c_ge, mm_c_gt, mm_c_le, mm_sw_n, mm_sw_c, mm_alc_n, mm_alc_c, mm_rc_n, mm_rc_c, reduceCtorEq, false_implies, implies_true, true_implies, true_or, or_true, false_or, or_false, not_false_eq_true, mm_at_0, mm_at_s, mm_set_0, mm_set_s, mm_nl_n, mm_nl_i, mm_nl_r, mm_args_n, mm_args_i, mm_args_l, mm_args_r, mm_pad_0, mm_pad_n, mm_pad_c, List.length_cons, List.length_nil, List.nil_append, List.cons_append, Nat.zero_le, Nat.sub_zero, true_and, and_true, Nat.reduceAdd, Nat.reduceLeDiff, Nat.reduceLT, Nat.reduceSub, Nat.lt_irrefl, Nat.zero_add, Nat.add_zero, k_20, k_10, k_01, mm_if_T, mm_if_F, not_true_eq_false, not_false_eq_true, hb2, mm_if_t hc, c3, c5, m1, va, na, hka]
    refine t_10 (d := d) (s := 9 + b) (s' := 0) (by omega) (by omega) (by omega) hn hS hR (fun w hw => (hW w hw).2.2.1) (fun M' hR' hF' => ?_)
    have z8 : mm_I M' 5 0 8 = nI b := by rw [FS_5 hF']; exact hb2
    simp only [eC_76, eK_76_0, eK_76_1, pw_aaload, pw_aload_n, pw_bipush, pw_dup, pw_getfield, pw_iadd, pw_iconst, pw_if_icmp, pw_invokevirtual, pw_ireturn, pw_putfield, mm_pI_c, mm_pL_c, mm_pA_c, mm_pR_c, mm_p1_i, mm_p1_r, mm_pN_0, mm_pN_s, mm_lI_c, mm_lL_c, mm_lA_c, mm_wd_n, mm_wd_i, mm_wd_l, mm_wd_r, mm_gf_i, mm_gf_b, mm_gf_r, mm_rf_c, mm_pf_i, mm_pf_b, mm_pf_r, mm_rt_v, mm_rt_i, mm_rt_r, mm_c_eq, mm_c_ne, mm_c_lt, mm_c_ge, mm_c_gt, mm_c_le, mm_sw_n, mm_sw_c, mm_alc_n, mm_alc_c, mm_rc_n, mm_rc_c, reduceCtorEq, false_implies, implies_true, true_implies, true_or, or_true, false_or, or_false, not_false_eq_true, mm_at_0, mm_at_s, mm_set_0, mm_set_s, mm_nl_n, mm_nl_i, mm_nl_r, mm_args_n, mm_args_i, mm_args_l, mm_args_r, mm_pad_0, mm_pad_n, mm_pad_c, List.length_cons, List.length_nil, List.nil_append, List.cons_append, Nat.zero_le, Nat.sub_zero, true_and, and_true, Nat.reduceAdd, Nat.reduceLeDiff, Nat.reduceLT, Nat.reduceSub, Nat.lt_irrefl, Nat.zero_add, Nat.add_zero, k_20, k_10, k_01, mm_if_T, mm_if_F, not_true_eq_false, not_false_eq_true, z8, nI_1, mm_I_s]
    refine h _ ⟨ps, LyC_2 (show (mm_sI M' 5 0 8 (nI (b + 1))).2 = M.2 from hF'.1) hC, hn, RX_5 (RX_F hR hF' (by omega) hn) _ _, hW, ha, by rw [mm_I_k (by decide), FS_5 hF']; exact ha2, fun i hi => ⟨RX_5 (RX_F (hP i hi).1 hF' (by have := hps i (by omega); omega) hn) _ _, (hP i hi).2⟩, by omega, mm_I_s, fun i hi => ?_⟩ (FX_5 (FX_S hF'))
    by_cases ei : i = b
    · subst ei
      simp only [if_true]
      exact ⟨RX_5 hR' _ _, hW⟩
    · simp only [ei, if_false]
      exact ⟨RX_5 (RX_F (hK i (by omega)).1 hF' (by omega) hn) _ _, (hK i (by omega)).2⟩
  · have e : T76 X b K = (-3, b, K) := if_neg hval
    rw [e] at h
    dsimp only at h
    have e0 : b = 2 := by omega
    subst e0
    have hc : ¬ nI 2 < (2 : Int32) := by decide
    simp only [eC_76, eK_76_0, eK_76_1, pw_aaload, pw_aload_n, pw_bipush, pw_dup, pw_getfield, pw_iadd, pw_iconst, pw_if_icmp, pw_invokevirtual, pw_ireturn, pw_putfield, mm_pI_c, mm_pL_c, mm_pA_c, mm_pR_c, mm_p1_i, mm_p1_r, mm_pN_0, mm_pN_s, mm_lI_c, mm_lL_c, mm_lA_c, mm_wd_n, mm_wd_i, mm_wd_l, mm_wd_r, mm_gf_i, mm_gf_b, mm_gf_r, mm_rf_c, mm_pf_i, mm_pf_b, mm_pf_r, mm_rt_v, mm_rt_i, mm_rt_r, mm_c_eq, mm_c_ne, mm_c_lt, mm_c_ge, mm_c_gt, mm_c_le, mm_sw_n, mm_sw_c, mm_alc_n, mm_alc_c, mm_rc_n, mm_rc_c, reduceCtorEq, false_implies, implies_true, true_implies, true_or, or_true, false_or, or_false, not_false_eq_true, mm_at_0, mm_at_s, mm_set_0, mm_set_s, mm_nl_n, mm_nl_i, mm_nl_r, mm_args_n, mm_args_i, mm_args_l, mm_args_r, mm_pad_0, mm_pad_n, mm_pad_c, List.length_cons, List.length_nil, List.nil_append, List.cons_append, Nat.zero_le, Nat.sub_zero, true_and, and_true, Nat.reduceAdd, Nat.reduceLeDiff, Nat.reduceLT, Nat.reduceSub, Nat.lt_irrefl, Nat.zero_add, Nat.add_zero, k_20, k_10, k_01, mm_if_T, mm_if_F, not_true_eq_false, not_false_eq_true, hb2, mm_if_f hc]
    exact h M hI (FX_rf M)

set_option maxHeartbeats 4000000 in
theorem C77 (d : Nat) {n : Nat} {X : Sx} {a : Nat} {P : Nat → Sx} {b : Nat} {K : Nat → Sx} {M : mm_M} {post : mm_Post} (hI : I1 M n X a P b K) (h : ∀ M', I1 M' n (T77 X a b K).2.1 (T77 X a b K).2.2.1 P (T77 X a b K).2.2.2 K → FX M M' → post (some (.inl (T77 X a b K).1)) M') : pC (d + 3) 77 [.inr (.inr (5, 0))] M post := by
  obtain ⟨ps, hC, hn, hR, hW, ha, ha2, hP, hb, hb2, hK⟩ := id hI
  obtain ⟨hS, c0, c1, c2, c3, c4, c5, c6, m0, m1, m2, k1, k2, ct, cn, cp0, hps, hpi⟩ := id hC
  by_cases hval : 1 ≤ b
  · have e : T77 X a b K = (nI (b - 1), K (b - 1), 0, b - 1) := if_pos hval
    rw [e] at h
    dsimp only at h
    have hc : (1 : Int32) ≤ nI b := nI_le (a := 1) hval (by omega)
    have e1 : nI b - 1 = nI (b - 1) := nI_m1 (by omega)
    have va : vp_in (nI (b - 1)) 2 := vp_in_nI (by omega) (by omega)
    have na : (nI (b - 1)).toNatClampNeg = b - 1 := nI_clamp (by omega)
    have hka := k1 (b - 1) (by omega)
    obtain ⟨hKa, hWa⟩ := hK (b - 1) (by omega)
    have hRa : RX (mm_sI M 5 0 8 (nI (b - 1))) (9 + (b - 1)) n (K (b - 1)) := RX_5 hKa _ _
    simp only [eC_77, eK_77_0, eK_77_1, pw_aaload, pw_aload_n, pw_bipush, pw_dup, pw_getfield, pw_iconst, pw_if_icmp, pw_invokevirtual, pw_ireturn, pw_isub, pw_putfield, mm_pI_c, mm_pL_c, mm_pA_c, mm_pR_c, mm_p1_i, mm_p1_r, mm_pN_0, mm_pN_s, mm_lI_c, mm_lL_c, mm_lA_c, mm_wd_n, mm_wd_i, mm_wd_l, mm_wd_r, mm_gf_i, mm_gf_b, mm_gf_r, mm_rf_c, mm_pf_i, mm_pf_b, mm_pf_r, mm_rt_v, mm_rt_i, mm_rt_r, mm_c_eq, mm_c_ne, mm_c_lt, mm_c_ge, mm_c_gt, mm_c_le, mm_sw_n, mm_sw_c, mm_alc_n, mm_alc_c, mm_rc_n, mm_rc_c, reduceCtorEq, false_implies, implies_true, true_implies, true_or, or_true, false_or, or_false, not_false_eq_true, mm_at_0, mm_at_s, mm_set_0, mm_set_s, mm_nl_n, mm_nl_i, mm_nl_r, mm_args_n, mm_args_i, mm_args_l, mm_args_r, mm_pad_0, mm_pad_n, mm_pad_c, List.length_cons, List.length_nil, List.nil_append, List.cons_append, Nat.zero_le, Nat.sub_zero, true_and, and_true, Nat.reduceAdd, Nat.reduceLeDiff, Nat.reduceLT, Nat.reduceSub, Nat.lt_irrefl, Nat.zero_add, Nat.add_zero, k_20, k_10, k_01, mm_if_T, mm_if_F, not_true_eq_false, not_false_eq_true, hb2, mm_if_t hc, e1, c3, c5, m1, va, na, hka, mm_I_s, mm_R_sI, mm_L_sI]
    refine t_10 (d := d) (M := mm_sI M 5 0 8 (nI (b - 1))) (s := 0) (s' := 9 + (b - 1)) (by omega) (by omega) (by omega) hn (LyS_2 rfl hS) hRa (fun w hw => (hWa w hw).2.2.1) (fun M' hR' hF' => ?_)
    have z8 : mm_I M' 5 0 8 = nI (b - 1) := by rw [FS_5 hF']; exact mm_I_s
    simp only [eC_77, eK_77_0, eK_77_1, pw_aaload, pw_aload_n, pw_bipush, pw_dup, pw_getfield, pw_iconst, pw_if_icmp, pw_invokevirtual, pw_ireturn, pw_isub, pw_putfield, mm_pI_c, mm_pL_c, mm_pA_c, mm_pR_c, mm_p1_i, mm_p1_r, mm_pN_0, mm_pN_s, mm_lI_c, mm_lL_c, mm_lA_c, mm_wd_n, mm_wd_i, mm_wd_l, mm_wd_r, mm_gf_i, mm_gf_b, mm_gf_r, mm_rf_c, mm_pf_i, mm_pf_b, mm_pf_r, mm_rt_v, mm_rt_i, mm_rt_r, mm_c_eq, mm_c_ne, mm_c_lt, mm_c_ge, mm_c_gt, mm_c_le, mm_sw_n, mm_sw_c, mm_alc_n, mm_alc_c, mm_rc_n, mm_rc_c, reduceCtorEq, false_implies, implies_true, true_implies, true_or, or_true, false_or, or_false, not_false_eq_true, mm_at_0, mm_at_s, mm_set_0, mm_set_s, mm_nl_n, mm_nl_i, mm_nl_r, mm_args_n, mm_args_i, mm_args_l, mm_args_r, mm_pad_0, mm_pad_n, mm_pad_c, List.length_cons, List.length_nil, List.nil_append, List.cons_append, Nat.zero_le, Nat.sub_zero, true_and, and_true, Nat.reduceAdd, Nat.reduceLeDiff, Nat.reduceLT, Nat.reduceSub, Nat.lt_irrefl, Nat.zero_add, Nat.add_zero, k_20, k_10, k_01, mm_if_T, mm_if_F, not_true_eq_false, not_false_eq_true, z8, mm_I_k, mm_I_c, mm_I_s, mm_R_sI, mm_L_sI, mm_N_sI, Nat.reduceEqDiff, not_false_eq_true, ne_eq]
    have hI1 : I1 (mm_sI M 5 0 8 (nI (b - 1))) n X a P (b - 1) K := ⟨ps, LyC_2 (M := M) rfl hC, hn, RX_5 hR _ _, hW, ha, by rw [mm_I_k (by decide)]; exact ha2, fun i hi => ⟨RX_5 (hP i hi).1 _ _, (hP i hi).2⟩, by omega, mm_I_s, fun i hi => ⟨RX_5 (hK i (by omega)).1 _ _, (hK i (by omega)).2⟩⟩
    obtain ⟨ps2, hC2, hn2, hR2, hW2, ha3, ha4, hP2, hb3, hb4, hK2⟩ := I1_now hI1 hR' hF' hWa
    exact h _ ⟨ps2, LyC_2 (M := M') rfl hC2, hn2, RX_5 hR2 _ _, hW2, by omega, mm_I_s, fun i hi => absurd hi (Nat.not_lt_zero _), hb3, by rw [mm_I_k (by decide)]; exact hb4, fun i hi => ⟨RX_5 (hK2 i hi).1 _ _, (hK2 i hi).2⟩⟩ (FX_5 (FX_tr (FX_5 (FX_rf _)) (FX_S hF')))
  · have e : T77 X a b K = (-2, X, a, b) := if_neg hval
    rw [e] at h
    dsimp only at h
    have e0 : b = 0 := by omega
    subst e0
    have hc : ¬ (1 : Int32) ≤ nI 0 := by decide
    simp only [eC_77, eK_77_0, eK_77_1, pw_aaload, pw_aload_n, pw_bipush, pw_dup, pw_getfield, pw_iconst, pw_if_icmp, pw_invokevirtual, pw_ireturn, pw_isub, pw_putfield, mm_pI_c, mm_pL_c, mm_pA_c, mm_pR_c, mm_p1_i, mm_p1_r, mm_pN_0, mm_pN_s, mm_lI_c, mm_lL_c, mm_lA_c, mm_wd_n, mm_wd_i, mm_wd_l, mm_wd_r, mm_gf_i, mm_gf_b, mm_gf_r, mm_rf_c, mm_pf_i, mm_pf_b, mm_pf_r, mm_rt_v, mm_rt_i, mm_rt_r, mm_c_eq, mm_c_ne, mm_c_lt, mm_c_ge, mm_c_gt, mm_c_le, mm_sw_n, mm_sw_c, mm_alc_n, mm_alc_c, mm_rc_n, mm_rc_c, reduceCtorEq, false_implies, implies_true, true_implies, true_or, or_true, false_or, or_false, not_false_eq_true, mm_at_0, mm_at_s, mm_set_0, mm_set_s, mm_nl_n, mm_nl_i, mm_nl_r, mm_args_n, mm_args_i, mm_args_l, mm_args_r, mm_pad_0, mm_pad_n, mm_pad_c, List.length_cons, List.length_nil, List.nil_append, List.cons_append, Nat.zero_le, Nat.sub_zero, true_and, and_true, Nat.reduceAdd, Nat.reduceLeDiff, Nat.reduceLT, Nat.reduceSub, Nat.lt_irrefl, Nat.zero_add, Nat.add_zero, k_20, k_10, k_01, mm_if_T, mm_if_F, not_true_eq_false, not_false_eq_true, hb2, mm_if_f hc]
    exact h M hI (FX_rf M)

/-- the first day of at most 60 on which w is forgiven; k: how many are left to be looked at -/
def g_fo (n : Nat) (X : Sx) (w : Nat) : Nat → Nat → Int32
  | 0, _ => -4
  | m + 1, k => if (g_dn n X k).1.1 w 4 = 0 then g_fo n X w m (k + 1) else nI k
def G64 (n : Nat) (X : Sx) (x : Int32) : Int32 := if isw n x then g_fo n X x.toNatClampNeg 61 0 else -1
def G65 (n : Nat) (X : Sx) (x : Int32) : Int32 := if 0 ≤ x ∧ x ≤ 60 then g_fb (g_dn n X x.toNatClampNeg).1.1 n else -1
/-- the trial street is another than those that count -/
theorem I1_tr {M M' : mm_M} {n : Nat} {X : Sx} {a : Nat} {P : Nat → Sx} {b : Nat} {K : Nat → Sx} {s : Nat} (h : I1 M n X a P b K) (hF : FS M M' s) (hs : 11 ≤ s) : I1 M' n X a P b K := by
  obtain ⟨ps, hC, hn, hR0, hW0, ha, ha2, hP, hb, hb2, hK⟩ := h
  have hps := hC.2.2.2.2.2.2.2.2.2.2.2.2.2.2.2.2.1
  exact ⟨ps, LyC_2 hF.1 hC, hn, RX_F hR0 hF (by omega) hn, hW0, ha, by rw [FS_5 hF]; exact ha2, fun i hi => ⟨RX_F (hP i hi).1 hF (by have := hps i (by omega); omega) hn, (hP i hi).2⟩, hb, by rw [FS_5 hF]; exact hb2, fun i hi => ⟨RX_F (hK i hi).1 hF (by omega) hn, (hK i hi).2⟩⟩

set_option maxHeartbeats 4000000 in
theorem l_64 (d : Nat) {n : Nat} {X : Sx} {M : mm_M} {post : mm_Post} (hn : n ≤ 7) (hW : WF n X.1.1) {w : Nat} (hw : w < n) (z : Int32) (h : ∀ M', FS M M' 11 → post (some (.inl (g_fo n X w 61 0))) M') : ∀ (m k : Nat) (M1 : mm_M), k + m = 61 → g_fo n X w 61 0 = g_fo n X w m k → LyS M1 → RX M1 11 n (g_dn n X k) → FS M M1 11 → pK (d + 5) 64 post 2 [some (.inr (.inr (5, 0))), some (.inl (nI w)), some (.inr (.inr (2, 11))), some (.inl (nI k))] [] M1 (0, 0) := by
  intro m
  induction m with
  | zero =>
    intro k M1 hk hg hL hR hF
    have e : k = 61 := by omega
    subst e
    have hc : (60 : Int32) < nI 61 := by decide
    have e4 : g_fo n X w 0 61 = -4 := rfl
    rw [hg, e4] at h
    rw [eK_64_2]
    simp only [eK_64_0, eK_64_1, eK_64_3, eK_64_4, pw_aaload, pw_aload_n, pw_astore_n, pw_bipush, pw_getfield, pw_goto, pw_iconst, pw_ifCond, pw_if_icmp, pw_iinc, pw_iload_n, pw_invokevirtual, pw_ireturn, pw_istore_n, pw_nop0, mm_pI_c, mm_pL_c, mm_pA_c, mm_pR_c, mm_p1_i, mm_p1_r, mm_pN_0, mm_pN_s, mm_lI_c, mm_lL_c, mm_lA_c, mm_wd_n, mm_wd_i, mm_wd_l, mm_wd_r, mm_gf_i, mm_gf_b, mm_gf_r, mm_rf_c, mm_pf_i, mm_pf_b, mm_pf_r, mm_rt_v, mm_rt_i, mm_rt_r, mm_c_eq, mm_c_ne, mm_c_lt, mm_c_ge, mm_c_gt, mm_c_le, mm_sw_n, mm_sw_c, mm_alc_n, mm_alc_c, mm_rc_n, mm_rc_c, reduceCtorEq, false_implies, implies_true, true_implies, true_or, or_true, false_or, or_false, not_false_eq_true, mm_at_0, mm_at_s, mm_set_0, mm_set_s, mm_nl_n, mm_nl_i, mm_nl_r, mm_args_n, mm_args_i, mm_args_l, mm_args_r, mm_pad_0, mm_pad_n, mm_pad_c, List.length_cons, List.length_nil, List.nil_append, List.cons_append, Nat.zero_le, Nat.sub_zero, true_and, and_true, Nat.reduceAdd, Nat.reduceLeDiff, Nat.reduceLT, Nat.reduceSub, Nat.lt_irrefl, Nat.zero_add, Nat.add_zero, k_20, k_10, k_01, mm_if_T, mm_if_F, not_true_eq_false, not_false_eq_true, mm_if_t hc]
    exact h M1 hF
  | succ m ih =>
    intro k M1 hk hg hL hR hF
    have hc : ¬ (60 : Int32) < nI k := nI_nlt (b := k) (a := 60) (by omega) (by omega)
    obtain ⟨h1, h2, h3⟩ := hL 11 (by omega)
    obtain ⟨s1, s2, s3, s4, s5⟩ := id hR
    obtain ⟨q1, q2, q3⟩ := nI_v7 hw hn
    have q4 := h3 w (by omega)
    have r4 := s5 w hw 4 (by omega)
    have eg : g_fo n X w (m + 1) k = if (g_dn n X k).1.1 w 4 = 0 then g_fo n X w m (k + 1) else nI k := rfl
    rw [eK_64_2]
    simp only [eK_64_0, eK_64_1, eK_64_3, eK_64_4, pw_aaload, pw_aload_n, pw_astore_n, pw_bipush, pw_getfield, pw_goto, pw_iconst, pw_ifCond, pw_if_icmp, pw_iinc, pw_iload_n, pw_invokevirtual, pw_ireturn, pw_istore_n, pw_nop0, mm_pI_c, mm_pL_c, mm_pA_c, mm_pR_c, mm_p1_i, mm_p1_r, mm_pN_0, mm_pN_s, mm_lI_c, mm_lL_c, mm_lA_c, mm_wd_n, mm_wd_i, mm_wd_l, mm_wd_r, mm_gf_i, mm_gf_b, mm_gf_r, mm_rf_c, mm_pf_i, mm_pf_b, mm_pf_r, mm_rt_v, mm_rt_i, mm_rt_r, mm_c_eq, mm_c_ne, mm_c_lt, mm_c_ge, mm_c_gt, mm_c_le, mm_sw_n, mm_sw_c, mm_alc_n, mm_alc_c, mm_rc_n, mm_rc_c, reduceCtorEq, false_implies, implies_true, true_implies, true_or, or_true, false_or, or_false, not_false_eq_true, mm_at_0, mm_at_s, mm_set_0, mm_set_s, mm_nl_n, mm_nl_i, mm_nl_r, mm_args_n, mm_args_i, mm_args_l, mm_args_r, mm_pad_0, mm_pad_n, mm_pad_c, List.length_cons, List.length_nil, List.nil_append, List.cons_append, Nat.zero_le, Nat.sub_zero, true_and, and_true, Nat.reduceAdd, Nat.reduceLeDiff, Nat.reduceLT, Nat.reduceSub, Nat.lt_irrefl, Nat.zero_add, Nat.add_zero, k_20, k_10, k_01, mm_if_T, mm_if_F, not_true_eq_false, not_false_eq_true, mm_if_f hc, h1, h2, q1, q2, q4, r4, nI_1]
    refine ⟨fun h0 => ?_, fun h0 => ?_⟩
    · rw [if_pos h0] at eg
      refine t_23 d (s := 11) (by omega) hn hL hR (fun M' hR' hF' => ?_)
      simp only [mm_rt_v, List.nil_append]
      exact ih (k + 1) M' (by omega) (hg.trans eg) (LyS_2 hF'.1 hL) hR' (FS_tr hF hF')
    · rw [if_neg h0] at eg
      rw [hg, eg] at h
      exact h M1 hF

set_option maxHeartbeats 4000000 in
theorem C64 (d : Nat) {n : Nat} {X : Sx} {a : Nat} {P : Nat → Sx} {b : Nat} {K : Nat → Sx} {M : mm_M} {post : mm_Post} (hI : I1 M n X a P b K) (x : Int32) (h : ∀ M', I1 M' n X a P b K → FX M M' → post (some (.inl (G64 n X x))) M') : pC (d + 6) 64 [.inr (.inr (5, 0)), .inl x] M post := by
  obtain ⟨ps, hC, hn, hR, hW, ha, ha2, hP, hb, hb2, hK⟩ := id hI
  by_cases hi : isw n x
  · obtain ⟨w, hw, rfl⟩ := isw_of hn hi
    have q2 : (nI w).toNatClampNeg = w := nI_clamp (by omega)
    have e : G64 n X (nI w) = g_fo n X w 61 0 := by unfold G64; rw [if_pos hi, q2]
    rw [e] at h
    simp only [eC_64, eK_64_0, eK_64_1, eK_64_3, eK_64_4, pw_aaload, pw_aload_n, pw_astore_n, pw_bipush, pw_getfield, pw_goto, pw_iconst, pw_ifCond, pw_if_icmp, pw_iinc, pw_iload_n, pw_invokevirtual, pw_ireturn, pw_istore_n, pw_nop0, mm_pI_c, mm_pL_c, mm_pA_c, mm_pR_c, mm_p1_i, mm_p1_r, mm_pN_0, mm_pN_s, mm_lI_c, mm_lL_c, mm_lA_c, mm_wd_n, mm_wd_i, mm_wd_l, mm_wd_r, mm_gf_i, mm_gf_b, mm_gf_r, mm_rf_c, mm_pf_i, mm_pf_b, mm_pf_r, mm_rt_v, mm_rt_i, mm_rt_r, mm_c_eq, mm_c_ne, mm_c_lt, mm_c_ge, mm_c_gt, mm_c_le, mm_sw_n, mm_sw_c, mm_alc_n, mm_alc_c, mm_rc_n, mm_rc_c, reduceCtorEq, false_implies, implies_true, true_implies, true_or, or_true, false_or, or_false, not_false_eq_true, mm_at_0, mm_at_s, mm_set_0, mm_set_s, mm_nl_n, mm_nl_i, mm_nl_r, mm_args_n, mm_args_i, mm_args_l, mm_args_r, mm_pad_0, mm_pad_n, mm_pad_c, List.length_cons, List.length_nil, List.nil_append, List.cons_append, Nat.zero_le, Nat.sub_zero, true_and, and_true, Nat.reduceAdd, Nat.reduceLeDiff, Nat.reduceLT, Nat.reduceSub, Nat.lt_irrefl, Nat.zero_add, Nat.add_zero, k_20, k_10, k_01, mm_if_T, mm_if_F, not_true_eq_false, not_false_eq_true, e_79 (d + 3) hC hR.1, hi, tf_0]
    refine t_86 (d + 2) hn hC hR hW (fun M1 hR1 hF1 => ?_)
    simp only [mm_rt_r, List.cons_append, List.nil_append]
    simp only [eC_64, eK_64_0, eK_64_1, eK_64_3, eK_64_4, pw_aaload, pw_aload_n, pw_astore_n, pw_bipush, pw_getfield, pw_goto, pw_iconst, pw_ifCond, pw_if_icmp, pw_iinc, pw_iload_n, pw_invokevirtual, pw_ireturn, pw_istore_n, pw_nop0, mm_pI_c, mm_pL_c, mm_pA_c, mm_pR_c, mm_p1_i, mm_p1_r, mm_pN_0, mm_pN_s, mm_lI_c, mm_lL_c, mm_lA_c, mm_wd_n, mm_wd_i, mm_wd_l, mm_wd_r, mm_gf_i, mm_gf_b, mm_gf_r, mm_rf_c, mm_pf_i, mm_pf_b, mm_pf_r, mm_rt_v, mm_rt_i, mm_rt_r, mm_c_eq, mm_c_ne, mm_c_lt, mm_c_ge, mm_c_gt, mm_c_le, mm_sw_n, mm_sw_c, mm_alc_n, mm_alc_c, mm_rc_n, mm_rc_c, reduceCtorEq, false_implies, implies_true, true_implies, true_or, or_true, false_or, or_false, not_false_eq_true, mm_at_0, mm_at_s, mm_set_0, mm_set_s, mm_nl_n, mm_nl_i, mm_nl_r, mm_args_n, mm_args_i, mm_args_l, mm_args_r, mm_pad_0, mm_pad_n, mm_pad_c, List.length_cons, List.length_nil, List.nil_append, List.cons_append, Nat.zero_le, Nat.sub_zero, true_and, and_true, Nat.reduceAdd, Nat.reduceLeDiff, Nat.reduceLT, Nat.reduceSub, Nat.lt_irrefl, Nat.zero_add, Nat.add_zero, k_20, k_10, k_01, mm_if_T, mm_if_F, not_true_eq_false, not_false_eq_true]
    exact l_64 d hn hW hw 0 (fun M' hF' => h M' (I1_tr hI (FS_tr hF1 hF') (by omega)) (FX_S (FS_tr hF1 hF'))) 61 0 M1 (by omega) rfl (LyS_2 hF1.1 hC.1) hR1 (FS_rf _ _)
  · have hi2 : ¬ (0 ≤ x ∧ x ≤ nI n - 1) := hi
    have e : G64 n X x = -1 := if_neg hi
    rw [e] at h
    simp only [eC_64, eK_64_0, eK_64_1, eK_64_3, eK_64_4, pw_aaload, pw_aload_n, pw_astore_n, pw_bipush, pw_getfield, pw_goto, pw_iconst, pw_ifCond, pw_if_icmp, pw_iinc, pw_iload_n, pw_invokevirtual, pw_ireturn, pw_istore_n, pw_nop0, mm_pI_c, mm_pL_c, mm_pA_c, mm_pR_c, mm_p1_i, mm_p1_r, mm_pN_0, mm_pN_s, mm_lI_c, mm_lL_c, mm_lA_c, mm_wd_n, mm_wd_i, mm_wd_l, mm_wd_r, mm_gf_i, mm_gf_b, mm_gf_r, mm_rf_c, mm_pf_i, mm_pf_b, mm_pf_r, mm_rt_v, mm_rt_i, mm_rt_r, mm_c_eq, mm_c_ne, mm_c_lt, mm_c_ge, mm_c_gt, mm_c_le, mm_sw_n, mm_sw_c, mm_alc_n, mm_alc_c, mm_rc_n, mm_rc_c, reduceCtorEq, false_implies, implies_true, true_implies, true_or, or_true, false_or, or_false, not_false_eq_true, mm_at_0, mm_at_s, mm_set_0, mm_set_s, mm_nl_n, mm_nl_i, mm_nl_r, mm_args_n, mm_args_i, mm_args_l, mm_args_r, mm_pad_0, mm_pad_n, mm_pad_c, List.length_cons, List.length_nil, List.nil_append, List.cons_append, Nat.zero_le, Nat.sub_zero, true_and, and_true, Nat.reduceAdd, Nat.reduceLeDiff, Nat.reduceLT, Nat.reduceSub, Nat.lt_irrefl, Nat.zero_add, Nat.add_zero, k_20, k_10, k_01, mm_if_T, mm_if_F, not_true_eq_false, not_false_eq_true, e_79 (d + 3) hC hR.1, hi2, tf_0]
    exact h M hI (FX_rf M)

set_option maxHeartbeats 4000000 in
theorem l_65 (d : Nat) {n : Nat} {X : Sx} {M : mm_M} {post : mm_Post} (hn : n ≤ 7) (N : Nat) (hN : N ≤ 60) (h : ∀ M', FS M M' 11 → post (some (.inl (g_fb (g_dn n X N).1.1 n))) M') : ∀ (m k : Nat) (M1 : mm_M), k + m = N → LyS M1 → RX M1 11 n (g_dn n X k) → FS M M1 11 → pK (d + 5) 65 post 2 [some (.inr (.inr (5, 0))), some (.inl (nI N)), some (.inr (.inr (2, 11))), some (.inl (nI k))] [] M1 (0, 0) := by
  intro m
  induction m with
  | zero =>
    intro k M1 hk hL hR hF
    have e : k = N := by omega
    subst e
    rw [eK_65_2]
    simp only [eK_65_0, eK_65_1, eK_65_3, pw_aload_n, pw_astore_n, pw_bipush, pw_goto, pw_iconst, pw_ifCond, pw_if_icmp, pw_iinc, pw_iload_n, pw_invokestatic, pw_invokevirtual, pw_ireturn, pw_istore_n, pw_nop0, mm_pI_c, mm_pL_c, mm_pA_c, mm_pR_c, mm_p1_i, mm_p1_r, mm_pN_0, mm_pN_s, mm_lI_c, mm_lL_c, mm_lA_c, mm_wd_n, mm_wd_i, mm_wd_l, mm_wd_r, mm_gf_i, mm_gf_b, mm_gf_r, mm_rf_c, mm_pf_i, mm_pf_b, mm_pf_r, mm_rt_v, mm_rt_i, mm_rt_r, mm_c_eq, mm_c_ne, mm_c_lt, mm_c_ge, mm_c_gt, mm_c_le, mm_sw_n, mm_sw_c, mm_alc_n, mm_alc_c, mm_rc_n, mm_rc_c, reduceCtorEq, false_implies, implies_true, true_implies, true_or, or_true, false_or, or_false, not_false_eq_true, mm_at_0, mm_at_s, mm_set_0, mm_set_s, mm_nl_n, mm_nl_i, mm_nl_r, mm_args_n, mm_args_i, mm_args_l, mm_args_r, mm_pad_0, mm_pad_n, mm_pad_c, List.length_cons, List.length_nil, List.nil_append, List.cons_append, Nat.zero_le, Nat.sub_zero, true_and, and_true, Nat.reduceAdd, Nat.reduceLeDiff, Nat.reduceLT, Nat.reduceSub, Nat.lt_irrefl, Nat.zero_add, Nat.add_zero, k_20, k_10, k_01, mm_if_T, mm_if_F, not_true_eq_false, not_false_eq_true, mm_if_t (nI_le (Nat.le_refl k) (show k < 2 ^ 31 by omega)), e_21 (d + 4) (show 11 < 20 by omega) hn hL hR]
    exact h M1 hF
  | succ m ih =>
    intro k M1 hk hL hR hF
    have q3 : ¬ nI N ≤ nI k := nI_ge (by omega) (by omega)
    rw [eK_65_2]
    simp only [eK_65_0, eK_65_1, eK_65_3, pw_aload_n, pw_astore_n, pw_bipush, pw_goto, pw_iconst, pw_ifCond, pw_if_icmp, pw_iinc, pw_iload_n, pw_invokestatic, pw_invokevirtual, pw_ireturn, pw_istore_n, pw_nop0, mm_pI_c, mm_pL_c, mm_pA_c, mm_pR_c, mm_p1_i, mm_p1_r, mm_pN_0, mm_pN_s, mm_lI_c, mm_lL_c, mm_lA_c, mm_wd_n, mm_wd_i, mm_wd_l, mm_wd_r, mm_gf_i, mm_gf_b, mm_gf_r, mm_rf_c, mm_pf_i, mm_pf_b, mm_pf_r, mm_rt_v, mm_rt_i, mm_rt_r, mm_c_eq, mm_c_ne, mm_c_lt, mm_c_ge, mm_c_gt, mm_c_le, mm_sw_n, mm_sw_c, mm_alc_n, mm_alc_c, mm_rc_n, mm_rc_c, reduceCtorEq, false_implies, implies_true, true_implies, true_or, or_true, false_or, or_false, not_false_eq_true, mm_at_0, mm_at_s, mm_set_0, mm_set_s, mm_nl_n, mm_nl_i, mm_nl_r, mm_args_n, mm_args_i, mm_args_l, mm_args_r, mm_pad_0, mm_pad_n, mm_pad_c, List.length_cons, List.length_nil, List.nil_append, List.cons_append, Nat.zero_le, Nat.sub_zero, true_and, and_true, Nat.reduceAdd, Nat.reduceLeDiff, Nat.reduceLT, Nat.reduceSub, Nat.lt_irrefl, Nat.zero_add, Nat.add_zero, k_20, k_10, k_01, mm_if_T, mm_if_F, not_true_eq_false, not_false_eq_true, mm_if_f q3, nI_1]
    refine t_23 d (s := 11) (by omega) hn hL hR (fun M' hR' hF' => ?_)
    simp only [mm_rt_v, List.nil_append]
    exact ih (k + 1) M' (by omega) (LyS_2 hF'.1 hL) hR' (FS_tr hF hF')

set_option maxHeartbeats 4000000 in
theorem C65 (d : Nat) {n : Nat} {X : Sx} {a : Nat} {P : Nat → Sx} {b : Nat} {K : Nat → Sx} {M : mm_M} {post : mm_Post} (hI : I1 M n X a P b K) (x : Int32) (h : ∀ M', I1 M' n X a P b K → FX M M' → post (some (.inl (G65 n X x))) M') : pC (d + 6) 65 [.inr (.inr (5, 0)), .inl x] M post := by
  obtain ⟨ps, hC, hn, hR, hW, ha, ha2, hP, hb, hb2, hK⟩ := id hI
  by_cases hval : 0 ≤ x ∧ x ≤ 60
  · obtain ⟨N, hN, rfl⟩ := nI_of2 (M := 60) (n := 60) (by decide) (Int32.not_lt.mpr hval.1) hval.2
    have q2 : (nI N).toNatClampNeg = N := nI_clamp (by omega)
    have e : G65 n X (nI N) = g_fb (g_dn n X N).1.1 n := by unfold G65; rw [if_pos hval, q2]
    rw [e] at h
    simp only [eC_65, eK_65_0, eK_65_1, eK_65_3, pw_aload_n, pw_astore_n, pw_bipush, pw_goto, pw_iconst, pw_ifCond, pw_if_icmp, pw_iinc, pw_iload_n, pw_invokestatic, pw_invokevirtual, pw_ireturn, pw_istore_n, pw_nop0, mm_pI_c, mm_pL_c, mm_pA_c, mm_pR_c, mm_p1_i, mm_p1_r, mm_pN_0, mm_pN_s, mm_lI_c, mm_lL_c, mm_lA_c, mm_wd_n, mm_wd_i, mm_wd_l, mm_wd_r, mm_gf_i, mm_gf_b, mm_gf_r, mm_rf_c, mm_pf_i, mm_pf_b, mm_pf_r, mm_rt_v, mm_rt_i, mm_rt_r, mm_c_eq, mm_c_ne, mm_c_lt, mm_c_ge, mm_c_gt, mm_c_le, mm_sw_n, mm_sw_c, mm_alc_n, mm_alc_c, mm_rc_n, mm_rc_c, reduceCtorEq, false_implies, implies_true, true_implies, true_or, or_true, false_or, or_false, not_false_eq_true, mm_at_0, mm_at_s, mm_set_0, mm_set_s, mm_nl_n, mm_nl_i, mm_nl_r, mm_args_n, mm_args_i, mm_args_l, mm_args_r, mm_pad_0, mm_pad_n, mm_pad_c, List.length_cons, List.length_nil, List.nil_append, List.cons_append, Nat.zero_le, Nat.sub_zero, true_and, and_true, Nat.reduceAdd, Nat.reduceLeDiff, Nat.reduceLT, Nat.reduceSub, Nat.lt_irrefl, Nat.zero_add, Nat.add_zero, k_20, k_10, k_01, mm_if_T, mm_if_F, not_true_eq_false, not_false_eq_true, t_82, hval, tf_0]
    refine t_86 (d + 2) hn hC hR hW (fun M1 hR1 hF1 => ?_)
    simp only [mm_rt_r, List.cons_append, List.nil_append]
    simp only [eC_65, eK_65_0, eK_65_1, eK_65_3, pw_aload_n, pw_astore_n, pw_bipush, pw_goto, pw_iconst, pw_ifCond, pw_if_icmp, pw_iinc, pw_iload_n, pw_invokestatic, pw_invokevirtual, pw_ireturn, pw_istore_n, pw_nop0, mm_pI_c, mm_pL_c, mm_pA_c, mm_pR_c, mm_p1_i, mm_p1_r, mm_pN_0, mm_pN_s, mm_lI_c, mm_lL_c, mm_lA_c, mm_wd_n, mm_wd_i, mm_wd_l, mm_wd_r, mm_gf_i, mm_gf_b, mm_gf_r, mm_rf_c, mm_pf_i, mm_pf_b, mm_pf_r, mm_rt_v, mm_rt_i, mm_rt_r, mm_c_eq, mm_c_ne, mm_c_lt, mm_c_ge, mm_c_gt, mm_c_le, mm_sw_n, mm_sw_c, mm_alc_n, mm_alc_c, mm_rc_n, mm_rc_c, reduceCtorEq, false_implies, implies_true, true_implies, true_or, or_true, false_or, or_false, not_false_eq_true, mm_at_0, mm_at_s, mm_set_0, mm_set_s, mm_nl_n, mm_nl_i, mm_nl_r, mm_args_n, mm_args_i, mm_args_l, mm_args_r, mm_pad_0, mm_pad_n, mm_pad_c, List.length_cons, List.length_nil, List.nil_append, List.cons_append, Nat.zero_le, Nat.sub_zero, true_and, and_true, Nat.reduceAdd, Nat.reduceLeDiff, Nat.reduceLT, Nat.reduceSub, Nat.lt_irrefl, Nat.zero_add, Nat.add_zero, k_20, k_10, k_01, mm_if_T, mm_if_F, not_true_eq_false, not_false_eq_true]
    exact l_65 d hn N hN (fun M' hF' => h M' (I1_tr hI (FS_tr hF1 hF') (by omega)) (FX_S (FS_tr hF1 hF'))) N 0 M1 (by omega) (LyS_2 hF1.1 hC.1) hR1 (FS_rf _ _)
  · have e : G65 n X x = -1 := if_neg hval
    rw [e] at h
    simp only [eC_65, eK_65_0, eK_65_1, eK_65_3, pw_aload_n, pw_astore_n, pw_bipush, pw_goto, pw_iconst, pw_ifCond, pw_if_icmp, pw_iinc, pw_iload_n, pw_invokestatic, pw_invokevirtual, pw_ireturn, pw_istore_n, pw_nop0, mm_pI_c, mm_pL_c, mm_pA_c, mm_pR_c, mm_p1_i, mm_p1_r, mm_pN_0, mm_pN_s, mm_lI_c, mm_lL_c, mm_lA_c, mm_wd_n, mm_wd_i, mm_wd_l, mm_wd_r, mm_gf_i, mm_gf_b, mm_gf_r, mm_rf_c, mm_pf_i, mm_pf_b, mm_pf_r, mm_rt_v, mm_rt_i, mm_rt_r, mm_c_eq, mm_c_ne, mm_c_lt, mm_c_ge, mm_c_gt, mm_c_le, mm_sw_n, mm_sw_c, mm_alc_n, mm_alc_c, mm_rc_n, mm_rc_c, reduceCtorEq, false_implies, implies_true, true_implies, true_or, or_true, false_or, or_false, not_false_eq_true, mm_at_0, mm_at_s, mm_set_0, mm_set_s, mm_nl_n, mm_nl_i, mm_nl_r, mm_args_n, mm_args_i, mm_args_l, mm_args_r, mm_pad_0, mm_pad_n, mm_pad_c, List.length_cons, List.length_nil, List.nil_append, List.cons_append, Nat.zero_le, Nat.sub_zero, true_and, and_true, Nat.reduceAdd, Nat.reduceLeDiff, Nat.reduceLT, Nat.reduceSub, Nat.lt_irrefl, Nat.zero_add, Nat.add_zero, k_20, k_10, k_01, mm_if_T, mm_if_F, not_true_eq_false, not_false_eq_true, t_82, hval, tf_0]
    exact h M hI (FX_rf M)

