/-! THE CLASS: fault, lay -/
theorem RX_2 {M M' : mm_M} {s n : Nat} {X : Sx} (h : RX M s n X) (hF : F2 M M' 11) (hs : ¬ s = 11) (hn : n ≤ 7) : RX M' s n X := by
  obtain ⟨s1, s2, s3, s4, s5⟩ := h
  refine ⟨?_, ?_, ?_, ?_, ?_⟩
  · rw [hF.2 _ _ _ (by omega) (by omega) (by omega) (by omega)]; exact s1
  · rw [hF.2 _ _ _ (by omega) (by omega) (by omega) (by omega)]; exact s2
  · rw [hF.2 _ _ _ (by omega) (by omega) (by omega) (by omega)]; exact s3
  · rw [hF.2 _ _ _ (by omega) (by omega) (by omega) (by omega)]; exact s4
  · intro v hv k hk; rw [hF.2 _ _ _ (by omega) (by omega) (by omega) (by omega)]; exact s5 v hv k hk
theorem I1_2 {M M' : mm_M} {n : Nat} {X : Sx} {a : Nat} {P : Nat → Sx} {b : Nat} {K : Nat → Sx} (hF : F2 M M' 11) (h : I1 M n X a P b K) : I1 M' n X a P b K := by
  obtain ⟨ps, hC, hn, hR0, hW0, ha, ha2, hP, hb, hb2, hK⟩ := h
  have hps := hC.2.2.2.2.2.2.2.2.2.2.2.2.2.2.2.2.1
  exact ⟨ps, LyC_2 hF.1 hC, hn, RX_2 hR0 hF (by omega) hn, hW0, ha, by rw [hF.2 _ _ _ (by omega) (by omega) (by omega) (by omega)]; exact ha2, fun i hi => ⟨RX_2 (hP i hi).1 hF (by have := hps i (by omega); omega) hn, (hP i hi).2⟩, hb, by rw [hF.2 _ _ _ (by omega) (by omega) (by omega) (by omega)]; exact hb2, fun i hi => ⟨RX_2 (hK i hi).1 hF (by omega) hn, (hK i hi).2⟩⟩
theorem I2_2 {M M' : mm_M} (hF : F2 M M' 11) {q : Nat} {nx nl : Nat → Int32} {t : Nat} {lt : Nat → Int32} (h : I2 M q nx nl t lt) : I2 M' q nx nl t lt := by
  obtain ⟨h1, h2, h3, h4, h5, h6⟩ := h
  exact ⟨h1, by rw [hF.2 _ _ _ (by omega) (by omega) (by omega) (by omega)]; exact h2, fun i hi => ⟨by rw [hF.2 _ _ _ (by omega) (by omega) (by omega) (by omega)]; exact (h3 i hi).1, by rw [hF.2 _ _ _ (by omega) (by omega) (by omega) (by omega)]; exact (h3 i hi).2⟩, h4, by rw [hF.2 _ _ _ (by omega) (by omega) (by omega) (by omega)]; exact h5, fun i hi => by rw [hF.2 _ _ _ (by omega) (by omega) (by omega) (by omega)]; exact h6 i hi⟩
theorem F2_C {M M' : mm_M} (h : F2 M M' 11) : FC M M' := ⟨fun c i k z => h.2 c i k (by omega) (by omega) (by omega) (by omega), fun c i k _ => by unfold mm_R; rw [h.1], by rw [h.1]⟩
def G51 (t : Nat) (lt : Nat → Int32) : Int32 := match p_rd (lL t lt) t 200 0 Z0 with
  | .inl _ => -4
  | .inr p => nI p

set_option maxHeartbeats 4000000 in
theorem C51 (d : Nat) {n : Nat} {X : Sx} {a : Nat} {P : Nat → Sx} {b : Nat} {K : Nat → Sx} {M : mm_M} {post : mm_Post} (hI : I1 M n X a P b K) {q : Nat} {nx nl : Nat → Int32} {t : Nat} {lt : Nat → Int32} (hJ : I2 M q nx nl t lt) (h : ∀ M', I1 M' n X a P b K → I2 M' q nx nl t lt → FC M M' → post (some (.inl (G51 t lt))) M') : pC (d + 7) 51 [.inr (.inr (5, 0))] M post := by
  obtain ⟨ps, hC, hn, hR, hW, ha, ha2, hP, hb, hb2, hK⟩ := id hI
  obtain ⟨hS, c0, c1, c2, c3, c4, c5, c6, m0, m1, m2, k1, k2, ct, cn, cp0, hps, hpi⟩ := id hC
  obtain ⟨j1, j2, j3, j4, j5, j6⟩ := id hJ
  have v1 : vp_in (0 : Int32) 9 := vp_in_nI (n := 0) (N := 9) (by omega) (by omega)
  have v2 : (0 : Int32).toNatClampNeg = 0 := nI_clamp (n := 0) (by omega)
  have k20 : mm_R M 9 2 0 = some 11 := k2 0 (by omega)
  unfold G51 at h
  simp only [eC_51, eK_51_0, pw_aaload, pw_aload_n, pw_getfield, pw_iconst, pw_invokevirtual, pw_ireturn, mm_pI_c, mm_pL_c, mm_pA_c, mm_pR_c, mm_p1_i, mm_p1_r, mm_pN_0, mm_pN_s, mm_lI_c, mm_lL_c, mm_lA_c, mm_wd_n, mm_wd_i, mm_wd_l, mm_wd_r, mm_gf_i, mm_gf_b, mm_gf_r, mm_rf_c, mm_pf_i, mm_pf_b, mm_pf_r, mm_rt_v, mm_rt_i, mm_rt_r, mm_c_eq, mm_c_ne, mm_c_lt, mm_c_ge, mm_c_gt, mm_c_le, mm_sw_n, mm_sw_c, mm_alc_n, mm_alc_c, mm_rc_n, mm_rc_c, reduceCtorEq, false_implies, implies_true, true_implies, true_or, or_true, false_or, or_false, not_false_eq_true, mm_at_0, mm_at_s, mm_set_0, mm_set_s, mm_nl_n, mm_nl_i, mm_nl_r, mm_args_n, mm_args_i, mm_args_l, mm_args_r, mm_pad_0, mm_pad_n, mm_pad_c, List.length_cons, List.length_nil, List.nil_append, List.cons_append, Nat.zero_le, Nat.sub_zero, true_and, and_true, Nat.reduceAdd, Nat.reduceLeDiff, Nat.reduceLT, Nat.reduceSub, Nat.lt_irrefl, Nat.zero_add, Nat.add_zero, k_20, k_10, k_01, mm_if_T, mm_if_F, not_true_eq_false, not_false_eq_true, c0, c6, m2, v1, v2, k20]
  refine t_28 d (s := 11) (by omega) hS ct j4 j5 j6 (fun M' A' Z e _ _ _ hF => ?_) (fun M' p e _ hF => ?_)
  · rw [e] at h
    have hp := h M' (I1_2 hF hI) (I2_2 hF hJ) (F2_C hF)
    simp only [eC_51, eK_51_0, pw_aaload, pw_aload_n, pw_getfield, pw_iconst, pw_invokevirtual, pw_ireturn, mm_pI_c, mm_pL_c, mm_pA_c, mm_pR_c, mm_p1_i, mm_p1_r, mm_pN_0, mm_pN_s, mm_lI_c, mm_lL_c, mm_lA_c, mm_wd_n, mm_wd_i, mm_wd_l, mm_wd_r, mm_gf_i, mm_gf_b, mm_gf_r, mm_rf_c, mm_pf_i, mm_pf_b, mm_pf_r, mm_rt_v, mm_rt_i, mm_rt_r, mm_c_eq, mm_c_ne, mm_c_lt, mm_c_ge, mm_c_gt, mm_c_le, mm_sw_n, mm_sw_c, mm_alc_n, mm_alc_c, mm_rc_n, mm_rc_c, reduceCtorEq, false_implies, implies_true, true_implies, true_or, or_true, false_or, or_false, not_false_eq_true, mm_at_0, mm_at_s, mm_set_0, mm_set_s, mm_nl_n, mm_nl_i, mm_nl_r, mm_args_n, mm_args_i, mm_args_l, mm_args_r, mm_pad_0, mm_pad_n, mm_pad_c, List.length_cons, List.length_nil, List.nil_append, List.cons_append, Nat.zero_le, Nat.sub_zero, true_and, and_true, Nat.reduceAdd, Nat.reduceLeDiff, Nat.reduceLT, Nat.reduceSub, Nat.lt_irrefl, Nat.zero_add, Nat.add_zero, k_20, k_10, k_01, mm_if_T, mm_if_F, not_true_eq_false, not_false_eq_true]
    exact hp
  · rw [e] at h
    have hp := h M' (I1_2 hF hI) (I2_2 hF hJ) (F2_C hF)
    simp only [eC_51, eK_51_0, pw_aaload, pw_aload_n, pw_getfield, pw_iconst, pw_invokevirtual, pw_ireturn, mm_pI_c, mm_pL_c, mm_pA_c, mm_pR_c, mm_p1_i, mm_p1_r, mm_pN_0, mm_pN_s, mm_lI_c, mm_lL_c, mm_lA_c, mm_wd_n, mm_wd_i, mm_wd_l, mm_wd_r, mm_gf_i, mm_gf_b, mm_gf_r, mm_rf_c, mm_pf_i, mm_pf_b, mm_pf_r, mm_rt_v, mm_rt_i, mm_rt_r, mm_c_eq, mm_c_ne, mm_c_lt, mm_c_ge, mm_c_gt, mm_c_le, mm_sw_n, mm_sw_c, mm_alc_n, mm_alc_c, mm_rc_n, mm_rc_c, reduceCtorEq, false_implies, implies_true, true_implies, true_or, or_true, false_or, or_false, not_false_eq_true, mm_at_0, mm_at_s, mm_set_0, mm_set_s, mm_nl_n, mm_nl_i, mm_nl_r, mm_args_n, mm_args_i, mm_args_l, mm_args_r, mm_pad_0, mm_pad_n, mm_pad_c, List.length_cons, List.length_nil, List.nil_append, List.cons_append, Nat.zero_le, Nat.sub_zero, true_and, and_true, Nat.reduceAdd, Nat.reduceLeDiff, Nat.reduceLT, Nat.reduceSub, Nat.lt_irrefl, Nat.zero_add, Nat.add_zero, k_20, k_10, k_01, mm_if_T, mm_if_F, not_true_eq_false, not_false_eq_true]
    exact hp

