/-! THE CLASS: snow, shares -/
def g_sn (X : Sx) : Sx := (X.1, X.2 + 1)
def g_fs (n w x : Nat) : Nat → Sx → Nat
  | 0, X => if X.1.1 w 4 = 0 then 0 else 1
  | r + 1, X => if X.1.1 w 4 = 0 then x * g_fs n w x r (g_sn X) + (10 - x) * g_fs n w x r (g_dx n X) else 10 ^ (r + 1)
theorem g_fs_le {n w x : Nat} (hx : x ≤ 10) : ∀ r X, g_fs n w x r X ≤ 10 ^ r
  | 0, X => by unfold g_fs; split <;> simp
  | r + 1, X => by
    unfold g_fs
    split
    · have a := Nat.mul_le_mul_left x (g_fs_le (n := n) (w := w) hx r (g_sn X))
      have b := Nat.mul_le_mul_left (10 - x) (g_fs_le (n := n) (w := w) hx r (g_dx n X))
      have c : x * 10 ^ r + (10 - x) * 10 ^ r = 10 ^ (r + 1) := by rw [← Nat.add_mul, show x + (10 - x) = 10 by omega, Nat.pow_succ, Nat.mul_comm]
      omega
    · exact Nat.le_refl _
/-- streets from s on alone have changed -/
def FT (M M' : mm_M) (s : Nat) : Prop := M'.2 = M.2 ∧ ∀ c i k, ¬ (c = 2 ∧ s ≤ i) → ¬ (c = 4 ∧ 7 * s ≤ i) → mm_I M' c i k = mm_I M c i k
theorem FT_rf (M : mm_M) (s : Nat) : FT M M s := ⟨rfl, fun _ _ _ _ _ => rfl⟩
theorem FT_tr {M M1 M2 : mm_M} {s s' : Nat} (h : FT M M1 s) (h' : FT M1 M2 s') (hs : s ≤ s') : FT M M2 s := ⟨h'.1.trans h.1, fun c i k a b => (h'.2 c i k (by omega) (by omega)).trans (h.2 c i k a b)⟩
theorem FT_S {M M' : mm_M} {s : Nat} (h : FS M M' s) : FT M M' s := ⟨h.1, fun c i k a b => h.2 c i k (by omega) (by omega)⟩
theorem RX_T {M M' : mm_M} {s s' n : Nat} {X : Sx} (h : RX M s n X) (hF : FT M M' s') (hs : s < s') (hn : n ≤ 7) : RX M' s n X := by
  obtain ⟨s1, s2, s3, s4, s5⟩ := h
  refine ⟨?_, ?_, ?_, ?_, ?_⟩
  · rw [hF.2 _ _ _ (by omega) (by omega)]; exact s1
  · rw [hF.2 _ _ _ (by omega) (by omega)]; exact s2
  · rw [hF.2 _ _ _ (by omega) (by omega)]; exact s3
  · rw [hF.2 _ _ _ (by omega) (by omega)]; exact s4
  · intro v hv k hk; rw [hF.2 _ _ _ (by omega) (by omega)]; exact s5 v hv k hk
theorem I1_T {M M' : mm_M} {n : Nat} {X : Sx} {a : Nat} {P : Nat → Sx} {b : Nat} {K : Nat → Sx} (hF : FT M M' 11) (h : I1 M n X a P b K) : I1 M' n X a P b K := by
  obtain ⟨ps, hC, hn, hR0, hW0, ha, ha2, hP, hb, hb2, hK⟩ := h
  have hps := hC.2.2.2.2.2.2.2.2.2.2.2.2.2.2.2.2.1
  exact ⟨ps, LyC_2 hF.1 hC, hn, RX_T hR0 hF (by omega) hn, hW0, ha, by rw [hF.2 _ _ _ (by omega) (by omega)]; exact ha2, fun i hi => ⟨RX_T (hP i hi).1 hF (by have := hps i (by omega); omega) hn, (hP i hi).2⟩, hb, by rw [hF.2 _ _ _ (by omega) (by omega)]; exact hb2, fun i hi => ⟨RX_T (hK i hi).1 hF (by omega) hn, (hK i hi).2⟩⟩
theorem FX_T {M M' : mm_M} {s : Nat} (h : FT M M' s) : FX M M' := ⟨fun c i k q => h.2 c i k (fun z => by omega) (fun z => by omega), fun c i k _ => by unfold mm_R; rw [h.1], by rw [h.1]⟩
theorem WF_b {n : Nat} {A : Nat → Nat → Int32} (h : WF n A) : ∀ w, w < n → A w 4 = 0 ∨ A w 4 = 1 := fun w hw => (h w hw).2.2.1

set_option maxHeartbeats 8000000 in
theorem t_91 (d : Nat) {n w x : Nat} {ps : Nat → Nat} (hn : n ≤ 7) (hw : w < n) (hx : x ≤ 10) (L : Nat) (hL : L ≤ 8) : ∀ (r D : Nat) (X : Sx) (M : mm_M) (post : mm_Post), D + r = L → LyC M ps → RX M (11 + D) n X → WF n X.1.1 → (∀ M', FT M M' (11 + D + 1) → post (some (.inl (nI (g_fs n w x r X)))) M') → pC (d + r + 6) 91 [.inr (.inr (5, 0)), .inl (nI w), .inl (nI D), .inl (nI L), .inl (nI x)] M post := by
  intro r
  induction r with
  | zero =>
    intro D X M post hD hC hR hW h
    obtain ⟨hS, c0, c1, c2, c3, c4, c5, c6, m0, m1, m2, k1, k2, ct, cn, cp0, hps, hpi⟩ := id hC
    obtain ⟨h1, h2, h3⟩ := hS (11 + D) (by omega)
    obtain ⟨s1, s2, s3, s4, s5⟩ := id hR
    obtain ⟨q1, q2, q3⟩ := nI_v7 hw hn
    have q4 := h3 w (by omega)
    have rr := s5 w hw 4 (by omega)
    have z1 : vp_in (nI D) 9 := vp_in_nI (by omega) (by omega)
    have z2 : (nI D).toNatClampNeg = D := nI_clamp (by omega)
    have z3 := k2 D (by omega)
    have hp := h M (FT_rf M _)
    have hle : nI L ≤ nI D := nI_le (by omega) (by omega)
    have hsub : nI L - nI D = nI (L - D) := pk_sub (by omega)
    have e0 : L - D = 0 := by omega
    unfold g_fs at hp
    show pC (d + 5 + 1) 91 _ _ _
    rw [eC_91]
    by_cases hf : X.1.1 w 4 = 0
    · rw [if_pos hf] at hp
      simp only [eK_91_0, eK_91_1, eK_91_2, pw_aaload, pw_aload, pw_aload_n, pw_astore, pw_bipush, pw_dup, pw_getfield, pw_iadd, pw_iconst, pw_ifCond, pw_if_icmp, pw_iload, pw_iload_n, pw_imul, pw_invokestatic, pw_invokevirtual, pw_ireturn, pw_istore, pw_isub, pw_nop0, pw_putfield, mm_pI_c, mm_pL_c, mm_pA_c, mm_pR_c, mm_p1_i, mm_p1_r, mm_pN_0, mm_pN_s, mm_lI_c, mm_lL_c, mm_lA_c, mm_wd_n, mm_wd_i, mm_wd_l, mm_wd_r, mm_gf_i, mm_gf_b, mm_gf_r, mm_rf_c, mm_pf_i, mm_pf_b, mm_pf_r, mm_rt_v, mm_rt_i, mm_rt_r, mm_c_eq, mm_c_ne, mm_c_lt, mm_c_ge, mm_c_gt, mm_c_le, mm_sw_n, mm_sw_c, mm_alc_n, mm_alc_c, mm_rc_n, mm_rc_c, reduceCtorEq, false_implies, implies_true, true_implies, true_or, or_true, false_or, or_false, not_false_eq_true, mm_at_0, mm_at_s, mm_set_0, mm_set_s, mm_nl_n, mm_nl_i, mm_nl_r, mm_args_n, mm_args_i, mm_args_l, mm_args_r, mm_pad_0, mm_pad_n, mm_pad_c, List.length_cons, List.length_nil, List.nil_append, List.cons_append, Nat.zero_le, Nat.sub_zero, true_and, and_true, Nat.reduceAdd, Nat.reduceLeDiff, Nat.reduceLT, Nat.reduceSub, Nat.lt_irrefl, Nat.zero_add, Nat.add_zero, k_20, k_10, k_01, mm_if_T, mm_if_F, not_true_eq_false, not_false_eq_true, c6, m2, z1, z2, z3, h1, h2, q1, q2, q4, rr, hf, mm_if_v, mm_if_t hle]
      exact hp
    · rw [if_neg hf] at hp
      simp only [eK_91_0, eK_91_1, eK_91_2, pw_aaload, pw_aload, pw_aload_n, pw_astore, pw_bipush, pw_dup, pw_getfield, pw_iadd, pw_iconst, pw_ifCond, pw_if_icmp, pw_iload, pw_iload_n, pw_imul, pw_invokestatic, pw_invokevirtual, pw_ireturn, pw_istore, pw_isub, pw_nop0, pw_putfield, mm_pI_c, mm_pL_c, mm_pA_c, mm_pR_c, mm_p1_i, mm_p1_r, mm_pN_0, mm_pN_s, mm_lI_c, mm_lL_c, mm_lA_c, mm_wd_n, mm_wd_i, mm_wd_l, mm_wd_r, mm_gf_i, mm_gf_b, mm_gf_r, mm_rf_c, mm_pf_i, mm_pf_b, mm_pf_r, mm_rt_v, mm_rt_i, mm_rt_r, mm_c_eq, mm_c_ne, mm_c_lt, mm_c_ge, mm_c_gt, mm_c_le, mm_sw_n, mm_sw_c, mm_alc_n, mm_alc_c, mm_rc_n, mm_rc_c, reduceCtorEq, false_implies, implies_true, true_implies, true_or, or_true, false_or, or_false, not_false_eq_true, mm_at_0, mm_at_s, mm_set_0, mm_set_s, mm_nl_n, mm_nl_i, mm_nl_r, mm_args_n, mm_args_i, mm_args_l, mm_args_r, mm_pad_0, mm_pad_n, mm_pad_c, List.length_cons, List.length_nil, List.nil_append, List.cons_append, Nat.zero_le, Nat.sub_zero, true_and, and_true, Nat.reduceAdd, Nat.reduceLeDiff, Nat.reduceLT, Nat.reduceSub, Nat.lt_irrefl, Nat.zero_add, Nat.add_zero, k_20, k_10, k_01, mm_if_T, mm_if_F, not_true_eq_false, not_false_eq_true, c6, m2, z1, z2, z3, h1, h2, q1, q2, q4, rr, hf, mm_if_v, hsub, e0, e_92 (d + 4) 0 (by omega)]
      exact hp
  | succ r ih =>
    intro D X M post hD hC hR hW h
    obtain ⟨hS, c0, c1, c2, c3, c4, c5, c6, m0, m1, m2, k1, k2, ct, cn, cp0, hps, hpi⟩ := id hC
    obtain ⟨h1, h2, h3⟩ := hS (11 + D) (by omega)
    obtain ⟨s1, s2, s3, s4, s5⟩ := id hR
    obtain ⟨q1, q2, q3⟩ := nI_v7 hw hn
    have q4 := h3 w (by omega)
    have rr := s5 w hw 4 (by omega)
    have z1 : vp_in (nI D) 9 := vp_in_nI (by omega) (by omega)
    have z2 : (nI D).toNatClampNeg = D := nI_clamp (by omega)
    have z3 := k2 D (by omega)
    have y1 : vp_in (nI (D + 1)) 9 := vp_in_nI (by omega) (by omega)
    have y2 : (nI (D + 1)).toNatClampNeg = D + 1 := nI_clamp (by omega)
    have y3 := k2 (D + 1) (by omega)
    have hle : ¬ nI L ≤ nI D := nI_ge (by omega) (by omega)
    have hlt : nI D < (8 : Int32) := nI_lt (b := 8) (by omega) (by omega)
    have hsub : nI L - nI D = nI (L - D) := pk_sub (by omega)
    have e0 : L - D = r + 1 := by omega
    have htx : (10 : Int32) - nI x = nI (10 - x) := pk_sub (a := 10) (by omega)
    have hun : g_fs n w x (r + 1) X = if X.1.1 w 4 = 0 then x * g_fs n w x r (g_sn X) + (10 - x) * g_fs n w x r (g_dx n X) else 10 ^ (r + 1) := rfl
    rw [hun] at h
    show pC (d + r + 6 + 1) 91 _ _ _
    rw [eC_91]
    by_cases hf : X.1.1 w 4 = 0
    · rw [if_pos hf] at h
      /- behind a day of snow -/
      have kB : ∀ (M1 : mm_M), FT M M1 (11 + D + 1) → pK (d + r + 6) 91 post 4 [some (.inr (.inr (5, 0))), some (.inl (nI w)), some (.inl (nI D)), some (.inl (nI L)), some (.inl (nI x)), some (.inl (nI (x * g_fs n w x r (g_sn X)))), some (.inr (.inr (2, 11 + (D + 1))))] [] M1 (0, 0) := by
        intro M1 hF1
        have hC1 := LyC_2 hF1.1 hC
        have hR1 : RX M1 (11 + D) n X := RX_T hR hF1 (by omega) hn
        have c61 : mm_R M1 5 0 6 = some 2 := hC1.2.2.2.2.2.2.2.1
        have m21 : mm_L M1 9 2 = 9 := hC1.2.2.2.2.2.2.2.2.2.2.1
        have z31 := hC1.2.2.2.2.2.2.2.2.2.2.2.2.1 D (by omega)
        have y31 := hC1.2.2.2.2.2.2.2.2.2.2.2.2.1 (D + 1) (by omega)
        by_cases hx10 : x < 10
        · have hq : ¬ (10 : Int32) ≤ nI x := nI_ge (b := 10) (by omega) (by omega)
          rw [eK_91_4]
          simp only [eK_91_5, pw_aaload, pw_aload, pw_aload_n, pw_astore, pw_bipush, pw_dup, pw_getfield, pw_iadd, pw_iconst, pw_ifCond, pw_if_icmp, pw_iload, pw_iload_n, pw_imul, pw_invokestatic, pw_invokevirtual, pw_ireturn, pw_istore, pw_isub, pw_nop0, pw_putfield, mm_pI_c, mm_pL_c, mm_pA_c, mm_pR_c, mm_p1_i, mm_p1_r, mm_pN_0, mm_pN_s, mm_lI_c, mm_lL_c, mm_lA_c, mm_wd_n, mm_wd_i, mm_wd_l, mm_wd_r, mm_gf_i, mm_gf_b, mm_gf_r, mm_rf_c, mm_pf_i, mm_pf_b, mm_pf_r, mm_rt_v, mm_rt_i, mm_rt_r, mm_c_eq, mm_c_ne, mm_c_lt, mm_c_ge, mm_c_gt, mm_c_le, mm_sw_n, mm_sw_c, mm_alc_n, mm_alc_c, mm_rc_n, mm_rc_c, reduceCtorEq, false_implies, implies_true, true_implies, true_or, or_true, false_or, or_false, not_false_eq_true, mm_at_0, mm_at_s, mm_set_0, mm_set_s, mm_nl_n, mm_nl_i, mm_nl_r, mm_args_n, mm_args_i, mm_args_l, mm_args_r, mm_pad_0, mm_pad_n, mm_pad_c, List.length_cons, List.length_nil, List.nil_append, List.cons_append, Nat.zero_le, Nat.sub_zero, true_and, and_true, Nat.reduceAdd, Nat.reduceLeDiff, Nat.reduceLT, Nat.reduceSub, Nat.lt_irrefl, Nat.zero_add, Nat.add_zero, k_20, k_10, k_01, mm_if_T, mm_if_F, not_true_eq_false, not_false_eq_true, mm_if_f hq, c61, m21, z1, z2, z31, y31]
          refine t_10 (d + r + 4) (s := 11 + (D + 1)) (s' := 11 + D) (by omega) (by omega) (by omega) hn hC1.1 hR1 (WF_b hW) (fun M2 hR2 hF2 => ?_)
          simp only [eK_91_5, pw_aaload, pw_aload, pw_aload_n, pw_astore, pw_bipush, pw_dup, pw_getfield, pw_iadd, pw_iconst, pw_ifCond, pw_if_icmp, pw_iload, pw_iload_n, pw_imul, pw_invokestatic, pw_invokevirtual, pw_ireturn, pw_istore, pw_isub, pw_nop0, pw_putfield, mm_pI_c, mm_pL_c, mm_pA_c, mm_pR_c, mm_p1_i, mm_p1_r, mm_pN_0, mm_pN_s, mm_lI_c, mm_lL_c, mm_lA_c, mm_wd_n, mm_wd_i, mm_wd_l, mm_wd_r, mm_gf_i, mm_gf_b, mm_gf_r, mm_rf_c, mm_pf_i, mm_pf_b, mm_pf_r, mm_rt_v, mm_rt_i, mm_rt_r, mm_c_eq, mm_c_ne, mm_c_lt, mm_c_ge, mm_c_gt, mm_c_le, mm_sw_n, mm_sw_c, mm_alc_n, mm_alc_c, mm_rc_n, mm_rc_c, reduceCtorEq, false_implies, implies_true, true_implies, true_or, or_true, false_or, or_false, not_false_eq_true, mm_at_0, mm_at_s, mm_set_0, mm_set_s, mm_nl_n, mm_nl_i, mm_nl_r, mm_args_n, mm_args_i, mm_args_l, mm_args_r, mm_pad_0, mm_pad_n, mm_pad_c, List.length_cons, List.length_nil, List.nil_append, List.cons_append, Nat.zero_le, Nat.sub_zero, true_and, and_true, Nat.reduceAdd, Nat.reduceLeDiff, Nat.reduceLT, Nat.reduceSub, Nat.lt_irrefl, Nat.zero_add, Nat.add_zero, k_20, k_10, k_01, mm_if_T, mm_if_F, not_true_eq_false, not_false_eq_true, mm_rt_v, List.nil_append]
          refine t_23 (d + r + 1) (s := 11 + (D + 1)) (by omega) hn (LyS_2 hF2.1 hC1.1) hR2 (fun M3 hR3 hF3 => ?_)
          simp only [eK_91_5, pw_aaload, pw_aload, pw_aload_n, pw_astore, pw_bipush, pw_dup, pw_getfield, pw_iadd, pw_iconst, pw_ifCond, pw_if_icmp, pw_iload, pw_iload_n, pw_imul, pw_invokestatic, pw_invokevirtual, pw_ireturn, pw_istore, pw_isub, pw_nop0, pw_putfield, mm_pI_c, mm_pL_c, mm_pA_c, mm_pR_c, mm_p1_i, mm_p1_r, mm_pN_0, mm_pN_s, mm_lI_c, mm_lL_c, mm_lA_c, mm_wd_n, mm_wd_i, mm_wd_l, mm_wd_r, mm_gf_i, mm_gf_b, mm_gf_r, mm_rf_c, mm_pf_i, mm_pf_b, mm_pf_r, mm_rt_v, mm_rt_i, mm_rt_r, mm_c_eq, mm_c_ne, mm_c_lt, mm_c_ge, mm_c_gt, mm_c_le, mm_sw_n, mm_sw_c, mm_alc_n, mm_alc_c, mm_rc_n, mm_rc_c, reduceCtorEq, false_implies, implies_true, true_implies, true_or, or_true, false_or, or_false, not_false_eq_true, mm_at_0, mm_at_s, mm_set_0, mm_set_s, mm_nl_n, mm_nl_i, mm_nl_r, mm_args_n, mm_args_i, mm_args_l, mm_args_r, mm_pad_0, mm_pad_n, mm_pad_c, List.length_cons, List.length_nil, List.nil_append, List.cons_append, Nat.zero_le, Nat.sub_zero, true_and, and_true, Nat.reduceAdd, Nat.reduceLeDiff, Nat.reduceLT, Nat.reduceSub, Nat.lt_irrefl, Nat.zero_add, Nat.add_zero, k_20, k_10, k_01, mm_if_T, mm_if_F, not_true_eq_false, not_false_eq_true, mm_rt_v, List.nil_append, nI_1]
          refine ih (D + 1) (g_dx n X) M3 _ (by omega) (LyC_2 (hF3.1.trans hF2.1) hC1) hR3 (WF_go hW) (fun M4 hF4 => ?_)
          have hp := h M4 (FT_tr hF1 (FT_tr (FT_S (FS_tr hF2 hF3)) hF4 (by omega)) (by omega))
          simp only [eK_91_5, pw_aaload, pw_aload, pw_aload_n, pw_astore, pw_bipush, pw_dup, pw_getfield, pw_iadd, pw_iconst, pw_ifCond, pw_if_icmp, pw_iload, pw_iload_n, pw_imul, pw_invokestatic, pw_invokevirtual, pw_ireturn, pw_istore, pw_isub, pw_nop0, pw_putfield, mm_pI_c, mm_pL_c, mm_pA_c, mm_pR_c, mm_p1_i, mm_p1_r, mm_pN_0, mm_pN_s, mm_lI_c, mm_lL_c, mm_lA_c, mm_wd_n, mm_wd_i, mm_wd_l, mm_wd_r, mm_gf_i, mm_gf_b, mm_gf_r, mm_rf_c, mm_pf_i, mm_pf_b, mm_pf_r, mm_rt_v, mm_rt_i, mm_rt_r, mm_c_eq, mm_c_ne, mm_c_lt, mm_c_ge, mm_c_gt, mm_c_le, mm_sw_n, mm_sw_c, mm_alc_n, mm_alc_c, mm_rc_n, mm_rc_c, reduceCtorEq, false_implies, implies_true, true_implies, true_or, or_true, false_or, or_false, not_false_eq_true, mm_at_0, mm_at_s, mm_set_0, mm_set_s, mm_nl_n, mm_nl_i, mm_nl_r, mm_args_n, mm_args_i, mm_args_l, mm_args_r, mm_pad_0, mm_pad_n, mm_pad_c, List.length_cons, List.length_nil, List.nil_append, List.cons_append, Nat.zero_le, Nat.sub_zero, true_and, and_true, Nat.reduceAdd, Nat.reduceLeDiff, Nat.reduceLT, Nat.reduceSub, Nat.lt_irrefl, Nat.zero_add, Nat.add_zero, k_20, k_10, k_01, mm_if_T, mm_if_F, not_true_eq_false, not_false_eq_true, htx, pk_mul, nI_add]
          exact hp
        · have hq : (10 : Int32) ≤ nI x := nI_le (a := 10) (by omega) (by omega)
          have ex : 10 - x = 0 := by omega
          have hp := h M1 hF1
          rw [ex, Nat.zero_mul, Nat.add_zero] at hp
          rw [eK_91_4]
          simp only [eK_91_5, pw_aaload, pw_aload, pw_aload_n, pw_astore, pw_bipush, pw_dup, pw_getfield, pw_iadd, pw_iconst, pw_ifCond, pw_if_icmp, pw_iload, pw_iload_n, pw_imul, pw_invokestatic, pw_invokevirtual, pw_ireturn, pw_istore, pw_isub, pw_nop0, pw_putfield, mm_pI_c, mm_pL_c, mm_pA_c, mm_pR_c, mm_p1_i, mm_p1_r, mm_pN_0, mm_pN_s, mm_lI_c, mm_lL_c, mm_lA_c, mm_wd_n, mm_wd_i, mm_wd_l, mm_wd_r, mm_gf_i, mm_gf_b, mm_gf_r, mm_rf_c, mm_pf_i, mm_pf_b, mm_pf_r, mm_rt_v, mm_rt_i, mm_rt_r, mm_c_eq, mm_c_ne, mm_c_lt, mm_c_ge, mm_c_gt, mm_c_le, mm_sw_n, mm_sw_c, mm_alc_n, mm_alc_c, mm_rc_n, mm_rc_c, reduceCtorEq, false_implies, implies_true, true_implies, true_or, or_true, false_or, or_false, not_false_eq_true, mm_at_0, mm_at_s, mm_set_0, mm_set_s, mm_nl_n, mm_nl_i, mm_nl_r, mm_args_n, mm_args_i, mm_args_l, mm_args_r, mm_pad_0, mm_pad_n, mm_pad_c, List.length_cons, List.length_nil, List.nil_append, List.cons_append, Nat.zero_le, Nat.sub_zero, true_and, and_true, Nat.reduceAdd, Nat.reduceLeDiff, Nat.reduceLT, Nat.reduceSub, Nat.lt_irrefl, Nat.zero_add, Nat.add_zero, k_20, k_10, k_01, mm_if_T, mm_if_F, not_true_eq_false, not_false_eq_true, mm_if_t hq]
          exact hp
      by_cases hx0 : x = 0
      · subst hx0
        have hq : nI 0 ≤ (0 : Int32) := by decide
        have key := kB M (FT_rf M _)
        rw [Nat.zero_mul] at key
        simp only [eK_91_0, eK_91_1, eK_91_2, eK_91_3, eK_91_5, pw_aaload, pw_aload, pw_aload_n, pw_astore, pw_bipush, pw_dup, pw_getfield, pw_iadd, pw_iconst, pw_ifCond, pw_if_icmp, pw_iload, pw_iload_n, pw_imul, pw_invokestatic, pw_invokevirtual, pw_ireturn, pw_istore, pw_isub, pw_nop0, pw_putfield, mm_pI_c, mm_pL_c, mm_pA_c, mm_pR_c, mm_p1_i, mm_p1_r, mm_pN_0, mm_pN_s, mm_lI_c, mm_lL_c, mm_lA_c, mm_wd_n, mm_wd_i, mm_wd_l, mm_wd_r, mm_gf_i, mm_gf_b, mm_gf_r, mm_rf_c, mm_pf_i, mm_pf_b, mm_pf_r, mm_rt_v, mm_rt_i, mm_rt_r, mm_c_eq, mm_c_ne, mm_c_lt, mm_c_ge, mm_c_gt, mm_c_le, mm_sw_n, mm_sw_c, mm_alc_n, mm_alc_c, mm_rc_n, mm_rc_c, reduceCtorEq, false_implies, implies_true, true_implies, true_or, or_true, false_or, or_false, not_false_eq_true, mm_at_0, mm_at_s, mm_set_0, mm_set_s, mm_nl_n, mm_nl_i, mm_nl_r, mm_args_n, mm_args_i, mm_args_l, mm_args_r, mm_pad_0, mm_pad_n, mm_pad_c, List.length_cons, List.length_nil, List.nil_append, List.cons_append, Nat.zero_le, Nat.sub_zero, true_and, and_true, Nat.reduceAdd, Nat.reduceLeDiff, Nat.reduceLT, Nat.reduceSub, Nat.lt_irrefl, Nat.zero_add, Nat.add_zero, k_20, k_10, k_01, mm_if_T, mm_if_F, not_true_eq_false, not_false_eq_true, c6, m2, z1, z2, z3, y1, y2, y3, h1, h2, q1, q2, q4, rr, hf, mm_if_v, mm_if_f hle, mm_if_t hlt, nI_1, mm_if_t hq]
        exact key
      · have hq : ¬ nI x ≤ (0 : Int32) := nI_ge (a := 0) (by omega) (by omega)
        simp only [eK_91_0, eK_91_1, eK_91_2, eK_91_3, eK_91_5, pw_aaload, pw_aload, pw_aload_n, pw_astore, pw_bipush, pw_dup, pw_getfield, pw_iadd, pw_iconst, pw_ifCond, pw_if_icmp, pw_iload, pw_iload_n, pw_imul, pw_invokestatic, pw_invokevirtual, pw_ireturn, pw_istore, pw_isub, pw_nop0, pw_putfield, mm_pI_c, mm_pL_c, mm_pA_c, mm_pR_c, mm_p1_i, mm_p1_r, mm_pN_0, mm_pN_s, mm_lI_c, mm_lL_c, mm_lA_c, mm_wd_n, mm_wd_i, mm_wd_l, mm_wd_r, mm_gf_i, mm_gf_b, mm_gf_r, mm_rf_c, mm_pf_i, mm_pf_b, mm_pf_r, mm_rt_v, mm_rt_i, mm_rt_r, mm_c_eq, mm_c_ne, mm_c_lt, mm_c_ge, mm_c_gt, mm_c_le, mm_sw_n, mm_sw_c, mm_alc_n, mm_alc_c, mm_rc_n, mm_rc_c, reduceCtorEq, false_implies, implies_true, true_implies, true_or, or_true, false_or, or_false, not_false_eq_true, mm_at_0, mm_at_s, mm_set_0, mm_set_s, mm_nl_n, mm_nl_i, mm_nl_r, mm_args_n, mm_args_i, mm_args_l, mm_args_r, mm_pad_0, mm_pad_n, mm_pad_c, List.length_cons, List.length_nil, List.nil_append, List.cons_append, Nat.zero_le, Nat.sub_zero, true_and, and_true, Nat.reduceAdd, Nat.reduceLeDiff, Nat.reduceLT, Nat.reduceSub, Nat.lt_irrefl, Nat.zero_add, Nat.add_zero, k_20, k_10, k_01, mm_if_T, mm_if_F, not_true_eq_false, not_false_eq_true, c6, m2, z1, z2, z3, y1, y2, y3, h1, h2, q1, q2, q4, rr, hf, mm_if_v, mm_if_f hle, mm_if_t hlt, nI_1, mm_if_f hq]
        refine t_10 (d + r + 4) (s := 11 + (D + 1)) (s' := 11 + D) (by omega) (by omega) (by omega) hn hS hR (WF_b hW) (fun M2 hR2 hF2 => ?_)
        have s32 := hR2.2.1
        simp only [eK_91_0, eK_91_1, eK_91_2, eK_91_3, eK_91_5, pw_aaload, pw_aload, pw_aload_n, pw_astore, pw_bipush, pw_dup, pw_getfield, pw_iadd, pw_iconst, pw_ifCond, pw_if_icmp, pw_iload, pw_iload_n, pw_imul, pw_invokestatic, pw_invokevirtual, pw_ireturn, pw_istore, pw_isub, pw_nop0, pw_putfield, mm_pI_c, mm_pL_c, mm_pA_c, mm_pR_c, mm_p1_i, mm_p1_r, mm_pN_0, mm_pN_s, mm_lI_c, mm_lL_c, mm_lA_c, mm_wd_n, mm_wd_i, mm_wd_l, mm_wd_r, mm_gf_i, mm_gf_b, mm_gf_r, mm_rf_c, mm_pf_i, mm_pf_b, mm_pf_r, mm_rt_v, mm_rt_i, mm_rt_r, mm_c_eq, mm_c_ne, mm_c_lt, mm_c_ge, mm_c_gt, mm_c_le, mm_sw_n, mm_sw_c, mm_alc_n, mm_alc_c, mm_rc_n, mm_rc_c, reduceCtorEq, false_implies, implies_true, true_implies, true_or, or_true, false_or, or_false, not_false_eq_true, mm_at_0, mm_at_s, mm_set_0, mm_set_s, mm_nl_n, mm_nl_i, mm_nl_r, mm_args_n, mm_args_i, mm_args_l, mm_args_r, mm_pad_0, mm_pad_n, mm_pad_c, List.length_cons, List.length_nil, List.nil_append, List.cons_append, Nat.zero_le, Nat.sub_zero, true_and, and_true, Nat.reduceAdd, Nat.reduceLeDiff, Nat.reduceLT, Nat.reduceSub, Nat.lt_irrefl, Nat.zero_add, Nat.add_zero, k_20, k_10, k_01, mm_if_T, mm_if_F, not_true_eq_false, not_false_eq_true, mm_rt_v, List.nil_append, nI_1, s32]
        refine ih (D + 1) (g_sn X) _ _ (by omega) (LyC_2 (M := M) (by exact hF2.1) hC) (RS_2 hR2 _) hW (fun M4 hF4 => ?_)
        have key := kB M4 (FT_tr (FT_S (FS_2 hF2)) hF4 (by omega))
        simp only [eK_91_0, eK_91_1, eK_91_2, eK_91_3, eK_91_5, pw_aaload, pw_aload, pw_aload_n, pw_astore, pw_bipush, pw_dup, pw_getfield, pw_iadd, pw_iconst, pw_ifCond, pw_if_icmp, pw_iload, pw_iload_n, pw_imul, pw_invokestatic, pw_invokevirtual, pw_ireturn, pw_istore, pw_isub, pw_nop0, pw_putfield, mm_pI_c, mm_pL_c, mm_pA_c, mm_pR_c, mm_p1_i, mm_p1_r, mm_pN_0, mm_pN_s, mm_lI_c, mm_lL_c, mm_lA_c, mm_wd_n, mm_wd_i, mm_wd_l, mm_wd_r, mm_gf_i, mm_gf_b, mm_gf_r, mm_rf_c, mm_pf_i, mm_pf_b, mm_pf_r, mm_rt_v, mm_rt_i, mm_rt_r, mm_c_eq, mm_c_ne, mm_c_lt, mm_c_ge, mm_c_gt, mm_c_le, mm_sw_n, mm_sw_c, mm_alc_n, mm_alc_c, mm_rc_n, mm_rc_c, reduceCtorEq, false_implies, implies_true, true_implies, true_or, or_true, false_or, or_false, not_false_eq_true, mm_at_0, mm_at_s, mm_set_0, mm_set_s, mm_nl_n, mm_nl_i, mm_nl_r, mm_args_n, mm_args_i, mm_args_l, mm_args_r, mm_pad_0, mm_pad_n, mm_pad_c, List.length_cons, List.length_nil, List.nil_append, List.cons_append, Nat.zero_le, Nat.sub_zero, true_and, and_true, Nat.reduceAdd, Nat.reduceLeDiff, Nat.reduceLT, Nat.reduceSub, Nat.lt_irrefl, Nat.zero_add, Nat.add_zero, k_20, k_10, k_01, mm_if_T, mm_if_F, not_true_eq_false, not_false_eq_true, pk_mul, nI_add, Int32.zero_add]
        exact key
    · rw [if_neg hf] at h
      have hp := h M (FT_rf M _)
      simp only [eK_91_0, eK_91_1, eK_91_2, pw_aaload, pw_aload, pw_aload_n, pw_astore, pw_bipush, pw_dup, pw_getfield, pw_iadd, pw_iconst, pw_ifCond, pw_if_icmp, pw_iload, pw_iload_n, pw_imul, pw_invokestatic, pw_invokevirtual, pw_ireturn, pw_istore, pw_isub, pw_nop0, pw_putfield, mm_pI_c, mm_pL_c, mm_pA_c, mm_pR_c, mm_p1_i, mm_p1_r, mm_pN_0, mm_pN_s, mm_lI_c, mm_lL_c, mm_lA_c, mm_wd_n, mm_wd_i, mm_wd_l, mm_wd_r, mm_gf_i, mm_gf_b, mm_gf_r, mm_rf_c, mm_pf_i, mm_pf_b, mm_pf_r, mm_rt_v, mm_rt_i, mm_rt_r, mm_c_eq, mm_c_ne, mm_c_lt, mm_c_ge, mm_c_gt, mm_c_le, mm_sw_n, mm_sw_c, mm_alc_n, mm_alc_c, mm_rc_n, mm_rc_c, reduceCtorEq, false_implies, implies_true, true_implies, true_or, or_true, false_or, or_false, not_false_eq_true, mm_at_0, mm_at_s, mm_set_0, mm_set_s, mm_nl_n, mm_nl_i, mm_nl_r, mm_args_n, mm_args_i, mm_args_l, mm_args_r, mm_pad_0, mm_pad_n, mm_pad_c, List.length_cons, List.length_nil, List.nil_append, List.cons_append, Nat.zero_le, Nat.sub_zero, true_and, and_true, Nat.reduceAdd, Nat.reduceLeDiff, Nat.reduceLT, Nat.reduceSub, Nat.lt_irrefl, Nat.zero_add, Nat.add_zero, k_20, k_10, k_01, mm_if_T, mm_if_F, not_true_eq_false, not_false_eq_true, c6, m2, z1, z2, z3, y1, y2, y3, h1, h2, q1, q2, q4, rr, hf, mm_if_v, hsub, e0, e_92 (d + r + 5) (r + 1) (show r + 1 ≤ 8 by omega)]
      exact hp

