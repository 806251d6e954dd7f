/-! THE REFERENCE: lay -/
theorem g_fb_z {A : Nat → Nat → Int32} (h : ∀ w, A w 4 = 0) (n : Nat) : g_fb A n = 0 := by
  rw [g_fb_bI, bI_c (g := fun _ => 0) n (fun w _ => h w), bI_z]
theorem RB_7 {M : mm_M} {B n : Nat} {X : Sx} (hn : n ≤ 7) (h : RB M B 7 X) (hz : ∀ w, X.1.1 w 4 = 0) : RB M B n X := ⟨fun w hw => h.1 w (by omega), by rw [h.2.1, g_fb_z hz, g_fb_z hz], h.2.2⟩
def FQ (M M' : mm_M) : Prop := M'.2 = M.2 ∧ ∀ c i k, ¬ (c = 7 ∧ 5 ≤ i ∧ i ≤ 7) → mm_I M' c i k = mm_I M c i k
theorem FQ_s {M M' : mm_M} {i k : Nat} {v : Int32} (h : FQ M M') (hc : 5 ≤ i ∧ i ≤ 7) : FQ M (mm_sI M' 7 i k v) := ⟨h.1, fun c' i' k' a => by rw [mm_I_sI, if_neg (by omega)]; exact h.2 c' i' k' a⟩
set_option maxHeartbeats 4000000 in
theorem k_104 (d : Nat) {M : mm_M} {post : mm_Post} (h : ∀ M', FQ M M' → LyM M' → (∀ w, w < 7 → mm_I M' 7 5 w = mm_I M 7 8 w ∧ mm_I M' 7 6 w = mm_I M 7 9 w ∧ mm_I M' 7 7 w = mm_I M 7 10 w) → pK d 104 post 2 [some (.inr (.inr (6, 0))), some (.inl (nI 7))] [] M' (0, 0)) : ∀ (m v : Nat) (M1 : mm_M), v + m = 7 → LyM M1 → FQ M M1 → (∀ w, w < v → mm_I M1 7 5 w = mm_I M 7 8 w ∧ mm_I M1 7 6 w = mm_I M 7 9 w ∧ mm_I M1 7 7 w = mm_I M 7 10 w) → pK d 104 post 1 [some (.inr (.inr (6, 0))), some (.inl (nI v))] [] M1 (0, 0) := by
  intro m
  induction m with
  | zero =>
    intro v M1 hv hL hF hk
    have e : v = 7 := by omega
    subst e
    rw [eK_104_1]
    simp (disch := omega) only [pw_bipush, pw_goto, qw_aload_n0, qw_gf_b, qw_gf_i, qw_gf_r, qw_iaload, qw_iastore, qw_if_icmp_ge, qw_iinc1, qw_iload_n1, mm_rf_c, mm_rt_v, mm_rt_i, mm_rt_r, mm_alc_n, mm_alc_c, mm_rc_n, mm_rc_c, mm_wd_n, mm_wd_i, mm_wd_l, mm_wd_r, reduceCtorEq, false_implies, implies_true, true_implies, true_or, or_true, false_or, or_false, not_false_eq_true, mm_nl_n, mm_nl_i, mm_nl_r, mm_args_n, mm_args_i, mm_args_l, mm_args_r, mm_pad_0, mm_pad_n, mm_pad_c, List.length_cons, List.length_nil, List.nil_append, List.cons_append, Nat.zero_le, Nat.sub_zero, true_and, and_true, Nat.reduceAdd, Nat.reduceLeDiff, Nat.reduceLT, Nat.reduceSub, Nat.lt_irrefl, Nat.zero_add, Nat.add_zero, Nat.le_refl, k_20, k_10, k_01, ↓mm_if_T, ↓mm_if_F, ↓if10, ↓if00, not_true_eq_false, tf_01, ↓mm_if_tf, ↓mm_if_tn, ↓mm_if_nn, ↓mm_if_t (show (7 : Int32) ≤ nI 7 by decide)]
    exact h M1 hF hL hk
  | succ m ih =>
    intro v M1 hv hL hF hk
    have a1 := hL.1.1
    have a2 := hL.1.2.1
    have a5 := hL.1.2.2.1
    have a3 : mm_L M1 7 5 = 7 := hL.2.1
    have a4 : mm_L M1 7 6 = 7 := hL.2.2.1
    have a6 : mm_L M1 7 7 = 7 := hL.2.2.2.1
    have b1 := hL.1.2.2.2.1
    have b2 := hL.1.2.2.2.2.1
    have b3 := hL.1.2.2.2.2.2.1
    have b4 : mm_L M1 7 8 = 7 := hL.2.2.2.2.1
    have b5 : mm_L M1 7 9 = 7 := hL.2.2.2.2.2.1
    have b6 : mm_L M1 7 10 = 7 := hL.2.2.2.2.2.2.1
    have hlt : ¬ (7 : Int32) ≤ nI v := nI_ge (b := 7) (by omega) (by omega)
    rw [eK_104_1]
    simp (disch := omega) only [pw_bipush, pw_goto, qw_aload_n0, qw_gf_b, qw_gf_i, qw_gf_r, qw_iaload, qw_iastore, qw_if_icmp_ge, qw_iinc1, qw_iload_n1, mm_rf_c, mm_rt_v, mm_rt_i, mm_rt_r, mm_alc_n, mm_alc_c, mm_rc_n, mm_rc_c, mm_wd_n, mm_wd_i, mm_wd_l, mm_wd_r, reduceCtorEq, false_implies, implies_true, true_implies, true_or, or_true, false_or, or_false, not_false_eq_true, mm_nl_n, mm_nl_i, mm_nl_r, mm_args_n, mm_args_i, mm_args_l, mm_args_r, mm_pad_0, mm_pad_n, mm_pad_c, List.length_cons, List.length_nil, List.nil_append, List.cons_append, Nat.zero_le, Nat.sub_zero, true_and, and_true, Nat.reduceAdd, Nat.reduceLeDiff, Nat.reduceLT, Nat.reduceSub, Nat.lt_irrefl, Nat.zero_add, Nat.add_zero, Nat.le_refl, k_20, k_10, k_01, ↓mm_if_T, ↓mm_if_F, ↓if10, ↓if00, not_true_eq_false, tf_01, ↓mm_if_tf, ↓mm_if_tn, ↓mm_if_nn, ↓mm_if_f hlt, a1, a2, a3, a4, a5, a6, b1, b2, b3, b4, b5, b6, vi_, ci_, mm_L_s, mm_R_s, mm_I_i, nI_1]
    refine ih (v + 1) _ (by omega) (LyM_2 rfl hL) (FQ_s (FQ_s (FQ_s hF (by omega)) (by omega)) (by omega)) (fun w hw => ?_)
    by_cases e : w = v
    · subst e
      simp (disch := omega) only [mm_I_i, mm_I_s]
      exact ⟨hF.2 7 8 w (by omega), hF.2 7 9 w (by omega), hF.2 7 10 w (by omega)⟩
    · obtain ⟨y1, y2, y3⟩ := hk w (by omega)
      simp (disch := omega) only [mm_I_i, mm_I_k]
      exact ⟨y1, y2, y3⟩
theorem r_104 (d : Nat) {M : mm_M} {post : mm_Post} {Z : Nat × St} (hL : LyM M) (hP : PR M Z) (h : ∀ M', LyM M' → RM M' Z.1 Z.2.1 → RB M' 0 Z.1 (Z.2, 0) → FN M M' → (∀ c i k, (c = 6 ∧ ¬ k = 0) ∨ (c = 7 ∧ 12 ≤ i) ∨ c = 8 → mm_I M' c i k = mm_I M c i k) → post none M') : pC (d + 2) 104 [.inr (.inr (6, 0))] M post := by
  obtain ⟨g1, ⟨g2, g3⟩, g4, g5, g6, g7⟩ := hP
  have fin := k_104 (d + 1) (M := mm_sI M 6 0 0 (nI Z.1)) (post := post) (fun M1 F1 L1 e1 => by
    rw [eK_104_2]
    simp (disch := omega) only [pw_iconst, pw_return_, pw_sipush, qw_aload_n0, qw_invokevirtual3, mm_rf_c, mm_rt_v, mm_rt_i, mm_rt_r, mm_alc_n, mm_alc_c, mm_rc_n, mm_rc_c, mm_wd_n, mm_wd_i, mm_wd_l, mm_wd_r, reduceCtorEq, false_implies, implies_true, true_implies, true_or, or_true, false_or, or_false, not_false_eq_true, mm_nl_n, mm_nl_i, mm_nl_r, mm_args_n, mm_args_i, mm_args_l, mm_args_r, mm_pad_0, mm_pad_n, mm_pad_c, List.length_cons, List.length_nil, List.nil_append, List.cons_append, Nat.zero_le, Nat.sub_zero, true_and, and_true, Nat.reduceAdd, Nat.reduceLeDiff, Nat.reduceLT, Nat.reduceSub, Nat.lt_irrefl, Nat.zero_add, Nat.add_zero, Nat.le_refl, k_20, k_10, k_01, ↓mm_if_T, ↓mm_if_F, ↓if10, ↓if00, not_true_eq_false, tf_01, ↓mm_if_tf, ↓mm_if_tn, ↓mm_if_nn]
    refine r_105 (B := 429) (C := 0) d L1 (by omega) (by omega) (by omega) (fun M2 F2 hc => ?_)
    have er : RB M1 429 7 (Z.2, 0) := RB_e g4 (by omega) (fun k _ _ => by rw [F1.2 7 11 k (by omega), mm_I_c (by omega)])
    simp (disch := omega) only [pw_iconst, pw_return_, pw_sipush, qw_aload_n0, qw_invokevirtual3, mm_rf_c, mm_rt_v, mm_rt_i, mm_rt_r, mm_alc_n, mm_alc_c, mm_rc_n, mm_rc_c, mm_wd_n, mm_wd_i, mm_wd_l, mm_wd_r, reduceCtorEq, false_implies, implies_true, true_implies, true_or, or_true, false_or, or_false, not_false_eq_true, mm_nl_n, mm_nl_i, mm_nl_r, mm_args_n, mm_args_i, mm_args_l, mm_args_r, mm_pad_0, mm_pad_n, mm_pad_c, List.length_cons, List.length_nil, List.nil_append, List.cons_append, Nat.zero_le, Nat.sub_zero, true_and, and_true, Nat.reduceAdd, Nat.reduceLeDiff, Nat.reduceLT, Nat.reduceSub, Nat.lt_irrefl, Nat.zero_add, Nat.add_zero, Nat.le_refl, k_20, k_10, k_01, ↓mm_if_T, ↓mm_if_F, ↓if10, ↓if00, not_true_eq_false, tf_01, ↓mm_if_tf, ↓mm_if_tn, ↓mm_if_nn]
    refine h M2 (LyM_2 F2.1 L1) ⟨?_, fun w hw => ?_⟩ (RB_7 g1 (RB_cp (by omega) er hc) (fun w => (g6 w).2)) ⟨?_, fun c i k a b e => ?_⟩ (fun c i k q => ?_)
    · rw [F2.2 6 0 0 (by omega), F1.2 6 0 0 (by omega), mm_I_s]
    · obtain ⟨y1, y2, y3⟩ := e1 w (by omega)
      rw [mm_I_c (by omega)] at y1 y2 y3
      rw [F2.2 7 5 w (by omega), F2.2 7 6 w (by omega), F2.2 7 7 w (by omega), y1, y2, y3]
      exact g3 w hw
    · rw [F2.1, F1.1]; rfl
    · rw [F2.2 c i k (by omega), F1.2 c i k (by omega), mm_I_c (by omega)]
    · rw [F2.2 c i k (by omega), F1.2 c i k (by omega), mm_I_sI, if_neg (by omega)]) 7 0 (mm_sI M 6 0 0 (nI Z.1)) (by omega) (LyM_2 (M := M) rfl hL) ⟨rfl, fun _ _ _ _ => rfl⟩ (fun w hw => by omega)
  simp (disch := omega) only [eC_104, eK_104_0, pw_iconst, pw_nop0, qw_aload_n0, qw_gf_b, qw_gf_i, qw_gf_r, qw_istore_n1, qw_pf_b, qw_pf_i, qw_pf_r, mm_rf_c, mm_rt_v, mm_rt_i, mm_rt_r, mm_alc_n, mm_alc_c, mm_rc_n, mm_rc_c, mm_wd_n, mm_wd_i, mm_wd_l, mm_wd_r, reduceCtorEq, false_implies, implies_true, true_implies, true_or, or_true, false_or, or_false, not_false_eq_true, mm_nl_n, mm_nl_i, mm_nl_r, mm_args_n, mm_args_i, mm_args_l, mm_args_r, mm_pad_0, mm_pad_n, mm_pad_c, List.length_cons, List.length_nil, List.nil_append, List.cons_append, Nat.zero_le, Nat.sub_zero, true_and, and_true, Nat.reduceAdd, Nat.reduceLeDiff, Nat.reduceLT, Nat.reduceSub, Nat.lt_irrefl, Nat.zero_add, Nat.add_zero, Nat.le_refl, k_20, k_10, k_01, ↓mm_if_T, ↓mm_if_F, ↓if10, ↓if00, not_true_eq_false, tf_01, ↓mm_if_tf, ↓mm_if_tn, ↓mm_if_nn, g2]
  exact fin
theorem r_117 (d : Nat) {M : mm_M} {post : mm_Post} {n : Nat} {X : Sx} {a : Nat} {P : Nat → Sx} {b : Nat} {K : Nat → Sx} (hJ : J1 M n X a P b K) (hn : n ≤ 7) (ha : a ≤ 8) (hb : b ≤ 2) {q : Nat} {nx nl : Nat → Int32} {t : Nat} {lt : Nat → Int32} (hN : J2 M q nx nl t lt) (ht : t ≤ 200) (h0 : ∀ M', (∀ Z, p_rd (lL t lt) t 200 0 Z0 = .inl Z → Z.1 = 0) → J1 M' n X a P b K → J2 M' q nx nl t lt → FN M M' → post (some (.inl (-2))) M') (h1 : ∀ M' Z, p_rd (lL t lt) t 200 0 Z0 = .inl Z → 1 ≤ Z.1 → Z.1 ≤ 7 → J1 M' Z.1 (Z.2, 0) 0 P 0 K → J2 M' 0 nx nl t lt → FN M M' → post (some (.inl (nI Z.1))) M') : pC (d + 7) 117 [.inr (.inr (6, 0))] M post := by
  simp (disch := omega) only [eC_117, eK_117_0, eK_117_1, eK_117_2, pw_bipush, pw_iconst, pw_nop0, qw_aload_n0, qw_gf_b, qw_gf_i, qw_gf_r, qw_if_eq, qw_if_ne, qw_invokevirtual1, qw_ireturn, qw_pf_b, qw_pf_i, qw_pf_r, mm_rf_c, mm_rt_v, mm_rt_i, mm_rt_r, mm_alc_n, mm_alc_c, mm_rc_n, mm_rc_c, mm_wd_n, mm_wd_i, mm_wd_l, mm_wd_r, reduceCtorEq, false_implies, implies_true, true_implies, true_or, or_true, false_or, or_false, not_false_eq_true, mm_nl_n, mm_nl_i, mm_nl_r, mm_args_n, mm_args_i, mm_args_l, mm_args_r, mm_pad_0, mm_pad_n, mm_pad_c, List.length_cons, List.length_nil, List.nil_append, List.cons_append, Nat.zero_le, Nat.sub_zero, true_and, and_true, Nat.reduceAdd, Nat.reduceLeDiff, Nat.reduceLT, Nat.reduceSub, Nat.lt_irrefl, Nat.zero_add, Nat.add_zero, Nat.le_refl, k_20, k_10, k_01, ↓mm_if_T, ↓mm_if_F, ↓if10, ↓if00, not_true_eq_false, tf_01, ↓mm_if_tf, ↓mm_if_tn, ↓mm_if_nn]
  refine r_115 d hJ.1 hN ht (fun M1 Z e F PZ => ?_) (fun M1 p e F g => ?_)
  · have g4 : mm_I M1 6 0 4 = nI Z.1 := PZ.2.1.1
    have z7 := PZ.1
    by_cases c : Z.1 = 0
    · have c' : nI Z.1 = 0 := by rw [c]; rfl
      have hh := h0 M1 (fun Z' e' => by rw [e] at e'; rw [← Sum.inl.inj e']; exact c) (J1_V hJ hn ha hb F) (J2_V F hN) (FN_V F)
      simp (disch := omega) only [eC_117, eK_117_0, eK_117_1, eK_117_2, pw_bipush, pw_iconst, pw_nop0, qw_aload_n0, qw_gf_b, qw_gf_i, qw_gf_r, qw_if_eq, qw_if_ne, qw_invokevirtual1, qw_ireturn, qw_pf_b, qw_pf_i, qw_pf_r, mm_rf_c, mm_rt_v, mm_rt_i, mm_rt_r, mm_alc_n, mm_alc_c, mm_rc_n, mm_rc_c, mm_wd_n, mm_wd_i, mm_wd_l, mm_wd_r, reduceCtorEq, false_implies, implies_true, true_implies, true_or, or_true, false_or, or_false, not_false_eq_true, mm_nl_n, mm_nl_i, mm_nl_r, mm_args_n, mm_args_i, mm_args_l, mm_args_r, mm_pad_0, mm_pad_n, mm_pad_c, List.length_cons, List.length_nil, List.nil_append, List.cons_append, Nat.zero_le, Nat.sub_zero, true_and, and_true, Nat.reduceAdd, Nat.reduceLeDiff, Nat.reduceLT, Nat.reduceSub, Nat.lt_irrefl, Nat.zero_add, Nat.add_zero, Nat.le_refl, k_20, k_10, k_01, ↓mm_if_T, ↓mm_if_F, ↓if10, ↓if00, not_true_eq_false, tf_01, ↓mm_if_tf, ↓mm_if_tn, ↓mm_if_nn, g4, ↓mm_if_t c']
      exact hh
    · have c' : ¬ nI Z.1 = 0 := nI_ne0 (by omega) (by omega)
      simp (disch := omega) only [eC_117, eK_117_0, eK_117_1, eK_117_2, pw_bipush, pw_iconst, pw_nop0, qw_aload_n0, qw_gf_b, qw_gf_i, qw_gf_r, qw_if_eq, qw_if_ne, qw_invokevirtual1, qw_ireturn, qw_pf_b, qw_pf_i, qw_pf_r, mm_rf_c, mm_rt_v, mm_rt_i, mm_rt_r, mm_alc_n, mm_alc_c, mm_rc_n, mm_rc_c, mm_wd_n, mm_wd_i, mm_wd_l, mm_wd_r, reduceCtorEq, false_implies, implies_true, true_implies, true_or, or_true, false_or, or_false, not_false_eq_true, mm_nl_n, mm_nl_i, mm_nl_r, mm_args_n, mm_args_i, mm_args_l, mm_args_r, mm_pad_0, mm_pad_n, mm_pad_c, List.length_cons, List.length_nil, List.nil_append, List.cons_append, Nat.zero_le, Nat.sub_zero, true_and, and_true, Nat.reduceAdd, Nat.reduceLeDiff, Nat.reduceLT, Nat.reduceSub, Nat.lt_irrefl, Nat.zero_add, Nat.add_zero, Nat.le_refl, k_20, k_10, k_01, ↓mm_if_T, ↓mm_if_F, ↓if10, ↓if00, not_true_eq_false, tf_01, ↓mm_if_tf, ↓mm_if_tn, ↓mm_if_nn, g4, ↓mm_if_f c']
      refine r_104 (d + 4) (LyM_2 F.1 hJ.1) PZ (fun M2 L2 R2 B2 F2 E2 => ?_)
      have N2 := J2_V F hN
      have k0 := R2.1
      have hh := h1 (mm_sI (mm_sI (mm_sI M2 6 0 9 0) 6 0 10 0) 6 0 16 0) Z e (by omega) z7 ⟨LyM_2 (M := M2) rfl L2, RM_e R2 (fun c i k q => by rw [mm_I_sI, if_neg (by omega), mm_I_sI, if_neg (by omega), mm_I_sI, if_neg (by omega)]), RB_e B2 z7 (fun k _ _ => by rw [mm_I_c (by omega), mm_I_c (by omega), mm_I_c (by omega)]), by rw [mm_I_k (by omega), mm_I_k (by omega)]; exact mm_I_s, fun i hi => by omega, by rw [mm_I_k (by omega)]; exact mm_I_s, fun i hi => by omega⟩ ⟨mm_I_s, fun i hi => by omega, by rw [mm_I_k (by omega), mm_I_k (by omega), mm_I_k (by omega), E2 6 0 11 (by omega)]; exact N2.2.2.1, fun i hi => by rw [mm_I_c (by omega), mm_I_c (by omega), mm_I_c (by omega), E2 8 0 i (by omega)]; exact N2.2.2.2 i hi⟩ (FN_s (FN_s (FN_s (FN_tr (FN_V F) F2) (by omega)) (by omega)) (by omega))
      simp (disch := omega) only [eC_117, eK_117_0, eK_117_1, eK_117_2, pw_bipush, pw_iconst, pw_nop0, qw_aload_n0, qw_gf_b, qw_gf_i, qw_gf_r, qw_if_eq, qw_if_ne, qw_invokevirtual1, qw_ireturn, qw_pf_b, qw_pf_i, qw_pf_r, mm_rf_c, mm_rt_v, mm_rt_i, mm_rt_r, mm_alc_n, mm_alc_c, mm_rc_n, mm_rc_c, mm_wd_n, mm_wd_i, mm_wd_l, mm_wd_r, reduceCtorEq, false_implies, implies_true, true_implies, true_or, or_true, false_or, or_false, not_false_eq_true, mm_nl_n, mm_nl_i, mm_nl_r, mm_args_n, mm_args_i, mm_args_l, mm_args_r, mm_pad_0, mm_pad_n, mm_pad_c, List.length_cons, List.length_nil, List.nil_append, List.cons_append, Nat.zero_le, Nat.sub_zero, true_and, and_true, Nat.reduceAdd, Nat.reduceLeDiff, Nat.reduceLT, Nat.reduceSub, Nat.lt_irrefl, Nat.zero_add, Nat.add_zero, Nat.le_refl, k_20, k_10, k_01, ↓mm_if_T, ↓mm_if_F, ↓if10, ↓if00, not_true_eq_false, tf_01, ↓mm_if_tf, ↓mm_if_tn, ↓mm_if_nn, k0, mm_I_k]
      exact hh
  · have hh := h0 M1 (fun Z' e' => by rw [e] at e'; exact absurd e' (by simp)) (J1_V hJ hn ha hb F) (J2_V F hN) (FN_V F)
    simp (disch := omega) only [eC_117, eK_117_0, eK_117_1, eK_117_2, pw_bipush, pw_iconst, pw_nop0, qw_aload_n0, qw_gf_b, qw_gf_i, qw_gf_r, qw_if_eq, qw_if_ne, qw_invokevirtual1, qw_ireturn, qw_pf_b, qw_pf_i, qw_pf_r, mm_rf_c, mm_rt_v, mm_rt_i, mm_rt_r, mm_alc_n, mm_alc_c, mm_rc_n, mm_rc_c, mm_wd_n, mm_wd_i, mm_wd_l, mm_wd_r, reduceCtorEq, false_implies, implies_true, true_implies, true_or, or_true, false_or, or_false, not_false_eq_true, mm_nl_n, mm_nl_i, mm_nl_r, mm_args_n, mm_args_i, mm_args_l, mm_args_r, mm_pad_0, mm_pad_n, mm_pad_c, List.length_cons, List.length_nil, List.nil_append, List.cons_append, Nat.zero_le, Nat.sub_zero, true_and, and_true, Nat.reduceAdd, Nat.reduceLeDiff, Nat.reduceLT, Nat.reduceSub, Nat.lt_irrefl, Nat.zero_add, Nat.add_zero, Nat.le_refl, k_20, k_10, k_01, ↓mm_if_T, ↓mm_if_F, ↓if10, ↓if00, not_true_eq_false, tf_01, ↓mm_if_tf, ↓mm_if_tn, ↓mm_if_nn]
    exact hh
theorem RB_E {M : mm_M} {B n : Nat} {A A' : Nat → Nat → Int32} {s : Int32 × Int32} {dy : Int32} (h : RB M B n ((A, s), dy)) (e : Eqv n A' A) : RB M B n ((A', s), dy) := by
  obtain ⟨h1, h2, h3⟩ := h
  refine ⟨fun w hw => ?_, ?_, h3⟩
  · have q := h1 w hw
    obtain ⟨e1, e2⟩ := e w hw
    dsimp only at q ⊢
    have e3 := e1 3 (by omega)
    have e5 := e1 5 (by omega)
    simp only [e3, e5]
    by_cases c : A w 5 = 0
    · rw [if_pos c, if_pos c]
      rw [if_pos c, if_pos c] at q
      have c2 : ¬ A w 5 = 2 := by rw [c]; decide
      rw [if_neg c2]
      rw [if_neg c2] at q
      exact ⟨q.1, q.2.1, q.2.2.1, q.2.2.2.1, fun z => absurd z c2⟩
    · have k := e2 (by rw [e1 5 (by omega)]; exact c)
      rw [k 6 (by omega), k 7 (by omega), k 9 (by omega), k 10 (by omega)]
      exact q
  · rw [h2]
    exact (g_fb_c (fun w hw => (e w hw).1 4 (by omega))).symm

