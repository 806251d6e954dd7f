/-! THE CLASS: its constructor -/
theorem w_2 : (2 : Int32).toNatClampNeg = 2 := by decide
theorem n_2 : ((2 : Int32) < 0) = False := by decide
theorem w_5 : (5 : Int32).toNatClampNeg = 5 := by decide
theorem n_5 : ((5 : Int32) < 0) = False := by decide
theorem w_6 : (6 : Int32).toNatClampNeg = 6 := by decide
theorem n_6 : ((6 : Int32) < 0) = False := by decide
theorem w_7 : (7 : Int32).toNatClampNeg = 7 := by decide
theorem n_7 : ((7 : Int32) < 0) = False := by decide
theorem w_8 : (8 : Int32).toNatClampNeg = 8 := by decide
theorem n_8 : ((8 : Int32) < 0) = False := by decide
theorem w_9 : (9 : Int32).toNatClampNeg = 9 := by decide
theorem n_9 : ((9 : Int32) < 0) = False := by decide
theorem w_200 : (200 : Int32).toNatClampNeg = 200 := by decide
theorem n_200 : ((200 : Int32) < 0) = False := by decide
theorem w_468 : (468 : Int32).toNatClampNeg = 468 := by decide
theorem n_468 : ((468 : Int32) < 0) = False := by decide
theorem rd_ok : (match p_rd (lL 102 lt0) 102 200 0 Z0 with | .inl _ => true | .inr _ => false) = true := by decide +kernel
theorem rd_no {p : Nat} (h : p_rd (lL 102 lt0) 102 200 0 Z0 = .inr p) : False := by
  have := rd_ok
  rw [h] at this
  exact absurd this (by simp)
def GA (M M' : mm_M) (c0 : Nat) : Prop := (∀ c, ¬ c = 7 → mm_N M' c = mm_N M c) ∧ (∀ c i k, ¬ (c = 7 ∧ mm_N M 7 ≤ i) → mm_I M' c i k = mm_I M c i k) ∧ (∀ c i k, ¬ (c = c0 ∧ i = 0) → ¬ (c = 7 ∧ mm_N M 7 ≤ i) → mm_R M' c i k = mm_R M c i k) ∧ ∀ c i, ¬ (c = 7 ∧ mm_N M 7 ≤ i) → mm_L M' c i = mm_L M c i
theorem GA_rf (M : mm_M) (c0 : Nat) : GA M M c0 := ⟨fun _ _ => rfl, fun _ _ _ _ => rfl, fun _ _ _ _ _ => rfl, fun _ _ _ => rfl⟩
theorem GA_s {M M1 : mm_M} {c0 k len v : Nat} (h : GA M M1 c0) (hn : mm_N M 7 ≤ mm_N M1 7) : GA M (mm_sR (mm_nw M1 7 len) c0 0 k (some v)) c0 := by
  obtain ⟨h1, h2, h3, h4⟩ := h
  refine ⟨fun c a => ?_, fun c i k' a => ?_, fun c i k' a b => ?_, fun c i a => ?_⟩
  · rw [mm_N_sR, mm_N_nw, if_neg a]; exact h1 c a
  · rw [mm_I_sR, mm_I_nw, if_neg (by omega)]; exact h2 c i k' a
  · rw [mm_R_sR, if_neg (by omega), mm_R_nw, if_neg (by omega)]; exact h3 c i k' a b
  · rw [mm_L_sR, mm_L_nw, if_neg (by omega)]; exact h4 c i a

theorem t_25 (d : Nat) {M : mm_M} {post : mm_Post} {a : Nat} (hN : mm_N M 7 = a) (h : ∀ M', GA M M' 3 → mm_N M' 7 = a + 2 → mm_R M' 3 0 0 = some a → mm_R M' 3 0 1 = some (a + 1) → mm_L M' 7 a = 200 → mm_L M' 7 (a + 1) = 5 → post none M') : pC (d + 1) 25 [.inr (.inr (3, 0))] M post := by
  have q1 : mm_N (mm_sR (mm_nw M 7 200) 3 0 0 (some a)) 7 = a + 1 := by rw [mm_N_sR, mm_N_nw, if_pos rfl, hN]
  have G := GA_s (k := 1) (len := 5) (v := a + 1) (GA_s (k := 0) (len := 200) (v := a) (GA_rf M 3) (Nat.le_refl _)) (by rw [q1, hN]; omega)
  have fin := h _ G (by rw [mm_N_sR, mm_N_nw, if_pos rfl, q1]) (by rw [mm_R_sR, if_neg (fun z => absurd z.2.2 (by decide)), mm_R_nw, if_neg (fun z => absurd z.1 (by decide)), mm_R_sR, if_pos ⟨rfl, rfl, rfl⟩]) (by rw [mm_R_sR, if_pos ⟨rfl, rfl, rfl⟩]) (by rw [mm_L_sR, mm_L_nw, q1, if_neg (fun z => by omega), mm_L_sR, mm_L_nw, if_pos ⟨rfl, hN.symm⟩]) (by rw [mm_L_sR, mm_L_nw, if_pos ⟨rfl, q1.symm⟩])
  simp (disch := omega) only [eC_25, eK_25_0, pw_iconst, pw_newarray, pw_nop2, pw_return_, pw_sipush, qw_aload_n0, qw_pf_b, qw_pf_i, qw_pf_r, mm_rf_c, mm_rt_v, mm_rt_i, mm_rt_r, mm_alc_n, mm_alc_c, mm_rc_n, mm_rc_c, mm_wd_n, mm_wd_i, mm_wd_l, mm_wd_r, reduceCtorEq, false_implies, implies_true, true_implies, true_or, or_true, false_or, or_false, not_false_eq_true, mm_nl_n, mm_nl_i, mm_nl_r, mm_args_n, mm_args_i, mm_args_l, mm_args_r, mm_pad_0, mm_pad_n, mm_pad_c, List.length_cons, List.length_nil, List.nil_append, List.cons_append, Nat.zero_le, Nat.sub_zero, true_and, and_true, Nat.reduceAdd, Nat.reduceLeDiff, Nat.reduceLT, Nat.reduceSub, Nat.lt_irrefl, Nat.zero_add, Nat.add_zero, Nat.le_refl, k_20, k_10, k_01, ↓mm_if_T, ↓mm_if_F, ↓if10, ↓if00, not_true_eq_false, tf_01, ↓mm_if_tf, ↓mm_if_tn, ↓mm_if_nn, mm_pA_c, mm_pI_c, w_2, n_2, w_5, n_5, w_6, n_6, w_7, n_7, w_8, n_8, w_9, n_9, w_200, n_200, w_468, n_468, hN, q1]
  exact fin

theorem t_4 (d : Nat) {M : mm_M} {post : mm_Post} {a : Nat} (hN : mm_N M 7 = a) (h : ∀ M', GA M M' 1 → mm_N M' 7 = a + 2 → mm_R M' 1 0 0 = some a → mm_R M' 1 0 1 = some (a + 1) → mm_L M' 7 a = 6 → mm_L M' 7 (a + 1) = 6 → post none M') : pC (d + 1) 4 [.inr (.inr (1, 0))] M post := by
  have q1 : mm_N (mm_sR (mm_nw M 7 6) 1 0 0 (some a)) 7 = a + 1 := by rw [mm_N_sR, mm_N_nw, if_pos rfl, hN]
  have G := GA_s (k := 1) (len := 6) (v := a + 1) (GA_s (k := 0) (len := 6) (v := a) (GA_rf M 1) (Nat.le_refl _)) (by rw [q1, hN]; omega)
  have fin := h _ G (by rw [mm_N_sR, mm_N_nw, if_pos rfl, q1]) (by rw [mm_R_sR, if_neg (fun z => absurd z.2.2 (by decide)), mm_R_nw, if_neg (fun z => absurd z.1 (by decide)), mm_R_sR, if_pos ⟨rfl, rfl, rfl⟩]) (by rw [mm_R_sR, if_pos ⟨rfl, rfl, rfl⟩]) (by rw [mm_L_sR, mm_L_nw, q1, if_neg (fun z => by omega), mm_L_sR, mm_L_nw, if_pos ⟨rfl, hN.symm⟩]) (by rw [mm_L_sR, mm_L_nw, if_pos ⟨rfl, q1.symm⟩])
  simp (disch := omega) only [eC_4, eK_4_0, pw_bipush, pw_newarray, pw_nop2, pw_return_, qw_aload_n0, qw_pf_b, qw_pf_i, qw_pf_r, mm_rf_c, mm_rt_v, mm_rt_i, mm_rt_r, mm_alc_n, mm_alc_c, mm_rc_n, mm_rc_c, mm_wd_n, mm_wd_i, mm_wd_l, mm_wd_r, reduceCtorEq, false_implies, implies_true, true_implies, true_or, or_true, false_or, or_false, not_false_eq_true, mm_nl_n, mm_nl_i, mm_nl_r, mm_args_n, mm_args_i, mm_args_l, mm_args_r, mm_pad_0, mm_pad_n, mm_pad_c, List.length_cons, List.length_nil, List.nil_append, List.cons_append, Nat.zero_le, Nat.sub_zero, true_and, and_true, Nat.reduceAdd, Nat.reduceLeDiff, Nat.reduceLT, Nat.reduceSub, Nat.lt_irrefl, Nat.zero_add, Nat.add_zero, Nat.le_refl, k_20, k_10, k_01, ↓mm_if_T, ↓mm_if_F, ↓if10, ↓if00, not_true_eq_false, tf_01, ↓mm_if_tf, ↓mm_if_tn, ↓mm_if_nn, mm_pA_c, mm_pI_c, w_2, n_2, w_5, n_5, w_6, n_6, w_7, n_7, w_8, n_8, w_9, n_9, w_200, n_200, w_468, n_468, hN, q1]
  exact fin

theorem t_0 (d : Nat) {M : mm_M} {post : mm_Post} {a : Nat} (hN : mm_N M 7 = a) (h : ∀ M', GA M M' 0 → mm_N M' 7 = a + 1 → mm_R M' 0 0 0 = some a → mm_L M' 7 a = 7 → post none M') : pC (d + 1) 0 [.inr (.inr (0, 0))] M post := by
  have G := GA_s (k := 0) (len := 7) (v := a) (GA_rf M 0) (Nat.le_refl _)
  have fin := h _ G (by rw [mm_N_sR, mm_N_nw, if_pos rfl, hN]) (by rw [mm_R_sR, if_pos ⟨rfl, rfl, rfl⟩]) (by rw [mm_L_sR, mm_L_nw, if_pos ⟨rfl, hN.symm⟩])
  simp (disch := omega) only [eC_0, eK_0_0, pw_bipush, pw_newarray, pw_nop2, pw_return_, qw_aload_n0, qw_pf_b, qw_pf_i, qw_pf_r, mm_rf_c, mm_rt_v, mm_rt_i, mm_rt_r, mm_alc_n, mm_alc_c, mm_rc_n, mm_rc_c, mm_wd_n, mm_wd_i, mm_wd_l, mm_wd_r, reduceCtorEq, false_implies, implies_true, true_implies, true_or, or_true, false_or, or_false, not_false_eq_true, mm_nl_n, mm_nl_i, mm_nl_r, mm_args_n, mm_args_i, mm_args_l, mm_args_r, mm_pad_0, mm_pad_n, mm_pad_c, List.length_cons, List.length_nil, List.nil_append, List.cons_append, Nat.zero_le, Nat.sub_zero, true_and, and_true, Nat.reduceAdd, Nat.reduceLeDiff, Nat.reduceLT, Nat.reduceSub, Nat.lt_irrefl, Nat.zero_add, Nat.add_zero, Nat.le_refl, k_20, k_10, k_01, ↓mm_if_T, ↓mm_if_F, ↓if10, ↓if00, not_true_eq_false, tf_01, ↓mm_if_tf, ↓mm_if_tn, ↓mm_if_nn, mm_pA_c, mm_pI_c, w_2, n_2, w_5, n_5, w_6, n_6, w_7, n_7, w_8, n_8, w_9, n_9, w_200, n_200, w_468, n_468, hN]
  exact fin

set_option maxHeartbeats 4000000 in
theorem t_48e {post : mm_Post} {L : Nat} {xs : Nat → Int32} {M3 : mm_M} (h3 : CS M3 L xs (1 + 8)) (h : ∀ M' A' Z P K nx nl lt, p_rd (lL 102 lt0) 102 200 0 Z0 = .inl Z → Eqv Z.1 A' Z.2.1 → I1 M' Z.1 ((A', Z.2.2), 0) 0 P 0 K → I2 M' 0 nx nl 0 lt → SC M' L xs → mm_N M' 6 = 0 → mm_N M' 7 = 5 → mm_N M' 8 = 0 → post none M') : pK 39 48 post 3 [some (.inr (.inr (5, 0))), some (.inl 0)] [] M3 (9 * (20 - (1 + 8)), 89 * (20 - (1 + 8))) := by
  refine k_48b 37 (L := L) (xs := xs) (fun M4 h4 => ?_) 2 0 M3 rfl h3
  refine k_48c 37 (L := L) (xs := xs) (fun M5 h5 => ?_) 9 0 M4 rfl h4
  refine k_48t 38 (L := L) (xs := xs) (fun M6 h6 => ?_) 102 0 M5 rfl (CT_0 h5)
  obtain ⟨c1, ⟨n12, n6, n7, n8⟩, ⟨i1, i2, i3⟩, c4, c5, c6⟩ := h6
  have p0 := c1.2.1
  have p3 := c1.2.2.2.2.1
  have tx := c1.2.2.2.2.2.2.2.2.2.2.2.2.2.1
  rw [eK_48_8]
  simp (disch := omega) only [pw_pop, pw_return_, qw_aload_n0, qw_gf_b, qw_gf_i, qw_gf_r, qw_invokevirtual1, qw_invokevirtual2, mm_rf_c, mm_rt_v, mm_rt_i, mm_rt_r, mm_alc_n, mm_alc_c, mm_rc_n, mm_rc_c, mm_wd_n, mm_wd_i, mm_wd_l, mm_wd_r, reduceCtorEq, false_implies, implies_true, true_implies, true_or, or_true, false_or, or_false, not_false_eq_true, mm_nl_n, mm_nl_i, mm_nl_r, mm_args_n, mm_args_i, mm_args_l, mm_args_r, mm_pad_0, mm_pad_n, mm_pad_c, List.length_cons, List.length_nil, List.nil_append, List.cons_append, Nat.zero_le, Nat.sub_zero, true_and, and_true, Nat.reduceAdd, Nat.reduceLeDiff, Nat.reduceLT, Nat.reduceSub, Nat.lt_irrefl, Nat.zero_add, Nat.add_zero, Nat.le_refl, k_20, k_10, k_01, ↓mm_if_T, ↓mm_if_F, ↓if10, ↓if00, not_true_eq_false, tf_01, ↓mm_if_tf, ↓mm_if_tn, ↓mm_if_nn, p0, p3, mm_p1_i]
  refine t_28 33 (s := 0) (t := 102) (lt := lt0) (by omega) c1.1 tx (by omega) c5 c6 (fun M7 A' Z e hz hRS hE hF => ?_) (fun M7 p e _ _ => (rd_no e).elim)
  have p0' : mm_R M7 5 0 0 = some 0 := by unfold mm_R; rw [hF.1]; exact p0
  have hNN : ∀ c, mm_N M7 c = mm_N M6 c := fun c => by unfold mm_N; rw [hF.1]
  have hWF : WF Z.1 A' := WF_E (WF_rd 200 0 Z0 Z e (fun w hw => absurd hw (Nat.not_lt_zero w))) hE
  have hLy : LyC (mm_sI M7 3 0 3 0) (fun i => 1 + i) := LyC_2 (M := M6) hF.1 c1
  have hl11 : mm_L (mm_sI M7 3 0 3 0) 11 0 = L := by
    have q : mm_L (mm_sI M7 3 0 3 0) 11 0 = mm_L M6 11 0 := by show M7.2.2.1 11 0 = M6.2.2.1 11 0; rw [hF.1]
    rw [q]; exact c4.1
  have fin := fun P K nx nl lt => h (mm_sI M7 3 0 3 0) A' Z P K nx nl lt e hE ⟨fun i => 1 + i, hLy, hz, RX_I (show RX M7 0 Z.1 ((A', Z.2.2), 0) from hRS) (by omega), hWF, by omega, by rw [mm_I_c (by omega), hF.2 5 0 7 (by omega) (by omega) (by omega) (by omega)]; exact i1, fun i hi => absurd hi (Nat.not_lt_zero i), by omega, by rw [mm_I_c (by omega), hF.2 5 0 8 (by omega) (by omega) (by omega) (by omega)]; exact i2, fun i hi => absurd hi (Nat.not_lt_zero i)⟩ ⟨by omega, by rw [mm_I_c (by omega), hF.2 1 0 2 (by omega) (by omega) (by omega) (by omega)]; exact i3, fun i hi => absurd hi (Nat.not_lt_zero i), by omega, mm_I_s, fun i hi => absurd hi (Nat.not_lt_zero i)⟩ ⟨hl11, fun k hk => by rw [mm_I_c (by omega), hF.2 11 0 k (by omega) (by omega) (by omega) (by omega)]; exact c4.2 k hk⟩ (by rw [mm_N_sI, hNN]; exact n6) (by rw [mm_N_sI, hNN]; exact n7) (by rw [mm_N_sI, hNN]; exact n8)
  simp (disch := omega) only [pw_pop, pw_return_, qw_aload_n0, qw_gf_b, qw_gf_i, qw_gf_r, qw_invokevirtual1, qw_invokevirtual2, mm_rf_c, mm_rt_v, mm_rt_i, mm_rt_r, mm_alc_n, mm_alc_c, mm_rc_n, mm_rc_c, mm_wd_n, mm_wd_i, mm_wd_l, mm_wd_r, reduceCtorEq, false_implies, implies_true, true_implies, true_or, or_true, false_or, or_false, not_false_eq_true, mm_nl_n, mm_nl_i, mm_nl_r, mm_args_n, mm_args_i, mm_args_l, mm_args_r, mm_pad_0, mm_pad_n, mm_pad_c, List.length_cons, List.length_nil, List.nil_append, List.cons_append, Nat.zero_le, Nat.sub_zero, true_and, and_true, Nat.reduceAdd, Nat.reduceLeDiff, Nat.reduceLT, Nat.reduceSub, Nat.lt_irrefl, Nat.zero_add, Nat.add_zero, Nat.le_refl, k_20, k_10, k_01, ↓mm_if_T, ↓mm_if_F, ↓if10, ↓if00, not_true_eq_false, tf_01, ↓mm_if_tf, ↓mm_if_tn, ↓mm_if_nn, p0', mm_p1_i, eC_27, eK_27_0, pw_iconst, pw_return_, qw_aload_n0, qw_pf_b, qw_pf_i, qw_pf_r]
  exact fin (fun _ => ((A', Z.2.2), 0)) (fun _ => ((A', Z.2.2), 0)) (fun _ => 0) (fun _ => 0) (fun _ => 0)

set_option maxHeartbeats 4000000 in
theorem t_48 {M : mm_M} {post : mm_Post} {L : Nat} {xs : Nat → Int32} (hN : ∀ c, c < 11 → ¬ c = 5 → mm_N M c = 0) (h12 : mm_N M 12 = 1) (z7 : mm_I M 5 0 7 = 0) (z8 : mm_I M 5 0 8 = 0) (hs : SC M L xs) (h : ∀ M' A' Z P K nx nl lt, p_rd (lL 102 lt0) 102 200 0 Z0 = .inl Z → Eqv Z.1 A' Z.2.1 → I1 M' Z.1 ((A', Z.2.2), 0) 0 P 0 K → I2 M' 0 nx nl 0 lt → SC M' L xs → mm_N M' 6 = 0 → mm_N M' 7 = 5 → mm_N M' 8 = 0 → post none M') : pC 40 48 [.inr (.inr (5, 0))] M post := by
  have N3 := hN 3 (by omega) (by omega)
  rw [show (40 : Nat) = 39 + 1 from rfl]

  simp (disch := omega) only [eC_48, eK_48_0, pw_anewarray, pw_bipush, pw_iconst, pw_new, pw_nop0, pw_nop2, qw_aload_n0, qw_dup_i, qw_dup_r, qw_invokespecial1, qw_istore_n1, qw_pf_b, qw_pf_i, qw_pf_r, mm_rf_c, mm_rt_v, mm_rt_i, mm_rt_r, mm_alc_n, mm_alc_c, mm_rc_n, mm_rc_c, mm_wd_n, mm_wd_i, mm_wd_l, mm_wd_r, reduceCtorEq, false_implies, implies_true, true_implies, true_or, or_true, false_or, or_false, not_false_eq_true, mm_nl_n, mm_nl_i, mm_nl_r, mm_args_n, mm_args_i, mm_args_l, mm_args_r, mm_pad_0, mm_pad_n, mm_pad_c, List.length_cons, List.length_nil, List.nil_append, List.cons_append, Nat.zero_le, Nat.sub_zero, true_and, and_true, Nat.reduceAdd, Nat.reduceLeDiff, Nat.reduceLT, Nat.reduceSub, Nat.lt_irrefl, Nat.zero_add, Nat.add_zero, Nat.le_refl, k_20, k_10, k_01, ↓mm_if_T, ↓mm_if_F, ↓if10, ↓if00, not_true_eq_false, tf_01, ↓mm_if_tf, ↓mm_if_tn, ↓mm_if_nn, mm_pA_c, mm_pI_c, w_2, n_2, w_5, n_5, w_6, n_6, w_7, n_7, w_8, n_8, w_9, n_9, w_200, n_200, w_468, n_468, h12, N3]
  have f1 : mm_N (mm_nw M 3 0) 0 = 0 := by rw [mm_N_nw, if_neg (by decide)]; exact (hN 0 (by omega) (by omega))
  have f2 : mm_N (mm_nw M 3 0) 1 = 0 := by rw [mm_N_nw, if_neg (by decide)]; exact (hN 1 (by omega) (by omega))
  have f3 : mm_N (mm_nw M 3 0) 2 = 0 := by rw [mm_N_nw, if_neg (by decide)]; exact (hN 2 (by omega) (by omega))
  have f4 : mm_N (mm_nw M 3 0) 3 = 1 := by rw [mm_N_nw, if_pos rfl, (hN 3 (by omega) (by omega))]
  have f5 : mm_N (mm_nw M 3 0) 4 = 0 := by rw [mm_N_nw, if_neg (by decide)]; exact (hN 4 (by omega) (by omega))
  have f6 : mm_N (mm_nw M 3 0) 6 = 0 := by rw [mm_N_nw, if_neg (by decide)]; exact (hN 6 (by omega) (by omega))
  have f7 : mm_N (mm_nw M 3 0) 7 = 0 := by rw [mm_N_nw, if_neg (by decide)]; exact (hN 7 (by omega) (by omega))
  have f8 : mm_N (mm_nw M 3 0) 8 = 0 := by rw [mm_N_nw, if_neg (by decide)]; exact (hN 8 (by omega) (by omega))
  have f9 : mm_N (mm_nw M 3 0) 9 = 0 := by rw [mm_N_nw, if_neg (by decide)]; exact (hN 9 (by omega) (by omega))
  have f10 : mm_N (mm_nw M 3 0) 10 = 0 := by rw [mm_N_nw, if_neg (by decide)]; exact (hN 10 (by omega) (by omega))
  have f11 : mm_N (mm_nw M 3 0) 12 = 1 := by rw [mm_N_nw, if_neg (by decide)]; exact h12
  have f12 : mm_I (mm_nw M 3 0) 5 0 7 = 0 := by rw [mm_I_nw, if_neg (fun z => absurd z.1 (by decide))]; exact z7
  have f13 : mm_I (mm_nw M 3 0) 5 0 8 = 0 := by rw [mm_I_nw, if_neg (fun z => absurd z.1 (by decide))]; exact z8
  have f14 : SC (mm_nw M 3 0) L xs := ⟨by rw [mm_L_nw, if_neg (fun z => absurd z.1 (by decide))]; exact hs.1, fun k hk => by rw [mm_I_nw, if_neg (fun z => absurd z.1 (by decide))]; exact hs.2 k hk⟩
  have f15 : mm_I (mm_nw M 3 0) 3 0 3 = 0 := by rw [mm_I_nw, if_pos ⟨rfl, (hN 3 (by omega) (by omega)).symm⟩]
  refine t_25 38 (a := 0) f7 (fun MA GA n7A rA0 rA1 lA0 lA1 => ?_)
  have f16 : mm_N MA 0 = 0 := by rw [GA.1 0 (by decide)]; exact f1
  have f17 : mm_N MA 1 = 0 := by rw [GA.1 1 (by decide)]; exact f2
  have f18 : mm_N MA 2 = 0 := by rw [GA.1 2 (by decide)]; exact f3
  have f19 : mm_N MA 3 = 1 := by rw [GA.1 3 (by decide)]; exact f4
  have f20 : mm_N MA 4 = 0 := by rw [GA.1 4 (by decide)]; exact f5
  have f21 : mm_N MA 6 = 0 := by rw [GA.1 6 (by decide)]; exact f6
  have f22 : mm_N MA 8 = 0 := by rw [GA.1 8 (by decide)]; exact f8
  have f23 : mm_N MA 9 = 0 := by rw [GA.1 9 (by decide)]; exact f9
  have f24 : mm_N MA 10 = 0 := by rw [GA.1 10 (by decide)]; exact f10
  have f25 : mm_N MA 12 = 1 := by rw [GA.1 12 (by decide)]; exact f11
  have f26 : mm_I MA 5 0 7 = 0 := by rw [GA.2.1 5 0 7 (fun z => absurd z.1 (by decide))]; exact f12
  have f27 : mm_I MA 5 0 8 = 0 := by rw [GA.2.1 5 0 8 (fun z => absurd z.1 (by decide))]; exact f13
  have f28 : SC MA L xs := ⟨by rw [GA.2.2.2 11 0 (fun z => absurd z.1 (by decide))]; exact f14.1, fun k hk => by rw [GA.2.1 11 0 k (fun z => absurd z.1 (by decide))]; exact f14.2 k hk⟩
  have f29 : mm_I MA 3 0 3 = 0 := by rw [GA.2.1 3 0 3 (fun z => absurd z.1 (by decide))]; exact f15
  have f30 : mm_N (mm_sR MA 5 0 0 (some 0)) 0 = 0 := by rw [mm_N_sR]; exact f16
  have f31 : mm_N (mm_sR MA 5 0 0 (some 0)) 1 = 0 := by rw [mm_N_sR]; exact f17
  have f32 : mm_N (mm_sR MA 5 0 0 (some 0)) 2 = 0 := by rw [mm_N_sR]; exact f18
  have f33 : mm_N (mm_sR MA 5 0 0 (some 0)) 3 = 1 := by rw [mm_N_sR]; exact f19
  have f34 : mm_N (mm_sR MA 5 0 0 (some 0)) 4 = 0 := by rw [mm_N_sR]; exact f20
  have f35 : mm_N (mm_sR MA 5 0 0 (some 0)) 6 = 0 := by rw [mm_N_sR]; exact f21
  have f36 : mm_N (mm_sR MA 5 0 0 (some 0)) 8 = 0 := by rw [mm_N_sR]; exact f22
  have f37 : mm_N (mm_sR MA 5 0 0 (some 0)) 9 = 0 := by rw [mm_N_sR]; exact f23
  have f38 : mm_N (mm_sR MA 5 0 0 (some 0)) 10 = 0 := by rw [mm_N_sR]; exact f24
  have f39 : mm_N (mm_sR MA 5 0 0 (some 0)) 12 = 1 := by rw [mm_N_sR]; exact f25
  have f40 : mm_I (mm_sR MA 5 0 0 (some 0)) 5 0 7 = 0 := by rw [mm_I_sR]; exact f26
  have f41 : mm_I (mm_sR MA 5 0 0 (some 0)) 5 0 8 = 0 := by rw [mm_I_sR]; exact f27
  have f42 : SC (mm_sR MA 5 0 0 (some 0)) L xs := ⟨by rw [mm_L_sR]; exact f28.1, fun k hk => by rw [mm_I_sR]; exact f28.2 k hk⟩
  have f43 : mm_I (mm_sR MA 5 0 0 (some 0)) 3 0 3 = 0 := by rw [mm_I_sR]; exact f29
  have f44 : mm_N (mm_sR MA 5 0 0 (some 0)) 7 = 2 := by rw [mm_N_sR]; exact n7A
  have f45 : mm_R (mm_sR MA 5 0 0 (some 0)) 3 0 0 = some 0 := by rw [mm_R_sR, if_neg (fun z => absurd z.1 (by decide))]; exact rA0
  have f46 : mm_L (mm_sR MA 5 0 0 (some 0)) 7 0 = 200 := by rw [mm_L_sR]; exact lA0
  have f47 : mm_R (mm_sR MA 5 0 0 (some 0)) 3 0 1 = some 1 := by rw [mm_R_sR, if_neg (fun z => absurd z.1 (by decide))]; exact rA1
  have f48 : mm_L (mm_sR MA 5 0 0 (some 0)) 7 1 = 5 := by rw [mm_L_sR]; exact lA1
  have f49 : mm_R (mm_sR MA 5 0 0 (some 0)) 5 0 0 = some 0 := by rw [mm_R_sR, if_pos ⟨rfl, rfl, rfl⟩]
  simp (disch := omega) only [pw_anewarray, pw_bipush, pw_iconst, pw_new, pw_nop0, pw_nop2, qw_aload_n0, qw_dup_i, qw_dup_r, qw_invokespecial1, qw_istore_n1, qw_pf_b, qw_pf_i, qw_pf_r, mm_rf_c, mm_rt_v, mm_rt_i, mm_rt_r, mm_alc_n, mm_alc_c, mm_rc_n, mm_rc_c, mm_wd_n, mm_wd_i, mm_wd_l, mm_wd_r, reduceCtorEq, false_implies, implies_true, true_implies, true_or, or_true, false_or, or_false, not_false_eq_true, mm_nl_n, mm_nl_i, mm_nl_r, mm_args_n, mm_args_i, mm_args_l, mm_args_r, mm_pad_0, mm_pad_n, mm_pad_c, List.length_cons, List.length_nil, List.nil_append, List.cons_append, Nat.zero_le, Nat.sub_zero, true_and, and_true, Nat.reduceAdd, Nat.reduceLeDiff, Nat.reduceLT, Nat.reduceSub, Nat.lt_irrefl, Nat.zero_add, Nat.add_zero, Nat.le_refl, k_20, k_10, k_01, ↓mm_if_T, ↓mm_if_F, ↓if10, ↓if00, not_true_eq_false, tf_01, ↓mm_if_tf, ↓mm_if_tn, ↓mm_if_nn, mm_pA_c, mm_pI_c, w_2, n_2, w_5, n_5, w_6, n_6, w_7, n_7, w_8, n_8, w_9, n_9, w_200, n_200, w_468, n_468, f30, f31, f32, f33, f34, f35, f36, f37, f38, f39, f44, f45, f47, f49]
  have f50 : mm_N (mm_nw (mm_sR MA 5 0 0 (some 0)) 1 0) 0 = 0 := by rw [mm_N_nw, if_neg (by decide)]; exact f30
  have f51 : mm_N (mm_nw (mm_sR MA 5 0 0 (some 0)) 1 0) 1 = 1 := by rw [mm_N_nw, if_pos rfl, f31]
  have f52 : mm_N (mm_nw (mm_sR MA 5 0 0 (some 0)) 1 0) 2 = 0 := by rw [mm_N_nw, if_neg (by decide)]; exact f32
  have f53 : mm_N (mm_nw (mm_sR MA 5 0 0 (some 0)) 1 0) 3 = 1 := by rw [mm_N_nw, if_neg (by decide)]; exact f33
  have f54 : mm_N (mm_nw (mm_sR MA 5 0 0 (some 0)) 1 0) 4 = 0 := by rw [mm_N_nw, if_neg (by decide)]; exact f34
  have f55 : mm_N (mm_nw (mm_sR MA 5 0 0 (some 0)) 1 0) 6 = 0 := by rw [mm_N_nw, if_neg (by decide)]; exact f35
  have f56 : mm_N (mm_nw (mm_sR MA 5 0 0 (some 0)) 1 0) 8 = 0 := by rw [mm_N_nw, if_neg (by decide)]; exact f36
  have f57 : mm_N (mm_nw (mm_sR MA 5 0 0 (some 0)) 1 0) 9 = 0 := by rw [mm_N_nw, if_neg (by decide)]; exact f37
  have f58 : mm_N (mm_nw (mm_sR MA 5 0 0 (some 0)) 1 0) 10 = 0 := by rw [mm_N_nw, if_neg (by decide)]; exact f38
  have f59 : mm_N (mm_nw (mm_sR MA 5 0 0 (some 0)) 1 0) 12 = 1 := by rw [mm_N_nw, if_neg (by decide)]; exact f39
  have f60 : mm_I (mm_nw (mm_sR MA 5 0 0 (some 0)) 1 0) 5 0 7 = 0 := by rw [mm_I_nw, if_neg (fun z => absurd z.1 (by decide))]; exact f40
  have f61 : mm_I (mm_nw (mm_sR MA 5 0 0 (some 0)) 1 0) 5 0 8 = 0 := by rw [mm_I_nw, if_neg (fun z => absurd z.1 (by decide))]; exact f41
  have f62 : SC (mm_nw (mm_sR MA 5 0 0 (some 0)) 1 0) L xs := ⟨by rw [mm_L_nw, if_neg (fun z => absurd z.1 (by decide))]; exact f42.1, fun k hk => by rw [mm_I_nw, if_neg (fun z => absurd z.1 (by decide))]; exact f42.2 k hk⟩
  have f63 : mm_I (mm_nw (mm_sR MA 5 0 0 (some 0)) 1 0) 3 0 3 = 0 := by rw [mm_I_nw, if_neg (fun z => absurd z.1 (by decide))]; exact f43
  have f64 : mm_N (mm_nw (mm_sR MA 5 0 0 (some 0)) 1 0) 7 = 2 := by rw [mm_N_nw, if_neg (by decide)]; exact f44
  have f65 : mm_R (mm_nw (mm_sR MA 5 0 0 (some 0)) 1 0) 3 0 0 = some 0 := by rw [mm_R_nw, if_neg (fun z => absurd z.1 (by decide))]; exact f45
  have f66 : mm_L (mm_nw (mm_sR MA 5 0 0 (some 0)) 1 0) 7 0 = 200 := by rw [mm_L_nw, if_neg (fun z => absurd z.1 (by decide))]; exact f46
  have f67 : mm_R (mm_nw (mm_sR MA 5 0 0 (some 0)) 1 0) 3 0 1 = some 1 := by rw [mm_R_nw, if_neg (fun z => absurd z.1 (by decide))]; exact f47
  have f68 : mm_L (mm_nw (mm_sR MA 5 0 0 (some 0)) 1 0) 7 1 = 5 := by rw [mm_L_nw, if_neg (fun z => absurd z.1 (by decide))]; exact f48
  have f69 : mm_R (mm_nw (mm_sR MA 5 0 0 (some 0)) 1 0) 5 0 0 = some 0 := by rw [mm_R_nw, if_neg (fun z => absurd z.1 (by decide))]; exact f49
  have f70 : mm_I (mm_nw (mm_sR MA 5 0 0 (some 0)) 1 0) 1 0 2 = 0 := by rw [mm_I_nw, if_pos ⟨rfl, f31.symm⟩]
  refine t_4 38 (a := 2) f64 (fun MB GB n7B rB0 rB1 lB0 lB1 => ?_)
  have f71 : mm_N MB 0 = 0 := by rw [GB.1 0 (by decide)]; exact f50
  have f72 : mm_N MB 1 = 1 := by rw [GB.1 1 (by decide)]; exact f51
  have f73 : mm_N MB 2 = 0 := by rw [GB.1 2 (by decide)]; exact f52
  have f74 : mm_N MB 3 = 1 := by rw [GB.1 3 (by decide)]; exact f53
  have f75 : mm_N MB 4 = 0 := by rw [GB.1 4 (by decide)]; exact f54
  have f76 : mm_N MB 6 = 0 := by rw [GB.1 6 (by decide)]; exact f55
  have f77 : mm_N MB 8 = 0 := by rw [GB.1 8 (by decide)]; exact f56
  have f78 : mm_N MB 9 = 0 := by rw [GB.1 9 (by decide)]; exact f57
  have f79 : mm_N MB 10 = 0 := by rw [GB.1 10 (by decide)]; exact f58
  have f80 : mm_N MB 12 = 1 := by rw [GB.1 12 (by decide)]; exact f59
  have f81 : mm_I MB 5 0 7 = 0 := by rw [GB.2.1 5 0 7 (fun z => absurd z.1 (by decide))]; exact f60
  have f82 : mm_I MB 5 0 8 = 0 := by rw [GB.2.1 5 0 8 (fun z => absurd z.1 (by decide))]; exact f61
  have f83 : SC MB L xs := ⟨by rw [GB.2.2.2 11 0 (fun z => absurd z.1 (by decide))]; exact f62.1, fun k hk => by rw [GB.2.1 11 0 k (fun z => absurd z.1 (by decide))]; exact f62.2 k hk⟩
  have f84 : mm_I MB 3 0 3 = 0 := by rw [GB.2.1 3 0 3 (fun z => absurd z.1 (by decide))]; exact f63
  have f85 : mm_R MB 3 0 0 = some 0 := by rw [GB.2.2.1 3 0 0 (fun z => absurd z.1 (by decide)) (fun z => absurd z.1 (by decide))]; exact f65
  have f86 : mm_L MB 7 0 = 200 := by rw [GB.2.2.2 7 0 (fun z => absurd z.2 (by rw [f64]; decide))]; exact f66
  have f87 : mm_R MB 3 0 1 = some 1 := by rw [GB.2.2.1 3 0 1 (fun z => absurd z.1 (by decide)) (fun z => absurd z.1 (by decide))]; exact f67
  have f88 : mm_L MB 7 1 = 5 := by rw [GB.2.2.2 7 1 (fun z => absurd z.2 (by rw [f64]; decide))]; exact f68
  have f89 : mm_R MB 5 0 0 = some 0 := by rw [GB.2.2.1 5 0 0 (fun z => absurd z.1 (by decide)) (fun z => absurd z.1 (by decide))]; exact f69
  have f90 : mm_I MB 1 0 2 = 0 := by rw [GB.2.1 1 0 2 (fun z => absurd z.1 (by decide))]; exact f70
  have f91 : mm_N (mm_sR MB 5 0 1 (some 0)) 0 = 0 := by rw [mm_N_sR]; exact f71
  have f92 : mm_N (mm_sR MB 5 0 1 (some 0)) 1 = 1 := by rw [mm_N_sR]; exact f72
  have f93 : mm_N (mm_sR MB 5 0 1 (some 0)) 2 = 0 := by rw [mm_N_sR]; exact f73
  have f94 : mm_N (mm_sR MB 5 0 1 (some 0)) 3 = 1 := by rw [mm_N_sR]; exact f74
  have f95 : mm_N (mm_sR MB 5 0 1 (some 0)) 4 = 0 := by rw [mm_N_sR]; exact f75
  have f96 : mm_N (mm_sR MB 5 0 1 (some 0)) 6 = 0 := by rw [mm_N_sR]; exact f76
  have f97 : mm_N (mm_sR MB 5 0 1 (some 0)) 8 = 0 := by rw [mm_N_sR]; exact f77
  have f98 : mm_N (mm_sR MB 5 0 1 (some 0)) 9 = 0 := by rw [mm_N_sR]; exact f78
  have f99 : mm_N (mm_sR MB 5 0 1 (some 0)) 10 = 0 := by rw [mm_N_sR]; exact f79
  have f100 : mm_N (mm_sR MB 5 0 1 (some 0)) 12 = 1 := by rw [mm_N_sR]; exact f80
  have f101 : mm_I (mm_sR MB 5 0 1 (some 0)) 5 0 7 = 0 := by rw [mm_I_sR]; exact f81
  have f102 : mm_I (mm_sR MB 5 0 1 (some 0)) 5 0 8 = 0 := by rw [mm_I_sR]; exact f82
  have f103 : SC (mm_sR MB 5 0 1 (some 0)) L xs := ⟨by rw [mm_L_sR]; exact f83.1, fun k hk => by rw [mm_I_sR]; exact f83.2 k hk⟩
  have f104 : mm_I (mm_sR MB 5 0 1 (some 0)) 3 0 3 = 0 := by rw [mm_I_sR]; exact f84
  have f105 : mm_R (mm_sR MB 5 0 1 (some 0)) 3 0 0 = some 0 := by rw [mm_R_sR, if_neg (fun z => absurd z.1 (by decide))]; exact f85
  have f106 : mm_L (mm_sR MB 5 0 1 (some 0)) 7 0 = 200 := by rw [mm_L_sR]; exact f86
  have f107 : mm_R (mm_sR MB 5 0 1 (some 0)) 3 0 1 = some 1 := by rw [mm_R_sR, if_neg (fun z => absurd z.1 (by decide))]; exact f87
  have f108 : mm_L (mm_sR MB 5 0 1 (some 0)) 7 1 = 5 := by rw [mm_L_sR]; exact f88
  have f109 : mm_R (mm_sR MB 5 0 1 (some 0)) 5 0 0 = some 0 := by rw [mm_R_sR, if_neg (fun z => absurd z.2.2 (by decide))]; exact f89
  have f110 : mm_I (mm_sR MB 5 0 1 (some 0)) 1 0 2 = 0 := by rw [mm_I_sR]; exact f90
  have f111 : mm_N (mm_sR MB 5 0 1 (some 0)) 7 = 4 := by rw [mm_N_sR]; exact n7B
  have f112 : mm_R (mm_sR MB 5 0 1 (some 0)) 1 0 0 = some 2 := by rw [mm_R_sR, if_neg (fun z => absurd z.1 (by decide))]; exact rB0
  have f113 : mm_L (mm_sR MB 5 0 1 (some 0)) 7 2 = 6 := by rw [mm_L_sR]; exact lB0
  have f114 : mm_R (mm_sR MB 5 0 1 (some 0)) 1 0 1 = some 3 := by rw [mm_R_sR, if_neg (fun z => absurd z.1 (by decide))]; exact rB1
  have f115 : mm_L (mm_sR MB 5 0 1 (some 0)) 7 3 = 6 := by rw [mm_L_sR]; exact lB1
  have f116 : mm_R (mm_sR MB 5 0 1 (some 0)) 5 0 1 = some 0 := by rw [mm_R_sR, if_pos ⟨rfl, rfl, rfl⟩]
  simp (disch := omega) only [pw_anewarray, pw_bipush, pw_iconst, pw_new, pw_nop0, pw_nop2, qw_aload_n0, qw_dup_i, qw_dup_r, qw_invokespecial1, qw_istore_n1, qw_pf_b, qw_pf_i, qw_pf_r, mm_rf_c, mm_rt_v, mm_rt_i, mm_rt_r, mm_alc_n, mm_alc_c, mm_rc_n, mm_rc_c, mm_wd_n, mm_wd_i, mm_wd_l, mm_wd_r, reduceCtorEq, false_implies, implies_true, true_implies, true_or, or_true, false_or, or_false, not_false_eq_true, mm_nl_n, mm_nl_i, mm_nl_r, mm_args_n, mm_args_i, mm_args_l, mm_args_r, mm_pad_0, mm_pad_n, mm_pad_c, List.length_cons, List.length_nil, List.nil_append, List.cons_append, Nat.zero_le, Nat.sub_zero, true_and, and_true, Nat.reduceAdd, Nat.reduceLeDiff, Nat.reduceLT, Nat.reduceSub, Nat.lt_irrefl, Nat.zero_add, Nat.add_zero, Nat.le_refl, k_20, k_10, k_01, ↓mm_if_T, ↓mm_if_F, ↓if10, ↓if00, not_true_eq_false, tf_01, ↓mm_if_tf, ↓mm_if_tn, ↓mm_if_nn, mm_pA_c, mm_pI_c, w_2, n_2, w_5, n_5, w_6, n_6, w_7, n_7, w_8, n_8, w_9, n_9, w_200, n_200, w_468, n_468, f91, f92, f93, f94, f95, f96, f97, f98, f99, f100, f105, f107, f109, f111, f112, f114, f116]
  have f117 : mm_N (mm_nw (mm_sR MB 5 0 1 (some 0)) 0 0) 0 = 1 := by rw [mm_N_nw, if_pos rfl, f91]
  have f118 : mm_N (mm_nw (mm_sR MB 5 0 1 (some 0)) 0 0) 1 = 1 := by rw [mm_N_nw, if_neg (by decide)]; exact f92
  have f119 : mm_N (mm_nw (mm_sR MB 5 0 1 (some 0)) 0 0) 2 = 0 := by rw [mm_N_nw, if_neg (by decide)]; exact f93
  have f120 : mm_N (mm_nw (mm_sR MB 5 0 1 (some 0)) 0 0) 3 = 1 := by rw [mm_N_nw, if_neg (by decide)]; exact f94
  have f121 : mm_N (mm_nw (mm_sR MB 5 0 1 (some 0)) 0 0) 4 = 0 := by rw [mm_N_nw, if_neg (by decide)]; exact f95
  have f122 : mm_N (mm_nw (mm_sR MB 5 0 1 (some 0)) 0 0) 6 = 0 := by rw [mm_N_nw, if_neg (by decide)]; exact f96
  have f123 : mm_N (mm_nw (mm_sR MB 5 0 1 (some 0)) 0 0) 8 = 0 := by rw [mm_N_nw, if_neg (by decide)]; exact f97
  have f124 : mm_N (mm_nw (mm_sR MB 5 0 1 (some 0)) 0 0) 9 = 0 := by rw [mm_N_nw, if_neg (by decide)]; exact f98
  have f125 : mm_N (mm_nw (mm_sR MB 5 0 1 (some 0)) 0 0) 10 = 0 := by rw [mm_N_nw, if_neg (by decide)]; exact f99
  have f126 : mm_N (mm_nw (mm_sR MB 5 0 1 (some 0)) 0 0) 12 = 1 := by rw [mm_N_nw, if_neg (by decide)]; exact f100
  have f127 : mm_I (mm_nw (mm_sR MB 5 0 1 (some 0)) 0 0) 5 0 7 = 0 := by rw [mm_I_nw, if_neg (fun z => absurd z.1 (by decide))]; exact f101
  have f128 : mm_I (mm_nw (mm_sR MB 5 0 1 (some 0)) 0 0) 5 0 8 = 0 := by rw [mm_I_nw, if_neg (fun z => absurd z.1 (by decide))]; exact f102
  have f129 : SC (mm_nw (mm_sR MB 5 0 1 (some 0)) 0 0) L xs := ⟨by rw [mm_L_nw, if_neg (fun z => absurd z.1 (by decide))]; exact f103.1, fun k hk => by rw [mm_I_nw, if_neg (fun z => absurd z.1 (by decide))]; exact f103.2 k hk⟩
  have f130 : mm_I (mm_nw (mm_sR MB 5 0 1 (some 0)) 0 0) 3 0 3 = 0 := by rw [mm_I_nw, if_neg (fun z => absurd z.1 (by decide))]; exact f104
  have f131 : mm_R (mm_nw (mm_sR MB 5 0 1 (some 0)) 0 0) 3 0 0 = some 0 := by rw [mm_R_nw, if_neg (fun z => absurd z.1 (by decide))]; exact f105
  have f132 : mm_L (mm_nw (mm_sR MB 5 0 1 (some 0)) 0 0) 7 0 = 200 := by rw [mm_L_nw, if_neg (fun z => absurd z.1 (by decide))]; exact f106
  have f133 : mm_R (mm_nw (mm_sR MB 5 0 1 (some 0)) 0 0) 3 0 1 = some 1 := by rw [mm_R_nw, if_neg (fun z => absurd z.1 (by decide))]; exact f107
  have f134 : mm_L (mm_nw (mm_sR MB 5 0 1 (some 0)) 0 0) 7 1 = 5 := by rw [mm_L_nw, if_neg (fun z => absurd z.1 (by decide))]; exact f108
  have f135 : mm_R (mm_nw (mm_sR MB 5 0 1 (some 0)) 0 0) 5 0 0 = some 0 := by rw [mm_R_nw, if_neg (fun z => absurd z.1 (by decide))]; exact f109
  have f136 : mm_I (mm_nw (mm_sR MB 5 0 1 (some 0)) 0 0) 1 0 2 = 0 := by rw [mm_I_nw, if_neg (fun z => absurd z.1 (by decide))]; exact f110
  have f137 : mm_N (mm_nw (mm_sR MB 5 0 1 (some 0)) 0 0) 7 = 4 := by rw [mm_N_nw, if_neg (by decide)]; exact f111
  have f138 : mm_R (mm_nw (mm_sR MB 5 0 1 (some 0)) 0 0) 1 0 0 = some 2 := by rw [mm_R_nw, if_neg (fun z => absurd z.1 (by decide))]; exact f112
  have f139 : mm_L (mm_nw (mm_sR MB 5 0 1 (some 0)) 0 0) 7 2 = 6 := by rw [mm_L_nw, if_neg (fun z => absurd z.1 (by decide))]; exact f113
  have f140 : mm_R (mm_nw (mm_sR MB 5 0 1 (some 0)) 0 0) 1 0 1 = some 3 := by rw [mm_R_nw, if_neg (fun z => absurd z.1 (by decide))]; exact f114
  have f141 : mm_L (mm_nw (mm_sR MB 5 0 1 (some 0)) 0 0) 7 3 = 6 := by rw [mm_L_nw, if_neg (fun z => absurd z.1 (by decide))]; exact f115
  have f142 : mm_R (mm_nw (mm_sR MB 5 0 1 (some 0)) 0 0) 5 0 1 = some 0 := by rw [mm_R_nw, if_neg (fun z => absurd z.1 (by decide))]; exact f116
  refine t_0 38 (a := 4) f137 (fun MC GC n7C rC0 lC0 => ?_)
  have f143 : mm_N MC 0 = 1 := by rw [GC.1 0 (by decide)]; exact f117
  have f144 : mm_N MC 1 = 1 := by rw [GC.1 1 (by decide)]; exact f118
  have f145 : mm_N MC 2 = 0 := by rw [GC.1 2 (by decide)]; exact f119
  have f146 : mm_N MC 3 = 1 := by rw [GC.1 3 (by decide)]; exact f120
  have f147 : mm_N MC 4 = 0 := by rw [GC.1 4 (by decide)]; exact f121
  have f148 : mm_N MC 6 = 0 := by rw [GC.1 6 (by decide)]; exact f122
  have f149 : mm_N MC 8 = 0 := by rw [GC.1 8 (by decide)]; exact f123
  have f150 : mm_N MC 9 = 0 := by rw [GC.1 9 (by decide)]; exact f124
  have f151 : mm_N MC 10 = 0 := by rw [GC.1 10 (by decide)]; exact f125
  have f152 : mm_N MC 12 = 1 := by rw [GC.1 12 (by decide)]; exact f126
  have f153 : mm_I MC 5 0 7 = 0 := by rw [GC.2.1 5 0 7 (fun z => absurd z.1 (by decide))]; exact f127
  have f154 : mm_I MC 5 0 8 = 0 := by rw [GC.2.1 5 0 8 (fun z => absurd z.1 (by decide))]; exact f128
  have f155 : SC MC L xs := ⟨by rw [GC.2.2.2 11 0 (fun z => absurd z.1 (by decide))]; exact f129.1, fun k hk => by rw [GC.2.1 11 0 k (fun z => absurd z.1 (by decide))]; exact f129.2 k hk⟩
  have f156 : mm_I MC 3 0 3 = 0 := by rw [GC.2.1 3 0 3 (fun z => absurd z.1 (by decide))]; exact f130
  have f157 : mm_R MC 3 0 0 = some 0 := by rw [GC.2.2.1 3 0 0 (fun z => absurd z.1 (by decide)) (fun z => absurd z.1 (by decide))]; exact f131
  have f158 : mm_L MC 7 0 = 200 := by rw [GC.2.2.2 7 0 (fun z => absurd z.2 (by rw [f137]; decide))]; exact f132
  have f159 : mm_R MC 3 0 1 = some 1 := by rw [GC.2.2.1 3 0 1 (fun z => absurd z.1 (by decide)) (fun z => absurd z.1 (by decide))]; exact f133
  have f160 : mm_L MC 7 1 = 5 := by rw [GC.2.2.2 7 1 (fun z => absurd z.2 (by rw [f137]; decide))]; exact f134
  have f161 : mm_R MC 5 0 0 = some 0 := by rw [GC.2.2.1 5 0 0 (fun z => absurd z.1 (by decide)) (fun z => absurd z.1 (by decide))]; exact f135
  have f162 : mm_I MC 1 0 2 = 0 := by rw [GC.2.1 1 0 2 (fun z => absurd z.1 (by decide))]; exact f136
  have f163 : mm_R MC 1 0 0 = some 2 := by rw [GC.2.2.1 1 0 0 (fun z => absurd z.1 (by decide)) (fun z => absurd z.1 (by decide))]; exact f138
  have f164 : mm_L MC 7 2 = 6 := by rw [GC.2.2.2 7 2 (fun z => absurd z.2 (by rw [f137]; decide))]; exact f139
  have f165 : mm_R MC 1 0 1 = some 3 := by rw [GC.2.2.1 1 0 1 (fun z => absurd z.1 (by decide)) (fun z => absurd z.1 (by decide))]; exact f140
  have f166 : mm_L MC 7 3 = 6 := by rw [GC.2.2.2 7 3 (fun z => absurd z.2 (by rw [f137]; decide))]; exact f141
  have f167 : mm_R MC 5 0 1 = some 0 := by rw [GC.2.2.1 5 0 1 (fun z => absurd z.1 (by decide)) (fun z => absurd z.1 (by decide))]; exact f142
  have f168 : mm_N (mm_sR MC 5 0 2 (some 0)) 0 = 1 := by rw [mm_N_sR]; exact f143
  have f169 : mm_N (mm_sR MC 5 0 2 (some 0)) 1 = 1 := by rw [mm_N_sR]; exact f144
  have f170 : mm_N (mm_sR MC 5 0 2 (some 0)) 2 = 0 := by rw [mm_N_sR]; exact f145
  have f171 : mm_N (mm_sR MC 5 0 2 (some 0)) 3 = 1 := by rw [mm_N_sR]; exact f146
  have f172 : mm_N (mm_sR MC 5 0 2 (some 0)) 4 = 0 := by rw [mm_N_sR]; exact f147
  have f173 : mm_N (mm_sR MC 5 0 2 (some 0)) 6 = 0 := by rw [mm_N_sR]; exact f148
  have f174 : mm_N (mm_sR MC 5 0 2 (some 0)) 8 = 0 := by rw [mm_N_sR]; exact f149
  have f175 : mm_N (mm_sR MC 5 0 2 (some 0)) 9 = 0 := by rw [mm_N_sR]; exact f150
  have f176 : mm_N (mm_sR MC 5 0 2 (some 0)) 10 = 0 := by rw [mm_N_sR]; exact f151
  have f177 : mm_N (mm_sR MC 5 0 2 (some 0)) 12 = 1 := by rw [mm_N_sR]; exact f152
  have f178 : mm_I (mm_sR MC 5 0 2 (some 0)) 5 0 7 = 0 := by rw [mm_I_sR]; exact f153
  have f179 : mm_I (mm_sR MC 5 0 2 (some 0)) 5 0 8 = 0 := by rw [mm_I_sR]; exact f154
  have f180 : SC (mm_sR MC 5 0 2 (some 0)) L xs := ⟨by rw [mm_L_sR]; exact f155.1, fun k hk => by rw [mm_I_sR]; exact f155.2 k hk⟩
  have f181 : mm_I (mm_sR MC 5 0 2 (some 0)) 3 0 3 = 0 := by rw [mm_I_sR]; exact f156
  have f182 : mm_R (mm_sR MC 5 0 2 (some 0)) 3 0 0 = some 0 := by rw [mm_R_sR, if_neg (fun z => absurd z.1 (by decide))]; exact f157
  have f183 : mm_L (mm_sR MC 5 0 2 (some 0)) 7 0 = 200 := by rw [mm_L_sR]; exact f158
  have f184 : mm_R (mm_sR MC 5 0 2 (some 0)) 3 0 1 = some 1 := by rw [mm_R_sR, if_neg (fun z => absurd z.1 (by decide))]; exact f159
  have f185 : mm_L (mm_sR MC 5 0 2 (some 0)) 7 1 = 5 := by rw [mm_L_sR]; exact f160
  have f186 : mm_R (mm_sR MC 5 0 2 (some 0)) 5 0 0 = some 0 := by rw [mm_R_sR, if_neg (fun z => absurd z.2.2 (by decide))]; exact f161
  have f187 : mm_I (mm_sR MC 5 0 2 (some 0)) 1 0 2 = 0 := by rw [mm_I_sR]; exact f162
  have f188 : mm_R (mm_sR MC 5 0 2 (some 0)) 1 0 0 = some 2 := by rw [mm_R_sR, if_neg (fun z => absurd z.1 (by decide))]; exact f163
  have f189 : mm_L (mm_sR MC 5 0 2 (some 0)) 7 2 = 6 := by rw [mm_L_sR]; exact f164
  have f190 : mm_R (mm_sR MC 5 0 2 (some 0)) 1 0 1 = some 3 := by rw [mm_R_sR, if_neg (fun z => absurd z.1 (by decide))]; exact f165
  have f191 : mm_L (mm_sR MC 5 0 2 (some 0)) 7 3 = 6 := by rw [mm_L_sR]; exact f166
  have f192 : mm_R (mm_sR MC 5 0 2 (some 0)) 5 0 1 = some 0 := by rw [mm_R_sR, if_neg (fun z => absurd z.2.2 (by decide))]; exact f167
  have f193 : mm_N (mm_sR MC 5 0 2 (some 0)) 7 = 5 := by rw [mm_N_sR]; exact n7C
  have f194 : mm_R (mm_sR MC 5 0 2 (some 0)) 0 0 0 = some 4 := by rw [mm_R_sR, if_neg (fun z => absurd z.1 (by decide))]; exact rC0
  have f195 : mm_L (mm_sR MC 5 0 2 (some 0)) 7 4 = 7 := by rw [mm_L_sR]; exact lC0
  have f196 : mm_R (mm_sR MC 5 0 2 (some 0)) 5 0 2 = some 0 := by rw [mm_R_sR, if_pos ⟨rfl, rfl, rfl⟩]
  simp (disch := omega) only [pw_anewarray, pw_bipush, pw_iconst, pw_new, pw_nop0, pw_nop2, qw_aload_n0, qw_dup_i, qw_dup_r, qw_invokespecial1, qw_istore_n1, qw_pf_b, qw_pf_i, qw_pf_r, mm_rf_c, mm_rt_v, mm_rt_i, mm_rt_r, mm_alc_n, mm_alc_c, mm_rc_n, mm_rc_c, mm_wd_n, mm_wd_i, mm_wd_l, mm_wd_r, reduceCtorEq, false_implies, implies_true, true_implies, true_or, or_true, false_or, or_false, not_false_eq_true, mm_nl_n, mm_nl_i, mm_nl_r, mm_args_n, mm_args_i, mm_args_l, mm_args_r, mm_pad_0, mm_pad_n, mm_pad_c, List.length_cons, List.length_nil, List.nil_append, List.cons_append, Nat.zero_le, Nat.sub_zero, true_and, and_true, Nat.reduceAdd, Nat.reduceLeDiff, Nat.reduceLT, Nat.reduceSub, Nat.lt_irrefl, Nat.zero_add, Nat.add_zero, Nat.le_refl, k_20, k_10, k_01, ↓mm_if_T, ↓mm_if_F, ↓if10, ↓if00, not_true_eq_false, tf_01, ↓mm_if_tf, ↓mm_if_tn, ↓mm_if_nn, mm_pA_c, mm_pI_c, w_2, n_2, w_5, n_5, w_6, n_6, w_7, n_7, w_8, n_8, w_9, n_9, w_200, n_200, w_468, n_468, f168, f169, f170, f171, f172, f173, f174, f175, f176, f177, f182, f184, f186, f188, f190, f192, f193, f194, f196]
  have f197 : mm_N (mm_nw (mm_sR MC 5 0 2 (some 0)) 2 0) 0 = 1 := by rw [mm_N_nw, if_neg (by decide)]; exact f168
  have f198 : mm_N (mm_nw (mm_sR MC 5 0 2 (some 0)) 2 0) 1 = 1 := by rw [mm_N_nw, if_neg (by decide)]; exact f169
  have f199 : mm_N (mm_nw (mm_sR MC 5 0 2 (some 0)) 2 0) 2 = 1 := by rw [mm_N_nw, if_pos rfl, f170]
  have f200 : mm_N (mm_nw (mm_sR MC 5 0 2 (some 0)) 2 0) 3 = 1 := by rw [mm_N_nw, if_neg (by decide)]; exact f171
  have f201 : mm_N (mm_nw (mm_sR MC 5 0 2 (some 0)) 2 0) 4 = 0 := by rw [mm_N_nw, if_neg (by decide)]; exact f172
  have f202 : mm_N (mm_nw (mm_sR MC 5 0 2 (some 0)) 2 0) 6 = 0 := by rw [mm_N_nw, if_neg (by decide)]; exact f173
  have f203 : mm_N (mm_nw (mm_sR MC 5 0 2 (some 0)) 2 0) 8 = 0 := by rw [mm_N_nw, if_neg (by decide)]; exact f174
  have f204 : mm_N (mm_nw (mm_sR MC 5 0 2 (some 0)) 2 0) 9 = 0 := by rw [mm_N_nw, if_neg (by decide)]; exact f175
  have f205 : mm_N (mm_nw (mm_sR MC 5 0 2 (some 0)) 2 0) 10 = 0 := by rw [mm_N_nw, if_neg (by decide)]; exact f176
  have f206 : mm_N (mm_nw (mm_sR MC 5 0 2 (some 0)) 2 0) 12 = 1 := by rw [mm_N_nw, if_neg (by decide)]; exact f177
  have f207 : mm_I (mm_nw (mm_sR MC 5 0 2 (some 0)) 2 0) 5 0 7 = 0 := by rw [mm_I_nw, if_neg (fun z => absurd z.1 (by decide))]; exact f178
  have f208 : mm_I (mm_nw (mm_sR MC 5 0 2 (some 0)) 2 0) 5 0 8 = 0 := by rw [mm_I_nw, if_neg (fun z => absurd z.1 (by decide))]; exact f179
  have f209 : SC (mm_nw (mm_sR MC 5 0 2 (some 0)) 2 0) L xs := ⟨by rw [mm_L_nw, if_neg (fun z => absurd z.1 (by decide))]; exact f180.1, fun k hk => by rw [mm_I_nw, if_neg (fun z => absurd z.1 (by decide))]; exact f180.2 k hk⟩
  have f210 : mm_I (mm_nw (mm_sR MC 5 0 2 (some 0)) 2 0) 3 0 3 = 0 := by rw [mm_I_nw, if_neg (fun z => absurd z.1 (by decide))]; exact f181
  have f211 : mm_R (mm_nw (mm_sR MC 5 0 2 (some 0)) 2 0) 3 0 0 = some 0 := by rw [mm_R_nw, if_neg (fun z => absurd z.1 (by decide))]; exact f182
  have f212 : mm_L (mm_nw (mm_sR MC 5 0 2 (some 0)) 2 0) 7 0 = 200 := by rw [mm_L_nw, if_neg (fun z => absurd z.1 (by decide))]; exact f183
  have f213 : mm_R (mm_nw (mm_sR MC 5 0 2 (some 0)) 2 0) 3 0 1 = some 1 := by rw [mm_R_nw, if_neg (fun z => absurd z.1 (by decide))]; exact f184
  have f214 : mm_L (mm_nw (mm_sR MC 5 0 2 (some 0)) 2 0) 7 1 = 5 := by rw [mm_L_nw, if_neg (fun z => absurd z.1 (by decide))]; exact f185
  have f215 : mm_R (mm_nw (mm_sR MC 5 0 2 (some 0)) 2 0) 5 0 0 = some 0 := by rw [mm_R_nw, if_neg (fun z => absurd z.1 (by decide))]; exact f186
  have f216 : mm_I (mm_nw (mm_sR MC 5 0 2 (some 0)) 2 0) 1 0 2 = 0 := by rw [mm_I_nw, if_neg (fun z => absurd z.1 (by decide))]; exact f187
  have f217 : mm_R (mm_nw (mm_sR MC 5 0 2 (some 0)) 2 0) 1 0 0 = some 2 := by rw [mm_R_nw, if_neg (fun z => absurd z.1 (by decide))]; exact f188
  have f218 : mm_L (mm_nw (mm_sR MC 5 0 2 (some 0)) 2 0) 7 2 = 6 := by rw [mm_L_nw, if_neg (fun z => absurd z.1 (by decide))]; exact f189
  have f219 : mm_R (mm_nw (mm_sR MC 5 0 2 (some 0)) 2 0) 1 0 1 = some 3 := by rw [mm_R_nw, if_neg (fun z => absurd z.1 (by decide))]; exact f190
  have f220 : mm_L (mm_nw (mm_sR MC 5 0 2 (some 0)) 2 0) 7 3 = 6 := by rw [mm_L_nw, if_neg (fun z => absurd z.1 (by decide))]; exact f191
  have f221 : mm_R (mm_nw (mm_sR MC 5 0 2 (some 0)) 2 0) 5 0 1 = some 0 := by rw [mm_R_nw, if_neg (fun z => absurd z.1 (by decide))]; exact f192
  have f222 : mm_N (mm_nw (mm_sR MC 5 0 2 (some 0)) 2 0) 7 = 5 := by rw [mm_N_nw, if_neg (by decide)]; exact f193
  have f223 : mm_R (mm_nw (mm_sR MC 5 0 2 (some 0)) 2 0) 0 0 0 = some 4 := by rw [mm_R_nw, if_neg (fun z => absurd z.1 (by decide))]; exact f194
  have f224 : mm_L (mm_nw (mm_sR MC 5 0 2 (some 0)) 2 0) 7 4 = 7 := by rw [mm_L_nw, if_neg (fun z => absurd z.1 (by decide))]; exact f195
  have f225 : mm_R (mm_nw (mm_sR MC 5 0 2 (some 0)) 2 0) 5 0 2 = some 0 := by rw [mm_R_nw, if_neg (fun z => absurd z.1 (by decide))]; exact f196
  refine t_8 37 (s := 0) f205 f201 (fun MD GD => ?_)
  have f226 : mm_N MD 0 = 1 := by rw [GD.2.1.2.2 0 (by decide) (by decide)]; exact f197
  have f227 : mm_N MD 1 = 1 := by rw [GD.2.1.2.2 1 (by decide) (by decide)]; exact f198
  have f228 : mm_N MD 2 = 1 := by rw [GD.2.1.2.2 2 (by decide) (by decide)]; exact f199
  have f229 : mm_N MD 3 = 1 := by rw [GD.2.1.2.2 3 (by decide) (by decide)]; exact f200
  have f230 : mm_N MD 6 = 0 := by rw [GD.2.1.2.2 6 (by decide) (by decide)]; exact f202
  have f231 : mm_N MD 8 = 0 := by rw [GD.2.1.2.2 8 (by decide) (by decide)]; exact f203
  have f232 : mm_N MD 9 = 0 := by rw [GD.2.1.2.2 9 (by decide) (by decide)]; exact f204
  have f233 : mm_N MD 12 = 1 := by rw [GD.2.1.2.2 12 (by decide) (by decide)]; exact f206
  have f234 : mm_I MD 5 0 7 = 0 := by rw [GD.2.2.1 5 0 7 (fun z => absurd z.1 (by decide)) (fun z => absurd z.1 (by decide))]; exact f207
  have f235 : mm_I MD 5 0 8 = 0 := by rw [GD.2.2.1 5 0 8 (fun z => absurd z.1 (by decide)) (fun z => absurd z.1 (by decide))]; exact f208
  have f236 : SC MD L xs := ⟨by rw [GD.2.2.2.2 11 0 (fun z => absurd z.1 (by decide)) (fun z => absurd z.1 (by decide))]; exact f209.1, fun k hk => by rw [GD.2.2.1 11 0 k (fun z => absurd z.1 (by decide)) (fun z => absurd z.1 (by decide))]; exact f209.2 k hk⟩
  have f237 : mm_I MD 3 0 3 = 0 := by rw [GD.2.2.1 3 0 3 (fun z => absurd z.1 (by decide)) (fun z => absurd z.1 (by decide))]; exact f210
  have f238 : mm_R MD 3 0 0 = some 0 := by rw [GD.2.2.2.1 3 0 0 (fun z => absurd z.1 (by decide)) (fun z => absurd z.1 (by decide)) (fun z => absurd z.1 (by decide))]; exact f211
  have f239 : mm_L MD 7 0 = 200 := by rw [GD.2.2.2.2 7 0 (fun z => absurd z.1 (by decide)) (fun z => absurd z.1 (by decide))]; exact f212
  have f240 : mm_R MD 3 0 1 = some 1 := by rw [GD.2.2.2.1 3 0 1 (fun z => absurd z.1 (by decide)) (fun z => absurd z.1 (by decide)) (fun z => absurd z.1 (by decide))]; exact f213
  have f241 : mm_L MD 7 1 = 5 := by rw [GD.2.2.2.2 7 1 (fun z => absurd z.1 (by decide)) (fun z => absurd z.1 (by decide))]; exact f214
  have f242 : mm_R MD 5 0 0 = some 0 := by rw [GD.2.2.2.1 5 0 0 (fun z => absurd z.1 (by decide)) (fun z => absurd z.1 (by decide)) (fun z => absurd z.1 (by decide))]; exact f215
  have f243 : mm_I MD 1 0 2 = 0 := by rw [GD.2.2.1 1 0 2 (fun z => absurd z.1 (by decide)) (fun z => absurd z.1 (by decide))]; exact f216
  have f244 : mm_R MD 1 0 0 = some 2 := by rw [GD.2.2.2.1 1 0 0 (fun z => absurd z.1 (by decide)) (fun z => absurd z.1 (by decide)) (fun z => absurd z.1 (by decide))]; exact f217
  have f245 : mm_L MD 7 2 = 6 := by rw [GD.2.2.2.2 7 2 (fun z => absurd z.1 (by decide)) (fun z => absurd z.1 (by decide))]; exact f218
  have f246 : mm_R MD 1 0 1 = some 3 := by rw [GD.2.2.2.1 1 0 1 (fun z => absurd z.1 (by decide)) (fun z => absurd z.1 (by decide)) (fun z => absurd z.1 (by decide))]; exact f219
  have f247 : mm_L MD 7 3 = 6 := by rw [GD.2.2.2.2 7 3 (fun z => absurd z.1 (by decide)) (fun z => absurd z.1 (by decide))]; exact f220
  have f248 : mm_R MD 5 0 1 = some 0 := by rw [GD.2.2.2.1 5 0 1 (fun z => absurd z.1 (by decide)) (fun z => absurd z.1 (by decide)) (fun z => absurd z.1 (by decide))]; exact f221
  have f249 : mm_N MD 7 = 5 := by rw [GD.2.1.2.2 7 (by decide) (by decide)]; exact f222
  have f250 : mm_R MD 0 0 0 = some 4 := by rw [GD.2.2.2.1 0 0 0 (fun z => absurd z.1 (by decide)) (fun z => absurd z.1 (by decide)) (fun z => absurd z.1 (by decide))]; exact f223
  have f251 : mm_L MD 7 4 = 7 := by rw [GD.2.2.2.2 7 4 (fun z => absurd z.1 (by decide)) (fun z => absurd z.1 (by decide))]; exact f224
  have f252 : mm_R MD 5 0 2 = some 0 := by rw [GD.2.2.2.1 5 0 2 (fun z => absurd z.1 (by decide)) (fun z => absurd z.1 (by decide)) (fun z => absurd z.1 (by decide))]; exact f225
  have f253 : mm_N (mm_sR MD 5 0 3 (some 0)) 0 = 1 := by rw [mm_N_sR]; exact f226
  have f254 : mm_N (mm_sR MD 5 0 3 (some 0)) 1 = 1 := by rw [mm_N_sR]; exact f227
  have f255 : mm_N (mm_sR MD 5 0 3 (some 0)) 2 = 1 := by rw [mm_N_sR]; exact f228
  have f256 : mm_N (mm_sR MD 5 0 3 (some 0)) 3 = 1 := by rw [mm_N_sR]; exact f229
  have f257 : mm_N (mm_sR MD 5 0 3 (some 0)) 6 = 0 := by rw [mm_N_sR]; exact f230
  have f258 : mm_N (mm_sR MD 5 0 3 (some 0)) 8 = 0 := by rw [mm_N_sR]; exact f231
  have f259 : mm_N (mm_sR MD 5 0 3 (some 0)) 9 = 0 := by rw [mm_N_sR]; exact f232
  have f260 : mm_N (mm_sR MD 5 0 3 (some 0)) 12 = 1 := by rw [mm_N_sR]; exact f233
  have f261 : mm_I (mm_sR MD 5 0 3 (some 0)) 5 0 7 = 0 := by rw [mm_I_sR]; exact f234
  have f262 : mm_I (mm_sR MD 5 0 3 (some 0)) 5 0 8 = 0 := by rw [mm_I_sR]; exact f235
  have f263 : SC (mm_sR MD 5 0 3 (some 0)) L xs := ⟨by rw [mm_L_sR]; exact f236.1, fun k hk => by rw [mm_I_sR]; exact f236.2 k hk⟩
  have f264 : mm_I (mm_sR MD 5 0 3 (some 0)) 3 0 3 = 0 := by rw [mm_I_sR]; exact f237
  have f265 : mm_R (mm_sR MD 5 0 3 (some 0)) 3 0 0 = some 0 := by rw [mm_R_sR, if_neg (fun z => absurd z.1 (by decide))]; exact f238
  have f266 : mm_L (mm_sR MD 5 0 3 (some 0)) 7 0 = 200 := by rw [mm_L_sR]; exact f239
  have f267 : mm_R (mm_sR MD 5 0 3 (some 0)) 3 0 1 = some 1 := by rw [mm_R_sR, if_neg (fun z => absurd z.1 (by decide))]; exact f240
  have f268 : mm_L (mm_sR MD 5 0 3 (some 0)) 7 1 = 5 := by rw [mm_L_sR]; exact f241
  have f269 : mm_R (mm_sR MD 5 0 3 (some 0)) 5 0 0 = some 0 := by rw [mm_R_sR, if_neg (fun z => absurd z.2.2 (by decide))]; exact f242
  have f270 : mm_I (mm_sR MD 5 0 3 (some 0)) 1 0 2 = 0 := by rw [mm_I_sR]; exact f243
  have f271 : mm_R (mm_sR MD 5 0 3 (some 0)) 1 0 0 = some 2 := by rw [mm_R_sR, if_neg (fun z => absurd z.1 (by decide))]; exact f244
  have f272 : mm_L (mm_sR MD 5 0 3 (some 0)) 7 2 = 6 := by rw [mm_L_sR]; exact f245
  have f273 : mm_R (mm_sR MD 5 0 3 (some 0)) 1 0 1 = some 3 := by rw [mm_R_sR, if_neg (fun z => absurd z.1 (by decide))]; exact f246
  have f274 : mm_L (mm_sR MD 5 0 3 (some 0)) 7 3 = 6 := by rw [mm_L_sR]; exact f247
  have f275 : mm_R (mm_sR MD 5 0 3 (some 0)) 5 0 1 = some 0 := by rw [mm_R_sR, if_neg (fun z => absurd z.2.2 (by decide))]; exact f248
  have f276 : mm_N (mm_sR MD 5 0 3 (some 0)) 7 = 5 := by rw [mm_N_sR]; exact f249
  have f277 : mm_R (mm_sR MD 5 0 3 (some 0)) 0 0 0 = some 4 := by rw [mm_R_sR, if_neg (fun z => absurd z.1 (by decide))]; exact f250
  have f278 : mm_L (mm_sR MD 5 0 3 (some 0)) 7 4 = 7 := by rw [mm_L_sR]; exact f251
  have f279 : mm_R (mm_sR MD 5 0 3 (some 0)) 5 0 2 = some 0 := by rw [mm_R_sR, if_neg (fun z => absurd z.2.2 (by decide))]; exact f252
  have f280 : mm_N (mm_sR MD 5 0 3 (some 0)) 10 = 1 := by rw [mm_N_sR]; exact GD.2.1.1
  have f281 : mm_N (mm_sR MD 5 0 3 (some 0)) 4 = 7 := by rw [mm_N_sR]; exact GD.2.1.2.1
  have f282 : mm_R (mm_sR MD 5 0 3 (some 0)) 5 0 3 = some 0 := by rw [mm_R_sR, if_pos ⟨rfl, rfl, rfl⟩]
  have f283 : mm_N (mm_nw (mm_sR MD 5 0 3 (some 0)) 9 8) 0 = 1 := by rw [mm_N_nw, if_neg (by decide)]; exact f253
  have f284 : mm_N (mm_nw (mm_sR MD 5 0 3 (some 0)) 9 8) 1 = 1 := by rw [mm_N_nw, if_neg (by decide)]; exact f254
  have f285 : mm_N (mm_nw (mm_sR MD 5 0 3 (some 0)) 9 8) 2 = 1 := by rw [mm_N_nw, if_neg (by decide)]; exact f255
  have f286 : mm_N (mm_nw (mm_sR MD 5 0 3 (some 0)) 9 8) 3 = 1 := by rw [mm_N_nw, if_neg (by decide)]; exact f256
  have f287 : mm_N (mm_nw (mm_sR MD 5 0 3 (some 0)) 9 8) 6 = 0 := by rw [mm_N_nw, if_neg (by decide)]; exact f257
  have f288 : mm_N (mm_nw (mm_sR MD 5 0 3 (some 0)) 9 8) 8 = 0 := by rw [mm_N_nw, if_neg (by decide)]; exact f258
  have f289 : mm_N (mm_nw (mm_sR MD 5 0 3 (some 0)) 9 8) 9 = 1 := by rw [mm_N_nw, if_pos rfl, f259]
  have f290 : mm_N (mm_nw (mm_sR MD 5 0 3 (some 0)) 9 8) 12 = 1 := by rw [mm_N_nw, if_neg (by decide)]; exact f260
  have f291 : mm_I (mm_nw (mm_sR MD 5 0 3 (some 0)) 9 8) 5 0 7 = 0 := by rw [mm_I_nw, if_neg (fun z => absurd z.1 (by decide))]; exact f261
  have f292 : mm_I (mm_nw (mm_sR MD 5 0 3 (some 0)) 9 8) 5 0 8 = 0 := by rw [mm_I_nw, if_neg (fun z => absurd z.1 (by decide))]; exact f262
  have f293 : SC (mm_nw (mm_sR MD 5 0 3 (some 0)) 9 8) L xs := ⟨by rw [mm_L_nw, if_neg (fun z => absurd z.1 (by decide))]; exact f263.1, fun k hk => by rw [mm_I_nw, if_neg (fun z => absurd z.1 (by decide))]; exact f263.2 k hk⟩
  have f294 : mm_I (mm_nw (mm_sR MD 5 0 3 (some 0)) 9 8) 3 0 3 = 0 := by rw [mm_I_nw, if_neg (fun z => absurd z.1 (by decide))]; exact f264
  have f295 : mm_R (mm_nw (mm_sR MD 5 0 3 (some 0)) 9 8) 3 0 0 = some 0 := by rw [mm_R_nw, if_neg (fun z => absurd z.1 (by decide))]; exact f265
  have f296 : mm_L (mm_nw (mm_sR MD 5 0 3 (some 0)) 9 8) 7 0 = 200 := by rw [mm_L_nw, if_neg (fun z => absurd z.1 (by decide))]; exact f266
  have f297 : mm_R (mm_nw (mm_sR MD 5 0 3 (some 0)) 9 8) 3 0 1 = some 1 := by rw [mm_R_nw, if_neg (fun z => absurd z.1 (by decide))]; exact f267
  have f298 : mm_L (mm_nw (mm_sR MD 5 0 3 (some 0)) 9 8) 7 1 = 5 := by rw [mm_L_nw, if_neg (fun z => absurd z.1 (by decide))]; exact f268
  have f299 : mm_R (mm_nw (mm_sR MD 5 0 3 (some 0)) 9 8) 5 0 0 = some 0 := by rw [mm_R_nw, if_neg (fun z => absurd z.1 (by decide))]; exact f269
  have f300 : mm_I (mm_nw (mm_sR MD 5 0 3 (some 0)) 9 8) 1 0 2 = 0 := by rw [mm_I_nw, if_neg (fun z => absurd z.1 (by decide))]; exact f270
  have f301 : mm_R (mm_nw (mm_sR MD 5 0 3 (some 0)) 9 8) 1 0 0 = some 2 := by rw [mm_R_nw, if_neg (fun z => absurd z.1 (by decide))]; exact f271
  have f302 : mm_L (mm_nw (mm_sR MD 5 0 3 (some 0)) 9 8) 7 2 = 6 := by rw [mm_L_nw, if_neg (fun z => absurd z.1 (by decide))]; exact f272
  have f303 : mm_R (mm_nw (mm_sR MD 5 0 3 (some 0)) 9 8) 1 0 1 = some 3 := by rw [mm_R_nw, if_neg (fun z => absurd z.1 (by decide))]; exact f273
  have f304 : mm_L (mm_nw (mm_sR MD 5 0 3 (some 0)) 9 8) 7 3 = 6 := by rw [mm_L_nw, if_neg (fun z => absurd z.1 (by decide))]; exact f274
  have f305 : mm_R (mm_nw (mm_sR MD 5 0 3 (some 0)) 9 8) 5 0 1 = some 0 := by rw [mm_R_nw, if_neg (fun z => absurd z.1 (by decide))]; exact f275
  have f306 : mm_N (mm_nw (mm_sR MD 5 0 3 (some 0)) 9 8) 7 = 5 := by rw [mm_N_nw, if_neg (by decide)]; exact f276
  have f307 : mm_R (mm_nw (mm_sR MD 5 0 3 (some 0)) 9 8) 0 0 0 = some 4 := by rw [mm_R_nw, if_neg (fun z => absurd z.1 (by decide))]; exact f277
  have f308 : mm_L (mm_nw (mm_sR MD 5 0 3 (some 0)) 9 8) 7 4 = 7 := by rw [mm_L_nw, if_neg (fun z => absurd z.1 (by decide))]; exact f278
  have f309 : mm_R (mm_nw (mm_sR MD 5 0 3 (some 0)) 9 8) 5 0 2 = some 0 := by rw [mm_R_nw, if_neg (fun z => absurd z.1 (by decide))]; exact f279
  have f310 : mm_N (mm_nw (mm_sR MD 5 0 3 (some 0)) 9 8) 10 = 1 := by rw [mm_N_nw, if_neg (by decide)]; exact f280
  have f311 : mm_N (mm_nw (mm_sR MD 5 0 3 (some 0)) 9 8) 4 = 7 := by rw [mm_N_nw, if_neg (by decide)]; exact f281
  have f312 : mm_R (mm_nw (mm_sR MD 5 0 3 (some 0)) 9 8) 5 0 3 = some 0 := by rw [mm_R_nw, if_neg (fun z => absurd z.1 (by decide))]; exact f282
  have f313 : mm_L (mm_nw (mm_sR MD 5 0 3 (some 0)) 9 8) 9 0 = 8 := by rw [mm_L_nw, if_pos ⟨rfl, f259.symm⟩]
  have f314 : mm_N (mm_sR (mm_nw (mm_sR MD 5 0 3 (some 0)) 9 8) 5 0 4 (some 0)) 0 = 1 := by rw [mm_N_sR]; exact f283
  have f315 : mm_N (mm_sR (mm_nw (mm_sR MD 5 0 3 (some 0)) 9 8) 5 0 4 (some 0)) 1 = 1 := by rw [mm_N_sR]; exact f284
  have f316 : mm_N (mm_sR (mm_nw (mm_sR MD 5 0 3 (some 0)) 9 8) 5 0 4 (some 0)) 2 = 1 := by rw [mm_N_sR]; exact f285
  have f317 : mm_N (mm_sR (mm_nw (mm_sR MD 5 0 3 (some 0)) 9 8) 5 0 4 (some 0)) 3 = 1 := by rw [mm_N_sR]; exact f286
  have f318 : mm_N (mm_sR (mm_nw (mm_sR MD 5 0 3 (some 0)) 9 8) 5 0 4 (some 0)) 6 = 0 := by rw [mm_N_sR]; exact f287
  have f319 : mm_N (mm_sR (mm_nw (mm_sR MD 5 0 3 (some 0)) 9 8) 5 0 4 (some 0)) 8 = 0 := by rw [mm_N_sR]; exact f288
  have f320 : mm_N (mm_sR (mm_nw (mm_sR MD 5 0 3 (some 0)) 9 8) 5 0 4 (some 0)) 9 = 1 := by rw [mm_N_sR]; exact f289
  have f321 : mm_N (mm_sR (mm_nw (mm_sR MD 5 0 3 (some 0)) 9 8) 5 0 4 (some 0)) 12 = 1 := by rw [mm_N_sR]; exact f290
  have f322 : mm_I (mm_sR (mm_nw (mm_sR MD 5 0 3 (some 0)) 9 8) 5 0 4 (some 0)) 5 0 7 = 0 := by rw [mm_I_sR]; exact f291
  have f323 : mm_I (mm_sR (mm_nw (mm_sR MD 5 0 3 (some 0)) 9 8) 5 0 4 (some 0)) 5 0 8 = 0 := by rw [mm_I_sR]; exact f292
  have f324 : SC (mm_sR (mm_nw (mm_sR MD 5 0 3 (some 0)) 9 8) 5 0 4 (some 0)) L xs := ⟨by rw [mm_L_sR]; exact f293.1, fun k hk => by rw [mm_I_sR]; exact f293.2 k hk⟩
  have f325 : mm_I (mm_sR (mm_nw (mm_sR MD 5 0 3 (some 0)) 9 8) 5 0 4 (some 0)) 3 0 3 = 0 := by rw [mm_I_sR]; exact f294
  have f326 : mm_R (mm_sR (mm_nw (mm_sR MD 5 0 3 (some 0)) 9 8) 5 0 4 (some 0)) 3 0 0 = some 0 := by rw [mm_R_sR, if_neg (fun z => absurd z.1 (by decide))]; exact f295
  have f327 : mm_L (mm_sR (mm_nw (mm_sR MD 5 0 3 (some 0)) 9 8) 5 0 4 (some 0)) 7 0 = 200 := by rw [mm_L_sR]; exact f296
  have f328 : mm_R (mm_sR (mm_nw (mm_sR MD 5 0 3 (some 0)) 9 8) 5 0 4 (some 0)) 3 0 1 = some 1 := by rw [mm_R_sR, if_neg (fun z => absurd z.1 (by decide))]; exact f297
  have f329 : mm_L (mm_sR (mm_nw (mm_sR MD 5 0 3 (some 0)) 9 8) 5 0 4 (some 0)) 7 1 = 5 := by rw [mm_L_sR]; exact f298
  have f330 : mm_R (mm_sR (mm_nw (mm_sR MD 5 0 3 (some 0)) 9 8) 5 0 4 (some 0)) 5 0 0 = some 0 := by rw [mm_R_sR, if_neg (fun z => absurd z.2.2 (by decide))]; exact f299
  have f331 : mm_I (mm_sR (mm_nw (mm_sR MD 5 0 3 (some 0)) 9 8) 5 0 4 (some 0)) 1 0 2 = 0 := by rw [mm_I_sR]; exact f300
  have f332 : mm_R (mm_sR (mm_nw (mm_sR MD 5 0 3 (some 0)) 9 8) 5 0 4 (some 0)) 1 0 0 = some 2 := by rw [mm_R_sR, if_neg (fun z => absurd z.1 (by decide))]; exact f301
  have f333 : mm_L (mm_sR (mm_nw (mm_sR MD 5 0 3 (some 0)) 9 8) 5 0 4 (some 0)) 7 2 = 6 := by rw [mm_L_sR]; exact f302
  have f334 : mm_R (mm_sR (mm_nw (mm_sR MD 5 0 3 (some 0)) 9 8) 5 0 4 (some 0)) 1 0 1 = some 3 := by rw [mm_R_sR, if_neg (fun z => absurd z.1 (by decide))]; exact f303
  have f335 : mm_L (mm_sR (mm_nw (mm_sR MD 5 0 3 (some 0)) 9 8) 5 0 4 (some 0)) 7 3 = 6 := by rw [mm_L_sR]; exact f304
  have f336 : mm_R (mm_sR (mm_nw (mm_sR MD 5 0 3 (some 0)) 9 8) 5 0 4 (some 0)) 5 0 1 = some 0 := by rw [mm_R_sR, if_neg (fun z => absurd z.2.2 (by decide))]; exact f305
  have f337 : mm_N (mm_sR (mm_nw (mm_sR MD 5 0 3 (some 0)) 9 8) 5 0 4 (some 0)) 7 = 5 := by rw [mm_N_sR]; exact f306
  have f338 : mm_R (mm_sR (mm_nw (mm_sR MD 5 0 3 (some 0)) 9 8) 5 0 4 (some 0)) 0 0 0 = some 4 := by rw [mm_R_sR, if_neg (fun z => absurd z.1 (by decide))]; exact f307
  have f339 : mm_L (mm_sR (mm_nw (mm_sR MD 5 0 3 (some 0)) 9 8) 5 0 4 (some 0)) 7 4 = 7 := by rw [mm_L_sR]; exact f308
  have f340 : mm_R (mm_sR (mm_nw (mm_sR MD 5 0 3 (some 0)) 9 8) 5 0 4 (some 0)) 5 0 2 = some 0 := by rw [mm_R_sR, if_neg (fun z => absurd z.2.2 (by decide))]; exact f309
  have f341 : mm_N (mm_sR (mm_nw (mm_sR MD 5 0 3 (some 0)) 9 8) 5 0 4 (some 0)) 10 = 1 := by rw [mm_N_sR]; exact f310
  have f342 : mm_N (mm_sR (mm_nw (mm_sR MD 5 0 3 (some 0)) 9 8) 5 0 4 (some 0)) 4 = 7 := by rw [mm_N_sR]; exact f311
  have f343 : mm_R (mm_sR (mm_nw (mm_sR MD 5 0 3 (some 0)) 9 8) 5 0 4 (some 0)) 5 0 3 = some 0 := by rw [mm_R_sR, if_neg (fun z => absurd z.2.2 (by decide))]; exact f312
  have f344 : mm_L (mm_sR (mm_nw (mm_sR MD 5 0 3 (some 0)) 9 8) 5 0 4 (some 0)) 9 0 = 8 := by rw [mm_L_sR]; exact f313
  have f345 : mm_R (mm_sR (mm_nw (mm_sR MD 5 0 3 (some 0)) 9 8) 5 0 4 (some 0)) 5 0 4 = some 0 := by rw [mm_R_sR, if_pos ⟨rfl, rfl, rfl⟩]
  have f346 : mm_N (mm_nw (mm_sR (mm_nw (mm_sR MD 5 0 3 (some 0)) 9 8) 5 0 4 (some 0)) 9 2) 0 = 1 := by rw [mm_N_nw, if_neg (by decide)]; exact f314
  have f347 : mm_N (mm_nw (mm_sR (mm_nw (mm_sR MD 5 0 3 (some 0)) 9 8) 5 0 4 (some 0)) 9 2) 1 = 1 := by rw [mm_N_nw, if_neg (by decide)]; exact f315
  have f348 : mm_N (mm_nw (mm_sR (mm_nw (mm_sR MD 5 0 3 (some 0)) 9 8) 5 0 4 (some 0)) 9 2) 2 = 1 := by rw [mm_N_nw, if_neg (by decide)]; exact f316
  have f349 : mm_N (mm_nw (mm_sR (mm_nw (mm_sR MD 5 0 3 (some 0)) 9 8) 5 0 4 (some 0)) 9 2) 3 = 1 := by rw [mm_N_nw, if_neg (by decide)]; exact f317
  have f350 : mm_N (mm_nw (mm_sR (mm_nw (mm_sR MD 5 0 3 (some 0)) 9 8) 5 0 4 (some 0)) 9 2) 6 = 0 := by rw [mm_N_nw, if_neg (by decide)]; exact f318
  have f351 : mm_N (mm_nw (mm_sR (mm_nw (mm_sR MD 5 0 3 (some 0)) 9 8) 5 0 4 (some 0)) 9 2) 8 = 0 := by rw [mm_N_nw, if_neg (by decide)]; exact f319
  have f352 : mm_N (mm_nw (mm_sR (mm_nw (mm_sR MD 5 0 3 (some 0)) 9 8) 5 0 4 (some 0)) 9 2) 9 = 2 := by rw [mm_N_nw, if_pos rfl, f320]
  have f353 : mm_N (mm_nw (mm_sR (mm_nw (mm_sR MD 5 0 3 (some 0)) 9 8) 5 0 4 (some 0)) 9 2) 12 = 1 := by rw [mm_N_nw, if_neg (by decide)]; exact f321
  have f354 : mm_I (mm_nw (mm_sR (mm_nw (mm_sR MD 5 0 3 (some 0)) 9 8) 5 0 4 (some 0)) 9 2) 5 0 7 = 0 := by rw [mm_I_nw, if_neg (fun z => absurd z.1 (by decide))]; exact f322
  have f355 : mm_I (mm_nw (mm_sR (mm_nw (mm_sR MD 5 0 3 (some 0)) 9 8) 5 0 4 (some 0)) 9 2) 5 0 8 = 0 := by rw [mm_I_nw, if_neg (fun z => absurd z.1 (by decide))]; exact f323
  have f356 : SC (mm_nw (mm_sR (mm_nw (mm_sR MD 5 0 3 (some 0)) 9 8) 5 0 4 (some 0)) 9 2) L xs := ⟨by rw [mm_L_nw, if_neg (fun z => absurd z.1 (by decide))]; exact f324.1, fun k hk => by rw [mm_I_nw, if_neg (fun z => absurd z.1 (by decide))]; exact f324.2 k hk⟩
  have f357 : mm_I (mm_nw (mm_sR (mm_nw (mm_sR MD 5 0 3 (some 0)) 9 8) 5 0 4 (some 0)) 9 2) 3 0 3 = 0 := by rw [mm_I_nw, if_neg (fun z => absurd z.1 (by decide))]; exact f325
  have f358 : mm_R (mm_nw (mm_sR (mm_nw (mm_sR MD 5 0 3 (some 0)) 9 8) 5 0 4 (some 0)) 9 2) 3 0 0 = some 0 := by rw [mm_R_nw, if_neg (fun z => absurd z.1 (by decide))]; exact f326
  have f359 : mm_L (mm_nw (mm_sR (mm_nw (mm_sR MD 5 0 3 (some 0)) 9 8) 5 0 4 (some 0)) 9 2) 7 0 = 200 := by rw [mm_L_nw, if_neg (fun z => absurd z.1 (by decide))]; exact f327
  have f360 : mm_R (mm_nw (mm_sR (mm_nw (mm_sR MD 5 0 3 (some 0)) 9 8) 5 0 4 (some 0)) 9 2) 3 0 1 = some 1 := by rw [mm_R_nw, if_neg (fun z => absurd z.1 (by decide))]; exact f328
  have f361 : mm_L (mm_nw (mm_sR (mm_nw (mm_sR MD 5 0 3 (some 0)) 9 8) 5 0 4 (some 0)) 9 2) 7 1 = 5 := by rw [mm_L_nw, if_neg (fun z => absurd z.1 (by decide))]; exact f329
  have f362 : mm_R (mm_nw (mm_sR (mm_nw (mm_sR MD 5 0 3 (some 0)) 9 8) 5 0 4 (some 0)) 9 2) 5 0 0 = some 0 := by rw [mm_R_nw, if_neg (fun z => absurd z.1 (by decide))]; exact f330
  have f363 : mm_I (mm_nw (mm_sR (mm_nw (mm_sR MD 5 0 3 (some 0)) 9 8) 5 0 4 (some 0)) 9 2) 1 0 2 = 0 := by rw [mm_I_nw, if_neg (fun z => absurd z.1 (by decide))]; exact f331
  have f364 : mm_R (mm_nw (mm_sR (mm_nw (mm_sR MD 5 0 3 (some 0)) 9 8) 5 0 4 (some 0)) 9 2) 1 0 0 = some 2 := by rw [mm_R_nw, if_neg (fun z => absurd z.1 (by decide))]; exact f332
  have f365 : mm_L (mm_nw (mm_sR (mm_nw (mm_sR MD 5 0 3 (some 0)) 9 8) 5 0 4 (some 0)) 9 2) 7 2 = 6 := by rw [mm_L_nw, if_neg (fun z => absurd z.1 (by decide))]; exact f333
  have f366 : mm_R (mm_nw (mm_sR (mm_nw (mm_sR MD 5 0 3 (some 0)) 9 8) 5 0 4 (some 0)) 9 2) 1 0 1 = some 3 := by rw [mm_R_nw, if_neg (fun z => absurd z.1 (by decide))]; exact f334
  have f367 : mm_L (mm_nw (mm_sR (mm_nw (mm_sR MD 5 0 3 (some 0)) 9 8) 5 0 4 (some 0)) 9 2) 7 3 = 6 := by rw [mm_L_nw, if_neg (fun z => absurd z.1 (by decide))]; exact f335
  have f368 : mm_R (mm_nw (mm_sR (mm_nw (mm_sR MD 5 0 3 (some 0)) 9 8) 5 0 4 (some 0)) 9 2) 5 0 1 = some 0 := by rw [mm_R_nw, if_neg (fun z => absurd z.1 (by decide))]; exact f336
  have f369 : mm_N (mm_nw (mm_sR (mm_nw (mm_sR MD 5 0 3 (some 0)) 9 8) 5 0 4 (some 0)) 9 2) 7 = 5 := by rw [mm_N_nw, if_neg (by decide)]; exact f337
  have f370 : mm_R (mm_nw (mm_sR (mm_nw (mm_sR MD 5 0 3 (some 0)) 9 8) 5 0 4 (some 0)) 9 2) 0 0 0 = some 4 := by rw [mm_R_nw, if_neg (fun z => absurd z.1 (by decide))]; exact f338
  have f371 : mm_L (mm_nw (mm_sR (mm_nw (mm_sR MD 5 0 3 (some 0)) 9 8) 5 0 4 (some 0)) 9 2) 7 4 = 7 := by rw [mm_L_nw, if_neg (fun z => absurd z.1 (by decide))]; exact f339
  have f372 : mm_R (mm_nw (mm_sR (mm_nw (mm_sR MD 5 0 3 (some 0)) 9 8) 5 0 4 (some 0)) 9 2) 5 0 2 = some 0 := by rw [mm_R_nw, if_neg (fun z => absurd z.1 (by decide))]; exact f340
  have f373 : mm_N (mm_nw (mm_sR (mm_nw (mm_sR MD 5 0 3 (some 0)) 9 8) 5 0 4 (some 0)) 9 2) 10 = 1 := by rw [mm_N_nw, if_neg (by decide)]; exact f341
  have f374 : mm_N (mm_nw (mm_sR (mm_nw (mm_sR MD 5 0 3 (some 0)) 9 8) 5 0 4 (some 0)) 9 2) 4 = 7 := by rw [mm_N_nw, if_neg (by decide)]; exact f342
  have f375 : mm_R (mm_nw (mm_sR (mm_nw (mm_sR MD 5 0 3 (some 0)) 9 8) 5 0 4 (some 0)) 9 2) 5 0 3 = some 0 := by rw [mm_R_nw, if_neg (fun z => absurd z.1 (by decide))]; exact f343
  have f376 : mm_L (mm_nw (mm_sR (mm_nw (mm_sR MD 5 0 3 (some 0)) 9 8) 5 0 4 (some 0)) 9 2) 9 0 = 8 := by rw [mm_L_nw, if_neg (fun z => absurd (z.2.trans f320) (by decide))]; exact f344
  have f377 : mm_R (mm_nw (mm_sR (mm_nw (mm_sR MD 5 0 3 (some 0)) 9 8) 5 0 4 (some 0)) 9 2) 5 0 4 = some 0 := by rw [mm_R_nw, if_neg (fun z => absurd z.1 (by decide))]; exact f345
  have f378 : mm_L (mm_nw (mm_sR (mm_nw (mm_sR MD 5 0 3 (some 0)) 9 8) 5 0 4 (some 0)) 9 2) 9 1 = 2 := by rw [mm_L_nw, if_pos ⟨rfl, f320.symm⟩]
  have f379 : mm_N (mm_sR (mm_nw (mm_sR (mm_nw (mm_sR MD 5 0 3 (some 0)) 9 8) 5 0 4 (some 0)) 9 2) 5 0 5 (some 1)) 0 = 1 := by rw [mm_N_sR]; exact f346
  have f380 : mm_N (mm_sR (mm_nw (mm_sR (mm_nw (mm_sR MD 5 0 3 (some 0)) 9 8) 5 0 4 (some 0)) 9 2) 5 0 5 (some 1)) 1 = 1 := by rw [mm_N_sR]; exact f347
  have f381 : mm_N (mm_sR (mm_nw (mm_sR (mm_nw (mm_sR MD 5 0 3 (some 0)) 9 8) 5 0 4 (some 0)) 9 2) 5 0 5 (some 1)) 2 = 1 := by rw [mm_N_sR]; exact f348
  have f382 : mm_N (mm_sR (mm_nw (mm_sR (mm_nw (mm_sR MD 5 0 3 (some 0)) 9 8) 5 0 4 (some 0)) 9 2) 5 0 5 (some 1)) 3 = 1 := by rw [mm_N_sR]; exact f349
  have f383 : mm_N (mm_sR (mm_nw (mm_sR (mm_nw (mm_sR MD 5 0 3 (some 0)) 9 8) 5 0 4 (some 0)) 9 2) 5 0 5 (some 1)) 6 = 0 := by rw [mm_N_sR]; exact f350
  have f384 : mm_N (mm_sR (mm_nw (mm_sR (mm_nw (mm_sR MD 5 0 3 (some 0)) 9 8) 5 0 4 (some 0)) 9 2) 5 0 5 (some 1)) 8 = 0 := by rw [mm_N_sR]; exact f351
  have f385 : mm_N (mm_sR (mm_nw (mm_sR (mm_nw (mm_sR MD 5 0 3 (some 0)) 9 8) 5 0 4 (some 0)) 9 2) 5 0 5 (some 1)) 9 = 2 := by rw [mm_N_sR]; exact f352
  have f386 : mm_N (mm_sR (mm_nw (mm_sR (mm_nw (mm_sR MD 5 0 3 (some 0)) 9 8) 5 0 4 (some 0)) 9 2) 5 0 5 (some 1)) 12 = 1 := by rw [mm_N_sR]; exact f353
  have f387 : mm_I (mm_sR (mm_nw (mm_sR (mm_nw (mm_sR MD 5 0 3 (some 0)) 9 8) 5 0 4 (some 0)) 9 2) 5 0 5 (some 1)) 5 0 7 = 0 := by rw [mm_I_sR]; exact f354
  have f388 : mm_I (mm_sR (mm_nw (mm_sR (mm_nw (mm_sR MD 5 0 3 (some 0)) 9 8) 5 0 4 (some 0)) 9 2) 5 0 5 (some 1)) 5 0 8 = 0 := by rw [mm_I_sR]; exact f355
  have f389 : SC (mm_sR (mm_nw (mm_sR (mm_nw (mm_sR MD 5 0 3 (some 0)) 9 8) 5 0 4 (some 0)) 9 2) 5 0 5 (some 1)) L xs := ⟨by rw [mm_L_sR]; exact f356.1, fun k hk => by rw [mm_I_sR]; exact f356.2 k hk⟩
  have f390 : mm_I (mm_sR (mm_nw (mm_sR (mm_nw (mm_sR MD 5 0 3 (some 0)) 9 8) 5 0 4 (some 0)) 9 2) 5 0 5 (some 1)) 3 0 3 = 0 := by rw [mm_I_sR]; exact f357
  have f391 : mm_R (mm_sR (mm_nw (mm_sR (mm_nw (mm_sR MD 5 0 3 (some 0)) 9 8) 5 0 4 (some 0)) 9 2) 5 0 5 (some 1)) 3 0 0 = some 0 := by rw [mm_R_sR, if_neg (fun z => absurd z.1 (by decide))]; exact f358
  have f392 : mm_L (mm_sR (mm_nw (mm_sR (mm_nw (mm_sR MD 5 0 3 (some 0)) 9 8) 5 0 4 (some 0)) 9 2) 5 0 5 (some 1)) 7 0 = 200 := by rw [mm_L_sR]; exact f359
  have f393 : mm_R (mm_sR (mm_nw (mm_sR (mm_nw (mm_sR MD 5 0 3 (some 0)) 9 8) 5 0 4 (some 0)) 9 2) 5 0 5 (some 1)) 3 0 1 = some 1 := by rw [mm_R_sR, if_neg (fun z => absurd z.1 (by decide))]; exact f360
  have f394 : mm_L (mm_sR (mm_nw (mm_sR (mm_nw (mm_sR MD 5 0 3 (some 0)) 9 8) 5 0 4 (some 0)) 9 2) 5 0 5 (some 1)) 7 1 = 5 := by rw [mm_L_sR]; exact f361
  have f395 : mm_R (mm_sR (mm_nw (mm_sR (mm_nw (mm_sR MD 5 0 3 (some 0)) 9 8) 5 0 4 (some 0)) 9 2) 5 0 5 (some 1)) 5 0 0 = some 0 := by rw [mm_R_sR, if_neg (fun z => absurd z.2.2 (by decide))]; exact f362
  have f396 : mm_I (mm_sR (mm_nw (mm_sR (mm_nw (mm_sR MD 5 0 3 (some 0)) 9 8) 5 0 4 (some 0)) 9 2) 5 0 5 (some 1)) 1 0 2 = 0 := by rw [mm_I_sR]; exact f363
  have f397 : mm_R (mm_sR (mm_nw (mm_sR (mm_nw (mm_sR MD 5 0 3 (some 0)) 9 8) 5 0 4 (some 0)) 9 2) 5 0 5 (some 1)) 1 0 0 = some 2 := by rw [mm_R_sR, if_neg (fun z => absurd z.1 (by decide))]; exact f364
  have f398 : mm_L (mm_sR (mm_nw (mm_sR (mm_nw (mm_sR MD 5 0 3 (some 0)) 9 8) 5 0 4 (some 0)) 9 2) 5 0 5 (some 1)) 7 2 = 6 := by rw [mm_L_sR]; exact f365
  have f399 : mm_R (mm_sR (mm_nw (mm_sR (mm_nw (mm_sR MD 5 0 3 (some 0)) 9 8) 5 0 4 (some 0)) 9 2) 5 0 5 (some 1)) 1 0 1 = some 3 := by rw [mm_R_sR, if_neg (fun z => absurd z.1 (by decide))]; exact f366
  have f400 : mm_L (mm_sR (mm_nw (mm_sR (mm_nw (mm_sR MD 5 0 3 (some 0)) 9 8) 5 0 4 (some 0)) 9 2) 5 0 5 (some 1)) 7 3 = 6 := by rw [mm_L_sR]; exact f367
  have f401 : mm_R (mm_sR (mm_nw (mm_sR (mm_nw (mm_sR MD 5 0 3 (some 0)) 9 8) 5 0 4 (some 0)) 9 2) 5 0 5 (some 1)) 5 0 1 = some 0 := by rw [mm_R_sR, if_neg (fun z => absurd z.2.2 (by decide))]; exact f368
  have f402 : mm_N (mm_sR (mm_nw (mm_sR (mm_nw (mm_sR MD 5 0 3 (some 0)) 9 8) 5 0 4 (some 0)) 9 2) 5 0 5 (some 1)) 7 = 5 := by rw [mm_N_sR]; exact f369
  have f403 : mm_R (mm_sR (mm_nw (mm_sR (mm_nw (mm_sR MD 5 0 3 (some 0)) 9 8) 5 0 4 (some 0)) 9 2) 5 0 5 (some 1)) 0 0 0 = some 4 := by rw [mm_R_sR, if_neg (fun z => absurd z.1 (by decide))]; exact f370
  have f404 : mm_L (mm_sR (mm_nw (mm_sR (mm_nw (mm_sR MD 5 0 3 (some 0)) 9 8) 5 0 4 (some 0)) 9 2) 5 0 5 (some 1)) 7 4 = 7 := by rw [mm_L_sR]; exact f371
  have f405 : mm_R (mm_sR (mm_nw (mm_sR (mm_nw (mm_sR MD 5 0 3 (some 0)) 9 8) 5 0 4 (some 0)) 9 2) 5 0 5 (some 1)) 5 0 2 = some 0 := by rw [mm_R_sR, if_neg (fun z => absurd z.2.2 (by decide))]; exact f372
  have f406 : mm_N (mm_sR (mm_nw (mm_sR (mm_nw (mm_sR MD 5 0 3 (some 0)) 9 8) 5 0 4 (some 0)) 9 2) 5 0 5 (some 1)) 10 = 1 := by rw [mm_N_sR]; exact f373
  have f407 : mm_N (mm_sR (mm_nw (mm_sR (mm_nw (mm_sR MD 5 0 3 (some 0)) 9 8) 5 0 4 (some 0)) 9 2) 5 0 5 (some 1)) 4 = 7 := by rw [mm_N_sR]; exact f374
  have f408 : mm_R (mm_sR (mm_nw (mm_sR (mm_nw (mm_sR MD 5 0 3 (some 0)) 9 8) 5 0 4 (some 0)) 9 2) 5 0 5 (some 1)) 5 0 3 = some 0 := by rw [mm_R_sR, if_neg (fun z => absurd z.2.2 (by decide))]; exact f375
  have f409 : mm_L (mm_sR (mm_nw (mm_sR (mm_nw (mm_sR MD 5 0 3 (some 0)) 9 8) 5 0 4 (some 0)) 9 2) 5 0 5 (some 1)) 9 0 = 8 := by rw [mm_L_sR]; exact f376
  have f410 : mm_R (mm_sR (mm_nw (mm_sR (mm_nw (mm_sR MD 5 0 3 (some 0)) 9 8) 5 0 4 (some 0)) 9 2) 5 0 5 (some 1)) 5 0 4 = some 0 := by rw [mm_R_sR, if_neg (fun z => absurd z.2.2 (by decide))]; exact f377
  have f411 : mm_L (mm_sR (mm_nw (mm_sR (mm_nw (mm_sR MD 5 0 3 (some 0)) 9 8) 5 0 4 (some 0)) 9 2) 5 0 5 (some 1)) 9 1 = 2 := by rw [mm_L_sR]; exact f378
  have f412 : mm_R (mm_sR (mm_nw (mm_sR (mm_nw (mm_sR MD 5 0 3 (some 0)) 9 8) 5 0 4 (some 0)) 9 2) 5 0 5 (some 1)) 5 0 5 = some 1 := by rw [mm_R_sR, if_pos ⟨rfl, rfl, rfl⟩]
  have f413 : mm_N (mm_nw (mm_sR (mm_nw (mm_sR (mm_nw (mm_sR MD 5 0 3 (some 0)) 9 8) 5 0 4 (some 0)) 9 2) 5 0 5 (some 1)) 9 9) 0 = 1 := by rw [mm_N_nw, if_neg (by decide)]; exact f379
  have f414 : mm_N (mm_nw (mm_sR (mm_nw (mm_sR (mm_nw (mm_sR MD 5 0 3 (some 0)) 9 8) 5 0 4 (some 0)) 9 2) 5 0 5 (some 1)) 9 9) 1 = 1 := by rw [mm_N_nw, if_neg (by decide)]; exact f380
  have f415 : mm_N (mm_nw (mm_sR (mm_nw (mm_sR (mm_nw (mm_sR MD 5 0 3 (some 0)) 9 8) 5 0 4 (some 0)) 9 2) 5 0 5 (some 1)) 9 9) 2 = 1 := by rw [mm_N_nw, if_neg (by decide)]; exact f381
  have f416 : mm_N (mm_nw (mm_sR (mm_nw (mm_sR (mm_nw (mm_sR MD 5 0 3 (some 0)) 9 8) 5 0 4 (some 0)) 9 2) 5 0 5 (some 1)) 9 9) 3 = 1 := by rw [mm_N_nw, if_neg (by decide)]; exact f382
  have f417 : mm_N (mm_nw (mm_sR (mm_nw (mm_sR (mm_nw (mm_sR MD 5 0 3 (some 0)) 9 8) 5 0 4 (some 0)) 9 2) 5 0 5 (some 1)) 9 9) 6 = 0 := by rw [mm_N_nw, if_neg (by decide)]; exact f383
  have f418 : mm_N (mm_nw (mm_sR (mm_nw (mm_sR (mm_nw (mm_sR MD 5 0 3 (some 0)) 9 8) 5 0 4 (some 0)) 9 2) 5 0 5 (some 1)) 9 9) 8 = 0 := by rw [mm_N_nw, if_neg (by decide)]; exact f384
  have f419 : mm_N (mm_nw (mm_sR (mm_nw (mm_sR (mm_nw (mm_sR MD 5 0 3 (some 0)) 9 8) 5 0 4 (some 0)) 9 2) 5 0 5 (some 1)) 9 9) 9 = 3 := by rw [mm_N_nw, if_pos rfl, f385]
  have f420 : mm_N (mm_nw (mm_sR (mm_nw (mm_sR (mm_nw (mm_sR MD 5 0 3 (some 0)) 9 8) 5 0 4 (some 0)) 9 2) 5 0 5 (some 1)) 9 9) 12 = 1 := by rw [mm_N_nw, if_neg (by decide)]; exact f386
  have f421 : mm_I (mm_nw (mm_sR (mm_nw (mm_sR (mm_nw (mm_sR MD 5 0 3 (some 0)) 9 8) 5 0 4 (some 0)) 9 2) 5 0 5 (some 1)) 9 9) 5 0 7 = 0 := by rw [mm_I_nw, if_neg (fun z => absurd z.1 (by decide))]; exact f387
  have f422 : mm_I (mm_nw (mm_sR (mm_nw (mm_sR (mm_nw (mm_sR MD 5 0 3 (some 0)) 9 8) 5 0 4 (some 0)) 9 2) 5 0 5 (some 1)) 9 9) 5 0 8 = 0 := by rw [mm_I_nw, if_neg (fun z => absurd z.1 (by decide))]; exact f388
  have f423 : SC (mm_nw (mm_sR (mm_nw (mm_sR (mm_nw (mm_sR MD 5 0 3 (some 0)) 9 8) 5 0 4 (some 0)) 9 2) 5 0 5 (some 1)) 9 9) L xs := ⟨by rw [mm_L_nw, if_neg (fun z => absurd z.1 (by decide))]; exact f389.1, fun k hk => by rw [mm_I_nw, if_neg (fun z => absurd z.1 (by decide))]; exact f389.2 k hk⟩
  have f424 : mm_I (mm_nw (mm_sR (mm_nw (mm_sR (mm_nw (mm_sR MD 5 0 3 (some 0)) 9 8) 5 0 4 (some 0)) 9 2) 5 0 5 (some 1)) 9 9) 3 0 3 = 0 := by rw [mm_I_nw, if_neg (fun z => absurd z.1 (by decide))]; exact f390
  have f425 : mm_R (mm_nw (mm_sR (mm_nw (mm_sR (mm_nw (mm_sR MD 5 0 3 (some 0)) 9 8) 5 0 4 (some 0)) 9 2) 5 0 5 (some 1)) 9 9) 3 0 0 = some 0 := by rw [mm_R_nw, if_neg (fun z => absurd z.1 (by decide))]; exact f391
  have f426 : mm_L (mm_nw (mm_sR (mm_nw (mm_sR (mm_nw (mm_sR MD 5 0 3 (some 0)) 9 8) 5 0 4 (some 0)) 9 2) 5 0 5 (some 1)) 9 9) 7 0 = 200 := by rw [mm_L_nw, if_neg (fun z => absurd z.1 (by decide))]; exact f392
  have f427 : mm_R (mm_nw (mm_sR (mm_nw (mm_sR (mm_nw (mm_sR MD 5 0 3 (some 0)) 9 8) 5 0 4 (some 0)) 9 2) 5 0 5 (some 1)) 9 9) 3 0 1 = some 1 := by rw [mm_R_nw, if_neg (fun z => absurd z.1 (by decide))]; exact f393
  have f428 : mm_L (mm_nw (mm_sR (mm_nw (mm_sR (mm_nw (mm_sR MD 5 0 3 (some 0)) 9 8) 5 0 4 (some 0)) 9 2) 5 0 5 (some 1)) 9 9) 7 1 = 5 := by rw [mm_L_nw, if_neg (fun z => absurd z.1 (by decide))]; exact f394
  have f429 : mm_R (mm_nw (mm_sR (mm_nw (mm_sR (mm_nw (mm_sR MD 5 0 3 (some 0)) 9 8) 5 0 4 (some 0)) 9 2) 5 0 5 (some 1)) 9 9) 5 0 0 = some 0 := by rw [mm_R_nw, if_neg (fun z => absurd z.1 (by decide))]; exact f395
  have f430 : mm_I (mm_nw (mm_sR (mm_nw (mm_sR (mm_nw (mm_sR MD 5 0 3 (some 0)) 9 8) 5 0 4 (some 0)) 9 2) 5 0 5 (some 1)) 9 9) 1 0 2 = 0 := by rw [mm_I_nw, if_neg (fun z => absurd z.1 (by decide))]; exact f396
  have f431 : mm_R (mm_nw (mm_sR (mm_nw (mm_sR (mm_nw (mm_sR MD 5 0 3 (some 0)) 9 8) 5 0 4 (some 0)) 9 2) 5 0 5 (some 1)) 9 9) 1 0 0 = some 2 := by rw [mm_R_nw, if_neg (fun z => absurd z.1 (by decide))]; exact f397
  have f432 : mm_L (mm_nw (mm_sR (mm_nw (mm_sR (mm_nw (mm_sR MD 5 0 3 (some 0)) 9 8) 5 0 4 (some 0)) 9 2) 5 0 5 (some 1)) 9 9) 7 2 = 6 := by rw [mm_L_nw, if_neg (fun z => absurd z.1 (by decide))]; exact f398
  have f433 : mm_R (mm_nw (mm_sR (mm_nw (mm_sR (mm_nw (mm_sR MD 5 0 3 (some 0)) 9 8) 5 0 4 (some 0)) 9 2) 5 0 5 (some 1)) 9 9) 1 0 1 = some 3 := by rw [mm_R_nw, if_neg (fun z => absurd z.1 (by decide))]; exact f399
  have f434 : mm_L (mm_nw (mm_sR (mm_nw (mm_sR (mm_nw (mm_sR MD 5 0 3 (some 0)) 9 8) 5 0 4 (some 0)) 9 2) 5 0 5 (some 1)) 9 9) 7 3 = 6 := by rw [mm_L_nw, if_neg (fun z => absurd z.1 (by decide))]; exact f400
  have f435 : mm_R (mm_nw (mm_sR (mm_nw (mm_sR (mm_nw (mm_sR MD 5 0 3 (some 0)) 9 8) 5 0 4 (some 0)) 9 2) 5 0 5 (some 1)) 9 9) 5 0 1 = some 0 := by rw [mm_R_nw, if_neg (fun z => absurd z.1 (by decide))]; exact f401
  have f436 : mm_N (mm_nw (mm_sR (mm_nw (mm_sR (mm_nw (mm_sR MD 5 0 3 (some 0)) 9 8) 5 0 4 (some 0)) 9 2) 5 0 5 (some 1)) 9 9) 7 = 5 := by rw [mm_N_nw, if_neg (by decide)]; exact f402
  have f437 : mm_R (mm_nw (mm_sR (mm_nw (mm_sR (mm_nw (mm_sR MD 5 0 3 (some 0)) 9 8) 5 0 4 (some 0)) 9 2) 5 0 5 (some 1)) 9 9) 0 0 0 = some 4 := by rw [mm_R_nw, if_neg (fun z => absurd z.1 (by decide))]; exact f403
  have f438 : mm_L (mm_nw (mm_sR (mm_nw (mm_sR (mm_nw (mm_sR MD 5 0 3 (some 0)) 9 8) 5 0 4 (some 0)) 9 2) 5 0 5 (some 1)) 9 9) 7 4 = 7 := by rw [mm_L_nw, if_neg (fun z => absurd z.1 (by decide))]; exact f404
  have f439 : mm_R (mm_nw (mm_sR (mm_nw (mm_sR (mm_nw (mm_sR MD 5 0 3 (some 0)) 9 8) 5 0 4 (some 0)) 9 2) 5 0 5 (some 1)) 9 9) 5 0 2 = some 0 := by rw [mm_R_nw, if_neg (fun z => absurd z.1 (by decide))]; exact f405
  have f440 : mm_N (mm_nw (mm_sR (mm_nw (mm_sR (mm_nw (mm_sR MD 5 0 3 (some 0)) 9 8) 5 0 4 (some 0)) 9 2) 5 0 5 (some 1)) 9 9) 10 = 1 := by rw [mm_N_nw, if_neg (by decide)]; exact f406
  have f441 : mm_N (mm_nw (mm_sR (mm_nw (mm_sR (mm_nw (mm_sR MD 5 0 3 (some 0)) 9 8) 5 0 4 (some 0)) 9 2) 5 0 5 (some 1)) 9 9) 4 = 7 := by rw [mm_N_nw, if_neg (by decide)]; exact f407
  have f442 : mm_R (mm_nw (mm_sR (mm_nw (mm_sR (mm_nw (mm_sR MD 5 0 3 (some 0)) 9 8) 5 0 4 (some 0)) 9 2) 5 0 5 (some 1)) 9 9) 5 0 3 = some 0 := by rw [mm_R_nw, if_neg (fun z => absurd z.1 (by decide))]; exact f408
  have f443 : mm_L (mm_nw (mm_sR (mm_nw (mm_sR (mm_nw (mm_sR MD 5 0 3 (some 0)) 9 8) 5 0 4 (some 0)) 9 2) 5 0 5 (some 1)) 9 9) 9 0 = 8 := by rw [mm_L_nw, if_neg (fun z => absurd (z.2.trans f385) (by decide))]; exact f409
  have f444 : mm_R (mm_nw (mm_sR (mm_nw (mm_sR (mm_nw (mm_sR MD 5 0 3 (some 0)) 9 8) 5 0 4 (some 0)) 9 2) 5 0 5 (some 1)) 9 9) 5 0 4 = some 0 := by rw [mm_R_nw, if_neg (fun z => absurd z.1 (by decide))]; exact f410
  have f445 : mm_L (mm_nw (mm_sR (mm_nw (mm_sR (mm_nw (mm_sR MD 5 0 3 (some 0)) 9 8) 5 0 4 (some 0)) 9 2) 5 0 5 (some 1)) 9 9) 9 1 = 2 := by rw [mm_L_nw, if_neg (fun z => absurd (z.2.trans f385) (by decide))]; exact f411
  have f446 : mm_R (mm_nw (mm_sR (mm_nw (mm_sR (mm_nw (mm_sR MD 5 0 3 (some 0)) 9 8) 5 0 4 (some 0)) 9 2) 5 0 5 (some 1)) 9 9) 5 0 5 = some 1 := by rw [mm_R_nw, if_neg (fun z => absurd z.1 (by decide))]; exact f412
  have f447 : mm_L (mm_nw (mm_sR (mm_nw (mm_sR (mm_nw (mm_sR MD 5 0 3 (some 0)) 9 8) 5 0 4 (some 0)) 9 2) 5 0 5 (some 1)) 9 9) 9 2 = 9 := by rw [mm_L_nw, if_pos ⟨rfl, f385.symm⟩]
  have f448 : mm_N (mm_sR (mm_nw (mm_sR (mm_nw (mm_sR (mm_nw (mm_sR MD 5 0 3 (some 0)) 9 8) 5 0 4 (some 0)) 9 2) 5 0 5 (some 1)) 9 9) 5 0 6 (some 2)) 0 = 1 := by rw [mm_N_sR]; exact f413
  have f449 : mm_N (mm_sR (mm_nw (mm_sR (mm_nw (mm_sR (mm_nw (mm_sR MD 5 0 3 (some 0)) 9 8) 5 0 4 (some 0)) 9 2) 5 0 5 (some 1)) 9 9) 5 0 6 (some 2)) 1 = 1 := by rw [mm_N_sR]; exact f414
  have f450 : mm_N (mm_sR (mm_nw (mm_sR (mm_nw (mm_sR (mm_nw (mm_sR MD 5 0 3 (some 0)) 9 8) 5 0 4 (some 0)) 9 2) 5 0 5 (some 1)) 9 9) 5 0 6 (some 2)) 2 = 1 := by rw [mm_N_sR]; exact f415
  have f451 : mm_N (mm_sR (mm_nw (mm_sR (mm_nw (mm_sR (mm_nw (mm_sR MD 5 0 3 (some 0)) 9 8) 5 0 4 (some 0)) 9 2) 5 0 5 (some 1)) 9 9) 5 0 6 (some 2)) 3 = 1 := by rw [mm_N_sR]; exact f416
  have f452 : mm_N (mm_sR (mm_nw (mm_sR (mm_nw (mm_sR (mm_nw (mm_sR MD 5 0 3 (some 0)) 9 8) 5 0 4 (some 0)) 9 2) 5 0 5 (some 1)) 9 9) 5 0 6 (some 2)) 6 = 0 := by rw [mm_N_sR]; exact f417
  have f453 : mm_N (mm_sR (mm_nw (mm_sR (mm_nw (mm_sR (mm_nw (mm_sR MD 5 0 3 (some 0)) 9 8) 5 0 4 (some 0)) 9 2) 5 0 5 (some 1)) 9 9) 5 0 6 (some 2)) 8 = 0 := by rw [mm_N_sR]; exact f418
  have f454 : mm_N (mm_sR (mm_nw (mm_sR (mm_nw (mm_sR (mm_nw (mm_sR MD 5 0 3 (some 0)) 9 8) 5 0 4 (some 0)) 9 2) 5 0 5 (some 1)) 9 9) 5 0 6 (some 2)) 9 = 3 := by rw [mm_N_sR]; exact f419
  have f455 : mm_N (mm_sR (mm_nw (mm_sR (mm_nw (mm_sR (mm_nw (mm_sR MD 5 0 3 (some 0)) 9 8) 5 0 4 (some 0)) 9 2) 5 0 5 (some 1)) 9 9) 5 0 6 (some 2)) 12 = 1 := by rw [mm_N_sR]; exact f420
  have f456 : mm_I (mm_sR (mm_nw (mm_sR (mm_nw (mm_sR (mm_nw (mm_sR MD 5 0 3 (some 0)) 9 8) 5 0 4 (some 0)) 9 2) 5 0 5 (some 1)) 9 9) 5 0 6 (some 2)) 5 0 7 = 0 := by rw [mm_I_sR]; exact f421
  have f457 : mm_I (mm_sR (mm_nw (mm_sR (mm_nw (mm_sR (mm_nw (mm_sR MD 5 0 3 (some 0)) 9 8) 5 0 4 (some 0)) 9 2) 5 0 5 (some 1)) 9 9) 5 0 6 (some 2)) 5 0 8 = 0 := by rw [mm_I_sR]; exact f422
  have f458 : SC (mm_sR (mm_nw (mm_sR (mm_nw (mm_sR (mm_nw (mm_sR MD 5 0 3 (some 0)) 9 8) 5 0 4 (some 0)) 9 2) 5 0 5 (some 1)) 9 9) 5 0 6 (some 2)) L xs := ⟨by rw [mm_L_sR]; exact f423.1, fun k hk => by rw [mm_I_sR]; exact f423.2 k hk⟩
  have f459 : mm_I (mm_sR (mm_nw (mm_sR (mm_nw (mm_sR (mm_nw (mm_sR MD 5 0 3 (some 0)) 9 8) 5 0 4 (some 0)) 9 2) 5 0 5 (some 1)) 9 9) 5 0 6 (some 2)) 3 0 3 = 0 := by rw [mm_I_sR]; exact f424
  have f460 : mm_R (mm_sR (mm_nw (mm_sR (mm_nw (mm_sR (mm_nw (mm_sR MD 5 0 3 (some 0)) 9 8) 5 0 4 (some 0)) 9 2) 5 0 5 (some 1)) 9 9) 5 0 6 (some 2)) 3 0 0 = some 0 := by rw [mm_R_sR, if_neg (fun z => absurd z.1 (by decide))]; exact f425
  have f461 : mm_L (mm_sR (mm_nw (mm_sR (mm_nw (mm_sR (mm_nw (mm_sR MD 5 0 3 (some 0)) 9 8) 5 0 4 (some 0)) 9 2) 5 0 5 (some 1)) 9 9) 5 0 6 (some 2)) 7 0 = 200 := by rw [mm_L_sR]; exact f426
  have f462 : mm_R (mm_sR (mm_nw (mm_sR (mm_nw (mm_sR (mm_nw (mm_sR MD 5 0 3 (some 0)) 9 8) 5 0 4 (some 0)) 9 2) 5 0 5 (some 1)) 9 9) 5 0 6 (some 2)) 3 0 1 = some 1 := by rw [mm_R_sR, if_neg (fun z => absurd z.1 (by decide))]; exact f427
  have f463 : mm_L (mm_sR (mm_nw (mm_sR (mm_nw (mm_sR (mm_nw (mm_sR MD 5 0 3 (some 0)) 9 8) 5 0 4 (some 0)) 9 2) 5 0 5 (some 1)) 9 9) 5 0 6 (some 2)) 7 1 = 5 := by rw [mm_L_sR]; exact f428
  have f464 : mm_R (mm_sR (mm_nw (mm_sR (mm_nw (mm_sR (mm_nw (mm_sR MD 5 0 3 (some 0)) 9 8) 5 0 4 (some 0)) 9 2) 5 0 5 (some 1)) 9 9) 5 0 6 (some 2)) 5 0 0 = some 0 := by rw [mm_R_sR, if_neg (fun z => absurd z.2.2 (by decide))]; exact f429
  have f465 : mm_I (mm_sR (mm_nw (mm_sR (mm_nw (mm_sR (mm_nw (mm_sR MD 5 0 3 (some 0)) 9 8) 5 0 4 (some 0)) 9 2) 5 0 5 (some 1)) 9 9) 5 0 6 (some 2)) 1 0 2 = 0 := by rw [mm_I_sR]; exact f430
  have f466 : mm_R (mm_sR (mm_nw (mm_sR (mm_nw (mm_sR (mm_nw (mm_sR MD 5 0 3 (some 0)) 9 8) 5 0 4 (some 0)) 9 2) 5 0 5 (some 1)) 9 9) 5 0 6 (some 2)) 1 0 0 = some 2 := by rw [mm_R_sR, if_neg (fun z => absurd z.1 (by decide))]; exact f431
  have f467 : mm_L (mm_sR (mm_nw (mm_sR (mm_nw (mm_sR (mm_nw (mm_sR MD 5 0 3 (some 0)) 9 8) 5 0 4 (some 0)) 9 2) 5 0 5 (some 1)) 9 9) 5 0 6 (some 2)) 7 2 = 6 := by rw [mm_L_sR]; exact f432
  have f468 : mm_R (mm_sR (mm_nw (mm_sR (mm_nw (mm_sR (mm_nw (mm_sR MD 5 0 3 (some 0)) 9 8) 5 0 4 (some 0)) 9 2) 5 0 5 (some 1)) 9 9) 5 0 6 (some 2)) 1 0 1 = some 3 := by rw [mm_R_sR, if_neg (fun z => absurd z.1 (by decide))]; exact f433
  have f469 : mm_L (mm_sR (mm_nw (mm_sR (mm_nw (mm_sR (mm_nw (mm_sR MD 5 0 3 (some 0)) 9 8) 5 0 4 (some 0)) 9 2) 5 0 5 (some 1)) 9 9) 5 0 6 (some 2)) 7 3 = 6 := by rw [mm_L_sR]; exact f434
  have f470 : mm_R (mm_sR (mm_nw (mm_sR (mm_nw (mm_sR (mm_nw (mm_sR MD 5 0 3 (some 0)) 9 8) 5 0 4 (some 0)) 9 2) 5 0 5 (some 1)) 9 9) 5 0 6 (some 2)) 5 0 1 = some 0 := by rw [mm_R_sR, if_neg (fun z => absurd z.2.2 (by decide))]; exact f435
  have f471 : mm_N (mm_sR (mm_nw (mm_sR (mm_nw (mm_sR (mm_nw (mm_sR MD 5 0 3 (some 0)) 9 8) 5 0 4 (some 0)) 9 2) 5 0 5 (some 1)) 9 9) 5 0 6 (some 2)) 7 = 5 := by rw [mm_N_sR]; exact f436
  have f472 : mm_R (mm_sR (mm_nw (mm_sR (mm_nw (mm_sR (mm_nw (mm_sR MD 5 0 3 (some 0)) 9 8) 5 0 4 (some 0)) 9 2) 5 0 5 (some 1)) 9 9) 5 0 6 (some 2)) 0 0 0 = some 4 := by rw [mm_R_sR, if_neg (fun z => absurd z.1 (by decide))]; exact f437
  have f473 : mm_L (mm_sR (mm_nw (mm_sR (mm_nw (mm_sR (mm_nw (mm_sR MD 5 0 3 (some 0)) 9 8) 5 0 4 (some 0)) 9 2) 5 0 5 (some 1)) 9 9) 5 0 6 (some 2)) 7 4 = 7 := by rw [mm_L_sR]; exact f438
  have f474 : mm_R (mm_sR (mm_nw (mm_sR (mm_nw (mm_sR (mm_nw (mm_sR MD 5 0 3 (some 0)) 9 8) 5 0 4 (some 0)) 9 2) 5 0 5 (some 1)) 9 9) 5 0 6 (some 2)) 5 0 2 = some 0 := by rw [mm_R_sR, if_neg (fun z => absurd z.2.2 (by decide))]; exact f439
  have f475 : mm_N (mm_sR (mm_nw (mm_sR (mm_nw (mm_sR (mm_nw (mm_sR MD 5 0 3 (some 0)) 9 8) 5 0 4 (some 0)) 9 2) 5 0 5 (some 1)) 9 9) 5 0 6 (some 2)) 10 = 1 := by rw [mm_N_sR]; exact f440
  have f476 : mm_N (mm_sR (mm_nw (mm_sR (mm_nw (mm_sR (mm_nw (mm_sR MD 5 0 3 (some 0)) 9 8) 5 0 4 (some 0)) 9 2) 5 0 5 (some 1)) 9 9) 5 0 6 (some 2)) 4 = 7 := by rw [mm_N_sR]; exact f441
  have f477 : mm_R (mm_sR (mm_nw (mm_sR (mm_nw (mm_sR (mm_nw (mm_sR MD 5 0 3 (some 0)) 9 8) 5 0 4 (some 0)) 9 2) 5 0 5 (some 1)) 9 9) 5 0 6 (some 2)) 5 0 3 = some 0 := by rw [mm_R_sR, if_neg (fun z => absurd z.2.2 (by decide))]; exact f442
  have f478 : mm_L (mm_sR (mm_nw (mm_sR (mm_nw (mm_sR (mm_nw (mm_sR MD 5 0 3 (some 0)) 9 8) 5 0 4 (some 0)) 9 2) 5 0 5 (some 1)) 9 9) 5 0 6 (some 2)) 9 0 = 8 := by rw [mm_L_sR]; exact f443
  have f479 : mm_R (mm_sR (mm_nw (mm_sR (mm_nw (mm_sR (mm_nw (mm_sR MD 5 0 3 (some 0)) 9 8) 5 0 4 (some 0)) 9 2) 5 0 5 (some 1)) 9 9) 5 0 6 (some 2)) 5 0 4 = some 0 := by rw [mm_R_sR, if_neg (fun z => absurd z.2.2 (by decide))]; exact f444
  have f480 : mm_L (mm_sR (mm_nw (mm_sR (mm_nw (mm_sR (mm_nw (mm_sR MD 5 0 3 (some 0)) 9 8) 5 0 4 (some 0)) 9 2) 5 0 5 (some 1)) 9 9) 5 0 6 (some 2)) 9 1 = 2 := by rw [mm_L_sR]; exact f445
  have f481 : mm_R (mm_sR (mm_nw (mm_sR (mm_nw (mm_sR (mm_nw (mm_sR MD 5 0 3 (some 0)) 9 8) 5 0 4 (some 0)) 9 2) 5 0 5 (some 1)) 9 9) 5 0 6 (some 2)) 5 0 5 = some 1 := by rw [mm_R_sR, if_neg (fun z => absurd z.2.2 (by decide))]; exact f446
  have f482 : mm_L (mm_sR (mm_nw (mm_sR (mm_nw (mm_sR (mm_nw (mm_sR MD 5 0 3 (some 0)) 9 8) 5 0 4 (some 0)) 9 2) 5 0 5 (some 1)) 9 9) 5 0 6 (some 2)) 9 2 = 9 := by rw [mm_L_sR]; exact f447
  have f483 : mm_R (mm_sR (mm_nw (mm_sR (mm_nw (mm_sR (mm_nw (mm_sR MD 5 0 3 (some 0)) 9 8) 5 0 4 (some 0)) 9 2) 5 0 5 (some 1)) 9 9) 5 0 6 (some 2)) 5 0 6 = some 2 := by rw [mm_R_sR, if_pos ⟨rfl, rfl, rfl⟩]
  simp (disch := omega) only [pw_anewarray, pw_bipush, pw_iconst, pw_new, pw_nop0, pw_nop2, qw_aload_n0, qw_dup_i, qw_dup_r, qw_invokespecial1, qw_istore_n1, qw_pf_b, qw_pf_i, qw_pf_r, mm_rf_c, mm_rt_v, mm_rt_i, mm_rt_r, mm_alc_n, mm_alc_c, mm_rc_n, mm_rc_c, mm_wd_n, mm_wd_i, mm_wd_l, mm_wd_r, reduceCtorEq, false_implies, implies_true, true_implies, true_or, or_true, false_or, or_false, not_false_eq_true, mm_nl_n, mm_nl_i, mm_nl_r, mm_args_n, mm_args_i, mm_args_l, mm_args_r, mm_pad_0, mm_pad_n, mm_pad_c, List.length_cons, List.length_nil, List.nil_append, List.cons_append, Nat.zero_le, Nat.sub_zero, true_and, and_true, Nat.reduceAdd, Nat.reduceLeDiff, Nat.reduceLT, Nat.reduceSub, Nat.lt_irrefl, Nat.zero_add, Nat.add_zero, Nat.le_refl, k_20, k_10, k_01, ↓mm_if_T, ↓mm_if_F, ↓if10, ↓if00, not_true_eq_false, tf_01, ↓mm_if_tf, ↓mm_if_tn, ↓mm_if_nn, mm_pA_c, mm_pI_c, w_2, n_2, w_5, n_5, w_6, n_6, w_7, n_7, w_8, n_8, w_9, n_9, w_200, n_200, w_468, n_468, f9, f23, f37, f57, f78, f98, f124, f150, f175, f204, f232, f259, f289, f320, f352, f385, f419, f454]
  have hCS : CS (mm_sR (mm_nw (mm_sR (mm_nw (mm_sR (mm_nw (mm_sR MD 5 0 3 (some 0)) 9 8) 5 0 4 (some 0)) 9 2) 5 0 5 (some 1)) 9 9) 5 0 6 (some 2)) L xs (1 + 0) := ⟨⟨⟨f464, f470, f474, f477, f479, f481, f483⟩, ⟨f478, f480, f482⟩, ⟨f460, f462, f461, f463⟩, ⟨f466, f468, f467, f469⟩, ⟨f472, f473⟩, ⟨f456, f457, f465, f459⟩, f458⟩, by
    intro s hs
    have e : s = 0 := by omega
    subst e
    refine ⟨?_, ?_, fun w hw => ?_⟩
    · simp only [mm_R_sR, mm_R_nw, Nat.reduceEqDiff, false_and, if_false]
      exact GD.1.1
    · simp only [mm_L_sR, mm_L_nw, Nat.reduceEqDiff, false_and, if_false]
      exact GD.1.2.1
    · simp only [mm_R_sR, mm_R_nw, Nat.reduceEqDiff, false_and, if_false]
      exact GD.1.2.2 w hw, ⟨f450, f475, f476, f455, f452, f471, f453⟩, fun i _ hj => absurd hj (by omega), fun i _ hj => absurd hj (by omega), fun i _ hj => absurd hj (by omega)⟩
  exact k_48a 37 (L := L) (xs := xs) (fun M3 h3 => t_48e h3 h) 8 0 _ rfl hCS

