/-! THE REFERENCE: bells of the text, items -/
theorem c437 (w : Nat) : 437 + nI w = nI (429 + 8 + w) := nI_add 437 w
theorem PR_hangs {M : mm_M} {Z : Nat × St} {w : Nat} (h : PR M Z) (hw : w < Z.1) (a : Nat → Int32) (h1 : 1 ≤ a 1 ∧ a 1 ≤ 30) (h2 : 0 ≤ a 2 ∧ a 2 ≤ 30) (h3 : 0 ≤ a 3 ∧ a 3 ≤ 40) (h4 : 0 ≤ a 4 ∧ a 4 ≤ 23) : PR (mm_sI (mm_sI (mm_sI (mm_sI M 7 11 (429 + 8 + w) (a 1)) 7 11 (429 + 15 + w) (a 2)) 7 11 (429 + 22 + w) (a 3)) 7 11 (429 + 29 + w) (a 4)) (Z.1, (a_b Z.2.1 w a, Z.2.2)) := by
  obtain ⟨g1, ⟨g2, g3⟩, g4, g5, g6, g7⟩ := h
  refine ⟨g1, ⟨?_, fun v hv => ?_⟩, RB_hangs (by omega) (by omega) g4 (by omega) a, WF_ab g5 h1 h2 h3 h4, fun v => ?_, fun v hv => ?_⟩
  · simp (disch := omega) only [mm_I_c, g2]
  · obtain ⟨y1, y2, y3⟩ := g3 v hv
    dsimp only
    unfold a_b
    simp (disch := omega) only [mm_I_i, up_k, y1, y2, y3, and_self]
  · dsimp only
    unfold a_b
    simp (disch := omega) only [up_k]
    exact g6 v
  · dsimp only at hv ⊢
    unfold a_b
    simp (disch := omega) only [up_w]
    exact g7 v hv
theorem PR_store {M : mm_M} {Z : Nat × St} (h : PR M Z) (c t : Int32) : PR (mm_sI (mm_sI M 7 11 (429 + 36) c) 7 11 (429 + 37) t) (Z.1, (Z.2.1, (c, t))) := by
  obtain ⟨g1, ⟨g2, g3⟩, ⟨q1, q2, q3, q4, q5⟩, g5, g6, g7⟩ := h
  refine ⟨g1, ⟨?_, fun v hv => ?_⟩, ⟨fun v hv => ?_, ?_, ?_, ?_, ?_⟩, g5, g6, g7⟩
  · simp (disch := omega) only [mm_I_c, g2]
  · obtain ⟨y1, y2, y3⟩ := g3 v hv
    simp (disch := omega) only [mm_I_i, y1, y2, y3, and_self]
  · have := q1 v hv
    simp (disch := omega) only [mm_I_k]
    exact this
  · simp (disch := omega) only [mm_I_k]; exact q2
  · simp (disch := omega) only [mm_I_k, mm_I_s]
  · simp (disch := omega) only [mm_I_s]
  · simp (disch := omega) only [mm_I_k]; exact q5

set_option maxHeartbeats 8000000 in
theorem r_113 (d : Nat) {M : mm_M} {post : mm_Post} {t : Nat} {lt : Nat → Int32} {p : Nat} {Z : Nat × St} (hL : LyM M) (hT : TM M t lt p false) (hP : PR M Z) (hp : p < 1000) (h : ∀ M', FW M M' → TM M' t lt (bi (lL t lt) p Z).1 (bi (lL t lt) p Z).2.1 → ((bi (lL t lt) p Z).2.1 = false → PR M' (bi (lL t lt) p Z).2.2) → post none M') : pC (d + 4) 113 [.inr (.inr (6, 0))] M post := by
  have hn : mm_I M 6 0 4 = nI Z.1 := hP.2.1.1
  have h7 := hP.1
  unfold bi at h
  simp (disch := omega) only [eC_113, eK_113_0, pw_bipush, pw_iconst, pw_nop0, pw_sipush, qw_aload_n0, qw_gf_b, qw_gf_i, qw_gf_r, qw_iadd, qw_iaload, qw_if_le, qw_if_ne, qw_iload_n1, qw_invokevirtual3, qw_istore4, qw_istore5, qw_istore_n1, qw_istore_n2, qw_istore_n3, qw_isub, mm_rf_c, mm_rt_v, mm_rt_i, mm_rt_r, mm_alc_n, mm_alc_c, mm_rc_n, mm_rc_c, mm_wd_n, mm_wd_i, mm_wd_l, mm_wd_r, reduceCtorEq, false_implies, implies_true, true_implies, true_or, or_true, false_or, or_false, not_false_eq_true, mm_nl_n, mm_nl_i, mm_nl_r, mm_args_n, mm_args_i, mm_args_l, mm_args_r, mm_pad_0, mm_pad_n, mm_pad_c, List.length_cons, List.length_nil, List.nil_append, List.cons_append, Nat.zero_le, Nat.sub_zero, true_and, and_true, Nat.reduceAdd, Nat.reduceLeDiff, Nat.reduceLT, Nat.reduceSub, Nat.lt_irrefl, Nat.zero_add, Nat.add_zero, Nat.le_refl, k_20, k_10, k_01, ↓mm_if_T, ↓mm_if_F, ↓if10, ↓if00, not_true_eq_false, tf_01, ↓mm_if_tf, ↓mm_if_tn, ↓mm_if_nn, hn]
  refine r_110 (d + 1) hL hT (by omega) 0 (nI Z.1 - 1) (fun M1 F1 T1 => ?_)
  have q1 := rN_q (L := lL t lt) (p := p) (lo := 0) (hi := nI Z.1 - 1)
  have k1 := rN_k (L := lL t lt) (p := p) (lo := 0) (hi := nI Z.1 - 1)
  generalize rN (lL t lt) p 0 (nI Z.1 - 1) = r1 at *
  simp (disch := omega) only [pw_bipush, pw_iconst, pw_nop0, pw_sipush, qw_aload_n0, qw_gf_b, qw_gf_i, qw_gf_r, qw_iadd, qw_iaload, qw_if_le, qw_if_ne, qw_iload_n1, qw_invokevirtual3, qw_istore4, qw_istore5, qw_istore_n1, qw_istore_n2, qw_istore_n3, qw_isub, mm_rf_c, mm_rt_v, mm_rt_i, mm_rt_r, mm_alc_n, mm_alc_c, mm_rc_n, mm_rc_c, mm_wd_n, mm_wd_i, mm_wd_l, mm_wd_r, reduceCtorEq, false_implies, implies_true, true_implies, true_or, or_true, false_or, or_false, not_false_eq_true, mm_nl_n, mm_nl_i, mm_nl_r, mm_args_n, mm_args_i, mm_args_l, mm_args_r, mm_pad_0, mm_pad_n, mm_pad_c, List.length_cons, List.length_nil, List.nil_append, List.cons_append, Nat.zero_le, Nat.sub_zero, true_and, and_true, Nat.reduceAdd, Nat.reduceLeDiff, Nat.reduceLT, Nat.reduceSub, Nat.lt_irrefl, Nat.zero_add, Nat.add_zero, Nat.le_refl, k_20, k_10, k_01, ↓mm_if_T, ↓mm_if_F, ↓if10, ↓if00, not_true_eq_false, tf_01, ↓mm_if_tf, ↓mm_if_tn, ↓mm_if_nn]
  refine r_111n d (LyM_2 F1.1 hL) r1 T1 (by omega) 1 30 (fun M2 G2 T2 => ?_)
  have F2 := FA_tr F1 G2
  have q2 := nx_q (L := lL t lt) (r := r1) (lo := 1) (hi := 30)
  have k2 := nx_k (L := lL t lt) (r := r1) (lo := 1) (hi := 30)
  unfold b1_ at h
  generalize nx_ (lL t lt) r1 1 30 = r2 at *
  simp (disch := omega) only [pw_bipush, pw_iconst, pw_nop0, pw_sipush, qw_aload_n0, qw_gf_b, qw_gf_i, qw_gf_r, qw_iadd, qw_iaload, qw_if_le, qw_if_ne, qw_iload_n1, qw_invokevirtual3, qw_istore4, qw_istore5, qw_istore_n1, qw_istore_n2, qw_istore_n3, qw_isub, mm_rf_c, mm_rt_v, mm_rt_i, mm_rt_r, mm_alc_n, mm_alc_c, mm_rc_n, mm_rc_c, mm_wd_n, mm_wd_i, mm_wd_l, mm_wd_r, reduceCtorEq, false_implies, implies_true, true_implies, true_or, or_true, false_or, or_false, not_false_eq_true, mm_nl_n, mm_nl_i, mm_nl_r, mm_args_n, mm_args_i, mm_args_l, mm_args_r, mm_pad_0, mm_pad_n, mm_pad_c, List.length_cons, List.length_nil, List.nil_append, List.cons_append, Nat.zero_le, Nat.sub_zero, true_and, and_true, Nat.reduceAdd, Nat.reduceLeDiff, Nat.reduceLT, Nat.reduceSub, Nat.lt_irrefl, Nat.zero_add, Nat.add_zero, Nat.le_refl, k_20, k_10, k_01, ↓mm_if_T, ↓mm_if_F, ↓if10, ↓if00, not_true_eq_false, tf_01, ↓mm_if_tf, ↓mm_if_tn, ↓mm_if_nn]
  refine r_111n d (LyM_2 F2.1 hL) r2 T2 (by omega) 0 30 (fun M3 G3 T3 => ?_)
  have F3 := FA_tr F2 G3
  have q3 := nx_q (L := lL t lt) (r := r2) (lo := 0) (hi := 30)
  have k3 := nx_k (L := lL t lt) (r := r2) (lo := 0) (hi := 30)
  unfold b2_ at h
  generalize nx_ (lL t lt) r2 0 30 = r3 at *
  simp (disch := omega) only [pw_bipush, pw_iconst, pw_nop0, pw_sipush, qw_aload_n0, qw_gf_b, qw_gf_i, qw_gf_r, qw_iadd, qw_iaload, qw_if_le, qw_if_ne, qw_iload_n1, qw_invokevirtual3, qw_istore4, qw_istore5, qw_istore_n1, qw_istore_n2, qw_istore_n3, qw_isub, mm_rf_c, mm_rt_v, mm_rt_i, mm_rt_r, mm_alc_n, mm_alc_c, mm_rc_n, mm_rc_c, mm_wd_n, mm_wd_i, mm_wd_l, mm_wd_r, reduceCtorEq, false_implies, implies_true, true_implies, true_or, or_true, false_or, or_false, not_false_eq_true, mm_nl_n, mm_nl_i, mm_nl_r, mm_args_n, mm_args_i, mm_args_l, mm_args_r, mm_pad_0, mm_pad_n, mm_pad_c, List.length_cons, List.length_nil, List.nil_append, List.cons_append, Nat.zero_le, Nat.sub_zero, true_and, and_true, Nat.reduceAdd, Nat.reduceLeDiff, Nat.reduceLT, Nat.reduceSub, Nat.lt_irrefl, Nat.zero_add, Nat.add_zero, Nat.le_refl, k_20, k_10, k_01, ↓mm_if_T, ↓mm_if_F, ↓if10, ↓if00, not_true_eq_false, tf_01, ↓mm_if_tf, ↓mm_if_tn, ↓mm_if_nn]
  refine r_111n d (LyM_2 F3.1 hL) r3 T3 (by omega) 0 40 (fun M4 G4 T4 => ?_)
  have F4 := FA_tr F3 G4
  have q4 := nx_q (L := lL t lt) (r := r3) (lo := 0) (hi := 40)
  have k4 := nx_k (L := lL t lt) (r := r3) (lo := 0) (hi := 40)
  unfold b3_ at h
  generalize nx_ (lL t lt) r3 0 40 = r4 at *
  simp (disch := omega) only [pw_bipush, pw_iconst, pw_nop0, pw_sipush, qw_aload_n0, qw_gf_b, qw_gf_i, qw_gf_r, qw_iadd, qw_iaload, qw_if_le, qw_if_ne, qw_iload_n1, qw_invokevirtual3, qw_istore4, qw_istore5, qw_istore_n1, qw_istore_n2, qw_istore_n3, qw_isub, mm_rf_c, mm_rt_v, mm_rt_i, mm_rt_r, mm_alc_n, mm_alc_c, mm_rc_n, mm_rc_c, mm_wd_n, mm_wd_i, mm_wd_l, mm_wd_r, reduceCtorEq, false_implies, implies_true, true_implies, true_or, or_true, false_or, or_false, not_false_eq_true, mm_nl_n, mm_nl_i, mm_nl_r, mm_args_n, mm_args_i, mm_args_l, mm_args_r, mm_pad_0, mm_pad_n, mm_pad_c, List.length_cons, List.length_nil, List.nil_append, List.cons_append, Nat.zero_le, Nat.sub_zero, true_and, and_true, Nat.reduceAdd, Nat.reduceLeDiff, Nat.reduceLT, Nat.reduceSub, Nat.lt_irrefl, Nat.zero_add, Nat.add_zero, Nat.le_refl, k_20, k_10, k_01, ↓mm_if_T, ↓mm_if_F, ↓if10, ↓if00, not_true_eq_false, tf_01, ↓mm_if_tf, ↓mm_if_tn, ↓mm_if_nn]
  refine r_111n d (LyM_2 F4.1 hL) r4 T4 (by omega) 0 23 (fun M5 G5 T5 => ?_)
  have F5 := FA_tr F4 G5
  have q5 := nx_q (L := lL t lt) (r := r4) (lo := 0) (hi := 23)
  have k5 := nx_k (L := lL t lt) (r := r4) (lo := 0) (hi := 23)
  unfold b4_ at h
  generalize nx_ (lL t lt) r4 0 23 = r5 at *
  unfold b5_ at h
  have hL5 := LyM_2 F5.1 hL
  have P5 := PR_A hP F5
  have h5 := T5.2.2.2.2
  have l1 := hL5.1.2.2.2.2.2.2.1
  have l2 : mm_L M5 7 11 = 468 := hL5.2.2.2.2.2.2.2.1
  have FE : ∀ b, FA M5 (mm_sI M5 6 0 15 (bo b)) := fun b => FA_s (FA_rf M5) (by omega)
  have TE : ∀ b, TM (mm_sI M5 6 0 15 (bo b)) t lt r5.2.1 b := fun b => TM_F T5 (FE b) (by rw [mm_I_k (by omega)]; exact T5.2.2.2.1) mm_I_s
  cases e : r5.2.2 with
  | true =>
    have h5 : mm_I M5 6 0 15 = 1 := by rw [h5, e]; rfl
    rw [e, Bool.true_or] at h
    have hh := h _ (FW_tr (FW_A F5) (FW_A (FE true))) (TE true) (fun z => absurd z (by simp))
    simp (disch := omega) only [eK_113_1, eK_113_2, eK_113_3, eK_113_4, pw_bipush, pw_goto, pw_iconst, pw_nop0, pw_return_, pw_sipush, qw_aload_n0, qw_gf_b, qw_gf_i, qw_gf_r, qw_iadd, qw_iaload, qw_if_le, qw_if_ne, qw_iload4, qw_iload5, qw_iload_n1, qw_iload_n2, qw_iload_n3, qw_invokevirtual3, qw_invokevirtual7, qw_istore4, qw_istore5, qw_istore_n1, qw_istore_n2, qw_istore_n3, qw_isub, qw_pf_b, qw_pf_i, qw_pf_r, mm_rf_c, mm_rt_v, mm_rt_i, mm_rt_r, mm_alc_n, mm_alc_c, mm_rc_n, mm_rc_c, mm_wd_n, mm_wd_i, mm_wd_l, mm_wd_r, reduceCtorEq, false_implies, implies_true, true_implies, true_or, or_true, false_or, or_false, not_false_eq_true, mm_nl_n, mm_nl_i, mm_nl_r, mm_args_n, mm_args_i, mm_args_l, mm_args_r, mm_pad_0, mm_pad_n, mm_pad_c, List.length_cons, List.length_nil, List.nil_append, List.cons_append, Nat.zero_le, Nat.sub_zero, true_and, and_true, Nat.reduceAdd, Nat.reduceLeDiff, Nat.reduceLT, Nat.reduceSub, Nat.lt_irrefl, Nat.zero_add, Nat.add_zero, Nat.le_refl, k_20, k_10, k_01, ↓mm_if_T, ↓mm_if_F, ↓if10, ↓if00, not_true_eq_false, tf_01, ↓mm_if_tf, ↓mm_if_tn, ↓mm_if_nn, h5, mm_I_s]
    exact hh
  | false =>
    have h5 : mm_I M5 6 0 15 = 0 := by rw [h5, e]; rfl
    rw [e, Bool.false_or] at h
    obtain ⟨e4, _, _, g5⟩ := k5 e
    obtain ⟨e3, _, _, g4⟩ := k4 e4
    obtain ⟨e2, _, _, g3⟩ := k3 e3
    obtain ⟨e1, _, _, g2⟩ := k2 e2
    obtain ⟨_, g1⟩ := k1 e1
    obtain ⟨w, hw, ew⟩ := isw_of h7 g1
    have w7 : w < 7 := by omega
    have ec : r1.1.toNatClampNeg = w := by rw [ew]; exact nI_clamp (by omega)
    rw [ec, ew] at h
    have s8 := (P5.2.2.1.1 w w7).2.1
    dsimp only at s8
    have wf := wf_5 hP.2.2.2.1 hw
    by_cases c : 1 ≤ Z.2.1 w 5
    · rw [decide_eq_true c] at h
      rw [if_neg (wf.mp c)] at s8
      have hc1 := ((hP.2.2.2.1 w hw).2.2.2.2.1 (wf.mp c)).1.1
      have hgt : ¬ Z.2.1 w 6 ≤ 0 := by
        intro z
        rw [i_le] at z hc1
        have z1 : (1 : Int32).toInt = 1 := by decide
        have z2 : (0 : Int32).toInt = 0 := by decide
        rw [z1] at hc1
        rw [z2] at z
        omega
      have hh := h _ (FW_tr (FW_A F5) (FW_A (FE true))) (TE true) (fun z => absurd z (by simp))
      simp (disch := omega) only [eK_113_1, eK_113_2, eK_113_3, eK_113_4, pw_bipush, pw_goto, pw_iconst, pw_nop0, pw_return_, pw_sipush, qw_aload_n0, qw_gf_b, qw_gf_i, qw_gf_r, qw_iadd, qw_iaload, qw_if_le, qw_if_ne, qw_iload4, qw_iload5, qw_iload_n1, qw_iload_n2, qw_iload_n3, qw_invokevirtual3, qw_invokevirtual7, qw_istore4, qw_istore5, qw_istore_n1, qw_istore_n2, qw_istore_n3, qw_isub, qw_pf_b, qw_pf_i, qw_pf_r, mm_rf_c, mm_rt_v, mm_rt_i, mm_rt_r, mm_alc_n, mm_alc_c, mm_rc_n, mm_rc_c, mm_wd_n, mm_wd_i, mm_wd_l, mm_wd_r, reduceCtorEq, false_implies, implies_true, true_implies, true_or, or_true, false_or, or_false, not_false_eq_true, mm_nl_n, mm_nl_i, mm_nl_r, mm_args_n, mm_args_i, mm_args_l, mm_args_r, mm_pad_0, mm_pad_n, mm_pad_c, List.length_cons, List.length_nil, List.nil_append, List.cons_append, Nat.zero_le, Nat.sub_zero, true_and, and_true, Nat.reduceAdd, Nat.reduceLeDiff, Nat.reduceLT, Nat.reduceSub, Nat.lt_irrefl, Nat.zero_add, Nat.add_zero, Nat.le_refl, k_20, k_10, k_01, ↓mm_if_T, ↓mm_if_F, ↓if10, ↓if00, not_true_eq_false, tf_01, ↓mm_if_tf, ↓mm_if_tn, ↓mm_if_nn, ew, h5, l1, l2, c437, vi_, ci_, s8, ↓mm_if_f hgt, mm_I_s]
      exact hh
    · have c0 : Z.2.1 w 5 = 0 := Classical.byContradiction fun z => c (wf.mpr z)
      rw [decide_eq_false c] at h
      rw [if_pos c0] at s8
      have PH := PR_hangs (PR_A P5 (FE false)) hw (v5_ (nI w) r2.1 r3.1 r4.1 r5.1) g2 g3 g4 g5
      have hh := h _ (FW_s (FW_s (FW_s (FW_s (FW_tr (FW_A F5) (FW_A (FE false))) (by omega)) (by omega)) (by omega)) (by omega)) (TM_W (TE false) (FW_s (FW_s (FW_s (FW_s (FW_rf _) (by omega)) (by omega)) (by omega)) (by omega)) (by rw [mm_I_c (by omega), mm_I_c (by omega), mm_I_c (by omega), mm_I_c (by omega)]; exact (TE false).2.2.2.1) (by rw [mm_I_c (by omega), mm_I_c (by omega), mm_I_c (by omega), mm_I_c (by omega)]; exact (TE false).2.2.2.2)) (fun _ => PH)
      have hL6 : LyM (mm_sI M5 6 0 15 0) := LyM_2 (M := M5) rfl hL5
      simp (disch := omega) only [eK_113_1, eK_113_2, eK_113_3, eK_113_4, pw_bipush, pw_goto, pw_iconst, pw_nop0, pw_return_, pw_sipush, qw_aload_n0, qw_gf_b, qw_gf_i, qw_gf_r, qw_iadd, qw_iaload, qw_if_le, qw_if_ne, qw_iload4, qw_iload5, qw_iload_n1, qw_iload_n2, qw_iload_n3, qw_invokevirtual3, qw_invokevirtual7, qw_istore4, qw_istore5, qw_istore_n1, qw_istore_n2, qw_istore_n3, qw_isub, qw_pf_b, qw_pf_i, qw_pf_r, mm_rf_c, mm_rt_v, mm_rt_i, mm_rt_r, mm_alc_n, mm_alc_c, mm_rc_n, mm_rc_c, mm_wd_n, mm_wd_i, mm_wd_l, mm_wd_r, reduceCtorEq, false_implies, implies_true, true_implies, true_or, or_true, false_or, or_false, not_false_eq_true, mm_nl_n, mm_nl_i, mm_nl_r, mm_args_n, mm_args_i, mm_args_l, mm_args_r, mm_pad_0, mm_pad_n, mm_pad_c, List.length_cons, List.length_nil, List.nil_append, List.cons_append, Nat.zero_le, Nat.sub_zero, true_and, and_true, Nat.reduceAdd, Nat.reduceLeDiff, Nat.reduceLT, Nat.reduceSub, Nat.lt_irrefl, Nat.zero_add, Nat.add_zero, Nat.le_refl, k_20, k_10, k_01, ↓mm_if_T, ↓mm_if_F, ↓if10, ↓if00, not_true_eq_false, tf_01, ↓mm_if_tf, ↓mm_if_tn, ↓mm_if_nn, ew, h5, l1, l2, c437, vi_, ci_, s8, ↓mm_if_t (show (0 : Int32) ≤ 0 by decide), mm_I_s, y_103 (d + 2) hL6 w7]
      exact hh

theorem i466 : vp_in (466 : Int32) 468 := vp_in_nI (n := 466) (by omega) (by omega)
theorem j466 : (466 : Int32).toNatClampNeg = 429 + 37 := nI_clamp (n := 466) (by omega)
set_option maxHeartbeats 4000000 in
theorem r_114 (d : Nat) {M : mm_M} {post : mm_Post} {t : Nat} {lt : Nat → Int32} {p : Nat} {Z : Nat × St} (hL : LyM M) (hT : TM M t lt p false) (hP : PR M Z) (hp : p < 1000) (l : Int32) (h : ∀ M', FW M M' → TM M' t lt (ii (lL t lt) l p Z).1 (ii (lL t lt) l p Z).2.1 → ((ii (lL t lt) l p Z).2.1 = false → PR M' (ii (lL t lt) l p Z).2.2) → post none M') : pC (d + 5) 114 [.inr (.inr (6, 0)), .inl l] M post := by
  unfold ii at h
  by_cases c1 : l = 119
  · rw [if_pos c1] at h
    simp (disch := omega) only [eC_114, eK_114_0, eK_114_1, eK_114_2, eK_114_3, eK_114_4, eK_114_5, eK_114_6, eK_114_7, eK_114_8, pw_bipush, pw_goto, pw_iconst, pw_nop0, pw_return_, pw_sipush, qw_aload_n0, qw_gf_b, qw_gf_i, qw_gf_r, qw_iastore, qw_if_eq, qw_if_icmp_ne, qw_iload_n1, qw_iload_n2, qw_iload_n3, qw_invokevirtual1, qw_invokevirtual3, qw_istore_n2, qw_istore_n3, qw_pf_b, qw_pf_i, qw_pf_r, mm_rf_c, mm_rt_v, mm_rt_i, mm_rt_r, mm_alc_n, mm_alc_c, mm_rc_n, mm_rc_c, mm_wd_n, mm_wd_i, mm_wd_l, mm_wd_r, reduceCtorEq, false_implies, implies_true, true_implies, true_or, or_true, false_or, or_false, not_false_eq_true, mm_nl_n, mm_nl_i, mm_nl_r, mm_args_n, mm_args_i, mm_args_l, mm_args_r, mm_pad_0, mm_pad_n, mm_pad_c, List.length_cons, List.length_nil, List.nil_append, List.cons_append, Nat.zero_le, Nat.sub_zero, true_and, and_true, Nat.reduceAdd, Nat.reduceLeDiff, Nat.reduceLT, Nat.reduceSub, Nat.lt_irrefl, Nat.zero_add, Nat.add_zero, Nat.le_refl, k_20, k_10, k_01, ↓mm_if_T, ↓mm_if_F, ↓if10, ↓if00, not_true_eq_false, tf_01, ↓mm_if_tf, ↓mm_if_tn, ↓mm_if_nn, ↓mm_if_t c1]
    refine r_112 d hL hT hP hp (fun M' F T P => ?_)
    simp (disch := omega) only [eC_114, eK_114_0, eK_114_1, eK_114_2, eK_114_3, eK_114_4, eK_114_5, eK_114_6, eK_114_7, eK_114_8, pw_bipush, pw_goto, pw_iconst, pw_nop0, pw_return_, pw_sipush, qw_aload_n0, qw_gf_b, qw_gf_i, qw_gf_r, qw_iastore, qw_if_eq, qw_if_icmp_ne, qw_iload_n1, qw_iload_n2, qw_iload_n3, qw_invokevirtual1, qw_invokevirtual3, qw_istore_n2, qw_istore_n3, qw_pf_b, qw_pf_i, qw_pf_r, mm_rf_c, mm_rt_v, mm_rt_i, mm_rt_r, mm_alc_n, mm_alc_c, mm_rc_n, mm_rc_c, mm_wd_n, mm_wd_i, mm_wd_l, mm_wd_r, reduceCtorEq, false_implies, implies_true, true_implies, true_or, or_true, false_or, or_false, not_false_eq_true, mm_nl_n, mm_nl_i, mm_nl_r, mm_args_n, mm_args_i, mm_args_l, mm_args_r, mm_pad_0, mm_pad_n, mm_pad_c, List.length_cons, List.length_nil, List.nil_append, List.cons_append, Nat.zero_le, Nat.sub_zero, true_and, and_true, Nat.reduceAdd, Nat.reduceLeDiff, Nat.reduceLT, Nat.reduceSub, Nat.lt_irrefl, Nat.zero_add, Nat.add_zero, Nat.le_refl, k_20, k_10, k_01, ↓mm_if_T, ↓mm_if_F, ↓if10, ↓if00, not_true_eq_false, tf_01, ↓mm_if_tf, ↓mm_if_tn, ↓mm_if_nn]
    exact h M' F T P
  rw [if_neg c1] at h
  by_cases c2 : l = 98
  · rw [if_pos c2] at h
    simp (disch := omega) only [eC_114, eK_114_0, eK_114_1, eK_114_2, eK_114_3, eK_114_4, eK_114_5, eK_114_6, eK_114_7, eK_114_8, pw_bipush, pw_goto, pw_iconst, pw_nop0, pw_return_, pw_sipush, qw_aload_n0, qw_gf_b, qw_gf_i, qw_gf_r, qw_iastore, qw_if_eq, qw_if_icmp_ne, qw_iload_n1, qw_iload_n2, qw_iload_n3, qw_invokevirtual1, qw_invokevirtual3, qw_istore_n2, qw_istore_n3, qw_pf_b, qw_pf_i, qw_pf_r, mm_rf_c, mm_rt_v, mm_rt_i, mm_rt_r, mm_alc_n, mm_alc_c, mm_rc_n, mm_rc_c, mm_wd_n, mm_wd_i, mm_wd_l, mm_wd_r, reduceCtorEq, false_implies, implies_true, true_implies, true_or, or_true, false_or, or_false, not_false_eq_true, mm_nl_n, mm_nl_i, mm_nl_r, mm_args_n, mm_args_i, mm_args_l, mm_args_r, mm_pad_0, mm_pad_n, mm_pad_c, List.length_cons, List.length_nil, List.nil_append, List.cons_append, Nat.zero_le, Nat.sub_zero, true_and, and_true, Nat.reduceAdd, Nat.reduceLeDiff, Nat.reduceLT, Nat.reduceSub, Nat.lt_irrefl, Nat.zero_add, Nat.add_zero, Nat.le_refl, k_20, k_10, k_01, ↓mm_if_T, ↓mm_if_F, ↓if10, ↓if00, not_true_eq_false, tf_01, ↓mm_if_tf, ↓mm_if_tn, ↓mm_if_nn, ↓mm_if_f c1, ↓mm_if_t c2]
    refine r_113 d hL hT hP hp (fun M' F T P => ?_)
    simp (disch := omega) only [eC_114, eK_114_0, eK_114_1, eK_114_2, eK_114_3, eK_114_4, eK_114_5, eK_114_6, eK_114_7, eK_114_8, pw_bipush, pw_goto, pw_iconst, pw_nop0, pw_return_, pw_sipush, qw_aload_n0, qw_gf_b, qw_gf_i, qw_gf_r, qw_iastore, qw_if_eq, qw_if_icmp_ne, qw_iload_n1, qw_iload_n2, qw_iload_n3, qw_invokevirtual1, qw_invokevirtual3, qw_istore_n2, qw_istore_n3, qw_pf_b, qw_pf_i, qw_pf_r, mm_rf_c, mm_rt_v, mm_rt_i, mm_rt_r, mm_alc_n, mm_alc_c, mm_rc_n, mm_rc_c, mm_wd_n, mm_wd_i, mm_wd_l, mm_wd_r, reduceCtorEq, false_implies, implies_true, true_implies, true_or, or_true, false_or, or_false, not_false_eq_true, mm_nl_n, mm_nl_i, mm_nl_r, mm_args_n, mm_args_i, mm_args_l, mm_args_r, mm_pad_0, mm_pad_n, mm_pad_c, List.length_cons, List.length_nil, List.nil_append, List.cons_append, Nat.zero_le, Nat.sub_zero, true_and, and_true, Nat.reduceAdd, Nat.reduceLeDiff, Nat.reduceLT, Nat.reduceSub, Nat.lt_irrefl, Nat.zero_add, Nat.add_zero, Nat.le_refl, k_20, k_10, k_01, ↓mm_if_T, ↓mm_if_F, ↓if10, ↓if00, not_true_eq_false, tf_01, ↓mm_if_tf, ↓mm_if_tn, ↓mm_if_nn]
    exact h M' F T P
  rw [if_neg c2] at h
  by_cases c3 : l = 109
  · rw [if_pos c3] at h
    simp (disch := omega) only [eC_114, eK_114_0, eK_114_1, eK_114_2, pw_bipush, pw_goto, pw_iconst, pw_sipush, qw_aload_n0, qw_gf_b, qw_gf_i, qw_gf_r, qw_if_eq, qw_if_icmp_ne, qw_iload_n1, qw_invokevirtual1, qw_invokevirtual3, qw_istore_n2, qw_istore_n3, mm_rf_c, mm_rt_v, mm_rt_i, mm_rt_r, mm_alc_n, mm_alc_c, mm_rc_n, mm_rc_c, mm_wd_n, mm_wd_i, mm_wd_l, mm_wd_r, reduceCtorEq, false_implies, implies_true, true_implies, true_or, or_true, false_or, or_false, not_false_eq_true, mm_nl_n, mm_nl_i, mm_nl_r, mm_args_n, mm_args_i, mm_args_l, mm_args_r, mm_pad_0, mm_pad_n, mm_pad_c, List.length_cons, List.length_nil, List.nil_append, List.cons_append, Nat.zero_le, Nat.sub_zero, true_and, and_true, Nat.reduceAdd, Nat.reduceLeDiff, Nat.reduceLT, Nat.reduceSub, Nat.lt_irrefl, Nat.zero_add, Nat.add_zero, Nat.le_refl, k_20, k_10, k_01, ↓mm_if_T, ↓mm_if_F, ↓if10, ↓if00, not_true_eq_false, tf_01, ↓mm_if_tf, ↓mm_if_tn, ↓mm_if_nn, ↓mm_if_f c1, ↓mm_if_f c2, ↓mm_if_t c3]
    refine r_110 (d + 2) hL hT (by omega) 0 99 (fun M1 F1 T1 => ?_)
    have q1 := rN_q (L := lL t lt) (p := p) (lo := 0) (hi := 99)
    unfold mi at h
    generalize rN (lL t lt) p 0 99 = r1 at *
    simp (disch := omega) only [pw_bipush, pw_goto, pw_iconst, pw_sipush, qw_aload_n0, qw_gf_b, qw_gf_i, qw_gf_r, qw_if_eq, qw_if_icmp_ne, qw_iload_n1, qw_invokevirtual3, qw_istore_n2, qw_istore_n3, mm_rf_c, mm_rt_v, mm_rt_i, mm_rt_r, mm_alc_n, mm_alc_c, mm_rc_n, mm_rc_c, mm_wd_n, mm_wd_i, mm_wd_l, mm_wd_r, reduceCtorEq, false_implies, implies_true, true_implies, true_or, or_true, false_or, or_false, not_false_eq_true, mm_nl_n, mm_nl_i, mm_nl_r, mm_args_n, mm_args_i, mm_args_l, mm_args_r, mm_pad_0, mm_pad_n, mm_pad_c, List.length_cons, List.length_nil, List.nil_append, List.cons_append, Nat.zero_le, Nat.sub_zero, true_and, and_true, Nat.reduceAdd, Nat.reduceLeDiff, Nat.reduceLT, Nat.reduceSub, Nat.lt_irrefl, Nat.zero_add, Nat.add_zero, Nat.le_refl, k_20, k_10, k_01, ↓mm_if_T, ↓mm_if_F, ↓if10, ↓if00, not_true_eq_false, tf_01, ↓mm_if_tf, ↓mm_if_tn, ↓mm_if_nn]
    refine r_111n (d + 1) (LyM_2 F1.1 hL) r1 T1 (by omega) 0 99 (fun M2 G2 T2 => ?_)
    have F2 := FA_tr F1 G2
    unfold m1_ m2_ at h
    generalize nx_ (lL t lt) r1 0 99 = r2 at *
    have hL2 := LyM_2 F2.1 hL
    have P2 := PR_A hP F2
    have h5 := T2.2.2.2.2
    have l1 := hL2.1.2.2.2.2.2.2.1
    have l2 : mm_L M2 7 11 = 468 := hL2.2.2.2.2.2.2.2.1
    have hw : ∀ x y : Int32, FW M (mm_sI (mm_sI M2 7 11 (429 + 36) x) 7 11 (429 + 37) y) := fun x y => FW_s (FW_s (FW_A F2) (by omega)) (by omega)
    have ht : ∀ x y : Int32, TM (mm_sI (mm_sI M2 7 11 (429 + 36) x) 7 11 (429 + 37) y) t lt r2.2.1 r2.2.2 := fun x y => TM_W T2 (FW_s (FW_s (FW_rf M2) (by omega)) (by omega)) (by rw [mm_I_c (by omega), mm_I_c (by omega)]; exact T2.2.2.2.1) (by rw [mm_I_c (by omega), mm_I_c (by omega)]; exact h5)
    cases e : r2.2.2 with
    | true =>
      have h5 : mm_I M2 6 0 15 = 1 := by rw [h5, e]; rfl
      have hh := h _ (hw 0 0) (ht 0 0) (fun z => absurd (e.symm.trans z) (by simp))
      simp (disch := omega) only [eK_114_3, eK_114_4, eK_114_5, eK_114_6, eK_114_8, pw_bipush, pw_goto, pw_iconst, pw_nop0, pw_return_, pw_sipush, qw_aload_n0, qw_gf_b, qw_gf_i, qw_gf_r, qw_iastore, qw_if_eq, qw_if_icmp_ne, qw_iload_n1, qw_iload_n2, qw_iload_n3, qw_invokevirtual3, qw_istore_n2, qw_istore_n3, mm_rf_c, mm_rt_v, mm_rt_i, mm_rt_r, mm_alc_n, mm_alc_c, mm_rc_n, mm_rc_c, mm_wd_n, mm_wd_i, mm_wd_l, mm_wd_r, reduceCtorEq, false_implies, implies_true, true_implies, true_or, or_true, false_or, or_false, not_false_eq_true, mm_nl_n, mm_nl_i, mm_nl_r, mm_args_n, mm_args_i, mm_args_l, mm_args_r, mm_pad_0, mm_pad_n, mm_pad_c, List.length_cons, List.length_nil, List.nil_append, List.cons_append, Nat.zero_le, Nat.sub_zero, true_and, and_true, Nat.reduceAdd, Nat.reduceLeDiff, Nat.reduceLT, Nat.reduceSub, Nat.lt_irrefl, Nat.zero_add, Nat.add_zero, Nat.le_refl, k_20, k_10, k_01, ↓mm_if_T, ↓mm_if_F, ↓if10, ↓if00, not_true_eq_false, tf_01, ↓mm_if_tf, ↓mm_if_tn, ↓mm_if_nn, h5, l1, l2, i465, j465, i466, j466, mm_L_s, mm_R_s, mm_I_c]
      exact hh
    | false =>
      have h5 : mm_I M2 6 0 15 = 0 := by rw [h5, e]; rfl
      have hh := h _ (hw r1.1 r2.1) (ht r1.1 r2.1) (fun _ => PR_store P2 r1.1 r2.1)
      simp (disch := omega) only [eK_114_3, eK_114_4, eK_114_5, eK_114_6, eK_114_8, pw_bipush, pw_goto, pw_iconst, pw_nop0, pw_return_, pw_sipush, qw_aload_n0, qw_gf_b, qw_gf_i, qw_gf_r, qw_iastore, qw_if_eq, qw_if_icmp_ne, qw_iload_n1, qw_iload_n2, qw_iload_n3, qw_invokevirtual3, qw_istore_n2, qw_istore_n3, mm_rf_c, mm_rt_v, mm_rt_i, mm_rt_r, mm_alc_n, mm_alc_c, mm_rc_n, mm_rc_c, mm_wd_n, mm_wd_i, mm_wd_l, mm_wd_r, reduceCtorEq, false_implies, implies_true, true_implies, true_or, or_true, false_or, or_false, not_false_eq_true, mm_nl_n, mm_nl_i, mm_nl_r, mm_args_n, mm_args_i, mm_args_l, mm_args_r, mm_pad_0, mm_pad_n, mm_pad_c, List.length_cons, List.length_nil, List.nil_append, List.cons_append, Nat.zero_le, Nat.sub_zero, true_and, and_true, Nat.reduceAdd, Nat.reduceLeDiff, Nat.reduceLT, Nat.reduceSub, Nat.lt_irrefl, Nat.zero_add, Nat.add_zero, Nat.le_refl, k_20, k_10, k_01, ↓mm_if_T, ↓mm_if_F, ↓if10, ↓if00, not_true_eq_false, tf_01, ↓mm_if_tf, ↓mm_if_tn, ↓mm_if_nn, h5, l1, l2, i465, j465, i466, j466, mm_L_s, mm_R_s, mm_I_c]
      exact hh
  · rw [if_neg c3] at h
    have F1 : FA M (mm_sI M 6 0 15 (bo true)) := FA_s (FA_rf M) (by omega)
    have hh := h _ (FW_A F1) (TM_F hT F1 (by rw [mm_I_k (by omega)]; exact hT.2.2.2.1) mm_I_s) (fun z => absurd z (by simp))
    simp (disch := omega) only [eC_114, eK_114_0, eK_114_1, eK_114_2, eK_114_7, eK_114_8, pw_bipush, pw_goto, pw_iconst, pw_nop0, pw_return_, pw_sipush, qw_aload_n0, qw_gf_b, qw_gf_i, qw_gf_r, qw_if_eq, qw_if_icmp_ne, qw_iload_n1, qw_invokevirtual1, qw_invokevirtual3, qw_istore_n2, qw_istore_n3, qw_pf_b, qw_pf_i, qw_pf_r, mm_rf_c, mm_rt_v, mm_rt_i, mm_rt_r, mm_alc_n, mm_alc_c, mm_rc_n, mm_rc_c, mm_wd_n, mm_wd_i, mm_wd_l, mm_wd_r, reduceCtorEq, false_implies, implies_true, true_implies, true_or, or_true, false_or, or_false, not_false_eq_true, mm_nl_n, mm_nl_i, mm_nl_r, mm_args_n, mm_args_i, mm_args_l, mm_args_r, mm_pad_0, mm_pad_n, mm_pad_c, List.length_cons, List.length_nil, List.nil_append, List.cons_append, Nat.zero_le, Nat.sub_zero, true_and, and_true, Nat.reduceAdd, Nat.reduceLeDiff, Nat.reduceLT, Nat.reduceSub, Nat.lt_irrefl, Nat.zero_add, Nat.add_zero, Nat.le_refl, k_20, k_10, k_01, ↓mm_if_T, ↓mm_if_F, ↓if10, ↓if00, not_true_eq_false, tf_01, ↓mm_if_tf, ↓mm_if_tn, ↓mm_if_nn, ↓mm_if_f c1, ↓mm_if_f c2, ↓mm_if_f c3]
    exact hh

