/-! THE REFERENCE: hours -/
theorem g_dr_1 {A : Nat → Nat → Int32} {v w : Nat} (h : ¬ g_dr A v w = 0) : g_dr A v w = 1 := by
  unfold g_dr at *
  rcases tf_01 (c := (if 1 < g_at A w w then g_at A w w else 1) ≤ g_at A v w) with z | z
  · exact absurd z h
  · exact z
theorem r_150 (d : Nat) {M : mm_M} {post : mm_Post} {n : Nat} {X : Sx} (hL : LyM M) (hn : n ≤ 7) (hM : RM M n X.1.1) (hR : RB M 0 n X) (hW : WF n X.1.1) {v w : Nat} (hv : v < n) (hw : w < n) (h5 : X.1.1 v 5 = 2) (h6 : X.1.1 w 5 = 2) : pC (d + 3) 150 [.inr (.inr (6, 0)), .inl (nI v), .inl (nI w)] M post = post (some (.inl (g_dr X.1.1 v w))) M := by
  have l1 := hL.1.2.2.2.2.2.2.1
  have l2 : mm_L M 7 11 = 468 := hL.2.2.2.2.2.2.2.1
  have a1 := hL.1.1
  have a2 := hL.1.2.1
  have a5 := hL.1.2.2.1
  have a3 : mm_L M 7 5 = 7 := hL.2.1
  have a4 : mm_L M 7 6 = 7 := hL.2.2.1
  have a6 : mm_L M 7 7 = 7 := hL.2.2.2.1
  obtain ⟨q1, q2, q3⟩ := nI_v7 hw hn
  obtain ⟨h0, h1, h2⟩ := hM.2 w hw
  have hx := (hW w hw).2.1
  have f1 : f_lf (X.1.1 v 8) (X.1.1 v 9) (X.1.1 w 1) = g_at X.1.1 v w := rfl
  have f2 : f_lf (X.1.1 w 8) (X.1.1 w 9) (X.1.1 w 1) = g_at X.1.1 w w := rfl
  by_cases c1 : g_at X.1.1 v w < 1
  · rw [g_dr_0.mpr (Or.inl c1)]
    simp (disch := omega) only [eC_150, eK_150_0, eK_150_1, eK_150_2, pw_goto, pw_iconst, pw_nop0, qw_aload_n0, qw_gf_b, qw_gf_i, qw_gf_r, qw_iaload, qw_if_icmp_lt, qw_iload_n1, qw_iload_n2, qw_iload_n3, qw_invokevirtual4, qw_ireturn, qw_istore_n3, mm_rf_c, mm_rt_v, mm_rt_i, mm_rt_r, mm_alc_n, mm_alc_c, mm_rc_n, mm_rc_c, mm_wd_n, mm_wd_i, mm_wd_l, mm_wd_r, reduceCtorEq, false_implies, implies_true, true_implies, true_or, or_true, false_or, or_false, not_false_eq_true, mm_nl_n, mm_nl_i, mm_nl_r, mm_args_n, mm_args_i, mm_args_l, mm_args_r, mm_pad_0, mm_pad_n, mm_pad_c, List.length_cons, List.length_nil, List.nil_append, List.cons_append, Nat.zero_le, Nat.sub_zero, true_and, and_true, Nat.reduceAdd, Nat.reduceLeDiff, Nat.reduceLT, Nat.reduceSub, Nat.lt_irrefl, Nat.zero_add, Nat.add_zero, Nat.le_refl, k_20, k_10, k_01, ↓mm_if_T, ↓mm_if_F, ↓if10, ↓if00, not_true_eq_false, tf_01, ↓mm_if_tf, ↓mm_if_tn, ↓mm_if_nn, l1, l2, a1, a2, a3, a4, a5, a6, q1, q2, vi_, ci_, h1, z_122 d hL hn hM hR hW hv h5 _ hx, z_122 d hL hn hM hR hW hw h6 _ hx, f1, f2, ↓mm_if_t c1]
  by_cases c2 : g_at X.1.1 v w < g_at X.1.1 w w
  · rw [g_dr_0.mpr (Or.inr c2)]
    simp (disch := omega) only [eC_150, eK_150_0, eK_150_1, eK_150_2, pw_goto, pw_iconst, pw_nop0, qw_aload_n0, qw_gf_b, qw_gf_i, qw_gf_r, qw_iaload, qw_if_icmp_lt, qw_iload_n1, qw_iload_n2, qw_iload_n3, qw_invokevirtual4, qw_ireturn, qw_istore_n3, mm_rf_c, mm_rt_v, mm_rt_i, mm_rt_r, mm_alc_n, mm_alc_c, mm_rc_n, mm_rc_c, mm_wd_n, mm_wd_i, mm_wd_l, mm_wd_r, reduceCtorEq, false_implies, implies_true, true_implies, true_or, or_true, false_or, or_false, not_false_eq_true, mm_nl_n, mm_nl_i, mm_nl_r, mm_args_n, mm_args_i, mm_args_l, mm_args_r, mm_pad_0, mm_pad_n, mm_pad_c, List.length_cons, List.length_nil, List.nil_append, List.cons_append, Nat.zero_le, Nat.sub_zero, true_and, and_true, Nat.reduceAdd, Nat.reduceLeDiff, Nat.reduceLT, Nat.reduceSub, Nat.lt_irrefl, Nat.zero_add, Nat.add_zero, Nat.le_refl, k_20, k_10, k_01, ↓mm_if_T, ↓mm_if_F, ↓if10, ↓if00, not_true_eq_false, tf_01, ↓mm_if_tf, ↓mm_if_tn, ↓mm_if_nn, l1, l2, a1, a2, a3, a4, a5, a6, q1, q2, vi_, ci_, h1, z_122 d hL hn hM hR hW hv h5 _ hx, z_122 d hL hn hM hR hW hw h6 _ hx, f1, f2, ↓mm_if_f c1, ↓mm_if_t c2]
  · rw [g_dr_1 (fun z => (g_dr_0.mp z).elim c1 c2)]
    simp (disch := omega) only [eC_150, eK_150_0, eK_150_1, eK_150_2, pw_goto, pw_iconst, pw_nop0, qw_aload_n0, qw_gf_b, qw_gf_i, qw_gf_r, qw_iaload, qw_if_icmp_lt, qw_iload_n1, qw_iload_n2, qw_iload_n3, qw_invokevirtual4, qw_ireturn, qw_istore_n3, mm_rf_c, mm_rt_v, mm_rt_i, mm_rt_r, mm_alc_n, mm_alc_c, mm_rc_n, mm_rc_c, mm_wd_n, mm_wd_i, mm_wd_l, mm_wd_r, reduceCtorEq, false_implies, implies_true, true_implies, true_or, or_true, false_or, or_false, not_false_eq_true, mm_nl_n, mm_nl_i, mm_nl_r, mm_args_n, mm_args_i, mm_args_l, mm_args_r, mm_pad_0, mm_pad_n, mm_pad_c, List.length_cons, List.length_nil, List.nil_append, List.cons_append, Nat.zero_le, Nat.sub_zero, true_and, and_true, Nat.reduceAdd, Nat.reduceLeDiff, Nat.reduceLT, Nat.reduceSub, Nat.lt_irrefl, Nat.zero_add, Nat.add_zero, Nat.le_refl, k_20, k_10, k_01, ↓mm_if_T, ↓mm_if_F, ↓if10, ↓if00, not_true_eq_false, tf_01, ↓mm_if_tf, ↓mm_if_tn, ↓mm_if_nn, l1, l2, a1, a2, a3, a4, a5, a6, q1, q2, vi_, ci_, h1, z_122 d hL hn hM hR hW hv h5 _ hx, z_122 d hL hn hM hR hW hw h6 _ hx, f1, f2, ↓mm_if_f c1, ↓mm_if_f c2]

theorem h_us_le {A : Nat → Nat → Int32} {f : Nat → Nat} (hf : ∀ v, v < 7 → f v ≤ 7) : ∀ w, w ≤ 7 → h_us A f w ≤ 8
  | 0, _ => by show 0 ≤ 8; omega
  | w + 1, h => by
    have ih := h_us_le (A := A) hf w (by omega)
    have := hf w (by omega)
    unfold h_us
    by_cases c : A w 5 = 2
    · rw [if_pos c]
      by_cases c2 : h_us A f w ≤ f w
      · rw [if_pos c2]; omega
      · rw [if_neg c2]; exact ih
    · rw [if_neg c]; exact ih
set_option maxHeartbeats 4000000 in
theorem k_151i (d : Nat) {M : mm_M} {post : mm_Post} {n : Nat} {X : Sx} (hL : LyM M) (hn : n ≤ 7) (hM : RM M n X.1.1) (hR : RB M 0 n X) (hW : WF n X.1.1) {f : Nat → Nat} (rg : ∀ v, v < 7 → mm_I M 7 14 v = nI (f v)) (hf : ∀ v, v < 7 → f v ≤ 7) {w : Nat} (hw : w < n) (h5 : X.1.1 w 5 = 2) (us : Int32) (h1 : h_fr X.1.1 f w → ∀ z, pK (d + 3) 151 post 6 [some (.inr (.inr (6, 0))), some (.inl us), some (.inl (nI w)), z] [] M (0, 0)) (h0 : ¬ h_fr X.1.1 f w → post (some (.inl 99)) M) : ∀ (m v : Nat), v + m = w → (∀ u, u < v → X.1.1 u 5 = 2 → f u = f w → ¬ h_cl X.1.1 u w) → pK (d + 3) 151 post 3 [some (.inr (.inr (6, 0))), some (.inl us), some (.inl (nI w)), some (.inl (nI v))] [] M (0, 0) := by
  have g1 : mm_R M 6 0 19 = some 14 := hL.1.2.2.2.2.2.2.2.2.2.2.1
  have g2 : mm_L M 7 14 = 7 := hL.2.2.2.2.2.2.2.2.2.2.2.1
  obtain ⟨q1, q2, q3⟩ := nI_v7 hw hn
  have rw_ := rg w (by omega)
  have fw := hf w (by omega)
  intro m
  induction m with
  | zero =>
    intro v hv hu
    have e : v = w := by omega
    subst e
    rw [eK_151_3]
    simp (disch := omega) only [pw_iconst, pw_nop0, qw_aload_n0, qw_gf_b, qw_gf_i, qw_gf_r, qw_iaload, qw_if_eq, qw_if_icmp_ge, qw_if_icmp_ne, qw_if_ne, qw_iload_n2, qw_iload_n3, qw_invokevirtual3, mm_rf_c, mm_rt_v, mm_rt_i, mm_rt_r, mm_alc_n, mm_alc_c, mm_rc_n, mm_rc_c, mm_wd_n, mm_wd_i, mm_wd_l, mm_wd_r, reduceCtorEq, false_implies, implies_true, true_implies, true_or, or_true, false_or, or_false, not_false_eq_true, mm_nl_n, mm_nl_i, mm_nl_r, mm_args_n, mm_args_i, mm_args_l, mm_args_r, mm_pad_0, mm_pad_n, mm_pad_c, List.length_cons, List.length_nil, List.nil_append, List.cons_append, Nat.zero_le, Nat.sub_zero, true_and, and_true, Nat.reduceAdd, Nat.reduceLeDiff, Nat.reduceLT, Nat.reduceSub, Nat.lt_irrefl, Nat.zero_add, Nat.add_zero, Nat.le_refl, k_20, k_10, k_01, ↓mm_if_T, ↓mm_if_F, ↓if10, ↓if00, not_true_eq_false, tf_01, ↓mm_if_tf, ↓mm_if_tn, ↓mm_if_nn, ↓mm_if_t (nI_le (Nat.le_refl v) (show v < 2 ^ 31 by omega))]
    exact h1 hu _
  | succ m ih =>
    intro v hv hu
    have hvw : v < w := by omega
    have hvn : v < n := by omega
    have hlt : ¬ nI w ≤ nI v := nI_ge hvw (by omega)
    have rv := rg v (by omega)
    have fv := hf v (by omega)
    have key := ih (v + 1) (by omega)
    by_cases c1 : X.1.1 v 5 = 2
    · by_cases c2 : f v = f w
      · have c2' : nI (f v) = nI (f w) := by rw [c2]
        by_cases c3 : g_dr X.1.1 v w = 0
        · by_cases c4 : g_dr X.1.1 w v = 0
          · have kk := key (fun u hu2 a b => by
              by_cases e : u = v
              · rw [e]; intro z; exact z.elim (fun y => y c3) (fun y => y c4)
              · exact hu u (by omega) a b)
            rw [eK_151_3]
            simp (disch := omega) only [eK_151_4, eK_151_5, pw_bipush, pw_goto, pw_iconst, pw_nop0, qw_aload_n0, qw_gf_b, qw_gf_i, qw_gf_r, qw_iaload, qw_if_eq, qw_if_icmp_ge, qw_if_icmp_ne, qw_if_ne, qw_iinc3, qw_iload_n2, qw_iload_n3, qw_invokevirtual3, qw_ireturn, mm_rf_c, mm_rt_v, mm_rt_i, mm_rt_r, mm_alc_n, mm_alc_c, mm_rc_n, mm_rc_c, mm_wd_n, mm_wd_i, mm_wd_l, mm_wd_r, reduceCtorEq, false_implies, implies_true, true_implies, true_or, or_true, false_or, or_false, not_false_eq_true, mm_nl_n, mm_nl_i, mm_nl_r, mm_args_n, mm_args_i, mm_args_l, mm_args_r, mm_pad_0, mm_pad_n, mm_pad_c, List.length_cons, List.length_nil, List.nil_append, List.cons_append, Nat.zero_le, Nat.sub_zero, true_and, and_true, Nat.reduceAdd, Nat.reduceLeDiff, Nat.reduceLT, Nat.reduceSub, Nat.lt_irrefl, Nat.zero_add, Nat.add_zero, Nat.le_refl, k_20, k_10, k_01, ↓mm_if_T, ↓mm_if_F, ↓if10, ↓if00, not_true_eq_false, tf_01, ↓mm_if_tf, ↓mm_if_tn, ↓mm_if_nn, ↓mm_if_f hlt, z_120 (d + 2) hL hn hM hR hW hvn, g1, g2, vi_, ci_, rv, rw_, nI_1, ↓mm_if_t c1, ↓mm_if_t c2', r_150 d hL hn hM hR hW hvn hw c1 h5, r_150 d hL hn hM hR hW hw hvn h5 c1, ↓mm_if_t c3, ↓mm_if_t c4]
            exact kk
          · have := h0 (fun z => z v hvw c1 c2 (Or.inr c4))
            rw [eK_151_3]
            simp (disch := omega) only [eK_151_4, eK_151_5, pw_bipush, pw_goto, pw_iconst, pw_nop0, qw_aload_n0, qw_gf_b, qw_gf_i, qw_gf_r, qw_iaload, qw_if_eq, qw_if_icmp_ge, qw_if_icmp_ne, qw_if_ne, qw_iinc3, qw_iload_n2, qw_iload_n3, qw_invokevirtual3, qw_ireturn, mm_rf_c, mm_rt_v, mm_rt_i, mm_rt_r, mm_alc_n, mm_alc_c, mm_rc_n, mm_rc_c, mm_wd_n, mm_wd_i, mm_wd_l, mm_wd_r, reduceCtorEq, false_implies, implies_true, true_implies, true_or, or_true, false_or, or_false, not_false_eq_true, mm_nl_n, mm_nl_i, mm_nl_r, mm_args_n, mm_args_i, mm_args_l, mm_args_r, mm_pad_0, mm_pad_n, mm_pad_c, List.length_cons, List.length_nil, List.nil_append, List.cons_append, Nat.zero_le, Nat.sub_zero, true_and, and_true, Nat.reduceAdd, Nat.reduceLeDiff, Nat.reduceLT, Nat.reduceSub, Nat.lt_irrefl, Nat.zero_add, Nat.add_zero, Nat.le_refl, k_20, k_10, k_01, ↓mm_if_T, ↓mm_if_F, ↓if10, ↓if00, not_true_eq_false, tf_01, ↓mm_if_tf, ↓mm_if_tn, ↓mm_if_nn, ↓mm_if_f hlt, z_120 (d + 2) hL hn hM hR hW hvn, g1, g2, vi_, ci_, rv, rw_, nI_1, ↓mm_if_t c1, ↓mm_if_t c2', r_150 d hL hn hM hR hW hvn hw c1 h5, r_150 d hL hn hM hR hW hw hvn h5 c1, ↓mm_if_t c3, ↓mm_if_f c4]
            exact this
        · have := h0 (fun z => z v hvw c1 c2 (Or.inl c3))
          rw [eK_151_3]
          simp (disch := omega) only [eK_151_4, eK_151_5, pw_bipush, pw_goto, pw_iconst, pw_nop0, qw_aload_n0, qw_gf_b, qw_gf_i, qw_gf_r, qw_iaload, qw_if_eq, qw_if_icmp_ge, qw_if_icmp_ne, qw_if_ne, qw_iinc3, qw_iload_n2, qw_iload_n3, qw_invokevirtual3, qw_ireturn, mm_rf_c, mm_rt_v, mm_rt_i, mm_rt_r, mm_alc_n, mm_alc_c, mm_rc_n, mm_rc_c, mm_wd_n, mm_wd_i, mm_wd_l, mm_wd_r, reduceCtorEq, false_implies, implies_true, true_implies, true_or, or_true, false_or, or_false, not_false_eq_true, mm_nl_n, mm_nl_i, mm_nl_r, mm_args_n, mm_args_i, mm_args_l, mm_args_r, mm_pad_0, mm_pad_n, mm_pad_c, List.length_cons, List.length_nil, List.nil_append, List.cons_append, Nat.zero_le, Nat.sub_zero, true_and, and_true, Nat.reduceAdd, Nat.reduceLeDiff, Nat.reduceLT, Nat.reduceSub, Nat.lt_irrefl, Nat.zero_add, Nat.add_zero, Nat.le_refl, k_20, k_10, k_01, ↓mm_if_T, ↓mm_if_F, ↓if10, ↓if00, not_true_eq_false, tf_01, ↓mm_if_tf, ↓mm_if_tn, ↓mm_if_nn, ↓mm_if_f hlt, z_120 (d + 2) hL hn hM hR hW hvn, g1, g2, vi_, ci_, rv, rw_, nI_1, ↓mm_if_t c1, ↓mm_if_t c2', r_150 d hL hn hM hR hW hvn hw c1 h5, ↓mm_if_f c3]
          exact this
      · have c2' : ¬ nI (f v) = nI (f w) := fun z => c2 ((nI_eq (by omega) (by omega)).mp z)
        have kk := key (fun u hu2 a b => by
          by_cases e : u = v
          · rw [e] at b; exact absurd b c2
          · exact hu u (by omega) a b)
        rw [eK_151_3]
        simp (disch := omega) only [eK_151_4, eK_151_5, pw_bipush, pw_goto, pw_iconst, pw_nop0, qw_aload_n0, qw_gf_b, qw_gf_i, qw_gf_r, qw_iaload, qw_if_eq, qw_if_icmp_ge, qw_if_icmp_ne, qw_if_ne, qw_iinc3, qw_iload_n2, qw_iload_n3, qw_invokevirtual3, qw_ireturn, mm_rf_c, mm_rt_v, mm_rt_i, mm_rt_r, mm_alc_n, mm_alc_c, mm_rc_n, mm_rc_c, mm_wd_n, mm_wd_i, mm_wd_l, mm_wd_r, reduceCtorEq, false_implies, implies_true, true_implies, true_or, or_true, false_or, or_false, not_false_eq_true, mm_nl_n, mm_nl_i, mm_nl_r, mm_args_n, mm_args_i, mm_args_l, mm_args_r, mm_pad_0, mm_pad_n, mm_pad_c, List.length_cons, List.length_nil, List.nil_append, List.cons_append, Nat.zero_le, Nat.sub_zero, true_and, and_true, Nat.reduceAdd, Nat.reduceLeDiff, Nat.reduceLT, Nat.reduceSub, Nat.lt_irrefl, Nat.zero_add, Nat.add_zero, Nat.le_refl, k_20, k_10, k_01, ↓mm_if_T, ↓mm_if_F, ↓if10, ↓if00, not_true_eq_false, tf_01, ↓mm_if_tf, ↓mm_if_tn, ↓mm_if_nn, ↓mm_if_f hlt, z_120 (d + 2) hL hn hM hR hW hvn, g1, g2, vi_, ci_, rv, rw_, nI_1, ↓mm_if_t c1, ↓mm_if_f c2']
        exact kk
    · have kk := key (fun u hu2 a b => by
        by_cases e : u = v
        · rw [e] at a; exact absurd a c1
        · exact hu u (by omega) a b)
      rw [eK_151_3]
      simp (disch := omega) only [eK_151_4, eK_151_5, pw_bipush, pw_goto, pw_iconst, pw_nop0, qw_aload_n0, qw_gf_b, qw_gf_i, qw_gf_r, qw_iaload, qw_if_eq, qw_if_icmp_ge, qw_if_icmp_ne, qw_if_ne, qw_iinc3, qw_iload_n2, qw_iload_n3, qw_invokevirtual3, qw_ireturn, mm_rf_c, mm_rt_v, mm_rt_i, mm_rt_r, mm_alc_n, mm_alc_c, mm_rc_n, mm_rc_c, mm_wd_n, mm_wd_i, mm_wd_l, mm_wd_r, reduceCtorEq, false_implies, implies_true, true_implies, true_or, or_true, false_or, or_false, not_false_eq_true, mm_nl_n, mm_nl_i, mm_nl_r, mm_args_n, mm_args_i, mm_args_l, mm_args_r, mm_pad_0, mm_pad_n, mm_pad_c, List.length_cons, List.length_nil, List.nil_append, List.cons_append, Nat.zero_le, Nat.sub_zero, true_and, and_true, Nat.reduceAdd, Nat.reduceLeDiff, Nat.reduceLT, Nat.reduceSub, Nat.lt_irrefl, Nat.zero_add, Nat.add_zero, Nat.le_refl, k_20, k_10, k_01, ↓mm_if_T, ↓mm_if_F, ↓if10, ↓if00, not_true_eq_false, tf_01, ↓mm_if_tf, ↓mm_if_tn, ↓mm_if_nn, ↓mm_if_f hlt, z_120 (d + 2) hL hn hM hR hW hvn, g1, g2, vi_, ci_, rv, rw_, nI_1, ↓mm_if_f c1]
      exact kk

set_option maxHeartbeats 4000000 in
theorem k_151 (d : Nat) {M : mm_M} {post : mm_Post} {n : Nat} {X : Sx} (hL : LyM M) (hn : n ≤ 7) (hM : RM M n X.1.1) (hR : RB M 0 n X) (hW : WF n X.1.1) {f : Nat → Nat} (rg : ∀ v, v < 7 → mm_I M 7 14 v = nI (f v)) (hf : ∀ v, v < 7 → f v ≤ 7) (h1 : (∀ w, w < n → h_ok X.1.1 f w) → post (some (.inl (nI (h_us X.1.1 f n)))) M) (h0 : ¬ (∀ w, w < n → h_ok X.1.1 f w) → post (some (.inl 99)) M) : ∀ (m w : Nat) (z : Option mm_V), w + m = n → (∀ u, u < w → h_ok X.1.1 f u) → pK (d + 3) 151 post 1 [some (.inr (.inr (6, 0))), some (.inl (nI (h_us X.1.1 f w))), some (.inl (nI w)), z] [] M (0, 0) := by
  have g1 : mm_R M 6 0 19 = some 14 := hL.1.2.2.2.2.2.2.2.2.2.2.1
  have g2 : mm_L M 7 14 = 7 := hL.2.2.2.2.2.2.2.2.2.2.2.1
  have hm := hM.1
  intro m
  induction m with
  | zero =>
    intro w z hw ho
    have e : w = n := by omega
    subst e
    rw [eK_151_1]
    simp (disch := omega) only [eK_151_7, pw_bipush, pw_iconst, qw_aload_n0, qw_gf_b, qw_gf_i, qw_gf_r, qw_iaload, qw_if_eq, qw_if_icmp_ge, qw_if_icmp_le, qw_iload_n1, qw_iload_n2, qw_invokevirtual3, qw_ireturn, mm_rf_c, mm_rt_v, mm_rt_i, mm_rt_r, mm_alc_n, mm_alc_c, mm_rc_n, mm_rc_c, mm_wd_n, mm_wd_i, mm_wd_l, mm_wd_r, reduceCtorEq, false_implies, implies_true, true_implies, true_or, or_true, false_or, or_false, not_false_eq_true, mm_nl_n, mm_nl_i, mm_nl_r, mm_args_n, mm_args_i, mm_args_l, mm_args_r, mm_pad_0, mm_pad_n, mm_pad_c, List.length_cons, List.length_nil, List.nil_append, List.cons_append, Nat.zero_le, Nat.sub_zero, true_and, and_true, Nat.reduceAdd, Nat.reduceLeDiff, Nat.reduceLT, Nat.reduceSub, Nat.lt_irrefl, Nat.zero_add, Nat.add_zero, Nat.le_refl, k_20, k_10, k_01, ↓mm_if_T, ↓mm_if_F, ↓if10, ↓if00, not_true_eq_false, tf_01, ↓mm_if_tf, ↓mm_if_tn, ↓mm_if_nn, hm, ↓mm_if_t (nI_le (Nat.le_refl w) (show w < 2 ^ 31 by omega))]
    exact h1 ho
  | succ m ih =>
    intro w z hw ho
    have hwn : w < n := by omega
    obtain ⟨v1, v2, v3⟩ := nI_v7 hwn hn
    have rw_ := rg w (by omega)
    have fw := hf w (by omega)
    have hu8 := h_us_le (A := X.1.1) hf w (by omega)
    have key := fun z => ih (w + 1) z (by omega)
    have hun : h_us X.1.1 f (w + 1) = if X.1.1 w 5 = 2 then (if h_us X.1.1 f w ≤ f w then f w + 1 else h_us X.1.1 f w) else h_us X.1.1 f w := rfl
    rw [hun] at key
    by_cases c1 : X.1.1 w 5 = 2
    · rw [if_pos c1] at key
      by_cases c2 : f w ≤ h_us X.1.1 f w
      · have c2' : nI (f w) ≤ nI (h_us X.1.1 f w) := nI_le c2 (by omega)
        have el : (if nI (h_us X.1.1 f w) < nI (f w + 1) then nI (f w + 1) else nI (h_us X.1.1 f w)) = nI (if h_us X.1.1 f w ≤ f w then f w + 1 else h_us X.1.1 f w) := by
          by_cases c3 : h_us X.1.1 f w ≤ f w
          · rw [if_pos c3, if_pos (nI_lt (by omega) (by omega))]
          · rw [if_neg c3, if_neg (nI_nlt (by omega) (by omega))]
        have fin := k_151i d hL hn hM hR hW rg hf hwn c1 (post := post) (nI (if h_us X.1.1 f w ≤ f w then f w + 1 else h_us X.1.1 f w)) (fun hfr z => by
          have kk := key z (fun u hu => by
            by_cases e : u = w
            · rw [e]; exact fun _ => ⟨c2, hfr⟩
            · exact ho u (by omega))
          rw [eK_151_6]
          simp (disch := omega) only [pw_goto, qw_iinc2, mm_rf_c, mm_rt_v, mm_rt_i, mm_rt_r, mm_alc_n, mm_alc_c, mm_rc_n, mm_rc_c, mm_wd_n, mm_wd_i, mm_wd_l, mm_wd_r, reduceCtorEq, false_implies, implies_true, true_implies, true_or, or_true, false_or, or_false, not_false_eq_true, mm_nl_n, mm_nl_i, mm_nl_r, mm_args_n, mm_args_i, mm_args_l, mm_args_r, mm_pad_0, mm_pad_n, mm_pad_c, List.length_cons, List.length_nil, List.nil_append, List.cons_append, Nat.zero_le, Nat.sub_zero, true_and, and_true, Nat.reduceAdd, Nat.reduceLeDiff, Nat.reduceLT, Nat.reduceSub, Nat.lt_irrefl, Nat.zero_add, Nat.add_zero, Nat.le_refl, k_20, k_10, k_01, ↓mm_if_T, ↓mm_if_F, ↓if10, ↓if00, not_true_eq_false, tf_01, ↓mm_if_tf, ↓mm_if_tn, ↓mm_if_nn, nI_1]
          exact kk) (fun hfr => h0 (fun y => hfr (y w hwn c1).2)) w 0 (by omega) (fun u hu => by omega)
        rw [eK_151_1]
        simp (disch := omega) only [eK_151_2, pw_bipush, pw_iconst, pw_nop0, qw_aload_n0, qw_gf_b, qw_gf_i, qw_gf_r, qw_iadd, qw_iaload, qw_if_eq, qw_if_icmp_ge, qw_if_icmp_le, qw_iload_n1, qw_iload_n2, qw_invokestatic2, qw_invokevirtual3, qw_ireturn, qw_istore_n1, qw_istore_n3, mm_rf_c, mm_rt_v, mm_rt_i, mm_rt_r, mm_alc_n, mm_alc_c, mm_rc_n, mm_rc_c, mm_wd_n, mm_wd_i, mm_wd_l, mm_wd_r, reduceCtorEq, false_implies, implies_true, true_implies, true_or, or_true, false_or, or_false, not_false_eq_true, mm_nl_n, mm_nl_i, mm_nl_r, mm_args_n, mm_args_i, mm_args_l, mm_args_r, mm_pad_0, mm_pad_n, mm_pad_c, List.length_cons, List.length_nil, List.nil_append, List.cons_append, Nat.zero_le, Nat.sub_zero, true_and, and_true, Nat.reduceAdd, Nat.reduceLeDiff, Nat.reduceLT, Nat.reduceSub, Nat.lt_irrefl, Nat.zero_add, Nat.add_zero, Nat.le_refl, k_20, k_10, k_01, ↓mm_if_T, ↓mm_if_F, ↓if10, ↓if00, not_true_eq_false, tf_01, ↓mm_if_tf, ↓mm_if_tn, ↓mm_if_nn, hm, ↓mm_if_f v3, z_120 (d + 2) hL hn hM hR hW hwn, ↓mm_if_t c1, g1, g2, vi_, ci_, rw_, ↓mm_if_t c2', nI_1, r_99 (d + 2), el]
        exact fin
      · have c2' : ¬ nI (f w) ≤ nI (h_us X.1.1 f w) := nI_ge (by omega) (by omega)
        have := h0 (fun y => c2 (y w hwn c1).1)
        rw [eK_151_1]
        simp (disch := omega) only [eK_151_2, pw_bipush, pw_iconst, pw_nop0, qw_aload_n0, qw_gf_b, qw_gf_i, qw_gf_r, qw_iadd, qw_iaload, qw_if_eq, qw_if_icmp_ge, qw_if_icmp_le, qw_iload_n1, qw_iload_n2, qw_invokestatic2, qw_invokevirtual3, qw_ireturn, qw_istore_n1, qw_istore_n3, mm_rf_c, mm_rt_v, mm_rt_i, mm_rt_r, mm_alc_n, mm_alc_c, mm_rc_n, mm_rc_c, mm_wd_n, mm_wd_i, mm_wd_l, mm_wd_r, reduceCtorEq, false_implies, implies_true, true_implies, true_or, or_true, false_or, or_false, not_false_eq_true, mm_nl_n, mm_nl_i, mm_nl_r, mm_args_n, mm_args_i, mm_args_l, mm_args_r, mm_pad_0, mm_pad_n, mm_pad_c, List.length_cons, List.length_nil, List.nil_append, List.cons_append, Nat.zero_le, Nat.sub_zero, true_and, and_true, Nat.reduceAdd, Nat.reduceLeDiff, Nat.reduceLT, Nat.reduceSub, Nat.lt_irrefl, Nat.zero_add, Nat.add_zero, Nat.le_refl, k_20, k_10, k_01, ↓mm_if_T, ↓mm_if_F, ↓if10, ↓if00, not_true_eq_false, tf_01, ↓mm_if_tf, ↓mm_if_tn, ↓mm_if_nn, hm, ↓mm_if_f v3, z_120 (d + 2) hL hn hM hR hW hwn, ↓mm_if_t c1, g1, g2, vi_, ci_, rw_, ↓mm_if_f c2']
        exact this
    · rw [if_neg c1] at key
      have kk := fun z => key z (fun u hu => by
        by_cases e : u = w
        · rw [e]; exact fun y => absurd y c1
        · exact ho u (by omega))
      rw [eK_151_1]
      simp (disch := omega) only [eK_151_6, pw_bipush, pw_goto, pw_iconst, qw_aload_n0, qw_gf_b, qw_gf_i, qw_gf_r, qw_iaload, qw_if_eq, qw_if_icmp_ge, qw_if_icmp_le, qw_iinc2, qw_iload_n1, qw_iload_n2, qw_invokevirtual3, qw_ireturn, mm_rf_c, mm_rt_v, mm_rt_i, mm_rt_r, mm_alc_n, mm_alc_c, mm_rc_n, mm_rc_c, mm_wd_n, mm_wd_i, mm_wd_l, mm_wd_r, reduceCtorEq, false_implies, implies_true, true_implies, true_or, or_true, false_or, or_false, not_false_eq_true, mm_nl_n, mm_nl_i, mm_nl_r, mm_args_n, mm_args_i, mm_args_l, mm_args_r, mm_pad_0, mm_pad_n, mm_pad_c, List.length_cons, List.length_nil, List.nil_append, List.cons_append, Nat.zero_le, Nat.sub_zero, true_and, and_true, Nat.reduceAdd, Nat.reduceLeDiff, Nat.reduceLT, Nat.reduceSub, Nat.lt_irrefl, Nat.zero_add, Nat.add_zero, Nat.le_refl, k_20, k_10, k_01, ↓mm_if_T, ↓mm_if_F, ↓if10, ↓if00, not_true_eq_false, tf_01, ↓mm_if_tf, ↓mm_if_tn, ↓mm_if_nn, hm, ↓mm_if_f v3, z_120 (d + 2) hL hn hM hR hW hwn, ↓mm_if_f c1, nI_1]
      exact kk _
theorem r_151 (d : Nat) {M : mm_M} {post : mm_Post} {n : Nat} {X : Sx} (hL : LyM M) (hn : n ≤ 7) (hM : RM M n X.1.1) (hR : RB M 0 n X) (hW : WF n X.1.1) {f : Nat → Nat} (rg : ∀ v, v < 7 → mm_I M 7 14 v = nI (f v)) (hf : ∀ v, v < 7 → f v ≤ 7) (h1 : (∀ w, w < n → h_ok X.1.1 f w) → post (some (.inl (nI (h_us X.1.1 f n)))) M) (h0 : ¬ (∀ w, w < n → h_ok X.1.1 f w) → post (some (.inl 99)) M) : pC (d + 4) 151 [.inr (.inr (6, 0))] M post := by
  have := k_151 d hL hn hM hR hW rg hf h1 h0 n 0 none (by omega) (fun u hu => by omega)
  simp (disch := omega) only [eC_151, eK_151_0, pw_iconst, pw_nop0, qw_istore_n1, qw_istore_n2, mm_rf_c, mm_rt_v, mm_rt_i, mm_rt_r, mm_alc_n, mm_alc_c, mm_rc_n, mm_rc_c, mm_wd_n, mm_wd_i, mm_wd_l, mm_wd_r, reduceCtorEq, false_implies, implies_true, true_implies, true_or, or_true, false_or, or_false, not_false_eq_true, mm_nl_n, mm_nl_i, mm_nl_r, mm_args_n, mm_args_i, mm_args_l, mm_args_r, mm_pad_0, mm_pad_n, mm_pad_c, List.length_cons, List.length_nil, List.nil_append, List.cons_append, Nat.zero_le, Nat.sub_zero, true_and, and_true, Nat.reduceAdd, Nat.reduceLeDiff, Nat.reduceLT, Nat.reduceSub, Nat.lt_irrefl, Nat.zero_add, Nat.add_zero, Nat.le_refl, k_20, k_10, k_01, ↓mm_if_T, ↓mm_if_F, ↓if10, ↓if00, not_true_eq_false, tf_01, ↓mm_if_tf, ↓mm_if_tn, ↓mm_if_nn]
  exact this

/- the order of the ways -/
def h_l (A : Nat → Nat → Int32) (n : Nat) (g f : Nat → Nat) : Prop := ∃ w, w < n ∧ A w 5 = 2 ∧ g w < f w ∧ ∀ v, v < w → A v 5 = 2 → g v = f v
def h_q (A : Nat → Nat → Int32) (n : Nat) (g f : Nat → Nat) : Prop := ∀ w, w < n → A w 5 = 2 → g w = f w
def h_al (A : Nat → Nat → Int32) (n : Nat) (g : Nat → Nat) : Prop := ∀ w, w < n → h_ok A g w
def h_E (A : Nat → Nat → Int32) (n : Nat) (f : Nat → Nat) : Prop := ∀ w, (w < n → A w 5 = 2 → f w ≤ w) ∧ (¬ (w < n ∧ A w 5 = 2) → f w = 0)
theorem h_le {A : Nat → Nat → Int32} {n : Nat} {g f : Nat → Nat} (h : ∀ j, j < n → A j 5 = 2 → g j ≤ f j) : h_l A n g f ∨ h_q A n g f := by
  have key : ∀ m, m ≤ n → (∃ w, w < m ∧ A w 5 = 2 ∧ g w < f w ∧ ∀ v, v < w → A v 5 = 2 → g v = f v) ∨ ∀ w, w < m → A w 5 = 2 → g w = f w := by
    intro m
    induction m with
    | zero => intro _; right; intro w hw; omega
    | succ m ih =>
      intro hm
      rcases ih (by omega) with ⟨w, a, b, c, d⟩ | z
      · left; exact ⟨w, by omega, b, c, d⟩
      · by_cases c : A m 5 = 2
        · by_cases e : g m = f m
          · right; intro w hw hh
            by_cases e2 : w = m
            · rw [e2]; exact e
            · exact z w (by omega) hh
          · left; exact ⟨m, by omega, c, by have := h m (by omega) c; omega, z⟩
        · right; intro w hw hh
          by_cases e2 : w = m
          · rw [e2] at hh; exact absurd hh c
          · exact z w (by omega) hh
  rcases key n (by omega) with z | z
  · exact Or.inl z
  · exact Or.inr z
theorem h_ok_w {A : Nat → Nat → Int32} {n : Nat} {g : Nat → Nat} (h : h_al A n g) : ∀ w, w < n → A w 5 = 2 → g w ≤ w := fun w hw hh => Nat.le_trans (h w hw hh).1 (h_us_w w (fun v hv => h v (by omega)))
theorem h_al_c {A : Nat → Nat → Int32} {n : Nat} {g f : Nat → Nat} (e : h_q A n g f) (h : h_al A n g) : h_al A n f := by
  intro w hw hh
  have h1 := h w hw hh
  rw [← e w hw hh, ← h_us_c w (fun v hv hv5 => e v (by omega) hv5)]
  refine ⟨h1.1, fun v hv hv5 q => h1.2 v hv hv5 ?_⟩
  rw [e v (by omega) hv5, q, e w hw hh]
theorem h_l_q {A : Nat → Nat → Int32} {n : Nat} {l f g : Nat → Nat} (h : h_l A n l f) (e : h_q A n g f) : h_l A n l g := by
  obtain ⟨w, a, b, c, d⟩ := h
  exact ⟨w, a, b, by rw [e w a b]; exact c, fun v hv hh => by rw [e v (by omega) hh]; exact d v hv hh⟩
theorem h_l_t {A : Nat → Nat → Int32} {n : Nat} {l f g : Nat → Nat} (h : h_l A n l f) (h' : h_l A n f g) : h_l A n l g := by
  obtain ⟨w, a, b, c, d⟩ := h
  obtain ⟨u, a', b', c', d'⟩ := h'
  rcases Nat.lt_trichotomy w u with z | z | z
  · exact ⟨w, a, b, by rw [← d' w z b]; exact c, fun v hv hh => by rw [d v hv hh, d' v (by omega) hh]⟩
  · subst z; exact ⟨w, a, b, by omega, fun v hv hh => by rw [d v hv hh, d' v hv hh]⟩
  · exact ⟨u, a', b', by rw [d u z b']; exact c', fun v hv hh => by rw [d v (by omega) hh, d' v hv hh]⟩
/-- what is known of the ways ahead of f (cv: f itself too) -/
def h_I (A : Nat → Nat → Int32) (n : Nat) (cv : Bool) (f : Nat → Nat) (c : Nat) (l : Nat → Nat) : Prop :=
  (c = 99 ∧ ∀ g, h_al A n g → ¬ h_l A n g f ∧ (cv = true → ¬ h_q A n g f)) ∨
  (c ≤ 7 ∧ h_al A n l ∧ h_us A l n = c ∧ (h_l A n l f ∨ (cv = true ∧ h_q A n l f)) ∧ ∀ g, h_al A n g → (h_l A n g f ∨ (cv = true ∧ h_q A n g f)) → c ≤ h_us A g n ∧ (h_us A g n = c → h_lx A n l g))
theorem h_I_c {A : Nat → Nat → Int32} {n : Nat} {cv : Bool} {f l l' : Nat → Nat} {c : Nat} (h : h_I A n cv f c l) (e : ∀ w, w < n → l' w = l w) : c = 99 ∨ h_I A n cv f c l' := by
  rcases h with z | ⟨a, b, d, k, g⟩
  · exact Or.inl z.1
  · right; right
    have q : h_q A n l l' := fun w hw _ => (e w hw).symm
    have q' : h_q A n l' l := fun w hw _ => e w hw
    refine ⟨a, h_al_c q b, by rw [← h_us_c n (fun v hv hh => q v hv hh)]; exact d, ?_, fun g0 hg hc => ⟨(g g0 hg hc).1, fun y => ?_⟩⟩
    · rcases k with ⟨w, a, b, c, d⟩ | ⟨y, k⟩
      · left; exact ⟨w, a, b, by rw [e w a]; exact c, fun v hv hh => by rw [e v (by omega)]; exact d v hv hh⟩
      · right; exact ⟨y, fun w hw hh => by rw [e w hw]; exact k w hw hh⟩
    · rcases (g g0 hg hc).2 y with z | ⟨w, a, b, c, d⟩
      · left; intro w hw hh; rw [e w hw]; exact z w hw hh
      · right; exact ⟨w, a, b, by rw [e w a]; exact c, fun v hv hh => by rw [e v (by omega)]; exact d v hv hh⟩
/-- f is looked at, and is a better way -/
theorem h_I_new {A : Nat → Nat → Int32} {n : Nat} {f l : Nat → Nat} {c : Nat} (h : h_I A n false f c l) (ho : h_al A n f) (h7 : h_us A f n ≤ 7) (hc : h_us A f n < c) : h_I A n true f (h_us A f n) f := by
  refine Or.inr ⟨h7, ho, rfl, Or.inr ⟨rfl, fun _ _ _ => rfl⟩, fun g hg z => ?_⟩
  rcases z with z | ⟨_, z⟩
  · rcases h with ⟨_, k⟩ | ⟨_, _, _, _, k⟩
    · exact absurd z (k g hg).1
    · have := (k g hg (Or.inl z)).1
      exact ⟨by omega, fun y => by omega⟩
  · rw [h_us_c n (fun v hv hh => z v hv hh)]
    exact ⟨Nat.le_refl _, fun _ => Or.inl (fun w hw hh => (z w hw hh).symm)⟩
/-- f is looked at, and is no better way -/
theorem h_I_old {A : Nat → Nat → Int32} {n : Nat} {f l : Nat → Nat} {c : Nat} (h : h_I A n false f c l) (ho : h_al A n f → h_us A f n ≤ 7 ∧ c ≤ h_us A f n) : h_I A n true f c l := by
  rcases h with ⟨e, k⟩ | ⟨a, b, d, k, g⟩
  · refine Or.inl ⟨e, fun g hg => ⟨(k g hg).1, fun _ z => ?_⟩⟩
    have := ho (h_al_c z hg)
    omega
  · have kl : h_l A n l f := by
      rcases k with z | ⟨z, _⟩
      · exact z
      · exact absurd z (by decide)
    refine Or.inr ⟨a, b, d, Or.inl kl, fun g0 hg z => ?_⟩
    rcases z with z | ⟨_, z⟩
    · exact g g0 hg (Or.inl z)
    · have := ho (h_al_c z hg)
      refine ⟨by rw [h_us_c n (fun v hv hh => z v hv hh)]; exact this.2, fun _ => Or.inr ?_⟩
      obtain ⟨w, a, b, c, d⟩ := h_l_q kl z
      exact ⟨w, a, b, c, d⟩
def h_nx (f : Nat → Nat) (k : Nat) : Nat → Nat := fun v => if v < k then f v else if v = k then f k + 1 else 0
theorem h_nx_l {A : Nat → Nat → Int32} {n : Nat} {f : Nat → Nat} {k : Nat} (hk : k < n) (h5 : A k 5 = 2) : h_l A n f (h_nx f k) := ⟨k, hk, h5, by unfold h_nx; rw [if_neg (by omega), if_pos rfl]; omega, fun v hv _ => by unfold h_nx; rw [if_pos hv]⟩
theorem h_nx_b {A : Nat → Nat → Int32} {n : Nat} {f g : Nat → Nat} {k : Nat} (hk : k < n) (hmx : ∀ u, k < u → u < n → A u 5 = 2 → u ≤ f u) (hg : h_al A n g) (h : h_l A n g (h_nx f k)) : h_l A n g f ∨ h_q A n g f := by
  obtain ⟨w, a, b, c, d⟩ := h
  unfold h_nx at c d
  rcases Nat.lt_trichotomy w k with z | z | z
  · left
    rw [if_pos z] at c
    exact ⟨w, a, b, c, fun v hv hh => by have := d v hv hh; rw [if_pos (by omega)] at this; exact this⟩
  · subst z
    rw [if_neg (by omega), if_pos rfl] at c
    refine h_le (fun j hj hh => ?_)
    rcases Nat.lt_trichotomy j w with y | y | y
    · have := d j y hh
      rw [if_pos y] at this
      omega
    · subst y; omega
    · exact Nat.le_trans (h_ok_w hg j hj hh) (hmx j y hj hh)
  · rw [if_neg (by omega), if_neg (by omega)] at c
    omega
theorem h_I_nx {A : Nat → Nat → Int32} {n : Nat} {f l : Nat → Nat} {c k : Nat} (hk : k < n) (h5 : A k 5 = 2) (hmx : ∀ u, k < u → u < n → A u 5 = 2 → u ≤ f u) (h : h_I A n true f c l) : h_I A n false (h_nx f k) c l := by
  rcases h with ⟨e, h⟩ | ⟨a, b, d, k', g⟩
  · exact Or.inl ⟨e, fun g hg => ⟨fun z => (h_nx_b hk hmx hg z).elim (h g hg).1 ((h g hg).2 rfl), fun z => absurd z (by decide)⟩⟩
  · refine Or.inr ⟨a, b, d, Or.inl ?_, fun g0 hg z => ?_⟩
    · rcases k' with z | ⟨_, z⟩
      · exact h_l_t z (h_nx_l hk h5)
      · obtain ⟨w, a, b, c, d⟩ := h_nx_l (A := A) (n := n) (f := f) hk h5
        exact ⟨w, a, b, by rw [z w a b]; exact c, fun v hv hh => by rw [z v (by omega) hh]; exact d v hv hh⟩
    · rcases z with z | ⟨z, _⟩
      · exact g g0 hg ((h_nx_b hk hmx hg z).elim Or.inl (fun y => Or.inr ⟨rfl, y⟩))
      · exact absurd z (by decide)
theorem h_I_end {A : Nat → Nat → Int32} {n : Nat} {f l : Nat → Nat} {c : Nat} (hmx : ∀ u, u < n → A u 5 = 2 → u ≤ f u) (h : h_I A n true f c l) : c ≤ 7 ∧ h_be A n c l := by
  have cov : ∀ g, h_al A n g → h_l A n g f ∨ h_q A n g f := fun g hg => h_le (fun j hj hh => Nat.le_trans (h_ok_w hg j hj hh) (hmx j hj hh))
  rcases h with ⟨e, h⟩ | ⟨a, b, d, k', g⟩
  · exfalso
    have hr : h_al A n (h_rk A) := fun w _ => h_rk_ok A w
    rcases cov _ hr with z | z
    · exact (h _ hr).1 z
    · exact (h _ hr).2 rfl z
  · refine ⟨a, b, d, fun g0 hg => (g g0 hg ((cov g0 hg).elim Or.inl (fun y => Or.inr ⟨rfl, y⟩))).1, fun g0 hg => (g g0 hg ((cov g0 hg).elim Or.inl (fun y => Or.inr ⟨rfl, y⟩))).2⟩
def h_v (A : Nat → Nat → Int32) (f : Nat → Nat) : Nat → Nat
  | 0 => 0
  | w + 1 => h_v A f w * (w + 1) + f w
def fc : Nat → Nat
  | 0 => 1
  | w + 1 => fc w * (w + 1)
theorem h_E_w {A : Nat → Nat → Int32} {n : Nat} {f : Nat → Nat} (h : h_E A n f) (w : Nat) : f w ≤ w := by
  by_cases c : w < n ∧ A w 5 = 2
  · exact (h w).1 c.1 c.2
  · rw [(h w).2 c]; omega
theorem h_v_lt {A : Nat → Nat → Int32} {n : Nat} {f : Nat → Nat} (h : h_E A n f) : ∀ w, h_v A f w + 1 ≤ fc w
  | 0 => Nat.le_refl 1
  | w + 1 => by
    have ih := h_v_lt h w
    have := h_E_w h w
    show h_v A f w * (w + 1) + f w + 1 ≤ fc w * (w + 1)
    have := Nat.mul_le_mul_right (w + 1) ih
    rw [Nat.add_mul, Nat.one_mul] at this
    omega
theorem h_v_nx {A : Nat → Nat → Int32} {n : Nat} {f : Nat → Nat} {k : Nat} (h : h_E A n f) : ∀ m, (m ≤ k → h_v A (h_nx f k) m = h_v A f m) ∧ (k < m → h_v A f m < h_v A (h_nx f k) m)
  | 0 => ⟨fun _ => rfl, fun z => by omega⟩
  | m + 1 => by
    obtain ⟨i1, i2⟩ := h_v_nx (k := k) h m
    have hm := h_E_w h m
    refine ⟨fun z => ?_, fun z => ?_⟩
    · show h_v A (h_nx f k) m * (m + 1) + h_nx f k m = h_v A f m * (m + 1) + f m
      rw [i1 (by omega)]
      unfold h_nx
      rw [if_pos (by omega)]
    · show h_v A f m * (m + 1) + f m < h_v A (h_nx f k) m * (m + 1) + h_nx f k m
      by_cases e : k = m
      · subst e
        rw [i1 (by omega)]
        unfold h_nx
        rw [if_neg (by omega), if_pos rfl]
        omega
      · have := Nat.mul_le_mul_right (m + 1) (Nat.succ_le_of_lt (i2 (by omega)))
        rw [Nat.succ_mul] at this
        omega
theorem fc_7 : ∀ n, n < 8 → fc n ≤ 5040 := by decide +kernel
theorem h_E_nx {A : Nat → Nat → Int32} {n : Nat} {f : Nat → Nat} {k : Nat} (h : h_E A n f) (hk : k < n) (h5 : A k 5 = 2) (hl : f k < k) : h_E A n (h_nx f k) := by
  intro w
  unfold h_nx
  rcases Nat.lt_trichotomy w k with z | z | z
  · rw [if_pos z]; exact h w
  · subst z
    rw [if_neg (by omega), if_pos rfl]
    exact ⟨fun _ _ => by omega, fun y => absurd ⟨hk, h5⟩ y⟩
  · rw [if_neg (by omega), if_neg (by omega)]
    exact ⟨fun _ _ => by omega, fun _ => rfl⟩

