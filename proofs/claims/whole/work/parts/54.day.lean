/-! THE REFERENCE: a day goes by -/
theorem g_ho_u {X : St} {w u k : Nat} (h : ¬ u = w) : (g_ho X w).1 u k = X.1 u k := by
  unfold g_ho g_me
  by_cases c : X.1 w 2 ≤ X.1 w 3 + 1
  · rw [if_pos c]
    simp (disch := omega) only [up_w]
  · rw [if_neg c]
    simp (disch := omega) only [up_w]
theorem g_ho_k {X : St} {w u k : Nat} (h : k < 3) : (g_ho X w).1 u k = X.1 u k := by
  unfold g_ho g_me
  by_cases c : X.1 w 2 ≤ X.1 w 3 + 1
  · rw [if_pos c]
    simp (disch := omega) only [up_k]
  · rw [if_neg c]
    simp (disch := omega) only [up_k]
theorem g_gl_u {X : St} {S : Int32} {u k : Nat} : ∀ v, v ≤ u → (g_gl X S v).1 u k = X.1 u k
  | 0, _ => rfl
  | v + 1, h => by
    have ih := g_gl_u (X := X) (S := S) (u := u) (k := k) v (by omega)
    unfold g_gl
    by_cases c : (S >>> (nI v &&& 31)) &&& 1 = 1
    · rw [if_pos c, g_ho_u (by omega)]; exact ih
    · rw [if_neg c]; exact ih
theorem g_gl_k {X : St} {S : Int32} {u k : Nat} (hk : k < 3) : ∀ v, (g_gl X S v).1 u k = X.1 u k
  | 0 => rfl
  | v + 1 => by
    have ih := g_gl_k (X := X) (S := S) (u := u) hk v
    unfold g_gl
    by_cases c : (S >>> (nI v &&& 31)) &&& 1 = 1
    · rw [if_pos c, g_ho_k hk]; exact ih
    · rw [if_neg c]; exact ih
theorem bI_z (n : Nat) : bI (fun _ => 0) n = 0 := by
  induction n with
  | zero => rfl
  | succ n ih => unfold bI; rw [if_neg (fun z => z rfl)]; exact ih
theorem g_gl_0 {X : St} {n : Nat} (hn : n ≤ 7) : ∀ v, v ≤ n → g_gl X (bI (fun _ => 0) n) v = X
  | 0, _ => rfl
  | v + 1, h => by
    unfold g_gl
    rw [bI_bit hn (by omega), tf_f (fun z => z rfl), if_neg (by decide)]
    exact g_gl_0 hn v (by omega)

set_option maxHeartbeats 4000000 in
theorem k_143a (d : Nat) {M : mm_M} {post : mm_Post} {B n : Nat} {X : Sx} (hL : LyM M) (hB : B ≤ 429) (hn : n ≤ 7) (hM : RM M n X.1.1) (hR : RB M B n X) (hW : WF n X.1.1) (sn S : Int32) (hS : S = if sn = 0 then g_hb X.1.1 n (g_ev X.2) n else 0) (h : pK (d + 4) 143 post 5 [some (.inr (.inr (6, 0))), some (.inl (nI B)), some (.inl sn), some (.inl S), some (.inl 0)] [] M (0, 0)) : ∀ (m v : Nat), v + m = n → pK (d + 4) 143 post 1 [some (.inr (.inr (6, 0))), some (.inl (nI B)), some (.inl sn), some (.inl (if sn = 0 then g_hb X.1.1 n (g_ev X.2) v else 0)), some (.inl (nI v))] [] M (0, 0) := by
  have hm := hM.1
  intro m
  induction m with
  | zero =>
    intro v hv
    have e : v = n := by omega
    subst e
    rw [← hS, eK_143_1]
    simp (disch := omega) only [eK_143_0, eK_143_2, eK_143_3, eK_143_4, eK_143_6, eK_143_7, pw_bipush, pw_goto, pw_iconst, pw_nop0, pw_return_, qw_aload_n0, qw_dup2, qw_gf_b, qw_gf_i, qw_gf_r, qw_iadd, qw_iaload, qw_iastore, qw_if_eq, qw_if_icmp_ge, qw_if_ne, qw_iinc4, qw_iload4, qw_iload_n1, qw_iload_n2, qw_iload_n3, qw_invokevirtual2, qw_invokevirtual4, qw_ior, qw_ishl, qw_istore4, qw_istore_n3, mm_rf_c, mm_rt_v, mm_rt_i, mm_rt_r, mm_alc_n, mm_alc_c, mm_rc_n, mm_rc_c, mm_wd_n, mm_wd_i, mm_wd_l, mm_wd_r, reduceCtorEq, false_implies, implies_true, true_implies, true_or, or_true, false_or, or_false, not_false_eq_true, mm_nl_n, mm_nl_i, mm_nl_r, mm_args_n, mm_args_i, mm_args_l, mm_args_r, mm_pad_0, mm_pad_n, mm_pad_c, List.length_cons, List.length_nil, List.nil_append, List.cons_append, Nat.zero_le, Nat.sub_zero, true_and, and_true, Nat.reduceAdd, Nat.reduceLeDiff, Nat.reduceLT, Nat.reduceSub, Nat.lt_irrefl, Nat.zero_add, Nat.add_zero, Nat.le_refl, k_20, k_10, k_01, ↓mm_if_T, ↓mm_if_F, ↓if10, ↓if00, not_true_eq_false, tf_01, ↓mm_if_tf, ↓mm_if_tn, ↓mm_if_nn, hm, ↓mm_if_t (nI_le (Nat.le_refl v) (show v < 2 ^ 31 by omega))]
    exact h
  | succ m ih =>
    intro v hv
    have hvn : v < n := by omega
    obtain ⟨v1, v2, v3⟩ := nI_v7 hvn hn
    have key := ih (v + 1) (by omega)
    have hun : g_hb X.1.1 n (g_ev X.2) (v + 1) = if ¬ g_hd X.1.1 n v (g_ev X.2) = 0 then g_hb X.1.1 n (g_ev X.2) v ||| (1 <<< (nI v &&& 31)) else g_hb X.1.1 n (g_ev X.2) v := rfl
    rw [hun] at key
    rw [eK_143_1]
    by_cases c1 : sn = 0
    · simp only [c1, if_true] at key ⊢
      by_cases c2 : g_hd X.1.1 n v (g_ev X.2) = 0
      · simp only [c2, not_true_eq_false, if_false] at key
        simp (disch := omega) only [eK_143_0, eK_143_2, eK_143_3, eK_143_4, eK_143_6, eK_143_7, pw_bipush, pw_goto, pw_iconst, pw_nop0, pw_return_, qw_aload_n0, qw_dup2, qw_gf_b, qw_gf_i, qw_gf_r, qw_iadd, qw_iaload, qw_iastore, qw_if_eq, qw_if_icmp_ge, qw_if_ne, qw_iinc4, qw_iload4, qw_iload_n1, qw_iload_n2, qw_iload_n3, qw_invokevirtual2, qw_invokevirtual4, qw_ior, qw_ishl, qw_istore4, qw_istore_n3, mm_rf_c, mm_rt_v, mm_rt_i, mm_rt_r, mm_alc_n, mm_alc_c, mm_rc_n, mm_rc_c, mm_wd_n, mm_wd_i, mm_wd_l, mm_wd_r, reduceCtorEq, false_implies, implies_true, true_implies, true_or, or_true, false_or, or_false, not_false_eq_true, mm_nl_n, mm_nl_i, mm_nl_r, mm_args_n, mm_args_i, mm_args_l, mm_args_r, mm_pad_0, mm_pad_n, mm_pad_c, List.length_cons, List.length_nil, List.nil_append, List.cons_append, Nat.zero_le, Nat.sub_zero, true_and, and_true, Nat.reduceAdd, Nat.reduceLeDiff, Nat.reduceLT, Nat.reduceSub, Nat.lt_irrefl, Nat.zero_add, Nat.add_zero, Nat.le_refl, k_20, k_10, k_01, ↓mm_if_T, ↓mm_if_F, ↓if10, ↓if00, not_true_eq_false, tf_01, ↓mm_if_tf, ↓mm_if_tn, ↓mm_if_nn, hm, ↓mm_if_f v3, r_126 (d + 3) hL hB hn hM hR hW, r_125 d hL hB hn hM hR hW hvn, ↓if00, ↓mm_if_t c2, nI_1, Int32.or_zero]
        exact key
      · simp only [c2, not_false_eq_true, if_true] at key
        simp (disch := omega) only [eK_143_0, eK_143_2, eK_143_3, eK_143_4, eK_143_6, eK_143_7, pw_bipush, pw_goto, pw_iconst, pw_nop0, pw_return_, qw_aload_n0, qw_dup2, qw_gf_b, qw_gf_i, qw_gf_r, qw_iadd, qw_iaload, qw_iastore, qw_if_eq, qw_if_icmp_ge, qw_if_ne, qw_iinc4, qw_iload4, qw_iload_n1, qw_iload_n2, qw_iload_n3, qw_invokevirtual2, qw_invokevirtual4, qw_ior, qw_ishl, qw_istore4, qw_istore_n3, mm_rf_c, mm_rt_v, mm_rt_i, mm_rt_r, mm_alc_n, mm_alc_c, mm_rc_n, mm_rc_c, mm_wd_n, mm_wd_i, mm_wd_l, mm_wd_r, reduceCtorEq, false_implies, implies_true, true_implies, true_or, or_true, false_or, or_false, not_false_eq_true, mm_nl_n, mm_nl_i, mm_nl_r, mm_args_n, mm_args_i, mm_args_l, mm_args_r, mm_pad_0, mm_pad_n, mm_pad_c, List.length_cons, List.length_nil, List.nil_append, List.cons_append, Nat.zero_le, Nat.sub_zero, true_and, and_true, Nat.reduceAdd, Nat.reduceLeDiff, Nat.reduceLT, Nat.reduceSub, Nat.lt_irrefl, Nat.zero_add, Nat.add_zero, Nat.le_refl, k_20, k_10, k_01, ↓mm_if_T, ↓mm_if_F, ↓if10, ↓if00, not_true_eq_false, tf_01, ↓mm_if_tf, ↓mm_if_tn, ↓mm_if_nn, hm, ↓mm_if_f v3, r_126 (d + 3) hL hB hn hM hR hW, r_125 d hL hB hn hM hR hW hvn, ↓if00, ↓mm_if_f c2, nI_1, Int32.or_zero]
        exact key
    · simp only [c1, if_false] at key ⊢
      simp (disch := omega) only [eK_143_0, eK_143_2, eK_143_3, eK_143_4, eK_143_6, eK_143_7, pw_bipush, pw_goto, pw_iconst, pw_nop0, pw_return_, qw_aload_n0, qw_dup2, qw_gf_b, qw_gf_i, qw_gf_r, qw_iadd, qw_iaload, qw_iastore, qw_if_eq, qw_if_icmp_ge, qw_if_ne, qw_iinc4, qw_iload4, qw_iload_n1, qw_iload_n2, qw_iload_n3, qw_invokevirtual2, qw_invokevirtual4, qw_ior, qw_ishl, qw_istore4, qw_istore_n3, mm_rf_c, mm_rt_v, mm_rt_i, mm_rt_r, mm_alc_n, mm_alc_c, mm_rc_n, mm_rc_c, mm_wd_n, mm_wd_i, mm_wd_l, mm_wd_r, reduceCtorEq, false_implies, implies_true, true_implies, true_or, or_true, false_or, or_false, not_false_eq_true, mm_nl_n, mm_nl_i, mm_nl_r, mm_args_n, mm_args_i, mm_args_l, mm_args_r, mm_pad_0, mm_pad_n, mm_pad_c, List.length_cons, List.length_nil, List.nil_append, List.cons_append, Nat.zero_le, Nat.sub_zero, true_and, and_true, Nat.reduceAdd, Nat.reduceLeDiff, Nat.reduceLT, Nat.reduceSub, Nat.lt_irrefl, Nat.zero_add, Nat.add_zero, Nat.le_refl, k_20, k_10, k_01, ↓mm_if_T, ↓mm_if_F, ↓if10, ↓if00, not_true_eq_false, tf_01, ↓mm_if_tf, ↓mm_if_tn, ↓mm_if_nn, hm, ↓mm_if_f v3, ↓mm_if_f c1, nI_1, Int32.or_zero]
      exact key

set_option maxHeartbeats 4000000 in
theorem k_143b (d : Nat) {M : mm_M} {post : mm_Post} {B n : Nat} {X : Sx} (hB : B ≤ 429) (hn : n ≤ 7) (f : Nat → Int32) (hf : ∀ w, w < n → ¬ f w = 0 → X.1.1 w 5 = 2) (sn : Int32) (h : ∀ M', RB M' B n (g_gl X.1 (bI f n) n, X.2 + 1) → FB M M' B → post none M') : ∀ (m v : Nat) (M1 : mm_M), v + m = n → LyM M1 → RM M1 n X.1.1 → RB M1 B n (g_gl X.1 (bI f n) v, X.2) → FB M M1 B → pK (d + 1) 143 post 5 [some (.inr (.inr (6, 0))), some (.inl (nI B)), some (.inl sn), some (.inl (bI f n)), some (.inl (nI v))] [] M1 (0, 0) := by
  intro m
  induction m with
  | zero =>
    intro v M hv hL hM hR hF
    have l1 := hL.1.2.2.2.2.2.2.1
    have l2 : mm_L M 7 11 = 468 := hL.2.2.2.2.2.2.2.1
    have a1 := hL.1.1
    have a2 := hL.1.2.1
    have a5 := hL.1.2.2.1
    have a3 : mm_L M 7 5 = 7 := hL.2.1
    have a4 : mm_L M 7 6 = 7 := hL.2.2.1
    have a6 : mm_L M 7 7 = 7 := hL.2.2.2.1
    have e : v = n := by omega
    subst e
    have hm := hM.1
    have h8 : mm_I M 7 11 (B + 38) = X.2 := hR.2.2.2.2
    rw [eK_143_5]
    simp (disch := omega) only [eK_143_0, eK_143_2, eK_143_3, eK_143_4, eK_143_6, eK_143_7, pw_bipush, pw_goto, pw_iconst, pw_nop0, pw_return_, qw_aload_n0, qw_dup2, qw_gf_b, qw_gf_i, qw_gf_r, qw_iadd, qw_iaload, qw_iastore, qw_if_eq, qw_if_icmp_ge, qw_if_icmp_lt, qw_iinc4, qw_iload4, qw_iload_n1, qw_iload_n3, qw_invokestatic2, qw_invokevirtual3, qw_ior, qw_ishl, qw_istore4, qw_istore_n3, mm_rf_c, mm_rt_v, mm_rt_i, mm_rt_r, mm_alc_n, mm_alc_c, mm_rc_n, mm_rc_c, mm_wd_n, mm_wd_i, mm_wd_l, mm_wd_r, reduceCtorEq, false_implies, implies_true, true_implies, true_or, or_true, false_or, or_false, not_false_eq_true, mm_nl_n, mm_nl_i, mm_nl_r, mm_args_n, mm_args_i, mm_args_l, mm_args_r, mm_pad_0, mm_pad_n, mm_pad_c, List.length_cons, List.length_nil, List.nil_append, List.cons_append, Nat.zero_le, Nat.sub_zero, true_and, and_true, Nat.reduceAdd, Nat.reduceLeDiff, Nat.reduceLT, Nat.reduceSub, Nat.lt_irrefl, Nat.zero_add, Nat.add_zero, Nat.le_refl, k_20, k_10, k_01, ↓mm_if_T, ↓mm_if_F, ↓if10, ↓if00, not_true_eq_false, tf_01, ↓mm_if_tf, ↓mm_if_tn, ↓mm_if_nn, l1, l2, a1, a2, a3, a4, a5, a6, nI_c7, nI_c8, nI_c15, nI_c22, nI_c29, nI_c36, nI_c361, nI_c38, nI_add, vi_, ci_, mm_L_s, mm_R_s, mm_I_c, mm_I_i, mm_I_k, mm_I_s, hm, ↓mm_if_t (nI_le (Nat.le_refl v) (show v < 2 ^ 31 by omega)), h8]
    exact h _ (RB_d hB hn hR _) (FB_s hF (by omega))
  | succ m ih =>
    intro v M hv hL hM hR hF
    have l1 := hL.1.2.2.2.2.2.2.1
    have l2 : mm_L M 7 11 = 468 := hL.2.2.2.2.2.2.2.1
    have a1 := hL.1.1
    have a2 := hL.1.2.1
    have a5 := hL.1.2.2.1
    have a3 : mm_L M 7 5 = 7 := hL.2.1
    have a4 : mm_L M 7 6 = 7 := hL.2.2.1
    have a6 : mm_L M 7 7 = 7 := hL.2.2.2.1
    have hvn : v < n := by omega
    obtain ⟨v1, v2, v3⟩ := nI_v7 hvn hn
    have hm := hM.1
    have h2 : mm_I M 7 7 v = (g_gl X.1 (bI f n) v).1 v 2 := by rw [g_gl_k (by omega)]; exact (hM.2 v hvn).2.2
    have h3 : mm_I M 7 11 (B + v) = (g_gl X.1 (bI f n) v).1 v 3 := (hR.1 v hvn).1
    have h7 : mm_I M 7 11 (B + 7) = g_fb (g_gl X.1 (bI f n) v).1 n := hR.2.1
    have key := ih (v + 1)
    have hun : g_gl X.1 (bI f n) (v + 1) = if (bI f n >>> (nI v &&& 31)) &&& 1 = 1 then g_ho (g_gl X.1 (bI f n) v) v else g_gl X.1 (bI f n) v := rfl
    rw [hun] at key
    rw [eK_143_5]
    by_cases c1 : (bI f n >>> (nI v &&& 31)) &&& 1 = 1
    · rw [if_pos c1] at key
      have hb2 : (g_gl X.1 (bI f n) v).1 v 5 = 2 := by
        rw [g_gl_u v (by omega)]
        refine hf v hvn ?_
        rw [bI_bit hn hvn, tf_1] at c1
        exact c1
      generalize hY : g_gl X.1 (bI f n) v = Y at *
      have r3 := RB_3 hB hn hR hvn (Y.1 v 3 + 1)
      dsimp only at r3
      unfold g_ho at key
      by_cases c2 : Y.1 v 3 + 1 < Y.1 v 2
      · rw [if_neg (Int32.not_le.mpr c2)] at key
        simp (disch := omega) only [eK_143_0, eK_143_2, eK_143_3, eK_143_4, eK_143_6, eK_143_7, pw_bipush, pw_goto, pw_iconst, pw_nop0, pw_return_, qw_aload_n0, qw_dup2, qw_gf_b, qw_gf_i, qw_gf_r, qw_iadd, qw_iaload, qw_iastore, qw_if_eq, qw_if_icmp_ge, qw_if_icmp_lt, qw_iinc4, qw_iload4, qw_iload_n1, qw_iload_n3, qw_invokestatic2, qw_invokevirtual3, qw_ior, qw_ishl, qw_istore4, qw_istore_n3, mm_rf_c, mm_rt_v, mm_rt_i, mm_rt_r, mm_alc_n, mm_alc_c, mm_rc_n, mm_rc_c, mm_wd_n, mm_wd_i, mm_wd_l, mm_wd_r, reduceCtorEq, false_implies, implies_true, true_implies, true_or, or_true, false_or, or_false, not_false_eq_true, mm_nl_n, mm_nl_i, mm_nl_r, mm_args_n, mm_args_i, mm_args_l, mm_args_r, mm_pad_0, mm_pad_n, mm_pad_c, List.length_cons, List.length_nil, List.nil_append, List.cons_append, Nat.zero_le, Nat.sub_zero, true_and, and_true, Nat.reduceAdd, Nat.reduceLeDiff, Nat.reduceLT, Nat.reduceSub, Nat.lt_irrefl, Nat.zero_add, Nat.add_zero, Nat.le_refl, k_20, k_10, k_01, ↓mm_if_T, ↓mm_if_F, ↓if10, ↓if00, not_true_eq_false, tf_01, ↓mm_if_tf, ↓mm_if_tn, ↓mm_if_nn, l1, l2, a1, a2, a3, a4, a5, a6, nI_c7, nI_c8, nI_c15, nI_c22, nI_c29, nI_c36, nI_c361, nI_c38, nI_add, vi_, ci_, mm_L_s, mm_R_s, mm_I_c, mm_I_i, mm_I_k, mm_I_s, hm, ↓mm_if_f v3, v1, v2, r_98 d, ↓mm_if_t c1, h2, h3, h7, ↓mm_if_t c2, nI_1]
        exact key _ (by omega) (LyM_2 rfl hL) (RM_B hM (FB_s (FB_rf M B) (by omega))) r3 (FB_s hF (by omega))
      · rw [if_pos (Int32.not_lt.mp c2)] at key
        have r4 := RB_4 hB hn r3 hvn
        dsimp only at r4
        have eg : g_fb (up Y.1 v 3 (Y.1 v 3 + 1)) n = g_fb Y.1 n := g_fb_c (fun u _ => up_k (by omega))
        rw [eg] at r4
        have hb3 : ¬ (up (up Y.1 v 3 (Y.1 v 3 + 1)) v 4 1) v 5 = 0 := by rw [up_k (by omega), up_k (by omega), hb2]; decide
        have hL4 : LyM (mm_sI (mm_sI M 7 11 (B + v) (Y.1 v 3 + 1)) 7 11 (B + 7) (g_fb Y.1 n ||| (1 <<< (nI v &&& 31)))) := LyM_2 rfl hL
        have r5 := RB_melts hB hn r4 hvn
        simp (disch := omega) only [eK_143_0, eK_143_2, eK_143_3, eK_143_4, eK_143_6, eK_143_7, pw_bipush, pw_goto, pw_iconst, pw_nop0, pw_return_, qw_aload_n0, qw_dup2, qw_gf_b, qw_gf_i, qw_gf_r, qw_iadd, qw_iaload, qw_iastore, qw_if_eq, qw_if_icmp_ge, qw_if_icmp_lt, qw_iinc4, qw_iload4, qw_iload_n1, qw_iload_n3, qw_invokestatic2, qw_invokevirtual3, qw_ior, qw_ishl, qw_istore4, qw_istore_n3, mm_rf_c, mm_rt_v, mm_rt_i, mm_rt_r, mm_alc_n, mm_alc_c, mm_rc_n, mm_rc_c, mm_wd_n, mm_wd_i, mm_wd_l, mm_wd_r, reduceCtorEq, false_implies, implies_true, true_implies, true_or, or_true, false_or, or_false, not_false_eq_true, mm_nl_n, mm_nl_i, mm_nl_r, mm_args_n, mm_args_i, mm_args_l, mm_args_r, mm_pad_0, mm_pad_n, mm_pad_c, List.length_cons, List.length_nil, List.nil_append, List.cons_append, Nat.zero_le, Nat.sub_zero, true_and, and_true, Nat.reduceAdd, Nat.reduceLeDiff, Nat.reduceLT, Nat.reduceSub, Nat.lt_irrefl, Nat.zero_add, Nat.add_zero, Nat.le_refl, k_20, k_10, k_01, ↓mm_if_T, ↓mm_if_F, ↓if10, ↓if00, not_true_eq_false, tf_01, ↓mm_if_tf, ↓mm_if_tn, ↓mm_if_nn, l1, l2, a1, a2, a3, a4, a5, a6, nI_c7, nI_c8, nI_c15, nI_c22, nI_c29, nI_c36, nI_c361, nI_c38, nI_add, vi_, ci_, mm_L_s, mm_R_s, mm_I_c, mm_I_i, mm_I_k, mm_I_s, hm, ↓mm_if_f v3, v1, v2, r_98 d, ↓mm_if_t c1, h2, h3, h7, ↓mm_if_f c2, r_136 d hL4 hB hn r4 hvn hb3, nI_1]
        exact key _ (by omega) (LyM_2 rfl hL) (RM_B hM (FB_s (FB_s (FB_s (FB_s (FB_s (FB_s (FB_s (FB_rf M B) (by omega)) (by omega)) (by omega)) (by omega)) (by omega)) (by omega)) (by omega))) r5 (FB_s (FB_s (FB_s (FB_s (FB_s (FB_s (FB_s hF (by omega)) (by omega)) (by omega)) (by omega)) (by omega)) (by omega)) (by omega))
    · rw [if_neg c1] at key
      simp (disch := omega) only [eK_143_0, eK_143_2, eK_143_3, eK_143_4, eK_143_6, eK_143_7, pw_bipush, pw_goto, pw_iconst, pw_nop0, pw_return_, qw_aload_n0, qw_dup2, qw_gf_b, qw_gf_i, qw_gf_r, qw_iadd, qw_iaload, qw_iastore, qw_if_eq, qw_if_icmp_ge, qw_if_icmp_lt, qw_iinc4, qw_iload4, qw_iload_n1, qw_iload_n3, qw_invokestatic2, qw_invokevirtual3, qw_ior, qw_ishl, qw_istore4, qw_istore_n3, mm_rf_c, mm_rt_v, mm_rt_i, mm_rt_r, mm_alc_n, mm_alc_c, mm_rc_n, mm_rc_c, mm_wd_n, mm_wd_i, mm_wd_l, mm_wd_r, reduceCtorEq, false_implies, implies_true, true_implies, true_or, or_true, false_or, or_false, not_false_eq_true, mm_nl_n, mm_nl_i, mm_nl_r, mm_args_n, mm_args_i, mm_args_l, mm_args_r, mm_pad_0, mm_pad_n, mm_pad_c, List.length_cons, List.length_nil, List.nil_append, List.cons_append, Nat.zero_le, Nat.sub_zero, true_and, and_true, Nat.reduceAdd, Nat.reduceLeDiff, Nat.reduceLT, Nat.reduceSub, Nat.lt_irrefl, Nat.zero_add, Nat.add_zero, Nat.le_refl, k_20, k_10, k_01, ↓mm_if_T, ↓mm_if_F, ↓if10, ↓if00, not_true_eq_false, tf_01, ↓mm_if_tf, ↓mm_if_tn, ↓mm_if_nn, l1, l2, a1, a2, a3, a4, a5, a6, hm, ↓mm_if_f v3, r_98 d, ↓mm_if_f c1, nI_1]
      exact key _ (by omega) hL hM hR hF

theorem r_143 (d : Nat) {M : mm_M} {post : mm_Post} {B n : Nat} {X : Sx} (hL : LyM M) (hB : B ≤ 429) (hn : n ≤ 7) (hM : RM M n X.1.1) (hR : RB M B n X) (hW : WF n X.1.1) (sn : Int32) (h : ∀ M', RB M' B n (if sn = 0 then g_dx n X else g_sn X) → FB M M' B → post none M') : pC (d + 5) 143 [.inr (.inr (6, 0)), .inl (nI B), .inl sn] M post := by
  have e0 : (if sn = 0 then g_hb X.1.1 n (g_ev X.2) 0 else 0) = 0 := by by_cases c : sn = 0 <;> simp only [c, if_true, if_false] <;> rfl
  have key : pK (d + 4) 143 post 1 [some (.inr (.inr (6, 0))), some (.inl (nI B)), some (.inl sn), some (.inl 0), some (.inl 0)] [] M (0, 0) := by
    by_cases c : sn = 0
    · have b := k_143b (d + 3) (M := M) (post := post) (X := X) hB hn (fun w => g_hd X.1.1 n w (g_ev X.2)) (fun w hw z => by
        unfold g_hd at z
        rw [tf_0] at z
        exact (Classical.not_not.mp z).1) sn (fun M' r f => h M' (by rw [if_pos c]; unfold g_dx g_go; rw [g_hb_bI]; exact r) f) n 0 M (by omega) hL hM hR (FB_rf M B)
      have a := k_143a d hL hB hn hM hR hW sn (bI (fun w => g_hd X.1.1 n w (g_ev X.2)) n) (by rw [if_pos c, g_hb_bI]) b n 0 (by omega)
      rw [e0] at a
      exact a
    · have b := k_143b (d + 3) (M := M) (post := post) (X := X) hB hn (fun _ => 0) (fun w hw z => absurd rfl z) sn (fun M' r f => h M' (by rw [if_neg c]; rw [g_gl_0 hn n (by omega)] at r; exact r) f) n 0 M (by omega) hL hM hR (FB_rf M B)
      have a := k_143a d hL hB hn hM hR hW sn (bI (fun _ => 0) n) (by rw [if_neg c, bI_z]) b n 0 (by omega)
      rw [e0] at a
      exact a
  simp (disch := omega) only [eC_143, eK_143_0, pw_iconst, pw_nop0, qw_istore4, qw_istore_n3, mm_rf_c, mm_rt_v, mm_rt_i, mm_rt_r, mm_alc_n, mm_alc_c, mm_rc_n, mm_rc_c, mm_wd_n, mm_wd_i, mm_wd_l, mm_wd_r, reduceCtorEq, false_implies, implies_true, true_implies, true_or, or_true, false_or, or_false, not_false_eq_true, mm_nl_n, mm_nl_i, mm_nl_r, mm_args_n, mm_args_i, mm_args_l, mm_args_r, mm_pad_0, mm_pad_n, mm_pad_c, List.length_cons, List.length_nil, List.nil_append, List.cons_append, Nat.zero_le, Nat.sub_zero, true_and, and_true, Nat.reduceAdd, Nat.reduceLeDiff, Nat.reduceLT, Nat.reduceSub, Nat.lt_irrefl, Nat.zero_add, Nat.add_zero, Nat.le_refl, k_20, k_10, k_01, ↓mm_if_T, ↓mm_if_F, ↓if10, ↓if00, not_true_eq_false, tf_01, ↓mm_if_tf, ↓mm_if_tn, ↓mm_if_nn]
  exact key

