/-! THE REFERENCE: which, count, years -/
set_option maxHeartbeats 2000000 in
theorem k_156i (d : Nat) {M : mm_M} {post : mm_Post} {n : Nat} {X : Sx} (hL : LyM M) (hn : n ≤ 7) (hM : RM M n X.1.1) (hR : RB M 0 n X) (hW : WF n X.1.1) {q : Nat} {nx nl : Nat → Int32} (j1 : mm_I M 6 0 16 = nI q) (j2 : ∀ i, i < q → mm_I M 7 12 i = nx i ∧ mm_I M 7 13 i = nl i) (hq : q ≤ 6) (hnx : ∀ i, i < q → 0 ≤ nx i ∧ nx i ≤ 40) {w : Nat} (hw : w < n) (hh : X.1.1 w 5 = 2) (S : Int32) (h : ∀ z, pK (d + 2) 156 post 5 [some (.inr (.inr (6, 0))), some (.inl S), some (.inl (nI w)), some (.inl (g_nf X.1.1 w nx nl q)), z] [] M (0, 0)) : ∀ (m k : Nat), k + m = q → pK (d + 2) 156 post 2 [some (.inr (.inr (6, 0))), some (.inl S), some (.inl (nI w)), some (.inl (g_nf X.1.1 w nx nl k)), some (.inl (nI k))] [] M (0, 0) := by
  have l1 := hL.1.2.2.2.2.2.2.2.2.1
  have l2 := hL.1.2.2.2.2.2.2.2.2.2.1
  have l3 : mm_L M 7 12 = 6 := hL.2.2.2.2.2.2.2.2.2.1
  have l4 : mm_L M 7 13 = 6 := hL.2.2.2.2.2.2.2.2.2.2.1
  intro m
  induction m with
  | zero =>
    intro k hk
    have e : k = q := by omega
    subst e
    rw [eK_156_2]
    simp (disch := omega) only [pw_goto, pw_iconst, qw_aload_n0, qw_gf_b, qw_gf_i, qw_gf_r, qw_iaload, qw_if_eq, qw_if_icmp_ge, qw_if_icmp_ne, qw_iload4, qw_iload_n2, qw_iload_n3, qw_invokevirtual4, mm_rf_c, mm_rt_v, mm_rt_i, mm_rt_r, mm_alc_n, mm_alc_c, mm_rc_n, mm_rc_c, mm_wd_n, mm_wd_i, mm_wd_l, mm_wd_r, reduceCtorEq, false_implies, implies_true, true_implies, true_or, or_true, false_or, or_false, not_false_eq_true, mm_nl_n, mm_nl_i, mm_nl_r, mm_args_n, mm_args_i, mm_args_l, mm_args_r, mm_pad_0, mm_pad_n, mm_pad_c, List.length_cons, List.length_nil, List.nil_append, List.cons_append, Nat.zero_le, Nat.sub_zero, true_and, and_true, Nat.reduceAdd, Nat.reduceLeDiff, Nat.reduceLT, Nat.reduceSub, Nat.lt_irrefl, Nat.zero_add, Nat.add_zero, Nat.le_refl, k_20, k_10, k_01, ↓mm_if_T, ↓mm_if_F, ↓if10, ↓if00, not_true_eq_false, tf_01, ↓mm_if_tf, ↓mm_if_tn, ↓mm_if_nn, j1, ↓mm_if_t (nI_le (Nat.le_refl k) (show k < 2 ^ 31 by omega))]
    exact h _
  | succ m ih =>
    intro k hk
    have hlt : ¬ nI q ≤ nI k := nI_ge (by omega) (by omega)
    obtain ⟨y1, y2⟩ := j2 k (by omega)
    have hx := hnx k (by omega)
    by_cases c1 : g_nf X.1.1 w nx nl k = 0
    · have e := g_nf_0 c1 (m + 1)
      rw [hk] at e
      rw [e] at h
      rw [eK_156_2]
      simp (disch := omega) only [pw_goto, pw_iconst, qw_aload_n0, qw_gf_b, qw_gf_i, qw_gf_r, qw_iaload, qw_if_eq, qw_if_icmp_ge, qw_if_icmp_ne, qw_iload4, qw_iload_n2, qw_iload_n3, qw_invokevirtual4, mm_rf_c, mm_rt_v, mm_rt_i, mm_rt_r, mm_alc_n, mm_alc_c, mm_rc_n, mm_rc_c, mm_wd_n, mm_wd_i, mm_wd_l, mm_wd_r, reduceCtorEq, false_implies, implies_true, true_implies, true_or, or_true, false_or, or_false, not_false_eq_true, mm_nl_n, mm_nl_i, mm_nl_r, mm_args_n, mm_args_i, mm_args_l, mm_args_r, mm_pad_0, mm_pad_n, mm_pad_c, List.length_cons, List.length_nil, List.nil_append, List.cons_append, Nat.zero_le, Nat.sub_zero, true_and, and_true, Nat.reduceAdd, Nat.reduceLeDiff, Nat.reduceLT, Nat.reduceSub, Nat.lt_irrefl, Nat.zero_add, Nat.add_zero, Nat.le_refl, k_20, k_10, k_01, ↓mm_if_T, ↓mm_if_F, ↓if10, ↓if00, not_true_eq_false, tf_01, ↓mm_if_tf, ↓mm_if_tn, ↓mm_if_nn, j1, ↓mm_if_f hlt, ↓mm_if_t c1]
      rw [c1]
      exact h _
    · have key := ih (k + 1) (by omega)
      have hun : g_nf X.1.1 w nx nl (k + 1) = if g_nf X.1.1 w nx nl k = 0 then 0 else tf (f_lf (X.1.1 w 8) (X.1.1 w 9) (nx k) = nl k) := rfl
      rw [hun, if_neg c1] at key
      by_cases c2 : f_lf (X.1.1 w 8) (X.1.1 w 9) (nx k) = nl k
      · rw [tf_t c2] at key
        rw [eK_156_2]
        simp (disch := omega) only [eK_156_3, eK_156_4, pw_goto, pw_iconst, pw_nop0, qw_aload_n0, qw_gf_b, qw_gf_i, qw_gf_r, qw_iaload, qw_if_eq, qw_if_icmp_ge, qw_if_icmp_ne, qw_iinc4, qw_iload4, qw_iload_n2, qw_iload_n3, qw_invokevirtual4, qw_istore_n3, mm_rf_c, mm_rt_v, mm_rt_i, mm_rt_r, mm_alc_n, mm_alc_c, mm_rc_n, mm_rc_c, mm_wd_n, mm_wd_i, mm_wd_l, mm_wd_r, reduceCtorEq, false_implies, implies_true, true_implies, true_or, or_true, false_or, or_false, not_false_eq_true, mm_nl_n, mm_nl_i, mm_nl_r, mm_args_n, mm_args_i, mm_args_l, mm_args_r, mm_pad_0, mm_pad_n, mm_pad_c, List.length_cons, List.length_nil, List.nil_append, List.cons_append, Nat.zero_le, Nat.sub_zero, true_and, and_true, Nat.reduceAdd, Nat.reduceLeDiff, Nat.reduceLT, Nat.reduceSub, Nat.lt_irrefl, Nat.zero_add, Nat.add_zero, Nat.le_refl, k_20, k_10, k_01, ↓mm_if_T, ↓mm_if_F, ↓if10, ↓if00, not_true_eq_false, tf_01, ↓mm_if_tf, ↓mm_if_tn, ↓mm_if_nn, j1, ↓mm_if_f hlt, ↓mm_if_f c1, l1, l2, l3, l4, vi_, ci_, y1, y2, z_122 d hL hn hM hR hW hw hh _ hx, ↓mm_if_t c2, nI_1]
        exact key
      · rw [tf_f c2] at key
        rw [eK_156_2]
        simp (disch := omega) only [eK_156_3, eK_156_4, pw_goto, pw_iconst, pw_nop0, qw_aload_n0, qw_gf_b, qw_gf_i, qw_gf_r, qw_iaload, qw_if_eq, qw_if_icmp_ge, qw_if_icmp_ne, qw_iinc4, qw_iload4, qw_iload_n2, qw_iload_n3, qw_invokevirtual4, qw_istore_n3, mm_rf_c, mm_rt_v, mm_rt_i, mm_rt_r, mm_alc_n, mm_alc_c, mm_rc_n, mm_rc_c, mm_wd_n, mm_wd_i, mm_wd_l, mm_wd_r, reduceCtorEq, false_implies, implies_true, true_implies, true_or, or_true, false_or, or_false, not_false_eq_true, mm_nl_n, mm_nl_i, mm_nl_r, mm_args_n, mm_args_i, mm_args_l, mm_args_r, mm_pad_0, mm_pad_n, mm_pad_c, List.length_cons, List.length_nil, List.nil_append, List.cons_append, Nat.zero_le, Nat.sub_zero, true_and, and_true, Nat.reduceAdd, Nat.reduceLeDiff, Nat.reduceLT, Nat.reduceSub, Nat.lt_irrefl, Nat.zero_add, Nat.add_zero, Nat.le_refl, k_20, k_10, k_01, ↓mm_if_T, ↓mm_if_F, ↓if10, ↓if00, not_true_eq_false, tf_01, ↓mm_if_tf, ↓mm_if_tn, ↓mm_if_nn, j1, ↓mm_if_f hlt, ↓mm_if_f c1, l1, l2, l3, l4, vi_, ci_, y1, y2, z_122 d hL hn hM hR hW hw hh _ hx, ↓mm_if_f c2, nI_1]
        exact key

set_option maxHeartbeats 2000000 in
theorem k_156 (d : Nat) {M : mm_M} {post : mm_Post} {n : Nat} {X : Sx} (hL : LyM M) (hn : n ≤ 7) (hM : RM M n X.1.1) (hR : RB M 0 n X) (hW : WF n X.1.1) {q : Nat} {nx nl : Nat → Int32} (j1 : mm_I M 6 0 16 = nI q) (j2 : ∀ i, i < q → mm_I M 7 12 i = nx i ∧ mm_I M 7 13 i = nl i) (hq : q ≤ 6) (hnx : ∀ i, i < q → 0 ≤ nx i ∧ nx i ≤ 40) (h : post (some (.inl (G72 n X.1.1 q nx nl))) M) : ∀ (m v : Nat) (u z : Option mm_V), v + m = n → pK (d + 2) 156 post 1 [some (.inr (.inr (6, 0))), some (.inl (bI (fun w => tf (X.1.1 w 5 = 2 ∧ ¬ g_nf X.1.1 w nx nl q = 0)) v)), some (.inl (nI v)), u, z] [] M (0, 0) := by
  have hm := hM.1
  intro m
  induction m with
  | zero =>
    intro v u z hv
    have e : v = n := by omega
    subst e
    rw [eK_156_1]
    simp (disch := omega) only [eK_156_0, eK_156_3, eK_156_4, eK_156_5, eK_156_6, eK_156_7, eK_156_8, pw_goto, pw_iconst, pw_nop0, qw_aload_n0, qw_gf_b, qw_gf_i, qw_gf_r, qw_if_eq, qw_if_icmp_ge, qw_iinc2, qw_iinc4, qw_iload_n1, qw_iload_n2, qw_iload_n3, qw_invokevirtual3, qw_ior, qw_ireturn, qw_ishl, qw_istore4, qw_istore_n1, qw_istore_n2, qw_istore_n3, mm_rf_c, mm_rt_v, mm_rt_i, mm_rt_r, mm_alc_n, mm_alc_c, mm_rc_n, mm_rc_c, mm_wd_n, mm_wd_i, mm_wd_l, mm_wd_r, reduceCtorEq, false_implies, implies_true, true_implies, true_or, or_true, false_or, or_false, not_false_eq_true, mm_nl_n, mm_nl_i, mm_nl_r, mm_args_n, mm_args_i, mm_args_l, mm_args_r, mm_pad_0, mm_pad_n, mm_pad_c, List.length_cons, List.length_nil, List.nil_append, List.cons_append, Nat.zero_le, Nat.sub_zero, true_and, and_true, Nat.reduceAdd, Nat.reduceLeDiff, Nat.reduceLT, Nat.reduceSub, Nat.lt_irrefl, Nat.zero_add, Nat.add_zero, Nat.le_refl, k_20, k_10, k_01, ↓mm_if_T, ↓mm_if_F, ↓if10, ↓if00, not_true_eq_false, tf_01, ↓mm_if_tf, ↓mm_if_tn, ↓mm_if_nn, hm, ↓mm_if_t (nI_le (Nat.le_refl v) (show v < 2 ^ 31 by omega))]
    exact h
  | succ m ih =>
    intro v u z hv
    have hvn : v < n := by omega
    obtain ⟨v1, v2, v3⟩ := nI_v7 hvn hn
    have key := fun u z => ih (v + 1) u z (by omega)
    have hun : bI (fun w => tf (X.1.1 w 5 = 2 ∧ ¬ g_nf X.1.1 w nx nl q = 0)) (v + 1) = if ¬ tf (X.1.1 v 5 = 2 ∧ ¬ g_nf X.1.1 v nx nl q = 0) = 0 then bI (fun w => tf (X.1.1 w 5 = 2 ∧ ¬ g_nf X.1.1 w nx nl q = 0)) v ||| (1 <<< (nI v &&& 31)) else bI (fun w => tf (X.1.1 w 5 = 2 ∧ ¬ g_nf X.1.1 w nx nl q = 0)) v := rfl
    rw [hun] at key
    generalize bI (fun w => tf (X.1.1 w 5 = 2 ∧ ¬ g_nf X.1.1 w nx nl q = 0)) v = S at *
    by_cases c5 : X.1.1 v 5 = 2
    · have goal5 : ∀ z, pK (d + 2) 156 post 5 [some (.inr (.inr (6, 0))), some (.inl S), some (.inl (nI v)), some (.inl (g_nf X.1.1 v nx nl q)), z] [] M (0, 0) := by
        intro z
        by_cases c : g_nf X.1.1 v nx nl q = 0
        · rw [if_neg (fun y => y (tf_f (fun x => x.2 c)))] at key
          rw [eK_156_5]
          simp (disch := omega) only [eK_156_6, eK_156_7, pw_goto, pw_iconst, pw_nop0, qw_if_eq, qw_iinc2, qw_iload_n1, qw_iload_n2, qw_iload_n3, qw_ior, qw_ishl, qw_istore_n1, mm_rf_c, mm_rt_v, mm_rt_i, mm_rt_r, mm_alc_n, mm_alc_c, mm_rc_n, mm_rc_c, mm_wd_n, mm_wd_i, mm_wd_l, mm_wd_r, reduceCtorEq, false_implies, implies_true, true_implies, true_or, or_true, false_or, or_false, not_false_eq_true, mm_nl_n, mm_nl_i, mm_nl_r, mm_args_n, mm_args_i, mm_args_l, mm_args_r, mm_pad_0, mm_pad_n, mm_pad_c, List.length_cons, List.length_nil, List.nil_append, List.cons_append, Nat.zero_le, Nat.sub_zero, true_and, and_true, Nat.reduceAdd, Nat.reduceLeDiff, Nat.reduceLT, Nat.reduceSub, Nat.lt_irrefl, Nat.zero_add, Nat.add_zero, Nat.le_refl, k_20, k_10, k_01, ↓mm_if_T, ↓mm_if_F, ↓if10, ↓if00, not_true_eq_false, tf_01, ↓mm_if_tf, ↓mm_if_tn, ↓mm_if_nn, ↓mm_if_t c, nI_1, Int32.or_zero]
          exact key _ _
        · rw [if_pos (by rw [tf_t ⟨c5, c⟩]; decide)] at key
          rw [eK_156_5]
          simp (disch := omega) only [eK_156_6, eK_156_7, pw_goto, pw_iconst, pw_nop0, qw_if_eq, qw_iinc2, qw_iload_n1, qw_iload_n2, qw_iload_n3, qw_ior, qw_ishl, qw_istore_n1, mm_rf_c, mm_rt_v, mm_rt_i, mm_rt_r, mm_alc_n, mm_alc_c, mm_rc_n, mm_rc_c, mm_wd_n, mm_wd_i, mm_wd_l, mm_wd_r, reduceCtorEq, false_implies, implies_true, true_implies, true_or, or_true, false_or, or_false, not_false_eq_true, mm_nl_n, mm_nl_i, mm_nl_r, mm_args_n, mm_args_i, mm_args_l, mm_args_r, mm_pad_0, mm_pad_n, mm_pad_c, List.length_cons, List.length_nil, List.nil_append, List.cons_append, Nat.zero_le, Nat.sub_zero, true_and, and_true, Nat.reduceAdd, Nat.reduceLeDiff, Nat.reduceLT, Nat.reduceSub, Nat.lt_irrefl, Nat.zero_add, Nat.add_zero, Nat.le_refl, k_20, k_10, k_01, ↓mm_if_T, ↓mm_if_F, ↓if10, ↓if00, not_true_eq_false, tf_01, ↓mm_if_tf, ↓mm_if_tn, ↓mm_if_nn, ↓mm_if_f c, nI_1, Int32.or_zero]
          exact key _ _
      have := k_156i d hL hn hM hR hW j1 j2 hq hnx hvn c5 S goal5 q 0 (by omega)
      have e1 : g_nf X.1.1 v nx nl 0 = 1 := rfl
      have e2 : tf (X.1.1 v 5 = 2) = 1 := tf_t c5
      rw [e1] at this
      rw [eK_156_1]
      simp (disch := omega) only [pw_iconst, pw_nop0, qw_aload_n0, qw_gf_b, qw_gf_i, qw_gf_r, qw_if_icmp_ge, qw_iload_n2, qw_invokevirtual3, qw_istore4, qw_istore_n3, mm_rf_c, mm_rt_v, mm_rt_i, mm_rt_r, mm_alc_n, mm_alc_c, mm_rc_n, mm_rc_c, mm_wd_n, mm_wd_i, mm_wd_l, mm_wd_r, reduceCtorEq, false_implies, implies_true, true_implies, true_or, or_true, false_or, or_false, not_false_eq_true, mm_nl_n, mm_nl_i, mm_nl_r, mm_args_n, mm_args_i, mm_args_l, mm_args_r, mm_pad_0, mm_pad_n, mm_pad_c, List.length_cons, List.length_nil, List.nil_append, List.cons_append, Nat.zero_le, Nat.sub_zero, true_and, and_true, Nat.reduceAdd, Nat.reduceLeDiff, Nat.reduceLT, Nat.reduceSub, Nat.lt_irrefl, Nat.zero_add, Nat.add_zero, Nat.le_refl, k_20, k_10, k_01, ↓mm_if_T, ↓mm_if_F, ↓if10, ↓if00, not_true_eq_false, tf_01, ↓mm_if_tf, ↓mm_if_tn, ↓mm_if_nn, hm, ↓mm_if_f v3, z_120 (d + 1) hL hn hM hR hW hvn, e2]
      exact this
    · rw [if_neg (fun y => y (tf_f (fun x => c5 x.1)))] at key
      have e2 : tf (X.1.1 v 5 = 2) = 0 := tf_f c5
      rw [eK_156_1]
      simp (disch := omega) only [pw_iconst, pw_nop0, qw_aload_n0, qw_gf_b, qw_gf_i, qw_gf_r, qw_if_icmp_ge, qw_iload_n2, qw_invokevirtual3, qw_istore4, qw_istore_n3, mm_rf_c, mm_rt_v, mm_rt_i, mm_rt_r, mm_alc_n, mm_alc_c, mm_rc_n, mm_rc_c, mm_wd_n, mm_wd_i, mm_wd_l, mm_wd_r, reduceCtorEq, false_implies, implies_true, true_implies, true_or, or_true, false_or, or_false, not_false_eq_true, mm_nl_n, mm_nl_i, mm_nl_r, mm_args_n, mm_args_i, mm_args_l, mm_args_r, mm_pad_0, mm_pad_n, mm_pad_c, List.length_cons, List.length_nil, List.nil_append, List.cons_append, Nat.zero_le, Nat.sub_zero, true_and, and_true, Nat.reduceAdd, Nat.reduceLeDiff, Nat.reduceLT, Nat.reduceSub, Nat.lt_irrefl, Nat.zero_add, Nat.add_zero, Nat.le_refl, k_20, k_10, k_01, ↓mm_if_T, ↓mm_if_F, ↓if10, ↓if00, not_true_eq_false, tf_01, ↓mm_if_tf, ↓mm_if_tn, ↓mm_if_nn, hm, ↓mm_if_f v3, z_120 (d + 1) hL hn hM hR hW hvn, e2]
      by_cases c0 : nI q ≤ 0
      · rw [eK_156_2]
        simp (disch := omega) only [eK_156_5, eK_156_6, eK_156_7, pw_goto, pw_iconst, pw_nop0, qw_aload_n0, qw_gf_b, qw_gf_i, qw_gf_r, qw_iaload, qw_if_eq, qw_if_icmp_ge, qw_if_icmp_ne, qw_iinc2, qw_iload4, qw_iload_n1, qw_iload_n2, qw_iload_n3, qw_invokevirtual4, qw_ior, qw_ishl, qw_istore_n1, mm_rf_c, mm_rt_v, mm_rt_i, mm_rt_r, mm_alc_n, mm_alc_c, mm_rc_n, mm_rc_c, mm_wd_n, mm_wd_i, mm_wd_l, mm_wd_r, reduceCtorEq, false_implies, implies_true, true_implies, true_or, or_true, false_or, or_false, not_false_eq_true, mm_nl_n, mm_nl_i, mm_nl_r, mm_args_n, mm_args_i, mm_args_l, mm_args_r, mm_pad_0, mm_pad_n, mm_pad_c, List.length_cons, List.length_nil, List.nil_append, List.cons_append, Nat.zero_le, Nat.sub_zero, true_and, and_true, Nat.reduceAdd, Nat.reduceLeDiff, Nat.reduceLT, Nat.reduceSub, Nat.lt_irrefl, Nat.zero_add, Nat.add_zero, Nat.le_refl, k_20, k_10, k_01, ↓mm_if_T, ↓mm_if_F, ↓if10, ↓if00, not_true_eq_false, tf_01, ↓mm_if_tf, ↓mm_if_tn, ↓mm_if_nn, j1, ↓mm_if_t c0, nI_1, Int32.or_zero]
        exact key _ _
      · rw [eK_156_2]
        simp (disch := omega) only [eK_156_5, eK_156_6, eK_156_7, pw_goto, pw_iconst, pw_nop0, qw_aload_n0, qw_gf_b, qw_gf_i, qw_gf_r, qw_iaload, qw_if_eq, qw_if_icmp_ge, qw_if_icmp_ne, qw_iinc2, qw_iload4, qw_iload_n1, qw_iload_n2, qw_iload_n3, qw_invokevirtual4, qw_ior, qw_ishl, qw_istore_n1, mm_rf_c, mm_rt_v, mm_rt_i, mm_rt_r, mm_alc_n, mm_alc_c, mm_rc_n, mm_rc_c, mm_wd_n, mm_wd_i, mm_wd_l, mm_wd_r, reduceCtorEq, false_implies, implies_true, true_implies, true_or, or_true, false_or, or_false, not_false_eq_true, mm_nl_n, mm_nl_i, mm_nl_r, mm_args_n, mm_args_i, mm_args_l, mm_args_r, mm_pad_0, mm_pad_n, mm_pad_c, List.length_cons, List.length_nil, List.nil_append, List.cons_append, Nat.zero_le, Nat.sub_zero, true_and, and_true, Nat.reduceAdd, Nat.reduceLeDiff, Nat.reduceLT, Nat.reduceSub, Nat.lt_irrefl, Nat.zero_add, Nat.add_zero, Nat.le_refl, k_20, k_10, k_01, ↓mm_if_T, ↓mm_if_F, ↓if10, ↓if00, not_true_eq_false, tf_01, ↓mm_if_tf, ↓mm_if_tn, ↓mm_if_nn, j1, ↓mm_if_f c0, nI_1, Int32.or_zero]
        exact key _ _
theorem r_156 (d : Nat) {M : mm_M} {post : mm_Post} {n : Nat} {X : Sx} (hL : LyM M) (hn : n ≤ 7) (hM : RM M n X.1.1) (hR : RB M 0 n X) (hW : WF n X.1.1) {q : Nat} {nx nl : Nat → Int32} (j1 : mm_I M 6 0 16 = nI q) (j2 : ∀ i, i < q → mm_I M 7 12 i = nx i ∧ mm_I M 7 13 i = nl i) (hq : q ≤ 6) (hnx : ∀ i, i < q → 0 ≤ nx i ∧ nx i ≤ 40) : pC (d + 3) 156 [.inr (.inr (6, 0))] M post = post (some (.inl (G72 n X.1.1 q nx nl))) M := by
  refine pC_one (fun post h => ?_) post
  have := k_156 d hL hn hM hR hW j1 j2 hq hnx h n 0 none none (by omega)
  simp (disch := omega) only [eC_156, eK_156_0, pw_iconst, pw_nop0, qw_istore_n1, qw_istore_n2, mm_rf_c, mm_rt_v, mm_rt_i, mm_rt_r, mm_alc_n, mm_alc_c, mm_rc_n, mm_rc_c, mm_wd_n, mm_wd_i, mm_wd_l, mm_wd_r, reduceCtorEq, false_implies, implies_true, true_implies, true_or, or_true, false_or, or_false, not_false_eq_true, mm_nl_n, mm_nl_i, mm_nl_r, mm_args_n, mm_args_i, mm_args_l, mm_args_r, mm_pad_0, mm_pad_n, mm_pad_c, List.length_cons, List.length_nil, List.nil_append, List.cons_append, Nat.zero_le, Nat.sub_zero, true_and, and_true, Nat.reduceAdd, Nat.reduceLeDiff, Nat.reduceLT, Nat.reduceSub, Nat.lt_irrefl, Nat.zero_add, Nat.add_zero, Nat.le_refl, k_20, k_10, k_01, ↓mm_if_T, ↓mm_if_F, ↓if10, ↓if00, not_true_eq_false, tf_01, ↓mm_if_tf, ↓mm_if_tn, ↓mm_if_nn]
  exact this

def mo (n : Nat) (A : Nat → Nat → Int32) (dy x : Int32) (w : Nat) : Int32 := if x = 0 then tf (1 ≤ A w 5) else if x = 1 then tf (A w 5 = 2) else g_hd A n w (g_ev dy)
theorem k_163 (d : Nat) {M : mm_M} {post : mm_Post} {n : Nat} {X : Sx} (hL : LyM M) (hn : n ≤ 7) (hM : RM M n X.1.1) (hR : RB M 0 n X) (hW : WF n X.1.1) (x : Int32) (h : post (some (.inl (nI (ctn (mo n X.1.1 X.2 x) n)))) M) : ∀ (m v : Nat) (z : Option mm_V), v + m = n → pK (d + 4) 163 post 1 [some (.inr (.inr (6, 0))), some (.inl x), some (.inl (nI (ctn (mo n X.1.1 X.2 x) v))), some (.inl (nI v)), z] [] M (0, 0) := by
  have hm := hM.1
  intro m
  induction m with
  | zero =>
    intro v z hv
    have e : v = n := by omega
    subst e
    rw [eK_163_1]
    simp (disch := omega) only [eK_163_0, eK_163_2, eK_163_3, eK_163_4, eK_163_5, eK_163_6, eK_163_7, pw_goto, pw_iconst, pw_nop0, qw_aload_n0, qw_gf_b, qw_gf_i, qw_gf_r, qw_iadd, qw_if_eq, qw_if_icmp_ge, qw_if_icmp_ne, qw_if_ne, qw_iinc3, qw_iload4, qw_iload_n1, qw_iload_n2, qw_iload_n3, qw_invokevirtual2, qw_invokevirtual3, qw_invokevirtual4, qw_ireturn, qw_istore4, qw_istore_n2, qw_istore_n3, mm_rf_c, mm_rt_v, mm_rt_i, mm_rt_r, mm_alc_n, mm_alc_c, mm_rc_n, mm_rc_c, mm_wd_n, mm_wd_i, mm_wd_l, mm_wd_r, reduceCtorEq, false_implies, implies_true, true_implies, true_or, or_true, false_or, or_false, not_false_eq_true, mm_nl_n, mm_nl_i, mm_nl_r, mm_args_n, mm_args_i, mm_args_l, mm_args_r, mm_pad_0, mm_pad_n, mm_pad_c, List.length_cons, List.length_nil, List.nil_append, List.cons_append, Nat.zero_le, Nat.sub_zero, true_and, and_true, Nat.reduceAdd, Nat.reduceLeDiff, Nat.reduceLT, Nat.reduceSub, Nat.lt_irrefl, Nat.zero_add, Nat.add_zero, Nat.le_refl, k_20, k_10, k_01, ↓mm_if_T, ↓mm_if_F, ↓if10, ↓if00, not_true_eq_false, tf_01, ↓mm_if_tf, ↓mm_if_tn, ↓mm_if_nn, hm, ↓mm_if_t (nI_le (Nat.le_refl v) (show v < 2 ^ 31 by omega))]
    exact h
  | succ m ih =>
    intro v z hv
    have hvn : v < n := by omega
    obtain ⟨v1, v2, v3⟩ := nI_v7 hvn hn
    have key := fun z => ih (v + 1) z (by omega)
    have hun : ctn (mo n X.1.1 X.2 x) (v + 1) = if ¬ mo n X.1.1 X.2 x v = 0 then ctn (mo n X.1.1 X.2 x) v + 1 else ctn (mo n X.1.1 X.2 x) v := rfl
    rw [hun] at key
    by_cases c0 : x = 0
    · have e : mo n X.1.1 X.2 x v = tf (1 ≤ X.1.1 v 5) := if_pos c0
      rw [e] at key
      by_cases c : 1 ≤ X.1.1 v 5
      · rw [if_pos (by rw [tf_t c]; decide)] at key
        have e2 := tf_t c
        rw [eK_163_1]
        simp (disch := omega) only [eK_163_0, eK_163_2, eK_163_3, eK_163_4, eK_163_5, eK_163_6, eK_163_7, pw_goto, pw_iconst, pw_nop0, qw_aload_n0, qw_gf_b, qw_gf_i, qw_gf_r, qw_iadd, qw_if_eq, qw_if_icmp_ge, qw_if_icmp_ne, qw_if_ne, qw_iinc3, qw_iload4, qw_iload_n1, qw_iload_n2, qw_iload_n3, qw_invokevirtual2, qw_invokevirtual3, qw_invokevirtual4, qw_ireturn, qw_istore4, qw_istore_n2, qw_istore_n3, mm_rf_c, mm_rt_v, mm_rt_i, mm_rt_r, mm_alc_n, mm_alc_c, mm_rc_n, mm_rc_c, mm_wd_n, mm_wd_i, mm_wd_l, mm_wd_r, reduceCtorEq, false_implies, implies_true, true_implies, true_or, or_true, false_or, or_false, not_false_eq_true, mm_nl_n, mm_nl_i, mm_nl_r, mm_args_n, mm_args_i, mm_args_l, mm_args_r, mm_pad_0, mm_pad_n, mm_pad_c, List.length_cons, List.length_nil, List.nil_append, List.cons_append, Nat.zero_le, Nat.sub_zero, true_and, and_true, Nat.reduceAdd, Nat.reduceLeDiff, Nat.reduceLT, Nat.reduceSub, Nat.lt_irrefl, Nat.zero_add, Nat.add_zero, Nat.le_refl, k_20, k_10, k_01, ↓mm_if_T, ↓mm_if_F, ↓if10, ↓if00, not_true_eq_false, tf_01, ↓mm_if_tf, ↓mm_if_tn, ↓mm_if_nn, hm, ↓mm_if_f v3, z_121 (d + 3) hL hn hM hR hW hvn, z_120 (d + 3) hL hn hM hR hW hvn, z_126 (d + 3) hL hn hM hR hW, z_125 d hL hn hM hR hW hvn, nI_1, Int32.add_zero, ↓mm_if_t c0, e2]
        exact key _
      · rw [if_neg (fun z => z (tf_f c))] at key
        have e2 := tf_f c
        rw [eK_163_1]
        simp (disch := omega) only [eK_163_0, eK_163_2, eK_163_3, eK_163_4, eK_163_5, eK_163_6, eK_163_7, pw_goto, pw_iconst, pw_nop0, qw_aload_n0, qw_gf_b, qw_gf_i, qw_gf_r, qw_iadd, qw_if_eq, qw_if_icmp_ge, qw_if_icmp_ne, qw_if_ne, qw_iinc3, qw_iload4, qw_iload_n1, qw_iload_n2, qw_iload_n3, qw_invokevirtual2, qw_invokevirtual3, qw_invokevirtual4, qw_ireturn, qw_istore4, qw_istore_n2, qw_istore_n3, mm_rf_c, mm_rt_v, mm_rt_i, mm_rt_r, mm_alc_n, mm_alc_c, mm_rc_n, mm_rc_c, mm_wd_n, mm_wd_i, mm_wd_l, mm_wd_r, reduceCtorEq, false_implies, implies_true, true_implies, true_or, or_true, false_or, or_false, not_false_eq_true, mm_nl_n, mm_nl_i, mm_nl_r, mm_args_n, mm_args_i, mm_args_l, mm_args_r, mm_pad_0, mm_pad_n, mm_pad_c, List.length_cons, List.length_nil, List.nil_append, List.cons_append, Nat.zero_le, Nat.sub_zero, true_and, and_true, Nat.reduceAdd, Nat.reduceLeDiff, Nat.reduceLT, Nat.reduceSub, Nat.lt_irrefl, Nat.zero_add, Nat.add_zero, Nat.le_refl, k_20, k_10, k_01, ↓mm_if_T, ↓mm_if_F, ↓if10, ↓if00, not_true_eq_false, tf_01, ↓mm_if_tf, ↓mm_if_tn, ↓mm_if_nn, hm, ↓mm_if_f v3, z_121 (d + 3) hL hn hM hR hW hvn, z_120 (d + 3) hL hn hM hR hW hvn, z_126 (d + 3) hL hn hM hR hW, z_125 d hL hn hM hR hW hvn, nI_1, Int32.add_zero, ↓mm_if_t c0, e2]
        exact key _
    by_cases c1 : x = 1
    · have e : mo n X.1.1 X.2 x v = tf (X.1.1 v 5 = 2) := by unfold mo; rw [if_neg c0, if_pos c1]
      rw [e] at key
      by_cases c : X.1.1 v 5 = 2
      · rw [if_pos (by rw [tf_t c]; decide)] at key
        have e2 := tf_t c
        rw [eK_163_1]
        simp (disch := omega) only [eK_163_0, eK_163_2, eK_163_3, eK_163_4, eK_163_5, eK_163_6, eK_163_7, pw_goto, pw_iconst, pw_nop0, qw_aload_n0, qw_gf_b, qw_gf_i, qw_gf_r, qw_iadd, qw_if_eq, qw_if_icmp_ge, qw_if_icmp_ne, qw_if_ne, qw_iinc3, qw_iload4, qw_iload_n1, qw_iload_n2, qw_iload_n3, qw_invokevirtual2, qw_invokevirtual3, qw_invokevirtual4, qw_ireturn, qw_istore4, qw_istore_n2, qw_istore_n3, mm_rf_c, mm_rt_v, mm_rt_i, mm_rt_r, mm_alc_n, mm_alc_c, mm_rc_n, mm_rc_c, mm_wd_n, mm_wd_i, mm_wd_l, mm_wd_r, reduceCtorEq, false_implies, implies_true, true_implies, true_or, or_true, false_or, or_false, not_false_eq_true, mm_nl_n, mm_nl_i, mm_nl_r, mm_args_n, mm_args_i, mm_args_l, mm_args_r, mm_pad_0, mm_pad_n, mm_pad_c, List.length_cons, List.length_nil, List.nil_append, List.cons_append, Nat.zero_le, Nat.sub_zero, true_and, and_true, Nat.reduceAdd, Nat.reduceLeDiff, Nat.reduceLT, Nat.reduceSub, Nat.lt_irrefl, Nat.zero_add, Nat.add_zero, Nat.le_refl, k_20, k_10, k_01, ↓mm_if_T, ↓mm_if_F, ↓if10, ↓if00, not_true_eq_false, tf_01, ↓mm_if_tf, ↓mm_if_tn, ↓mm_if_nn, hm, ↓mm_if_f v3, z_121 (d + 3) hL hn hM hR hW hvn, z_120 (d + 3) hL hn hM hR hW hvn, z_126 (d + 3) hL hn hM hR hW, z_125 d hL hn hM hR hW hvn, nI_1, Int32.add_zero, ↓mm_if_f c0, ↓mm_if_t c1, e2]
        exact key _
      · rw [if_neg (fun z => z (tf_f c))] at key
        have e2 := tf_f c
        rw [eK_163_1]
        simp (disch := omega) only [eK_163_0, eK_163_2, eK_163_3, eK_163_4, eK_163_5, eK_163_6, eK_163_7, pw_goto, pw_iconst, pw_nop0, qw_aload_n0, qw_gf_b, qw_gf_i, qw_gf_r, qw_iadd, qw_if_eq, qw_if_icmp_ge, qw_if_icmp_ne, qw_if_ne, qw_iinc3, qw_iload4, qw_iload_n1, qw_iload_n2, qw_iload_n3, qw_invokevirtual2, qw_invokevirtual3, qw_invokevirtual4, qw_ireturn, qw_istore4, qw_istore_n2, qw_istore_n3, mm_rf_c, mm_rt_v, mm_rt_i, mm_rt_r, mm_alc_n, mm_alc_c, mm_rc_n, mm_rc_c, mm_wd_n, mm_wd_i, mm_wd_l, mm_wd_r, reduceCtorEq, false_implies, implies_true, true_implies, true_or, or_true, false_or, or_false, not_false_eq_true, mm_nl_n, mm_nl_i, mm_nl_r, mm_args_n, mm_args_i, mm_args_l, mm_args_r, mm_pad_0, mm_pad_n, mm_pad_c, List.length_cons, List.length_nil, List.nil_append, List.cons_append, Nat.zero_le, Nat.sub_zero, true_and, and_true, Nat.reduceAdd, Nat.reduceLeDiff, Nat.reduceLT, Nat.reduceSub, Nat.lt_irrefl, Nat.zero_add, Nat.add_zero, Nat.le_refl, k_20, k_10, k_01, ↓mm_if_T, ↓mm_if_F, ↓if10, ↓if00, not_true_eq_false, tf_01, ↓mm_if_tf, ↓mm_if_tn, ↓mm_if_nn, hm, ↓mm_if_f v3, z_121 (d + 3) hL hn hM hR hW hvn, z_120 (d + 3) hL hn hM hR hW hvn, z_126 (d + 3) hL hn hM hR hW, z_125 d hL hn hM hR hW hvn, nI_1, Int32.add_zero, ↓mm_if_f c0, ↓mm_if_t c1, e2]
        exact key _
    · have e : mo n X.1.1 X.2 x v = g_hd X.1.1 n v (g_ev X.2) := by unfold mo; rw [if_neg c0, if_neg c1]
      rw [e] at key
      by_cases c : g_hd X.1.1 n v (g_ev X.2) = 0
      · rw [if_neg (fun z => z c)] at key
        rw [eK_163_1]
        simp (disch := omega) only [eK_163_0, eK_163_2, eK_163_3, eK_163_4, eK_163_5, eK_163_6, eK_163_7, pw_goto, pw_iconst, pw_nop0, qw_aload_n0, qw_gf_b, qw_gf_i, qw_gf_r, qw_iadd, qw_if_eq, qw_if_icmp_ge, qw_if_icmp_ne, qw_if_ne, qw_iinc3, qw_iload4, qw_iload_n1, qw_iload_n2, qw_iload_n3, qw_invokevirtual2, qw_invokevirtual3, qw_invokevirtual4, qw_ireturn, qw_istore4, qw_istore_n2, qw_istore_n3, mm_rf_c, mm_rt_v, mm_rt_i, mm_rt_r, mm_alc_n, mm_alc_c, mm_rc_n, mm_rc_c, mm_wd_n, mm_wd_i, mm_wd_l, mm_wd_r, reduceCtorEq, false_implies, implies_true, true_implies, true_or, or_true, false_or, or_false, not_false_eq_true, mm_nl_n, mm_nl_i, mm_nl_r, mm_args_n, mm_args_i, mm_args_l, mm_args_r, mm_pad_0, mm_pad_n, mm_pad_c, List.length_cons, List.length_nil, List.nil_append, List.cons_append, Nat.zero_le, Nat.sub_zero, true_and, and_true, Nat.reduceAdd, Nat.reduceLeDiff, Nat.reduceLT, Nat.reduceSub, Nat.lt_irrefl, Nat.zero_add, Nat.add_zero, Nat.le_refl, k_20, k_10, k_01, ↓mm_if_T, ↓mm_if_F, ↓if10, ↓if00, not_true_eq_false, tf_01, ↓mm_if_tf, ↓mm_if_tn, ↓mm_if_nn, hm, ↓mm_if_f v3, z_121 (d + 3) hL hn hM hR hW hvn, z_120 (d + 3) hL hn hM hR hW hvn, z_126 (d + 3) hL hn hM hR hW, z_125 d hL hn hM hR hW hvn, nI_1, Int32.add_zero, ↓mm_if_f c0, ↓mm_if_f c1, ↓mm_if_t c]
        exact key _
      · rw [if_pos c] at key
        rw [eK_163_1]
        simp (disch := omega) only [eK_163_0, eK_163_2, eK_163_3, eK_163_4, eK_163_5, eK_163_6, eK_163_7, pw_goto, pw_iconst, pw_nop0, qw_aload_n0, qw_gf_b, qw_gf_i, qw_gf_r, qw_iadd, qw_if_eq, qw_if_icmp_ge, qw_if_icmp_ne, qw_if_ne, qw_iinc3, qw_iload4, qw_iload_n1, qw_iload_n2, qw_iload_n3, qw_invokevirtual2, qw_invokevirtual3, qw_invokevirtual4, qw_ireturn, qw_istore4, qw_istore_n2, qw_istore_n3, mm_rf_c, mm_rt_v, mm_rt_i, mm_rt_r, mm_alc_n, mm_alc_c, mm_rc_n, mm_rc_c, mm_wd_n, mm_wd_i, mm_wd_l, mm_wd_r, reduceCtorEq, false_implies, implies_true, true_implies, true_or, or_true, false_or, or_false, not_false_eq_true, mm_nl_n, mm_nl_i, mm_nl_r, mm_args_n, mm_args_i, mm_args_l, mm_args_r, mm_pad_0, mm_pad_n, mm_pad_c, List.length_cons, List.length_nil, List.nil_append, List.cons_append, Nat.zero_le, Nat.sub_zero, true_and, and_true, Nat.reduceAdd, Nat.reduceLeDiff, Nat.reduceLT, Nat.reduceSub, Nat.lt_irrefl, Nat.zero_add, Nat.add_zero, Nat.le_refl, k_20, k_10, k_01, ↓mm_if_T, ↓mm_if_F, ↓if10, ↓if00, not_true_eq_false, tf_01, ↓mm_if_tf, ↓mm_if_tn, ↓mm_if_nn, hm, ↓mm_if_f v3, z_121 (d + 3) hL hn hM hR hW hvn, z_120 (d + 3) hL hn hM hR hW hvn, z_126 (d + 3) hL hn hM hR hW, z_125 d hL hn hM hR hW hvn, nI_1, Int32.add_zero, ↓mm_if_f c0, ↓mm_if_f c1, ↓mm_if_f c]
        exact key _
theorem r_163 (d : Nat) {M : mm_M} {post : mm_Post} {n : Nat} {X : Sx} (hL : LyM M) (hn : n ≤ 7) (hM : RM M n X.1.1) (hR : RB M 0 n X) (hW : WF n X.1.1) (x : Int32) : pC (d + 5) 163 [.inr (.inr (6, 0)), .inl x] M post = post (some (.inl (nI (ctn (mo n X.1.1 X.2 x) n)))) M := by
  refine pC_one (fun post h => ?_) post
  have := k_163 d hL hn hM hR hW x h n 0 none (by omega)
  simp (disch := omega) only [eC_163, eK_163_0, pw_iconst, pw_nop0, qw_istore_n2, qw_istore_n3, mm_rf_c, mm_rt_v, mm_rt_i, mm_rt_r, mm_alc_n, mm_alc_c, mm_rc_n, mm_rc_c, mm_wd_n, mm_wd_i, mm_wd_l, mm_wd_r, reduceCtorEq, false_implies, implies_true, true_implies, true_or, or_true, false_or, or_false, not_false_eq_true, mm_nl_n, mm_nl_i, mm_nl_r, mm_args_n, mm_args_i, mm_args_l, mm_args_r, mm_pad_0, mm_pad_n, mm_pad_c, List.length_cons, List.length_nil, List.nil_append, List.cons_append, Nat.zero_le, Nat.sub_zero, true_and, and_true, Nat.reduceAdd, Nat.reduceLeDiff, Nat.reduceLT, Nat.reduceSub, Nat.lt_irrefl, Nat.zero_add, Nat.add_zero, Nat.le_refl, k_20, k_10, k_01, ↓mm_if_T, ↓mm_if_F, ↓if10, ↓if00, not_true_eq_false, tf_01, ↓mm_if_tf, ↓mm_if_tn, ↓mm_if_nn]
  exact this
theorem ctn_bl {A : Nat → Nat → Int32} {f : Nat → Int32} {b : Int32} : ∀ n, (∀ w, w < n → (¬ f w = 0 ↔ b ≤ A w 5)) → nI (ctn f n) = g_bl A b n
  | 0, _ => rfl
  | n + 1, h => by
    have ih := ctn_bl n (fun w hw => h w (by omega))
    have hh := h n (by omega)
    unfold ctn g_bl
    by_cases c : b ≤ A n 5
    · rw [if_pos c, if_pos (hh.mpr c), ← ih, nI_1]
    · rw [if_neg c, if_neg (fun z => c (hh.mp z)), ih]

theorem mo_4 {n : Nat} {A : Nat → Nat → Int32} {dy : Int32} : nI (ctn (mo n A dy 0) n) = g_bl A 1 n := ctn_bl n (fun w hw => by show ¬ tf (1 ≤ A w 5) = 0 ↔ _; rw [tf_0]; exact Classical.not_not)
theorem mo_5 {n : Nat} {A : Nat → Nat → Int32} {dy : Int32} (h : WF n A) : nI (ctn (mo n A dy 1) n) = g_bl A 2 n := ctn_bl n (fun w hw => by
  show ¬ tf (A w 5 = 2) = 0 ↔ _
  rw [tf_0, Classical.not_not]
  rcases (h w hw).2.2.2.1 with z | z | z <;> rw [z] <;> decide)
theorem mo_7 {n : Nat} {A : Nat → Nat → Int32} {dy : Int32} : nI (ctn (mo n A dy 2) n) = nI (ctn (fun w => g_hd A n w (g_ev dy)) n) := rfl
set_option maxHeartbeats 4000000 in
theorem r_164 (d : Nat) {M : mm_M} {post : mm_Post} {n : Nat} {X : Sx} {a : Nat} {P : Nat → Sx} {b : Nat} {K : Nat → Sx} (hJ : J1 M n X a P b K) (hn : n ≤ 7) (ha : a ≤ 8) (hb : b ≤ 2) (hW : WF n X.1.1) {q : Nat} {nx nl : Nat → Int32} {t : Nat} {lt : Nat → Int32} (hN : J2 M q nx nl t lt) (x : Int32) : pC (d + 6) 164 [.inr (.inr (6, 0)), .inl x] M post = post (some (.inl (G78 n X q a b t x))) M := by
  obtain ⟨hL, hM, hR, h9, hP, h10, hK⟩ := id hJ
  obtain ⟨j1, j2, j3, j4⟩ := hN
  have l1 := hL.1.2.2.2.2.2.2.1
  have l2 : mm_L M 7 11 = 468 := hL.2.2.2.2.2.2.2.1
  have hm := hM.1
  obtain ⟨m, hm1, hm2, hm3⟩ := fb_n (A := X.1.1) hn
  obtain ⟨_, s7, s36, s37, s38⟩ := hR
  rw [Nat.zero_add] at s7 s36 s37 s38
  rw [hm2] at s7
  have hR := hJ.2.2.1
  have i7 : vp_in (7 : Int32) 468 := vp_in_nI (n := 7) (by omega) (by omega)
  have j7 : (7 : Int32).toNatClampNeg = 7 := nI_clamp (n := 7) (by omega)
  have i36 : vp_in (36 : Int32) 468 := vp_in_nI (n := 36) (by omega) (by omega)
  have j36 : (36 : Int32).toNatClampNeg = 36 := nI_clamp (n := 36) (by omega)
  have i37 : vp_in (37 : Int32) 468 := vp_in_nI (n := 37) (by omega) (by omega)
  have j37 : (37 : Int32).toNatClampNeg = 37 := nI_clamp (n := 37) (by omega)
  have i38 : vp_in (38 : Int32) 468 := vp_in_nI (n := 38) (by omega) (by omega)
  have j38 : (38 : Int32).toNatClampNeg = 38 := nI_clamp (n := 38) (by omega)
  unfold G78
  by_cases x0 : x = 0
  · rw [if_pos x0]
    simp (disch := omega) only [eC_164, eK_164_0, eK_164_1, eK_164_2, eK_164_3, eK_164_4, eK_164_5, eK_164_6, eK_164_7, eK_164_8, eK_164_9, eK_164_10, eK_164_11, eK_164_12, eK_164_13, pw_bipush, pw_goto, pw_iconst, pw_nop0, qw_aload_n0, qw_gf_b, qw_gf_i, qw_gf_r, qw_iaload, qw_if_icmp_ne, qw_if_ne, qw_iload_n1, qw_invokestatic1, qw_invokevirtual2, qw_ireturn, mm_rf_c, mm_rt_v, mm_rt_i, mm_rt_r, mm_alc_n, mm_alc_c, mm_rc_n, mm_rc_c, mm_wd_n, mm_wd_i, mm_wd_l, mm_wd_r, reduceCtorEq, false_implies, implies_true, true_implies, true_or, or_true, false_or, or_false, not_false_eq_true, mm_nl_n, mm_nl_i, mm_nl_r, mm_args_n, mm_args_i, mm_args_l, mm_args_r, mm_pad_0, mm_pad_n, mm_pad_c, List.length_cons, List.length_nil, List.nil_append, List.cons_append, Nat.zero_le, Nat.sub_zero, true_and, and_true, Nat.reduceAdd, Nat.reduceLeDiff, Nat.reduceLT, Nat.reduceSub, Nat.lt_irrefl, Nat.zero_add, Nat.add_zero, Nat.le_refl, k_20, k_10, k_01, ↓mm_if_T, ↓mm_if_F, ↓if10, ↓if00, not_true_eq_false, tf_01, ↓mm_if_tf, ↓mm_if_tn, ↓mm_if_nn, hm, l1, l2, i7, j7, i36, j36, i37, j37, i38, j38, s7, s36, s37, s38, r_163 d hL hn hM hR hW, mo_4, mo_5 hW, mo_7, r_100 (d + 4) m hm1, hm3, j1, j3, h9, h10, ↓mm_if_t x0]
  rw [if_neg x0]
  by_cases x1 : x = 1
  · rw [if_pos x1]
    simp (disch := omega) only [eC_164, eK_164_0, eK_164_1, eK_164_2, eK_164_3, eK_164_4, eK_164_5, eK_164_6, eK_164_7, eK_164_8, eK_164_9, eK_164_10, eK_164_11, eK_164_12, eK_164_13, pw_bipush, pw_goto, pw_iconst, pw_nop0, qw_aload_n0, qw_gf_b, qw_gf_i, qw_gf_r, qw_iaload, qw_if_icmp_ne, qw_if_ne, qw_iload_n1, qw_invokestatic1, qw_invokevirtual2, qw_ireturn, mm_rf_c, mm_rt_v, mm_rt_i, mm_rt_r, mm_alc_n, mm_alc_c, mm_rc_n, mm_rc_c, mm_wd_n, mm_wd_i, mm_wd_l, mm_wd_r, reduceCtorEq, false_implies, implies_true, true_implies, true_or, or_true, false_or, or_false, not_false_eq_true, mm_nl_n, mm_nl_i, mm_nl_r, mm_args_n, mm_args_i, mm_args_l, mm_args_r, mm_pad_0, mm_pad_n, mm_pad_c, List.length_cons, List.length_nil, List.nil_append, List.cons_append, Nat.zero_le, Nat.sub_zero, true_and, and_true, Nat.reduceAdd, Nat.reduceLeDiff, Nat.reduceLT, Nat.reduceSub, Nat.lt_irrefl, Nat.zero_add, Nat.add_zero, Nat.le_refl, k_20, k_10, k_01, ↓mm_if_T, ↓mm_if_F, ↓if10, ↓if00, not_true_eq_false, tf_01, ↓mm_if_tf, ↓mm_if_tn, ↓mm_if_nn, hm, l1, l2, i7, j7, i36, j36, i37, j37, i38, j38, s7, s36, s37, s38, r_163 d hL hn hM hR hW, mo_4, mo_5 hW, mo_7, r_100 (d + 4) m hm1, hm3, j1, j3, h9, h10, ↓mm_if_f x0, ↓mm_if_t x1]
  rw [if_neg x1]
  by_cases x2 : x = 2
  · rw [if_pos x2]
    simp (disch := omega) only [eC_164, eK_164_0, eK_164_1, eK_164_2, eK_164_3, eK_164_4, eK_164_5, eK_164_6, eK_164_7, eK_164_8, eK_164_9, eK_164_10, eK_164_11, eK_164_12, eK_164_13, pw_bipush, pw_goto, pw_iconst, pw_nop0, qw_aload_n0, qw_gf_b, qw_gf_i, qw_gf_r, qw_iaload, qw_if_icmp_ne, qw_if_ne, qw_iload_n1, qw_invokestatic1, qw_invokevirtual2, qw_ireturn, mm_rf_c, mm_rt_v, mm_rt_i, mm_rt_r, mm_alc_n, mm_alc_c, mm_rc_n, mm_rc_c, mm_wd_n, mm_wd_i, mm_wd_l, mm_wd_r, reduceCtorEq, false_implies, implies_true, true_implies, true_or, or_true, false_or, or_false, not_false_eq_true, mm_nl_n, mm_nl_i, mm_nl_r, mm_args_n, mm_args_i, mm_args_l, mm_args_r, mm_pad_0, mm_pad_n, mm_pad_c, List.length_cons, List.length_nil, List.nil_append, List.cons_append, Nat.zero_le, Nat.sub_zero, true_and, and_true, Nat.reduceAdd, Nat.reduceLeDiff, Nat.reduceLT, Nat.reduceSub, Nat.lt_irrefl, Nat.zero_add, Nat.add_zero, Nat.le_refl, k_20, k_10, k_01, ↓mm_if_T, ↓mm_if_F, ↓if10, ↓if00, not_true_eq_false, tf_01, ↓mm_if_tf, ↓mm_if_tn, ↓mm_if_nn, hm, l1, l2, i7, j7, i36, j36, i37, j37, i38, j38, s7, s36, s37, s38, r_163 d hL hn hM hR hW, mo_4, mo_5 hW, mo_7, r_100 (d + 4) m hm1, hm3, j1, j3, h9, h10, ↓mm_if_f x0, ↓mm_if_f x1, ↓mm_if_t x2]
  rw [if_neg x2]
  by_cases x3 : x = 3
  · rw [if_pos x3]
    simp (disch := omega) only [eC_164, eK_164_0, eK_164_1, eK_164_2, eK_164_3, eK_164_4, eK_164_5, eK_164_6, eK_164_7, eK_164_8, eK_164_9, eK_164_10, eK_164_11, eK_164_12, eK_164_13, pw_bipush, pw_goto, pw_iconst, pw_nop0, qw_aload_n0, qw_gf_b, qw_gf_i, qw_gf_r, qw_iaload, qw_if_icmp_ne, qw_if_ne, qw_iload_n1, qw_invokestatic1, qw_invokevirtual2, qw_ireturn, mm_rf_c, mm_rt_v, mm_rt_i, mm_rt_r, mm_alc_n, mm_alc_c, mm_rc_n, mm_rc_c, mm_wd_n, mm_wd_i, mm_wd_l, mm_wd_r, reduceCtorEq, false_implies, implies_true, true_implies, true_or, or_true, false_or, or_false, not_false_eq_true, mm_nl_n, mm_nl_i, mm_nl_r, mm_args_n, mm_args_i, mm_args_l, mm_args_r, mm_pad_0, mm_pad_n, mm_pad_c, List.length_cons, List.length_nil, List.nil_append, List.cons_append, Nat.zero_le, Nat.sub_zero, true_and, and_true, Nat.reduceAdd, Nat.reduceLeDiff, Nat.reduceLT, Nat.reduceSub, Nat.lt_irrefl, Nat.zero_add, Nat.add_zero, Nat.le_refl, k_20, k_10, k_01, ↓mm_if_T, ↓mm_if_F, ↓if10, ↓if00, not_true_eq_false, tf_01, ↓mm_if_tf, ↓mm_if_tn, ↓mm_if_nn, hm, l1, l2, i7, j7, i36, j36, i37, j37, i38, j38, s7, s36, s37, s38, r_163 d hL hn hM hR hW, mo_4, mo_5 hW, mo_7, r_100 (d + 4) m hm1, hm3, j1, j3, h9, h10, ↓mm_if_f x0, ↓mm_if_f x1, ↓mm_if_f x2, ↓mm_if_t x3]
  rw [if_neg x3]
  by_cases x4 : x = 4
  · rw [if_pos x4]
    simp (disch := omega) only [eC_164, eK_164_0, eK_164_1, eK_164_2, eK_164_3, eK_164_4, eK_164_5, eK_164_6, eK_164_7, eK_164_8, eK_164_9, eK_164_10, eK_164_11, eK_164_12, eK_164_13, pw_bipush, pw_goto, pw_iconst, pw_nop0, qw_aload_n0, qw_gf_b, qw_gf_i, qw_gf_r, qw_iaload, qw_if_icmp_ne, qw_if_ne, qw_iload_n1, qw_invokestatic1, qw_invokevirtual2, qw_ireturn, mm_rf_c, mm_rt_v, mm_rt_i, mm_rt_r, mm_alc_n, mm_alc_c, mm_rc_n, mm_rc_c, mm_wd_n, mm_wd_i, mm_wd_l, mm_wd_r, reduceCtorEq, false_implies, implies_true, true_implies, true_or, or_true, false_or, or_false, not_false_eq_true, mm_nl_n, mm_nl_i, mm_nl_r, mm_args_n, mm_args_i, mm_args_l, mm_args_r, mm_pad_0, mm_pad_n, mm_pad_c, List.length_cons, List.length_nil, List.nil_append, List.cons_append, Nat.zero_le, Nat.sub_zero, true_and, and_true, Nat.reduceAdd, Nat.reduceLeDiff, Nat.reduceLT, Nat.reduceSub, Nat.lt_irrefl, Nat.zero_add, Nat.add_zero, Nat.le_refl, k_20, k_10, k_01, ↓mm_if_T, ↓mm_if_F, ↓if10, ↓if00, not_true_eq_false, tf_01, ↓mm_if_tf, ↓mm_if_tn, ↓mm_if_nn, hm, l1, l2, i7, j7, i36, j36, i37, j37, i38, j38, s7, s36, s37, s38, r_163 d hL hn hM hR hW, mo_4, mo_5 hW, mo_7, r_100 (d + 4) m hm1, hm3, j1, j3, h9, h10, ↓mm_if_f x0, ↓mm_if_f x1, ↓mm_if_f x2, ↓mm_if_f x3, ↓mm_if_t x4]
  rw [if_neg x4]
  by_cases x5 : x = 5
  · rw [if_pos x5]
    simp (disch := omega) only [eC_164, eK_164_0, eK_164_1, eK_164_2, eK_164_3, eK_164_4, eK_164_5, eK_164_6, eK_164_7, eK_164_8, eK_164_9, eK_164_10, eK_164_11, eK_164_12, eK_164_13, pw_bipush, pw_goto, pw_iconst, pw_nop0, qw_aload_n0, qw_gf_b, qw_gf_i, qw_gf_r, qw_iaload, qw_if_icmp_ne, qw_if_ne, qw_iload_n1, qw_invokestatic1, qw_invokevirtual2, qw_ireturn, mm_rf_c, mm_rt_v, mm_rt_i, mm_rt_r, mm_alc_n, mm_alc_c, mm_rc_n, mm_rc_c, mm_wd_n, mm_wd_i, mm_wd_l, mm_wd_r, reduceCtorEq, false_implies, implies_true, true_implies, true_or, or_true, false_or, or_false, not_false_eq_true, mm_nl_n, mm_nl_i, mm_nl_r, mm_args_n, mm_args_i, mm_args_l, mm_args_r, mm_pad_0, mm_pad_n, mm_pad_c, List.length_cons, List.length_nil, List.nil_append, List.cons_append, Nat.zero_le, Nat.sub_zero, true_and, and_true, Nat.reduceAdd, Nat.reduceLeDiff, Nat.reduceLT, Nat.reduceSub, Nat.lt_irrefl, Nat.zero_add, Nat.add_zero, Nat.le_refl, k_20, k_10, k_01, ↓mm_if_T, ↓mm_if_F, ↓if10, ↓if00, not_true_eq_false, tf_01, ↓mm_if_tf, ↓mm_if_tn, ↓mm_if_nn, hm, l1, l2, i7, j7, i36, j36, i37, j37, i38, j38, s7, s36, s37, s38, r_163 d hL hn hM hR hW, mo_4, mo_5 hW, mo_7, r_100 (d + 4) m hm1, hm3, j1, j3, h9, h10, ↓mm_if_f x0, ↓mm_if_f x1, ↓mm_if_f x2, ↓mm_if_f x3, ↓mm_if_f x4, ↓mm_if_t x5]
  rw [if_neg x5]
  by_cases x6 : x = 6
  · rw [if_pos x6]
    simp (disch := omega) only [eC_164, eK_164_0, eK_164_1, eK_164_2, eK_164_3, eK_164_4, eK_164_5, eK_164_6, eK_164_7, eK_164_8, eK_164_9, eK_164_10, eK_164_11, eK_164_12, eK_164_13, pw_bipush, pw_goto, pw_iconst, pw_nop0, qw_aload_n0, qw_gf_b, qw_gf_i, qw_gf_r, qw_iaload, qw_if_icmp_ne, qw_if_ne, qw_iload_n1, qw_invokestatic1, qw_invokevirtual2, qw_ireturn, mm_rf_c, mm_rt_v, mm_rt_i, mm_rt_r, mm_alc_n, mm_alc_c, mm_rc_n, mm_rc_c, mm_wd_n, mm_wd_i, mm_wd_l, mm_wd_r, reduceCtorEq, false_implies, implies_true, true_implies, true_or, or_true, false_or, or_false, not_false_eq_true, mm_nl_n, mm_nl_i, mm_nl_r, mm_args_n, mm_args_i, mm_args_l, mm_args_r, mm_pad_0, mm_pad_n, mm_pad_c, List.length_cons, List.length_nil, List.nil_append, List.cons_append, Nat.zero_le, Nat.sub_zero, true_and, and_true, Nat.reduceAdd, Nat.reduceLeDiff, Nat.reduceLT, Nat.reduceSub, Nat.lt_irrefl, Nat.zero_add, Nat.add_zero, Nat.le_refl, k_20, k_10, k_01, ↓mm_if_T, ↓mm_if_F, ↓if10, ↓if00, not_true_eq_false, tf_01, ↓mm_if_tf, ↓mm_if_tn, ↓mm_if_nn, hm, l1, l2, i7, j7, i36, j36, i37, j37, i38, j38, s7, s36, s37, s38, r_163 d hL hn hM hR hW, mo_4, mo_5 hW, mo_7, r_100 (d + 4) m hm1, hm3, j1, j3, h9, h10, ↓mm_if_f x0, ↓mm_if_f x1, ↓mm_if_f x2, ↓mm_if_f x3, ↓mm_if_f x4, ↓mm_if_f x5, ↓mm_if_t x6]
  rw [if_neg x6]
  by_cases x7 : x = 7
  · rw [if_pos x7]
    simp (disch := omega) only [eC_164, eK_164_0, eK_164_1, eK_164_2, eK_164_3, eK_164_4, eK_164_5, eK_164_6, eK_164_7, eK_164_8, eK_164_9, eK_164_10, eK_164_11, eK_164_12, eK_164_13, pw_bipush, pw_goto, pw_iconst, pw_nop0, qw_aload_n0, qw_gf_b, qw_gf_i, qw_gf_r, qw_iaload, qw_if_icmp_ne, qw_if_ne, qw_iload_n1, qw_invokestatic1, qw_invokevirtual2, qw_ireturn, mm_rf_c, mm_rt_v, mm_rt_i, mm_rt_r, mm_alc_n, mm_alc_c, mm_rc_n, mm_rc_c, mm_wd_n, mm_wd_i, mm_wd_l, mm_wd_r, reduceCtorEq, false_implies, implies_true, true_implies, true_or, or_true, false_or, or_false, not_false_eq_true, mm_nl_n, mm_nl_i, mm_nl_r, mm_args_n, mm_args_i, mm_args_l, mm_args_r, mm_pad_0, mm_pad_n, mm_pad_c, List.length_cons, List.length_nil, List.nil_append, List.cons_append, Nat.zero_le, Nat.sub_zero, true_and, and_true, Nat.reduceAdd, Nat.reduceLeDiff, Nat.reduceLT, Nat.reduceSub, Nat.lt_irrefl, Nat.zero_add, Nat.add_zero, Nat.le_refl, k_20, k_10, k_01, ↓mm_if_T, ↓mm_if_F, ↓if10, ↓if00, not_true_eq_false, tf_01, ↓mm_if_tf, ↓mm_if_tn, ↓mm_if_nn, hm, l1, l2, i7, j7, i36, j36, i37, j37, i38, j38, s7, s36, s37, s38, r_163 d hL hn hM hR hW, mo_4, mo_5 hW, mo_7, r_100 (d + 4) m hm1, hm3, j1, j3, h9, h10, ↓mm_if_f x0, ↓mm_if_f x1, ↓mm_if_f x2, ↓mm_if_f x3, ↓mm_if_f x4, ↓mm_if_f x5, ↓mm_if_f x6, ↓mm_if_t x7]
  rw [if_neg x7]
  by_cases x8 : x = 8
  · rw [if_pos x8]
    simp (disch := omega) only [eC_164, eK_164_0, eK_164_1, eK_164_2, eK_164_3, eK_164_4, eK_164_5, eK_164_6, eK_164_7, eK_164_8, eK_164_9, eK_164_10, eK_164_11, eK_164_12, eK_164_13, pw_bipush, pw_goto, pw_iconst, pw_nop0, qw_aload_n0, qw_gf_b, qw_gf_i, qw_gf_r, qw_iaload, qw_if_icmp_ne, qw_if_ne, qw_iload_n1, qw_invokestatic1, qw_invokevirtual2, qw_ireturn, mm_rf_c, mm_rt_v, mm_rt_i, mm_rt_r, mm_alc_n, mm_alc_c, mm_rc_n, mm_rc_c, mm_wd_n, mm_wd_i, mm_wd_l, mm_wd_r, reduceCtorEq, false_implies, implies_true, true_implies, true_or, or_true, false_or, or_false, not_false_eq_true, mm_nl_n, mm_nl_i, mm_nl_r, mm_args_n, mm_args_i, mm_args_l, mm_args_r, mm_pad_0, mm_pad_n, mm_pad_c, List.length_cons, List.length_nil, List.nil_append, List.cons_append, Nat.zero_le, Nat.sub_zero, true_and, and_true, Nat.reduceAdd, Nat.reduceLeDiff, Nat.reduceLT, Nat.reduceSub, Nat.lt_irrefl, Nat.zero_add, Nat.add_zero, Nat.le_refl, k_20, k_10, k_01, ↓mm_if_T, ↓mm_if_F, ↓if10, ↓if00, not_true_eq_false, tf_01, ↓mm_if_tf, ↓mm_if_tn, ↓mm_if_nn, hm, l1, l2, i7, j7, i36, j36, i37, j37, i38, j38, s7, s36, s37, s38, r_163 d hL hn hM hR hW, mo_4, mo_5 hW, mo_7, r_100 (d + 4) m hm1, hm3, j1, j3, h9, h10, ↓mm_if_f x0, ↓mm_if_f x1, ↓mm_if_f x2, ↓mm_if_f x3, ↓mm_if_f x4, ↓mm_if_f x5, ↓mm_if_f x6, ↓mm_if_f x7, ↓mm_if_t x8]
  rw [if_neg x8]
  by_cases x9 : x = 9
  · rw [if_pos x9]
    simp (disch := omega) only [eC_164, eK_164_0, eK_164_1, eK_164_2, eK_164_3, eK_164_4, eK_164_5, eK_164_6, eK_164_7, eK_164_8, eK_164_9, eK_164_10, eK_164_11, eK_164_12, eK_164_13, pw_bipush, pw_goto, pw_iconst, pw_nop0, qw_aload_n0, qw_gf_b, qw_gf_i, qw_gf_r, qw_iaload, qw_if_icmp_ne, qw_if_ne, qw_iload_n1, qw_invokestatic1, qw_invokevirtual2, qw_ireturn, mm_rf_c, mm_rt_v, mm_rt_i, mm_rt_r, mm_alc_n, mm_alc_c, mm_rc_n, mm_rc_c, mm_wd_n, mm_wd_i, mm_wd_l, mm_wd_r, reduceCtorEq, false_implies, implies_true, true_implies, true_or, or_true, false_or, or_false, not_false_eq_true, mm_nl_n, mm_nl_i, mm_nl_r, mm_args_n, mm_args_i, mm_args_l, mm_args_r, mm_pad_0, mm_pad_n, mm_pad_c, List.length_cons, List.length_nil, List.nil_append, List.cons_append, Nat.zero_le, Nat.sub_zero, true_and, and_true, Nat.reduceAdd, Nat.reduceLeDiff, Nat.reduceLT, Nat.reduceSub, Nat.lt_irrefl, Nat.zero_add, Nat.add_zero, Nat.le_refl, k_20, k_10, k_01, ↓mm_if_T, ↓mm_if_F, ↓if10, ↓if00, not_true_eq_false, tf_01, ↓mm_if_tf, ↓mm_if_tn, ↓mm_if_nn, hm, l1, l2, i7, j7, i36, j36, i37, j37, i38, j38, s7, s36, s37, s38, r_163 d hL hn hM hR hW, mo_4, mo_5 hW, mo_7, r_100 (d + 4) m hm1, hm3, j1, j3, h9, h10, ↓mm_if_f x0, ↓mm_if_f x1, ↓mm_if_f x2, ↓mm_if_f x3, ↓mm_if_f x4, ↓mm_if_f x5, ↓mm_if_f x6, ↓mm_if_f x7, ↓mm_if_f x8, ↓mm_if_t x9]
  rw [if_neg x9]
  by_cases x10 : x = 10
  · rw [if_pos x10]
    simp (disch := omega) only [eC_164, eK_164_0, eK_164_1, eK_164_2, eK_164_3, eK_164_4, eK_164_5, eK_164_6, eK_164_7, eK_164_8, eK_164_9, eK_164_10, eK_164_11, eK_164_12, eK_164_13, pw_bipush, pw_goto, pw_iconst, pw_nop0, qw_aload_n0, qw_gf_b, qw_gf_i, qw_gf_r, qw_iaload, qw_if_icmp_ne, qw_if_ne, qw_iload_n1, qw_invokestatic1, qw_invokevirtual2, qw_ireturn, mm_rf_c, mm_rt_v, mm_rt_i, mm_rt_r, mm_alc_n, mm_alc_c, mm_rc_n, mm_rc_c, mm_wd_n, mm_wd_i, mm_wd_l, mm_wd_r, reduceCtorEq, false_implies, implies_true, true_implies, true_or, or_true, false_or, or_false, not_false_eq_true, mm_nl_n, mm_nl_i, mm_nl_r, mm_args_n, mm_args_i, mm_args_l, mm_args_r, mm_pad_0, mm_pad_n, mm_pad_c, List.length_cons, List.length_nil, List.nil_append, List.cons_append, Nat.zero_le, Nat.sub_zero, true_and, and_true, Nat.reduceAdd, Nat.reduceLeDiff, Nat.reduceLT, Nat.reduceSub, Nat.lt_irrefl, Nat.zero_add, Nat.add_zero, Nat.le_refl, k_20, k_10, k_01, ↓mm_if_T, ↓mm_if_F, ↓if10, ↓if00, not_true_eq_false, tf_01, ↓mm_if_tf, ↓mm_if_tn, ↓mm_if_nn, hm, l1, l2, i7, j7, i36, j36, i37, j37, i38, j38, s7, s36, s37, s38, r_163 d hL hn hM hR hW, mo_4, mo_5 hW, mo_7, r_100 (d + 4) m hm1, hm3, j1, j3, h9, h10, ↓mm_if_f x0, ↓mm_if_f x1, ↓mm_if_f x2, ↓mm_if_f x3, ↓mm_if_f x4, ↓mm_if_f x5, ↓mm_if_f x6, ↓mm_if_f x7, ↓mm_if_f x8, ↓mm_if_f x9, ↓mm_if_t x10]
  rw [if_neg x10]
  by_cases x11 : x = 11
  · rw [if_pos x11]
    simp (disch := omega) only [eC_164, eK_164_0, eK_164_1, eK_164_2, eK_164_3, eK_164_4, eK_164_5, eK_164_6, eK_164_7, eK_164_8, eK_164_9, eK_164_10, eK_164_11, eK_164_12, eK_164_13, pw_bipush, pw_goto, pw_iconst, pw_nop0, qw_aload_n0, qw_gf_b, qw_gf_i, qw_gf_r, qw_iaload, qw_if_icmp_ne, qw_if_ne, qw_iload_n1, qw_invokestatic1, qw_invokevirtual2, qw_ireturn, mm_rf_c, mm_rt_v, mm_rt_i, mm_rt_r, mm_alc_n, mm_alc_c, mm_rc_n, mm_rc_c, mm_wd_n, mm_wd_i, mm_wd_l, mm_wd_r, reduceCtorEq, false_implies, implies_true, true_implies, true_or, or_true, false_or, or_false, not_false_eq_true, mm_nl_n, mm_nl_i, mm_nl_r, mm_args_n, mm_args_i, mm_args_l, mm_args_r, mm_pad_0, mm_pad_n, mm_pad_c, List.length_cons, List.length_nil, List.nil_append, List.cons_append, Nat.zero_le, Nat.sub_zero, true_and, and_true, Nat.reduceAdd, Nat.reduceLeDiff, Nat.reduceLT, Nat.reduceSub, Nat.lt_irrefl, Nat.zero_add, Nat.add_zero, Nat.le_refl, k_20, k_10, k_01, ↓mm_if_T, ↓mm_if_F, ↓if10, ↓if00, not_true_eq_false, tf_01, ↓mm_if_tf, ↓mm_if_tn, ↓mm_if_nn, hm, l1, l2, i7, j7, i36, j36, i37, j37, i38, j38, s7, s36, s37, s38, r_163 d hL hn hM hR hW, mo_4, mo_5 hW, mo_7, r_100 (d + 4) m hm1, hm3, j1, j3, h9, h10, ↓mm_if_f x0, ↓mm_if_f x1, ↓mm_if_f x2, ↓mm_if_f x3, ↓mm_if_f x4, ↓mm_if_f x5, ↓mm_if_f x6, ↓mm_if_f x7, ↓mm_if_f x8, ↓mm_if_f x9, ↓mm_if_f x10, ↓mm_if_t x11]
  rw [if_neg x11]
  simp (disch := omega) only [eC_164, eK_164_0, eK_164_1, eK_164_2, eK_164_3, eK_164_4, eK_164_5, eK_164_6, eK_164_7, eK_164_8, eK_164_9, eK_164_10, eK_164_11, eK_164_12, eK_164_13, pw_bipush, pw_goto, pw_iconst, pw_nop0, qw_aload_n0, qw_gf_b, qw_gf_i, qw_gf_r, qw_iaload, qw_if_icmp_ne, qw_if_ne, qw_iload_n1, qw_invokestatic1, qw_invokevirtual2, qw_ireturn, mm_rf_c, mm_rt_v, mm_rt_i, mm_rt_r, mm_alc_n, mm_alc_c, mm_rc_n, mm_rc_c, mm_wd_n, mm_wd_i, mm_wd_l, mm_wd_r, reduceCtorEq, false_implies, implies_true, true_implies, true_or, or_true, false_or, or_false, not_false_eq_true, mm_nl_n, mm_nl_i, mm_nl_r, mm_args_n, mm_args_i, mm_args_l, mm_args_r, mm_pad_0, mm_pad_n, mm_pad_c, List.length_cons, List.length_nil, List.nil_append, List.cons_append, Nat.zero_le, Nat.sub_zero, true_and, and_true, Nat.reduceAdd, Nat.reduceLeDiff, Nat.reduceLT, Nat.reduceSub, Nat.lt_irrefl, Nat.zero_add, Nat.add_zero, Nat.le_refl, k_20, k_10, k_01, ↓mm_if_T, ↓mm_if_F, ↓if10, ↓if00, not_true_eq_false, tf_01, ↓mm_if_tf, ↓mm_if_tn, ↓mm_if_nn, ↓mm_if_f x0, ↓mm_if_f x1, ↓mm_if_f x2, ↓mm_if_f x3, ↓mm_if_f x4, ↓mm_if_f x5, ↓mm_if_f x6, ↓mm_if_f x7, ↓mm_if_f x8, ↓mm_if_f x9, ↓mm_if_f x10, ↓mm_if_f x11]

