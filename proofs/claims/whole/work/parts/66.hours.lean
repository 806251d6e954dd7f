/-! THE REFERENCE: hours, run -/
def FR (M M' : mm_M) : Prop := M'.2 = M.2 ∧ ∀ c i k, ¬ (c = 7 ∧ (i = 14 ∨ i = 15)) → mm_I M' c i k = mm_I M c i k
theorem FR_rf (M : mm_M) : FR M M := ⟨rfl, fun _ _ _ _ => rfl⟩
theorem FR_tr {M M1 M2 : mm_M} (h : FR M M1) (h' : FR M1 M2) : FR M M2 := ⟨h'.1.trans h.1, fun c i k a => (h'.2 c i k a).trans (h.2 c i k a)⟩
theorem FR_s {M M' : mm_M} {i k : Nat} {v : Int32} (h : FR M M') (hi : i = 14 ∨ i = 15) : FR M (mm_sI M' 7 i k v) := ⟨h.1, fun c i' k' a => by rw [mm_I_sI, if_neg (fun z => a ⟨z.1, by omega⟩)]; exact h.2 c i' k' a⟩
theorem FR_Y {M M' : mm_M} (h : FR M M') : FY M M' := ⟨h.1, fun c i k _ b => h.2 c i k (fun z => b ⟨z.1, by omega⟩)⟩
theorem J1_R {M M' : mm_M} {n : Nat} {X : Sx} {a : Nat} {P : Nat → Sx} {b : Nat} {K : Nat → Sx} (h : J1 M n X a P b K) (hn : n ≤ 7) (ha : a ≤ 8) (hb : b ≤ 2) (hF : FR M M') : J1 M' n X a P b K := J1_f h hn ha hb hF.1 (fun c i k q => hF.2 c i k (by omega))
theorem nI_s1 (k : Nat) : nI k + -1 = nI k - 1 := by rw [Int32.sub_eq_add_neg]

set_option maxHeartbeats 2000000 in
theorem k_152a (d : Nat) {M : mm_M} {post : mm_Post} {n : Nat} {X : Sx} {a : Nat} {P : Nat → Sx} {b : Nat} {K : Nat → Sx} (hJ : J1 M n X a P b K) (hn : n ≤ 7) (ha : a ≤ 8) (hb : b ≤ 2) (x : Int32) (u v w : Option mm_V) (h : ∀ M', FR M M' → (∀ k, k < 7 → mm_I M' 7 14 k = nI 0) → pK d 152 post 4 [some (.inr (.inr (6, 0))), some (.inl x), some (.inl 99), some (.inl 1), v, w] [] M' (0, 0)) : ∀ (m k : Nat) (M1 : mm_M), k + m = 7 → FR M M1 → (∀ i, i < k → mm_I M1 7 14 i = nI 0) → pK d 152 post 2 [some (.inr (.inr (6, 0))), some (.inl x), some (.inl (nI k)), u, v, w] [] M1 (0, 0) := by
  intro m
  induction m with
  | zero =>
    intro k M1 hk hF hz
    have e : k = 7 := by omega
    subst e
    rw [eK_152_2]
    simp (disch := omega) only [eK_152_3, pw_bipush, pw_goto, pw_iconst, pw_nop0, qw_aload_n0, qw_gf_b, qw_gf_i, qw_gf_r, qw_iastore, qw_if_icmp_ge, qw_iinc2, qw_iload_n2, qw_istore_n2, qw_istore_n3, mm_rf_c, mm_rt_v, mm_rt_i, mm_rt_r, mm_alc_n, mm_alc_c, mm_rc_n, mm_rc_c, mm_wd_n, mm_wd_i, mm_wd_l, mm_wd_r, reduceCtorEq, false_implies, implies_true, true_implies, true_or, or_true, false_or, or_false, not_false_eq_true, mm_nl_n, mm_nl_i, mm_nl_r, mm_args_n, mm_args_i, mm_args_l, mm_args_r, mm_pad_0, mm_pad_n, mm_pad_c, List.length_cons, List.length_nil, List.nil_append, List.cons_append, Nat.zero_le, Nat.sub_zero, true_and, and_true, Nat.reduceAdd, Nat.reduceLeDiff, Nat.reduceLT, Nat.reduceSub, Nat.lt_irrefl, Nat.zero_add, Nat.add_zero, Nat.le_refl, k_20, k_10, k_01, ↓mm_if_T, ↓mm_if_F, ↓if10, ↓if00, not_true_eq_false, tf_01, ↓mm_if_tf, ↓mm_if_tn, ↓mm_if_nn, ↓mm_if_t (show (7 : Int32) ≤ nI 7 by decide)]
    exact h M1 hF hz
  | succ m ih =>
    intro k M1 hk hF hz
    have hJ1 := J1_R hJ hn ha hb hF
    have hL1 := hJ1.1
    have g1 : mm_R M1 6 0 19 = some 14 := hL1.1.2.2.2.2.2.2.2.2.2.2.1
    have g2 : mm_L M1 7 14 = 7 := hL1.2.2.2.2.2.2.2.2.2.2.2.1
    have g3 : mm_R M1 6 0 20 = some 15 := hL1.1.2.2.2.2.2.2.2.2.2.2.2
    have g4 : mm_L M1 7 15 = 7 := hL1.2.2.2.2.2.2.2.2.2.2.2.2
    have hlt : ¬ (7 : Int32) ≤ nI k := nI_ge (b := 7) (by omega) (by omega)
    rw [eK_152_2]
    simp (disch := omega) only [pw_bipush, pw_goto, pw_iconst, qw_aload_n0, qw_gf_b, qw_gf_i, qw_gf_r, qw_iastore, qw_if_icmp_ge, qw_iinc2, qw_iload_n2, mm_rf_c, mm_rt_v, mm_rt_i, mm_rt_r, mm_alc_n, mm_alc_c, mm_rc_n, mm_rc_c, mm_wd_n, mm_wd_i, mm_wd_l, mm_wd_r, reduceCtorEq, false_implies, implies_true, true_implies, true_or, or_true, false_or, or_false, not_false_eq_true, mm_nl_n, mm_nl_i, mm_nl_r, mm_args_n, mm_args_i, mm_args_l, mm_args_r, mm_pad_0, mm_pad_n, mm_pad_c, List.length_cons, List.length_nil, List.nil_append, List.cons_append, Nat.zero_le, Nat.sub_zero, true_and, and_true, Nat.reduceAdd, Nat.reduceLeDiff, Nat.reduceLT, Nat.reduceSub, Nat.lt_irrefl, Nat.zero_add, Nat.add_zero, Nat.le_refl, k_20, k_10, k_01, ↓mm_if_T, ↓mm_if_F, ↓if10, ↓if00, not_true_eq_false, tf_01, ↓mm_if_tf, ↓mm_if_tn, ↓mm_if_nn, ↓mm_if_f hlt, g1, g2, g3, g4, vi_, ci_, mm_L_s, mm_R_s, nI_1]
    refine ih (k + 1) _ (by omega) (FR_s (FR_s hF (by omega)) (by omega)) (fun i hi => ?_)
    rw [mm_I_i (by omega)]
    by_cases e : i = k
    · subst e; rw [mm_I_s]; rfl
    · rw [mm_I_k e]; exact hz i (by omega)

set_option maxHeartbeats 2000000 in
theorem k_152b (d : Nat) {M : mm_M} {post : mm_Post} {n : Nat} {X : Sx} {a : Nat} {P : Nat → Sx} {b : Nat} {K : Nat → Sx} (hJ : J1 M n X a P b K) (hn : n ≤ 7) (ha : a ≤ 8) (hb : b ≤ 2) (x c3 c4 c5 : Int32) (f : Nat → Nat) (h : ∀ M' z, FR M M' → (∀ k, k < 7 → mm_I M' 7 14 k = nI (f k)) → (∀ k, k < 7 → mm_I M' 7 15 k = nI (f k)) → pK d 152 post 6 [some (.inr (.inr (6, 0))), some (.inl x), some (.inl c3), some (.inl c4), some (.inl c5), z] [] M' (0, 0)) : ∀ (m k : Nat) (M1 : mm_M), k + m = 7 → FR M M1 → (∀ i, i < 7 → mm_I M1 7 14 i = nI (f i)) → (∀ i, i < k → mm_I M1 7 15 i = nI (f i)) → pK d 152 post 5 [some (.inr (.inr (6, 0))), some (.inl x), some (.inl c3), some (.inl c4), some (.inl c5), some (.inl (nI k))] [] M1 (0, 0) := by
  intro m
  induction m with
  | zero =>
    intro k M1 hk hF hr hz
    have e : k = 7 := by omega
    subst e
    rw [eK_152_5]
    simp (disch := omega) only [pw_bipush, pw_goto, qw_aload_n0, qw_gf_b, qw_gf_i, qw_gf_r, qw_iaload, qw_iastore, qw_if_icmp_ge, qw_iinc5, qw_iload5, mm_rf_c, mm_rt_v, mm_rt_i, mm_rt_r, mm_alc_n, mm_alc_c, mm_rc_n, mm_rc_c, mm_wd_n, mm_wd_i, mm_wd_l, mm_wd_r, reduceCtorEq, false_implies, implies_true, true_implies, true_or, or_true, false_or, or_false, not_false_eq_true, mm_nl_n, mm_nl_i, mm_nl_r, mm_args_n, mm_args_i, mm_args_l, mm_args_r, mm_pad_0, mm_pad_n, mm_pad_c, List.length_cons, List.length_nil, List.nil_append, List.cons_append, Nat.zero_le, Nat.sub_zero, true_and, and_true, Nat.reduceAdd, Nat.reduceLeDiff, Nat.reduceLT, Nat.reduceSub, Nat.lt_irrefl, Nat.zero_add, Nat.add_zero, Nat.le_refl, k_20, k_10, k_01, ↓mm_if_T, ↓mm_if_F, ↓if10, ↓if00, not_true_eq_false, tf_01, ↓mm_if_tf, ↓mm_if_tn, ↓mm_if_nn, ↓mm_if_t (show (7 : Int32) ≤ nI 7 by decide)]
    exact h M1 _ hF hr hz
  | succ m ih =>
    intro k M1 hk hF hr hz
    have hJ1 := J1_R hJ hn ha hb hF
    have hL1 := hJ1.1
    have g1 : mm_R M1 6 0 19 = some 14 := hL1.1.2.2.2.2.2.2.2.2.2.2.1
    have g2 : mm_L M1 7 14 = 7 := hL1.2.2.2.2.2.2.2.2.2.2.2.1
    have g3 : mm_R M1 6 0 20 = some 15 := hL1.1.2.2.2.2.2.2.2.2.2.2.2
    have g4 : mm_L M1 7 15 = 7 := hL1.2.2.2.2.2.2.2.2.2.2.2.2
    have hlt : ¬ (7 : Int32) ≤ nI k := nI_ge (b := 7) (by omega) (by omega)
    have rk := hr k (by omega)
    rw [eK_152_5]
    simp (disch := omega) only [pw_bipush, pw_goto, qw_aload_n0, qw_gf_b, qw_gf_i, qw_gf_r, qw_iaload, qw_iastore, qw_if_icmp_ge, qw_iinc5, qw_iload5, mm_rf_c, mm_rt_v, mm_rt_i, mm_rt_r, mm_alc_n, mm_alc_c, mm_rc_n, mm_rc_c, mm_wd_n, mm_wd_i, mm_wd_l, mm_wd_r, reduceCtorEq, false_implies, implies_true, true_implies, true_or, or_true, false_or, or_false, not_false_eq_true, mm_nl_n, mm_nl_i, mm_nl_r, mm_args_n, mm_args_i, mm_args_l, mm_args_r, mm_pad_0, mm_pad_n, mm_pad_c, List.length_cons, List.length_nil, List.nil_append, List.cons_append, Nat.zero_le, Nat.sub_zero, true_and, and_true, Nat.reduceAdd, Nat.reduceLeDiff, Nat.reduceLT, Nat.reduceSub, Nat.lt_irrefl, Nat.zero_add, Nat.add_zero, Nat.le_refl, k_20, k_10, k_01, ↓mm_if_T, ↓mm_if_F, ↓if10, ↓if00, not_true_eq_false, tf_01, ↓mm_if_tf, ↓mm_if_tn, ↓mm_if_nn, ↓mm_if_f hlt, g1, g2, g3, g4, vi_, ci_, mm_L_s, mm_R_s, rk, nI_1]
    refine ih (k + 1) _ (by omega) (FR_s hF (by omega)) (fun i hi => by rw [mm_I_i (by omega)]; exact hr i hi) (fun i hi => ?_)
    by_cases e : i = k
    · subst e; rw [mm_I_s]
    · rw [mm_I_k e]; exact hz i (by omega)

set_option maxHeartbeats 4000000 in
theorem k_152n (d : Nat) {M : mm_M} {post : mm_Post} {n : Nat} {X : Sx} {a : Nat} {P : Nat → Sx} {b : Nat} {K : Nat → Sx} (hJ : J1 M n X a P b K) (hn : n ≤ 7) (ha : a ≤ 8) (hb : b ≤ 2) (hW : WF n X.1.1) (x c2 c3 c4 : Int32) (f l : Nat → Nat) (hE : h_E X.1.1 n f) (lst : Prop)
    (h1 : ∀ k M' z, k < n → X.1.1 k 5 = 2 → f k < k → (∀ u, k < u → u < n → X.1.1 u 5 = 2 → u ≤ f u) → FR M M' → (∀ i, i < 7 → mm_I M' 7 14 i = nI (h_nx f k i)) → (∀ i, i < 7 → mm_I M' 7 15 i = mm_I M 7 15 i) → pK (d + 1) 152 post 4 [some (.inr (.inr (6, 0))), some (.inl x), some (.inl c2), some (.inl 1), some (.inl c4), z] [] M' (0, 0))
    (h0 : ∀ M' z, (∀ u, u < n → X.1.1 u 5 = 2 → u ≤ f u) → FR M M' → (∀ i, i < 7 → mm_I M' 7 15 i = mm_I M 7 15 i) → pK (d + 1) 152 post 4 [some (.inr (.inr (6, 0))), some (.inl x), some (.inl c2), some (.inl 0), some (.inl c4), z] [] M' (0, 0)) :
    ∀ (j : Nat) (M1 : mm_M), j ≤ n → FR M M1 → (∀ i, i < 7 → mm_I M1 7 15 i = mm_I M 7 15 i) → (∀ i, i < 7 → mm_I M1 7 14 i = nI (if i < j then f i else 0)) → (∀ u, j ≤ u → u < n → X.1.1 u 5 = 2 → u ≤ f u) → pK (d + 1) 152 post 7 [some (.inr (.inr (6, 0))), some (.inl x), some (.inl c2), some (.inl c3), some (.inl c4), some (.inl (nI j - 1))] [] M1 (0, 0) := by
  intro j
  induction j with
  | zero =>
    intro M1 hj hF hl hr hu
    have e : nI 0 - 1 = -1 := by decide
    rw [e]
    rw [eK_152_7]
    simp (disch := omega) only [eK_152_9, eK_152_10, eK_152_11, eK_152_12, pw_goto, pw_iconst, pw_nop0, qw_aload_n0, qw_dup2, qw_gf_b, qw_gf_i, qw_gf_r, qw_iadd, qw_iaload, qw_iastore, qw_if_eq, qw_if_icmp_lt, qw_if_lt, qw_iload5, qw_iload_n3, qw_invokevirtual3, qw_istore_n3, mm_rf_c, mm_rt_v, mm_rt_i, mm_rt_r, mm_alc_n, mm_alc_c, mm_rc_n, mm_rc_c, mm_wd_n, mm_wd_i, mm_wd_l, mm_wd_r, reduceCtorEq, false_implies, implies_true, true_implies, true_or, or_true, false_or, or_false, not_false_eq_true, mm_nl_n, mm_nl_i, mm_nl_r, mm_args_n, mm_args_i, mm_args_l, mm_args_r, mm_pad_0, mm_pad_n, mm_pad_c, List.length_cons, List.length_nil, List.nil_append, List.cons_append, Nat.zero_le, Nat.sub_zero, true_and, and_true, Nat.reduceAdd, Nat.reduceLeDiff, Nat.reduceLT, Nat.reduceSub, Nat.lt_irrefl, Nat.zero_add, Nat.add_zero, Nat.le_refl, k_20, k_10, k_01, ↓mm_if_T, ↓mm_if_F, ↓if10, ↓if00, not_true_eq_false, tf_01, ↓mm_if_tf, ↓mm_if_tn, ↓mm_if_nn, ↓mm_if_t (show (-1 : Int32) < 0 by decide)]
    exact h0 M1 _ (fun u => hu u (by omega)) hF hl
  | succ j ih =>
    intro M1 hj hF hl hr hu
    have hJ1 := J1_R hJ hn ha hb hF
    have hL1 := hJ1.1
    have g1 : mm_R M1 6 0 19 = some 14 := hL1.1.2.2.2.2.2.2.2.2.2.2.1
    have g2 : mm_L M1 7 14 = 7 := hL1.2.2.2.2.2.2.2.2.2.2.2.1
    have g3 : mm_R M1 6 0 20 = some 15 := hL1.1.2.2.2.2.2.2.2.2.2.2.2
    have g4 : mm_L M1 7 15 = 7 := hL1.2.2.2.2.2.2.2.2.2.2.2.2
    have hjn : j < n := by omega
    rw [nI_m1 (show 0 < j + 1 by omega), show j + 1 - 1 = j from rfl]
    have hge : ¬ nI j < 0 := nI_pos (by omega)
    have rj := hr j (by omega)
    rw [if_pos (by omega)] at rj
    have hfj := h_E_w hE j
    have rest := ih (mm_sI M1 7 14 j 0) (by omega) (FR_s hF (by omega)) (fun i hi => by rw [mm_I_i (by omega)]; exact hl i hi) (fun i hi => by
      by_cases e : i = j
      · rw [e, mm_I_s, if_neg (by omega)]; rfl
      · rw [mm_I_k e, hr i hi]
        by_cases e2 : i < j
        · rw [if_pos e2, if_pos (by omega)]
        · rw [if_neg e2, if_neg (by omega)])
    by_cases c1 : X.1.1 j 5 = 2
    · by_cases c2_ : f j < j
      · have c2' : nI (f j) < nI j := nI_lt c2_ (by omega)
        rw [eK_152_7]
        simp (disch := omega) only [eK_152_8, eK_152_9, eK_152_10, eK_152_11, eK_152_12, pw_goto, pw_iconst, pw_nop0, qw_aload_n0, qw_dup2, qw_gf_b, qw_gf_i, qw_gf_r, qw_iadd, qw_iaload, qw_iastore, qw_if_eq, qw_if_icmp_lt, qw_if_lt, qw_iinc5, qw_iload5, qw_iload_n3, qw_invokevirtual3, qw_istore_n3, mm_rf_c, mm_rt_v, mm_rt_i, mm_rt_r, mm_alc_n, mm_alc_c, mm_rc_n, mm_rc_c, mm_wd_n, mm_wd_i, mm_wd_l, mm_wd_r, reduceCtorEq, false_implies, implies_true, true_implies, true_or, or_true, false_or, or_false, not_false_eq_true, mm_nl_n, mm_nl_i, mm_nl_r, mm_args_n, mm_args_i, mm_args_l, mm_args_r, mm_pad_0, mm_pad_n, mm_pad_c, List.length_cons, List.length_nil, List.nil_append, List.cons_append, Nat.zero_le, Nat.sub_zero, true_and, and_true, Nat.reduceAdd, Nat.reduceLeDiff, Nat.reduceLT, Nat.reduceSub, Nat.lt_irrefl, Nat.zero_add, Nat.add_zero, Nat.le_refl, k_20, k_10, k_01, ↓mm_if_T, ↓mm_if_F, ↓if10, ↓if00, not_true_eq_false, tf_01, ↓mm_if_tf, ↓mm_if_tn, ↓mm_if_nn, ↓mm_if_f hge, z_120 d hL1 hn hJ1.2.1 hJ1.2.2.1 hW hjn, ↓mm_if_t c1, g1, g2, vi_, ci_, rj, ↓mm_if_t c2', nI_1, nI_s1]
        refine h1 j _ _ hjn c1 c2_ (fun u a b => hu u (by omega) b) (FR_s hF (by omega)) (fun i hi => ?_) (fun i hi => by rw [mm_I_i (by omega)]; exact hl i hi)
        unfold h_nx
        by_cases e : i = j
        · rw [e, mm_I_s, if_neg (by omega), if_pos rfl]
        · rw [mm_I_k e, hr i hi]
          by_cases e2 : i < j
          · rw [if_pos e2, if_pos (by omega)]
          · rw [if_neg e2, if_neg (by omega), if_neg e]
      · have c2' : ¬ nI (f j) < nI j := nI_nlt (by omega) (by omega)
        have kk := rest (fun u a b c => by
          by_cases e : u = j
          · rw [e]; omega
          · exact hu u (by omega) b c)
        rw [eK_152_7]
        simp (disch := omega) only [eK_152_8, pw_goto, pw_iconst, pw_nop0, qw_aload_n0, qw_gf_b, qw_gf_i, qw_gf_r, qw_iaload, qw_iastore, qw_if_eq, qw_if_icmp_lt, qw_if_lt, qw_iinc5, qw_iload5, qw_invokevirtual3, mm_rf_c, mm_rt_v, mm_rt_i, mm_rt_r, mm_alc_n, mm_alc_c, mm_rc_n, mm_rc_c, mm_wd_n, mm_wd_i, mm_wd_l, mm_wd_r, reduceCtorEq, false_implies, implies_true, true_implies, true_or, or_true, false_or, or_false, not_false_eq_true, mm_nl_n, mm_nl_i, mm_nl_r, mm_args_n, mm_args_i, mm_args_l, mm_args_r, mm_pad_0, mm_pad_n, mm_pad_c, List.length_cons, List.length_nil, List.nil_append, List.cons_append, Nat.zero_le, Nat.sub_zero, true_and, and_true, Nat.reduceAdd, Nat.reduceLeDiff, Nat.reduceLT, Nat.reduceSub, Nat.lt_irrefl, Nat.zero_add, Nat.add_zero, Nat.le_refl, k_20, k_10, k_01, ↓mm_if_T, ↓mm_if_F, ↓if10, ↓if00, not_true_eq_false, tf_01, ↓mm_if_tf, ↓mm_if_tn, ↓mm_if_nn, ↓mm_if_f hge, z_120 d hL1 hn hJ1.2.1 hJ1.2.2.1 hW hjn, ↓mm_if_t c1, g1, g2, vi_, ci_, rj, ↓mm_if_f c2', nI_1, nI_s1]
        exact kk
    · have kk := rest (fun u a b c => by
        by_cases e : u = j
        · rw [e] at c; exact absurd c c1
        · exact hu u (by omega) b c)
      rw [eK_152_7]
      simp (disch := omega) only [eK_152_8, pw_goto, pw_iconst, pw_nop0, qw_aload_n0, qw_gf_b, qw_gf_i, qw_gf_r, qw_iaload, qw_iastore, qw_if_eq, qw_if_icmp_lt, qw_if_lt, qw_iinc5, qw_iload5, qw_invokevirtual3, mm_rf_c, mm_rt_v, mm_rt_i, mm_rt_r, mm_alc_n, mm_alc_c, mm_rc_n, mm_rc_c, mm_wd_n, mm_wd_i, mm_wd_l, mm_wd_r, reduceCtorEq, false_implies, implies_true, true_implies, true_or, or_true, false_or, or_false, not_false_eq_true, mm_nl_n, mm_nl_i, mm_nl_r, mm_args_n, mm_args_i, mm_args_l, mm_args_r, mm_pad_0, mm_pad_n, mm_pad_c, List.length_cons, List.length_nil, List.nil_append, List.cons_append, Nat.zero_le, Nat.sub_zero, true_and, and_true, Nat.reduceAdd, Nat.reduceLeDiff, Nat.reduceLT, Nat.reduceSub, Nat.lt_irrefl, Nat.zero_add, Nat.add_zero, Nat.le_refl, k_20, k_10, k_01, ↓mm_if_T, ↓mm_if_F, ↓if10, ↓if00, not_true_eq_false, tf_01, ↓mm_if_tf, ↓mm_if_tn, ↓mm_if_nn, ↓mm_if_f hge, z_120 d hL1 hn hJ1.2.1 hJ1.2.2.1 hW hjn, ↓mm_if_f c1, g1, g2, vi_, ci_, nI_s1]
      exact kk

set_option maxHeartbeats 4000000 in
theorem k_152 (d : Nat) {M : mm_M} {post : mm_Post} {n : Nat} {X : Sx} {a : Nat} {P : Nat → Sx} {b : Nat} {K : Nat → Sx} (hJ : J1 M n X a P b K) (hn : n ≤ 7) (ha : a ≤ 8) (hb : b ≤ 2) (hW : WF n X.1.1) (x : Int32) (h : ∀ M' c l z z', FR M M' → c ≤ 7 → h_be X.1.1 n c l → (∀ i, i < 7 → mm_I M' 7 15 i = nI (l i)) → pK (d + 4) 152 post 13 [some (.inr (.inr (6, 0))), some (.inl x), some (.inl (nI c)), some (.inl 0), z, z'] [] M' (0, 0)) :
    ∀ (m : Nat) (f l : Nat → Nat) (c : Nat) (M1 : mm_M) (z z' : Option mm_V), 5040 ≤ h_v X.1.1 f n + m → h_E X.1.1 n f → h_I X.1.1 n false f c l → c ≤ 99 → FR M M1 → (∀ i, i < 7 → mm_I M1 7 14 i = nI (f i)) → (c ≤ 7 → ∀ i, i < 7 → mm_I M1 7 15 i = nI (l i)) → pK (d + 4) 152 post 4 [some (.inr (.inr (6, 0))), some (.inl x), some (.inl (nI c)), some (.inl 1), z, z'] [] M1 (0, 0) := by
  intro m
  induction m with
  | zero =>
    intro f l c M1 z z' hm hE
    have := h_v_lt hE n
    have := fc_7 n (by omega)
    omega
  | succ m ih =>
    intro f l c M1 z z' hm hE hI hc hF hr hl
    have hJ1 := J1_R hJ hn ha hb hF
    have hL1 := hJ1.1
    have g1 : mm_R M1 6 0 19 = some 14 := hL1.1.2.2.2.2.2.2.2.2.2.2.1
    have g2 : mm_L M1 7 14 = 7 := hL1.2.2.2.2.2.2.2.2.2.2.2.1
    have g3 : mm_R M1 6 0 20 = some 15 := hL1.1.2.2.2.2.2.2.2.2.2.2.2
    have g4 : mm_L M1 7 15 = 7 := hL1.2.2.2.2.2.2.2.2.2.2.2.2
    have hM1 := hJ1.2.1.1
    have f7 : ∀ v, v < 7 → f v ≤ 7 := fun v hv => Nat.le_trans (h_E_w hE v) (by omega)
    -- on to the next, from block 6
    have nxt : ∀ (c' : Nat) (l' : Nat → Nat) (M2 : mm_M) (q4 : Int32) (u : Option mm_V), h_I X.1.1 n true f c' l' → c' ≤ 99 → FR M1 M2 → (∀ i, i < 7 → mm_I M2 7 14 i = nI (f i)) → (c' ≤ 7 → ∀ i, i < 7 → mm_I M2 7 15 i = nI (l' i)) → pK (d + 4) 152 post 6 [some (.inr (.inr (6, 0))), some (.inl x), some (.inl (nI c')), some (.inl 1), some (.inl q4), u] [] M2 (0, 0) := by
      intro c' l' M2 q4 u hI' hc' hF' hr' hl'
      have hJ2 := J1_R hJ1 hn ha hb hF'
      have hM2 := hJ2.2.1.1
      have fin := k_152n (d + 3) hJ2 hn ha hb hW (post := post) x (nI c') 1 q4 f l' hE True (fun k M3 z hk h5 hlt hmx hF3 hr3 hl3 => ih (h_nx f k) l' c' M3 _ z (by have := (h_v_nx (A := X.1.1) (n := n) (k := k) hE n).2 hk; omega) (h_E_nx hE hk h5 hlt) (h_I_nx hk h5 hmx hI') hc' (FR_tr hF (FR_tr hF' hF3)) hr3 (fun y i hi => by rw [hl3 i hi]; exact hl' y i hi)) (fun M3 z hmx hF3 hl3 => by
        obtain ⟨e7, hbe⟩ := h_I_end hmx hI'
        have := h M3 c' l' (some (.inl q4)) z (FR_tr hF (FR_tr hF' hF3)) e7 hbe (fun i hi => by rw [hl3 i hi]; exact hl' e7 i hi)
        rw [eK_152_4]
        simp (disch := omega) only [pw_iconst, pw_nop0, qw_aload_n0, qw_if_eq, qw_if_icmp_ge, qw_iload4, qw_iload_n2, qw_iload_n3, qw_invokevirtual1, qw_istore4, qw_istore5, qw_istore_n2, mm_rf_c, mm_rt_v, mm_rt_i, mm_rt_r, mm_alc_n, mm_alc_c, mm_rc_n, mm_rc_c, mm_wd_n, mm_wd_i, mm_wd_l, mm_wd_r, reduceCtorEq, false_implies, implies_true, true_implies, true_or, or_true, false_or, or_false, not_false_eq_true, mm_nl_n, mm_nl_i, mm_nl_r, mm_args_n, mm_args_i, mm_args_l, mm_args_r, mm_pad_0, mm_pad_n, mm_pad_c, List.length_cons, List.length_nil, List.nil_append, List.cons_append, Nat.zero_le, Nat.sub_zero, true_and, and_true, Nat.reduceAdd, Nat.reduceLeDiff, Nat.reduceLT, Nat.reduceSub, Nat.lt_irrefl, Nat.zero_add, Nat.add_zero, Nat.le_refl, k_20, k_10, k_01, ↓mm_if_T, ↓mm_if_F, ↓if10, ↓if00, not_true_eq_false, tf_01, ↓mm_if_tf, ↓mm_if_tn, ↓mm_if_nn]
        exact this) n M2 (by omega) (FR_rf M2) (fun _ _ => rfl) (fun i hi => by
          rw [hr' i hi]
          by_cases e : i < n
          · rw [if_pos e]
          · rw [if_neg e, (hE i).2 (fun y => e y.1)]) (fun u a b => by omega)
      rw [eK_152_6]
      simp (disch := omega) only [pw_iconst, pw_nop0, qw_aload_n0, qw_gf_b, qw_gf_i, qw_gf_r, qw_istore5, qw_isub, mm_rf_c, mm_rt_v, mm_rt_i, mm_rt_r, mm_alc_n, mm_alc_c, mm_rc_n, mm_rc_c, mm_wd_n, mm_wd_i, mm_wd_l, mm_wd_r, reduceCtorEq, false_implies, implies_true, true_implies, true_or, or_true, false_or, or_false, not_false_eq_true, mm_nl_n, mm_nl_i, mm_nl_r, mm_args_n, mm_args_i, mm_args_l, mm_args_r, mm_pad_0, mm_pad_n, mm_pad_c, List.length_cons, List.length_nil, List.nil_append, List.cons_append, Nat.zero_le, Nat.sub_zero, true_and, and_true, Nat.reduceAdd, Nat.reduceLeDiff, Nat.reduceLT, Nat.reduceSub, Nat.lt_irrefl, Nat.zero_add, Nat.add_zero, Nat.le_refl, k_20, k_10, k_01, ↓mm_if_T, ↓mm_if_F, ↓if10, ↓if00, not_true_eq_false, tf_01, ↓mm_if_tf, ↓mm_if_tn, ↓mm_if_nn, hM2]
      exact fin
    rw [eK_152_4]
    simp (disch := omega) only [pw_iconst, pw_nop0, qw_aload_n0, qw_if_eq, qw_if_icmp_ge, qw_iload4, qw_iload_n2, qw_iload_n3, qw_invokevirtual1, qw_istore4, qw_istore5, qw_istore_n2, mm_rf_c, mm_rt_v, mm_rt_i, mm_rt_r, mm_alc_n, mm_alc_c, mm_rc_n, mm_rc_c, mm_wd_n, mm_wd_i, mm_wd_l, mm_wd_r, reduceCtorEq, false_implies, implies_true, true_implies, true_or, or_true, false_or, or_false, not_false_eq_true, mm_nl_n, mm_nl_i, mm_nl_r, mm_args_n, mm_args_i, mm_args_l, mm_args_r, mm_pad_0, mm_pad_n, mm_pad_c, List.length_cons, List.length_nil, List.nil_append, List.cons_append, Nat.zero_le, Nat.sub_zero, true_and, and_true, Nat.reduceAdd, Nat.reduceLeDiff, Nat.reduceLT, Nat.reduceSub, Nat.lt_irrefl, Nat.zero_add, Nat.add_zero, Nat.le_refl, k_20, k_10, k_01, ↓mm_if_T, ↓mm_if_F, ↓if10, ↓if00, not_true_eq_false, tf_01, ↓mm_if_tf, ↓mm_if_tn, ↓mm_if_nn]
    refine r_151 d hL1 hn hJ1.2.1 hJ1.2.2.1 hW hr f7 (fun ho => ?_) (fun ho => ?_)
    · have hu7 : h_us X.1.1 f n ≤ 7 := Nat.le_trans (h_us_w n (fun v hv => ho v hv)) hn
      by_cases q : h_us X.1.1 f n < c
      · have q' : ¬ nI c ≤ nI (h_us X.1.1 f n) := nI_ge q (by omega)
        have fin := k_152b (d + 4) hJ1 hn ha hb (post := post) x (nI (h_us X.1.1 f n)) 1 (nI (h_us X.1.1 f n)) f (fun M2 z hF2 hr2 hl2 => nxt (h_us X.1.1 f n) f M2 (nI (h_us X.1.1 f n)) z (h_I_new hI ho hu7 q) (by omega) hF2 hr2 (fun _ => hl2)) 7 0 M1 (by omega) (FR_rf M1) hr (fun i hi => by omega)
        simp (disch := omega) only [pw_iconst, pw_nop0, qw_aload_n0, qw_if_eq, qw_if_icmp_ge, qw_iload4, qw_iload_n2, qw_iload_n3, qw_invokevirtual1, qw_istore4, qw_istore5, qw_istore_n2, mm_rf_c, mm_rt_v, mm_rt_i, mm_rt_r, mm_alc_n, mm_alc_c, mm_rc_n, mm_rc_c, mm_wd_n, mm_wd_i, mm_wd_l, mm_wd_r, reduceCtorEq, false_implies, implies_true, true_implies, true_or, or_true, false_or, or_false, not_false_eq_true, mm_nl_n, mm_nl_i, mm_nl_r, mm_args_n, mm_args_i, mm_args_l, mm_args_r, mm_pad_0, mm_pad_n, mm_pad_c, List.length_cons, List.length_nil, List.nil_append, List.cons_append, Nat.zero_le, Nat.sub_zero, true_and, and_true, Nat.reduceAdd, Nat.reduceLeDiff, Nat.reduceLT, Nat.reduceSub, Nat.lt_irrefl, Nat.zero_add, Nat.add_zero, Nat.le_refl, k_20, k_10, k_01, ↓mm_if_T, ↓mm_if_F, ↓if10, ↓if00, not_true_eq_false, tf_01, ↓mm_if_tf, ↓mm_if_tn, ↓mm_if_nn, ↓mm_if_f q']
        exact fin
      · have q' : nI c ≤ nI (h_us X.1.1 f n) := nI_le (by omega) (by omega)
        have fin := fun u => nxt c l M1 (nI (h_us X.1.1 f n)) u (h_I_old hI (fun _ => ⟨hu7, by omega⟩)) hc (FR_rf M1) hr hl
        simp (disch := omega) only [pw_iconst, pw_nop0, qw_aload_n0, qw_if_eq, qw_if_icmp_ge, qw_iload4, qw_iload_n2, qw_iload_n3, qw_invokevirtual1, qw_istore4, qw_istore5, qw_istore_n2, mm_rf_c, mm_rt_v, mm_rt_i, mm_rt_r, mm_alc_n, mm_alc_c, mm_rc_n, mm_rc_c, mm_wd_n, mm_wd_i, mm_wd_l, mm_wd_r, reduceCtorEq, false_implies, implies_true, true_implies, true_or, or_true, false_or, or_false, not_false_eq_true, mm_nl_n, mm_nl_i, mm_nl_r, mm_args_n, mm_args_i, mm_args_l, mm_args_r, mm_pad_0, mm_pad_n, mm_pad_c, List.length_cons, List.length_nil, List.nil_append, List.cons_append, Nat.zero_le, Nat.sub_zero, true_and, and_true, Nat.reduceAdd, Nat.reduceLeDiff, Nat.reduceLT, Nat.reduceSub, Nat.lt_irrefl, Nat.zero_add, Nat.add_zero, Nat.le_refl, k_20, k_10, k_01, ↓mm_if_T, ↓mm_if_F, ↓if10, ↓if00, not_true_eq_false, tf_01, ↓mm_if_tf, ↓mm_if_tn, ↓mm_if_nn, ↓mm_if_t q']
        exact fin _
    · have q' : nI c ≤ (99 : Int32) := nI_le (b := 99) hc (by omega)
      have fin := fun u => nxt c l M1 99 u (h_I_old hI (fun y => absurd y ho)) hc (FR_rf M1) hr hl
      simp (disch := omega) only [pw_iconst, pw_nop0, qw_aload_n0, qw_if_eq, qw_if_icmp_ge, qw_iload4, qw_iload_n2, qw_iload_n3, qw_invokevirtual1, qw_istore4, qw_istore5, qw_istore_n2, mm_rf_c, mm_rt_v, mm_rt_i, mm_rt_r, mm_alc_n, mm_alc_c, mm_rc_n, mm_rc_c, mm_wd_n, mm_wd_i, mm_wd_l, mm_wd_r, reduceCtorEq, false_implies, implies_true, true_implies, true_or, or_true, false_or, or_false, not_false_eq_true, mm_nl_n, mm_nl_i, mm_nl_r, mm_args_n, mm_args_i, mm_args_l, mm_args_r, mm_pad_0, mm_pad_n, mm_pad_c, List.length_cons, List.length_nil, List.nil_append, List.cons_append, Nat.zero_le, Nat.sub_zero, true_and, and_true, Nat.reduceAdd, Nat.reduceLeDiff, Nat.reduceLT, Nat.reduceSub, Nat.lt_irrefl, Nat.zero_add, Nat.add_zero, Nat.le_refl, k_20, k_10, k_01, ↓mm_if_T, ↓mm_if_F, ↓if10, ↓if00, not_true_eq_false, tf_01, ↓mm_if_tf, ↓mm_if_tn, ↓mm_if_nn, ↓mm_if_t q']
      exact fin _

set_option maxHeartbeats 4000000 in
theorem r_152 (d : Nat) {M : mm_M} {post : mm_Post} {n : Nat} {X : Sx} {a : Nat} {P : Nat → Sx} {b : Nat} {K : Nat → Sx} (hJ : J1 M n X a P b K) (hn : n ≤ 7) (ha : a ≤ 8) (hb : b ≤ 2) (hW : WF n X.1.1) (x : Int32) (h : ∀ M' m f, J1 M' n X a P b K → FY M M' → h_be X.1.1 n m f → post (some (.inl (if x = -1 then nI m else if X.1.1 x.toNatClampNeg 5 = 2 then nI (f x.toNatClampNeg) else -4))) M') (hbad : ¬ x = -1 → ¬ isw n x → post (some (.inl (-1))) M) : pC (d + 5) 152 [.inr (.inr (6, 0)), .inl x] M post := by
  have hm := hJ.2.1.1
  have main : ((-1 : Int32) ≤ x ∧ x ≤ nI n - 1) → (∀ M' c l z z', FR M M' → c ≤ 7 → h_be X.1.1 n c l → (∀ i, i < 7 → mm_I M' 7 15 i = nI (l i)) → pK (d + 4) 152 post 13 [some (.inr (.inr (6, 0))), some (.inl x), some (.inl (nI c)), some (.inl 0), z, z'] [] M' (0, 0)) → pC (d + 5) 152 [.inr (.inr (6, 0)), .inl x] M post := by
    intro hx hh
    have h0 : h_E X.1.1 n (fun _ => 0) := fun w => ⟨fun _ _ => Nat.zero_le _, fun _ => rfl⟩
    have fin := k_152a (d + 4) hJ hn ha hb (post := post) x none none none (fun M' hF hz => k_152 d hJ hn ha hb hW x hh 5040 (fun _ => 0) (fun _ => 0) 99 M' none none (by omega) h0 (Or.inl ⟨rfl, fun g _ => ⟨fun z => by obtain ⟨w, _, _, y, _⟩ := z; exact absurd y (Nat.not_lt_zero _), fun y => absurd y (by decide)⟩⟩) (by omega) hF hz (fun y => by omega)) 7 0 M (by omega) (FR_rf M) (fun i hi => by omega)
    simp (disch := omega) only [eC_152, eK_152_0, eK_152_1, pw_iconst, pw_ldc2_w, pw_nop0, qw_aload_n0, qw_gf_b, qw_gf_i, qw_gf_r, qw_i2l, qw_if_ne, qw_iload_n1, qw_invokestatic3, qw_ireturn, qw_istore_n2, qw_isub, mm_rf_c, mm_rt_v, mm_rt_i, mm_rt_r, mm_alc_n, mm_alc_c, mm_rc_n, mm_rc_c, mm_wd_n, mm_wd_i, mm_wd_l, mm_wd_r, reduceCtorEq, false_implies, implies_true, true_implies, true_or, or_true, false_or, or_false, not_false_eq_true, mm_nl_n, mm_nl_i, mm_nl_r, mm_args_n, mm_args_i, mm_args_l, mm_args_r, mm_pad_0, mm_pad_n, mm_pad_c, List.length_cons, List.length_nil, List.nil_append, List.cons_append, Nat.zero_le, Nat.sub_zero, true_and, and_true, Nat.reduceAdd, Nat.reduceLeDiff, Nat.reduceLT, Nat.reduceSub, Nat.lt_irrefl, Nat.zero_add, Nat.add_zero, Nat.le_refl, k_20, k_10, k_01, ↓mm_if_T, ↓mm_if_F, ↓if10, ↓if00, not_true_eq_false, tf_01, ↓mm_if_tf, ↓mm_if_tn, ↓mm_if_nn, hm, r_97 (d + 3) x (-1) (nI n - 1), ↓mm_if_t hx]
    exact fin
  have em : (nI n - 1).toInt = (n : Int) - 1 := pk_sub_toInt (a := n) (b := 1) (by omega) (by omega)
  have z1 : (-1 : Int32).toInt = -1 := by decide
  have z0 : (0 : Int32).toInt = 0 := by decide
  by_cases c : x = -1
  · refine main ⟨by rw [c]; decide, by rw [c, i_le, em, z1]; omega⟩ (fun M' m l z z' hF h7 hbe hl => ?_)
    have hh := h M' m l (J1_R hJ hn ha hb hF) (FR_Y hF) hbe
    rw [if_pos c] at hh
    have cx : ¬ (0 : Int32) ≤ x := by rw [c]; decide
    rw [eK_152_13]
    simp (disch := omega) only [eK_152_16, pw_goto, qw_if_ge, qw_iload_n1, qw_iload_n2, qw_ireturn, mm_rf_c, mm_rt_v, mm_rt_i, mm_rt_r, mm_alc_n, mm_alc_c, mm_rc_n, mm_rc_c, mm_wd_n, mm_wd_i, mm_wd_l, mm_wd_r, reduceCtorEq, false_implies, implies_true, true_implies, true_or, or_true, false_or, or_false, not_false_eq_true, mm_nl_n, mm_nl_i, mm_nl_r, mm_args_n, mm_args_i, mm_args_l, mm_args_r, mm_pad_0, mm_pad_n, mm_pad_c, List.length_cons, List.length_nil, List.nil_append, List.cons_append, Nat.zero_le, Nat.sub_zero, true_and, and_true, Nat.reduceAdd, Nat.reduceLeDiff, Nat.reduceLT, Nat.reduceSub, Nat.lt_irrefl, Nat.zero_add, Nat.add_zero, Nat.le_refl, k_20, k_10, k_01, ↓mm_if_T, ↓mm_if_F, ↓if10, ↓if00, not_true_eq_false, tf_01, ↓mm_if_tf, ↓mm_if_tn, ↓mm_if_nn, ↓mm_if_f cx]
    exact hh
  by_cases c1 : isw n x
  · refine main ⟨Int32.le_trans (by decide) c1.1, c1.2⟩ (fun M' m l z z' hF h7 hbe hl => ?_)
    have hJ1 := J1_R hJ hn ha hb hF
    have hL1 := hJ1.1
    have g1 : mm_R M' 6 0 19 = some 14 := hL1.1.2.2.2.2.2.2.2.2.2.2.1
    have g2 : mm_L M' 7 14 = 7 := hL1.2.2.2.2.2.2.2.2.2.2.2.1
    have g3 : mm_R M' 6 0 20 = some 15 := hL1.1.2.2.2.2.2.2.2.2.2.2.2
    have g4 : mm_L M' 7 15 = 7 := hL1.2.2.2.2.2.2.2.2.2.2.2.2
    have hh := h M' m l hJ1 (FR_Y hF) hbe
    obtain ⟨w, hw, rfl⟩ := isw_of hn c1
    obtain ⟨v1, v2, v3⟩ := nI_v7 hw hn
    rw [if_neg c, v2] at hh
    have cx : (0 : Int32) ≤ nI w := nI_pos' (by omega)
    have lw := hl w (by omega)
    by_cases c5 : X.1.1 w 5 = 2
    · rw [if_pos c5] at hh
      rw [eK_152_13]
      simp (disch := omega) only [eK_152_14, eK_152_15, eK_152_16, pw_bipush, pw_goto, pw_iconst, pw_nop0, qw_aload_n0, qw_gf_b, qw_gf_i, qw_gf_r, qw_iaload, qw_if_eq, qw_if_ge, qw_iload_n1, qw_iload_n2, qw_invokevirtual3, qw_ireturn, mm_rf_c, mm_rt_v, mm_rt_i, mm_rt_r, mm_alc_n, mm_alc_c, mm_rc_n, mm_rc_c, mm_wd_n, mm_wd_i, mm_wd_l, mm_wd_r, reduceCtorEq, false_implies, implies_true, true_implies, true_or, or_true, false_or, or_false, not_false_eq_true, mm_nl_n, mm_nl_i, mm_nl_r, mm_args_n, mm_args_i, mm_args_l, mm_args_r, mm_pad_0, mm_pad_n, mm_pad_c, List.length_cons, List.length_nil, List.nil_append, List.cons_append, Nat.zero_le, Nat.sub_zero, true_and, and_true, Nat.reduceAdd, Nat.reduceLeDiff, Nat.reduceLT, Nat.reduceSub, Nat.lt_irrefl, Nat.zero_add, Nat.add_zero, Nat.le_refl, k_20, k_10, k_01, ↓mm_if_T, ↓mm_if_F, ↓if10, ↓if00, not_true_eq_false, tf_01, ↓mm_if_tf, ↓mm_if_tn, ↓mm_if_nn, ↓mm_if_t cx, z_120 (d + 3) hL1 hn hJ1.2.1 hJ1.2.2.1 hW hw, ↓mm_if_t c5, g3, g4, vi_, ci_, lw]
      exact hh
    · rw [if_neg c5] at hh
      rw [eK_152_13]
      simp (disch := omega) only [eK_152_14, eK_152_15, eK_152_16, pw_bipush, pw_goto, pw_iconst, pw_nop0, qw_aload_n0, qw_gf_b, qw_gf_i, qw_gf_r, qw_iaload, qw_if_eq, qw_if_ge, qw_iload_n1, qw_iload_n2, qw_invokevirtual3, qw_ireturn, mm_rf_c, mm_rt_v, mm_rt_i, mm_rt_r, mm_alc_n, mm_alc_c, mm_rc_n, mm_rc_c, mm_wd_n, mm_wd_i, mm_wd_l, mm_wd_r, reduceCtorEq, false_implies, implies_true, true_implies, true_or, or_true, false_or, or_false, not_false_eq_true, mm_nl_n, mm_nl_i, mm_nl_r, mm_args_n, mm_args_i, mm_args_l, mm_args_r, mm_pad_0, mm_pad_n, mm_pad_c, List.length_cons, List.length_nil, List.nil_append, List.cons_append, Nat.zero_le, Nat.sub_zero, true_and, and_true, Nat.reduceAdd, Nat.reduceLeDiff, Nat.reduceLT, Nat.reduceSub, Nat.lt_irrefl, Nat.zero_add, Nat.add_zero, Nat.le_refl, k_20, k_10, k_01, ↓mm_if_T, ↓mm_if_F, ↓if10, ↓if00, not_true_eq_false, tf_01, ↓mm_if_tf, ↓mm_if_tn, ↓mm_if_nn, ↓mm_if_t cx, z_120 (d + 3) hL1 hn hJ1.2.1 hJ1.2.2.1 hW hw, ↓mm_if_f c5]
      exact hh
  · have hb2 := hbad c c1
    have cx : ¬ ((-1 : Int32) ≤ x ∧ x ≤ nI n - 1) := by
      intro y
      refine c1 ⟨?_, y.2⟩
      have y1 := y.1
      rw [i_le, z1] at y1
      rw [i_le, z0]
      have : ¬ x.toInt = -1 := fun q => c (Int32.toInt_inj.mp (by rw [q, z1]))
      omega
    simp (disch := omega) only [eC_152, eK_152_0, eK_152_1, pw_iconst, pw_ldc2_w, pw_nop0, qw_aload_n0, qw_gf_b, qw_gf_i, qw_gf_r, qw_i2l, qw_if_ne, qw_iload_n1, qw_invokestatic3, qw_ireturn, qw_istore_n2, qw_isub, mm_rf_c, mm_rt_v, mm_rt_i, mm_rt_r, mm_alc_n, mm_alc_c, mm_rc_n, mm_rc_c, mm_wd_n, mm_wd_i, mm_wd_l, mm_wd_r, reduceCtorEq, false_implies, implies_true, true_implies, true_or, or_true, false_or, or_false, not_false_eq_true, mm_nl_n, mm_nl_i, mm_nl_r, mm_args_n, mm_args_i, mm_args_l, mm_args_r, mm_pad_0, mm_pad_n, mm_pad_c, List.length_cons, List.length_nil, List.nil_append, List.cons_append, Nat.zero_le, Nat.sub_zero, true_and, and_true, Nat.reduceAdd, Nat.reduceLeDiff, Nat.reduceLT, Nat.reduceSub, Nat.lt_irrefl, Nat.zero_add, Nat.add_zero, Nat.le_refl, k_20, k_10, k_01, ↓mm_if_T, ↓mm_if_F, ↓if10, ↓if00, not_true_eq_false, tf_01, ↓mm_if_tf, ↓mm_if_tn, ↓mm_if_nn, hm, r_97 (d + 3) x (-1) (nI n - 1), ↓mm_if_f cx]
    exact hb2

