/-! THE CLASS: snow -/
theorem b7_10 : ∀ k, k < 9 → nI (10 ^ k) * 10 = nI (10 ^ (k + 1)) := by decide +kernel
set_option maxHeartbeats 4000000 in
theorem l_92 (d : Nat) {M : mm_M} {post : mm_Post} (N : Nat) (hN : N ≤ 8) (h : post (some (.inl (nI (10 ^ N)))) M) : ∀ (m i : Nat), i + m = N → pK d 92 post 1 [some (.inl (nI N)), some (.inl (nI (10 ^ i))), some (.inl (nI i))] [] M (0, 0) := by
  intro m
  induction m with
  | zero =>
    intro i hi
    have e : i = N := by omega
    subst e
    rw [eK_92_1]
    simp only [eK_92_0, eK_92_2, pw_bipush, pw_goto, pw_iconst, pw_if_icmp, pw_iinc, pw_iload_n, pw_imul, pw_ireturn, pw_istore_n, pw_nop0, mm_pI_c, mm_pL_c, mm_pA_c, mm_pR_c, mm_p1_i, mm_p1_r, mm_pN_0, mm_pN_s, mm_lI_c, mm_lL_c, mm_lA_c, mm_wd_n, mm_wd_i, mm_wd_l, mm_wd_r, mm_gf_i, mm_gf_b, mm_gf_r, mm_rf_c, mm_pf_i, mm_pf_b, mm_pf_r, mm_rt_v, mm_rt_i, mm_rt_r, mm_c_eq, mm_c_ne, mm_c_lt, mm_c_ge, mm_c_gt, mm_c_le, mm_sw_n, mm_sw_c, mm_alc_n, mm_alc_c, mm_rc_n, mm_rc_c, reduceCtorEq, false_implies, implies_true, true_implies, true_or, or_true, false_or, or_false, not_false_eq_true, mm_at_0, mm_at_s, mm_set_0, mm_set_s, mm_nl_n, mm_nl_i, mm_nl_r, mm_args_n, mm_args_i, mm_args_l, mm_args_r, mm_pad_0, mm_pad_n, mm_pad_c, List.length_cons, List.length_nil, List.nil_append, List.cons_append, Nat.zero_le, Nat.sub_zero, true_and, and_true, Nat.reduceAdd, Nat.reduceLeDiff, Nat.reduceLT, Nat.reduceSub, Nat.lt_irrefl, Nat.zero_add, Nat.add_zero, k_20, k_10, k_01, mm_if_T, mm_if_F, not_true_eq_false, not_false_eq_true, mm_if_t (nI_le (Nat.le_refl i) (show i < 2 ^ 31 by omega))]
    exact h
  | succ m ih =>
    intro i hi
    have hq : ¬ nI N ≤ nI i := nI_ge (by omega) (by omega)
    have hq2 : ¬ (8 : Int32) ≤ nI i := nI_ge (a := i) (b := 8) (by omega) (by omega)
    have key := ih (i + 1) (by omega)
    rw [eK_92_1]
    simp only [eK_92_0, eK_92_2, pw_bipush, pw_goto, pw_iconst, pw_if_icmp, pw_iinc, pw_iload_n, pw_imul, pw_ireturn, pw_istore_n, pw_nop0, mm_pI_c, mm_pL_c, mm_pA_c, mm_pR_c, mm_p1_i, mm_p1_r, mm_pN_0, mm_pN_s, mm_lI_c, mm_lL_c, mm_lA_c, mm_wd_n, mm_wd_i, mm_wd_l, mm_wd_r, mm_gf_i, mm_gf_b, mm_gf_r, mm_rf_c, mm_pf_i, mm_pf_b, mm_pf_r, mm_rt_v, mm_rt_i, mm_rt_r, mm_c_eq, mm_c_ne, mm_c_lt, mm_c_ge, mm_c_gt, mm_c_le, mm_sw_n, mm_sw_c, mm_alc_n, mm_alc_c, mm_rc_n, mm_rc_c, reduceCtorEq, false_implies, implies_true, true_implies, true_or, or_true, false_or, or_false, not_false_eq_true, mm_at_0, mm_at_s, mm_set_0, mm_set_s, mm_nl_n, mm_nl_i, mm_nl_r, mm_args_n, mm_args_i, mm_args_l, mm_args_r, mm_pad_0, mm_pad_n, mm_pad_c, List.length_cons, List.length_nil, List.nil_append, List.cons_append, Nat.zero_le, Nat.sub_zero, true_and, and_true, Nat.reduceAdd, Nat.reduceLeDiff, Nat.reduceLT, Nat.reduceSub, Nat.lt_irrefl, Nat.zero_add, Nat.add_zero, k_20, k_10, k_01, mm_if_T, mm_if_F, not_true_eq_false, not_false_eq_true, mm_if_f hq, mm_if_f hq2, nI_1, b7_10 i (show i < 9 by omega)]
    exact key
theorem e_92 (d : Nat) {M : mm_M} {post : mm_Post} (N : Nat) (hN : N ≤ 8) : pC (d + 1) 92 [.inl (nI N)] M post = post (some (.inl (nI (10 ^ N)))) M := by
  refine pC_one (fun post h => ?_) post
  have key := l_92 d N hN h N 0 (by omega)
  simp only [eC_92, eK_92_0, eK_92_2, pw_bipush, pw_goto, pw_iconst, pw_if_icmp, pw_iinc, pw_iload_n, pw_imul, pw_ireturn, pw_istore_n, pw_nop0, mm_pI_c, mm_pL_c, mm_pA_c, mm_pR_c, mm_p1_i, mm_p1_r, mm_pN_0, mm_pN_s, mm_lI_c, mm_lL_c, mm_lA_c, mm_wd_n, mm_wd_i, mm_wd_l, mm_wd_r, mm_gf_i, mm_gf_b, mm_gf_r, mm_rf_c, mm_pf_i, mm_pf_b, mm_pf_r, mm_rt_v, mm_rt_i, mm_rt_r, mm_c_eq, mm_c_ne, mm_c_lt, mm_c_ge, mm_c_gt, mm_c_le, mm_sw_n, mm_sw_c, mm_alc_n, mm_alc_c, mm_rc_n, mm_rc_c, reduceCtorEq, false_implies, implies_true, true_implies, true_or, or_true, false_or, or_false, not_false_eq_true, mm_at_0, mm_at_s, mm_set_0, mm_set_s, mm_nl_n, mm_nl_i, mm_nl_r, mm_args_n, mm_args_i, mm_args_l, mm_args_r, mm_pad_0, mm_pad_n, mm_pad_c, List.length_cons, List.length_nil, List.nil_append, List.cons_append, Nat.zero_le, Nat.sub_zero, true_and, and_true, Nat.reduceAdd, Nat.reduceLeDiff, Nat.reduceLT, Nat.reduceSub, Nat.lt_irrefl, Nat.zero_add, Nat.add_zero, k_20, k_10, k_01, mm_if_T, mm_if_F, not_true_eq_false, not_false_eq_true]
  exact key

theorem eu_h {a b : Nat} (h : b ≤ a) (hb : 0 < b) : 2 * (b * (a % b)) ≤ a * b := by
  have e := Nat.div_add_mod a b
  have q : b ≤ b * (a / b) := Nat.le_mul_of_pos_right _ (Nat.div_pos h hb)
  have r := Nat.mod_lt a hb
  have z : 2 * (a % b) ≤ a := by omega
  calc 2 * (b * (a % b)) = b * (2 * (a % b)) := by rw [Nat.mul_left_comm]
    _ ≤ b * a := Nat.mul_le_mul_left _ z
    _ = a * b := Nat.mul_comm _ _
theorem eu_g (a b : Nat) : Nat.gcd b (a % b) = Nat.gcd a b := by
  rw [Nat.gcd_comm b, ← Nat.gcd_rec, Nat.gcd_comm]

set_option maxHeartbeats 4000000 in
theorem s_93 (d : Nat) {M : mm_M} {post : mm_Post} (x y : Int32) (s a b : Nat) (u : Option mm_V) (hss : s < 100) (ha : a < 2 ^ 31) (hb : b < 2 ^ 31) (hb0 : 0 < b) (h : ∀ u, pK d 93 post 1 [some (.inl x), some (.inl y), some (.inl (nI b)), some (.inl (nI (a % b))), some (.inl (nI (s + 1))), u] [] M (0, 0)) : pK d 93 post 1 [some (.inl x), some (.inl y), some (.inl (nI a)), some (.inl (nI b)), some (.inl (nI s)), u] [] M (0, 0) := by
  have hs : ¬ (100 : Int32) ≤ nI s := nI_ge (a := s) (b := 100) (by omega) (by omega)
  have hp : ¬ nI b ≤ (0 : Int32) := nI_ge (a := 0) (b := b) (by omega) (by omega)
  have nz : ¬ nI b = 0 := nI_ne0 (by omega) (by omega)
  rw [eK_93_1]
  simp only [eK_93_0, eK_93_2, pw_bipush, pw_goto, pw_iconst, pw_ifCond, pw_if_icmp, pw_iinc, pw_iload, pw_iload_n, pw_irem, pw_ireturn, pw_istore, pw_istore_n, pw_nop0, mm_pI_c, mm_pL_c, mm_pA_c, mm_pR_c, mm_p1_i, mm_p1_r, mm_pN_0, mm_pN_s, mm_lI_c, mm_lL_c, mm_lA_c, mm_wd_n, mm_wd_i, mm_wd_l, mm_wd_r, mm_gf_i, mm_gf_b, mm_gf_r, mm_rf_c, mm_pf_i, mm_pf_b, mm_pf_r, mm_rt_v, mm_rt_i, mm_rt_r, mm_c_eq, mm_c_ne, mm_c_lt, mm_c_ge, mm_c_gt, mm_c_le, mm_sw_n, mm_sw_c, mm_alc_n, mm_alc_c, mm_rc_n, mm_rc_c, reduceCtorEq, false_implies, implies_true, true_implies, true_or, or_true, false_or, or_false, not_false_eq_true, mm_at_0, mm_at_s, mm_set_0, mm_set_s, mm_nl_n, mm_nl_i, mm_nl_r, mm_args_n, mm_args_i, mm_args_l, mm_args_r, mm_pad_0, mm_pad_n, mm_pad_c, List.length_cons, List.length_nil, List.nil_append, List.cons_append, Nat.zero_le, Nat.sub_zero, true_and, and_true, Nat.reduceAdd, Nat.reduceLeDiff, Nat.reduceLT, Nat.reduceSub, Nat.lt_irrefl, Nat.zero_add, Nat.add_zero, k_20, k_10, k_01, mm_if_T, mm_if_F, not_true_eq_false, not_false_eq_true, mm_if_f hs, mm_if_f hp, nz, pk_rem (show a < 2 ^ 31 by omega) hb0 (show b < 2 ^ 31 by omega), nI_1]
  exact h _
theorem l_93 (d : Nat) {M : mm_M} {post : mm_Post} (x y : Int32) (g : Nat) (h : post (some (.inl (nI g))) M) : ∀ (m s a b : Nat) (u : Option mm_V), s + m < 100 → b ≤ a → a < 2 ^ 31 → a * b < 2 ^ m → Nat.gcd a b = g → pK d 93 post 1 [some (.inl x), some (.inl y), some (.inl (nI a)), some (.inl (nI b)), some (.inl (nI s)), u] [] M (0, 0) := by
  have hz : ∀ (s a b : Nat) (u : Option mm_V), s < 100 → b = 0 → Nat.gcd a b = g → pK d 93 post 1 [some (.inl x), some (.inl y), some (.inl (nI a)), some (.inl (nI b)), some (.inl (nI s)), u] [] M (0, 0) := by
    intro s a b u hss e he
    subst e
    rw [Nat.gcd_zero_right] at he
    subst he
    have hs : ¬ (100 : Int32) ≤ nI s := nI_ge (a := s) (b := 100) (by omega) (by omega)
    have hp : nI 0 ≤ (0 : Int32) := by decide
    rw [eK_93_1]
    simp only [eK_93_0, eK_93_2, pw_bipush, pw_goto, pw_iconst, pw_ifCond, pw_if_icmp, pw_iinc, pw_iload, pw_iload_n, pw_irem, pw_ireturn, pw_istore, pw_istore_n, pw_nop0, mm_pI_c, mm_pL_c, mm_pA_c, mm_pR_c, mm_p1_i, mm_p1_r, mm_pN_0, mm_pN_s, mm_lI_c, mm_lL_c, mm_lA_c, mm_wd_n, mm_wd_i, mm_wd_l, mm_wd_r, mm_gf_i, mm_gf_b, mm_gf_r, mm_rf_c, mm_pf_i, mm_pf_b, mm_pf_r, mm_rt_v, mm_rt_i, mm_rt_r, mm_c_eq, mm_c_ne, mm_c_lt, mm_c_ge, mm_c_gt, mm_c_le, mm_sw_n, mm_sw_c, mm_alc_n, mm_alc_c, mm_rc_n, mm_rc_c, reduceCtorEq, false_implies, implies_true, true_implies, true_or, or_true, false_or, or_false, not_false_eq_true, mm_at_0, mm_at_s, mm_set_0, mm_set_s, mm_nl_n, mm_nl_i, mm_nl_r, mm_args_n, mm_args_i, mm_args_l, mm_args_r, mm_pad_0, mm_pad_n, mm_pad_c, List.length_cons, List.length_nil, List.nil_append, List.cons_append, Nat.zero_le, Nat.sub_zero, true_and, and_true, Nat.reduceAdd, Nat.reduceLeDiff, Nat.reduceLT, Nat.reduceSub, Nat.lt_irrefl, Nat.zero_add, Nat.add_zero, k_20, k_10, k_01, mm_if_T, mm_if_F, not_true_eq_false, not_false_eq_true, mm_if_f hs, mm_if_t hp]
    exact h
  intro m
  induction m with
  | zero =>
    intro s a b u hs hba ha hab he
    refine hz s a b u (by omega) ?_ he
    rcases Nat.eq_zero_or_pos b with z | z
    · exact z
    · have := Nat.mul_le_mul (show 1 ≤ a by omega) (show 1 ≤ b by omega)
      simp at hab
      omega
  | succ m ih =>
    intro s a b u hs hba ha hab he
    rcases Nat.eq_zero_or_pos b with z | z
    · exact hz s a b u (by omega) z he
    · have r := Nat.mod_lt a z
      have e := eu_h hba z
      exact s_93 d x y s a b u (by omega) ha (by omega) z (fun u => ih (s + 1) b (a % b) u (by omega) (by omega) (by omega) (by rw [Nat.pow_succ] at hab; omega) (by rw [eu_g]; exact he))
theorem e_93 (d : Nat) {M : mm_M} {post : mm_Post} (a b : Nat) (hab : a ≤ b) (hb : b ≤ 100000000) (hb0 : 0 < b) : pC (d + 1) 93 [.inl (nI a), .inl (nI b)] M post = post (some (.inl (nI (Nat.gcd a b)))) M := by
  refine pC_one (fun post h => ?_) post
  have r := Nat.mod_lt a hb0
  have key := s_93 d (nI a) (nI b) 0 a b none (by omega) (by omega) (by omega) hb0 (fun u => l_93 d (nI a) (nI b) _ h 60 (0 + 1) b (a % b) u (by omega) (by omega) (by omega) (Nat.lt_of_le_of_lt (Nat.mul_le_mul hb (show a % b ≤ 100000000 by omega)) (by decide)) (eu_g a b))
  simp only [eC_93, eK_93_0, eK_93_2, pw_bipush, pw_goto, pw_iconst, pw_ifCond, pw_if_icmp, pw_iinc, pw_iload, pw_iload_n, pw_irem, pw_ireturn, pw_istore, pw_istore_n, pw_nop0, mm_pI_c, mm_pL_c, mm_pA_c, mm_pR_c, mm_p1_i, mm_p1_r, mm_pN_0, mm_pN_s, mm_lI_c, mm_lL_c, mm_lA_c, mm_wd_n, mm_wd_i, mm_wd_l, mm_wd_r, mm_gf_i, mm_gf_b, mm_gf_r, mm_rf_c, mm_pf_i, mm_pf_b, mm_pf_r, mm_rt_v, mm_rt_i, mm_rt_r, mm_c_eq, mm_c_ne, mm_c_lt, mm_c_ge, mm_c_gt, mm_c_le, mm_sw_n, mm_sw_c, mm_alc_n, mm_alc_c, mm_rc_n, mm_rc_c, reduceCtorEq, false_implies, implies_true, true_implies, true_or, or_true, false_or, or_false, not_false_eq_true, mm_at_0, mm_at_s, mm_set_0, mm_set_s, mm_nl_n, mm_nl_i, mm_nl_r, mm_args_n, mm_args_i, mm_args_l, mm_args_r, mm_pad_0, mm_pad_n, mm_pad_c, List.length_cons, List.length_nil, List.nil_append, List.cons_append, Nat.zero_le, Nat.sub_zero, true_and, and_true, Nat.reduceAdd, Nat.reduceLeDiff, Nat.reduceLT, Nat.reduceSub, Nat.lt_irrefl, Nat.zero_add, Nat.add_zero, k_20, k_10, k_01, mm_if_T, mm_if_F, not_true_eq_false, not_false_eq_true]
  exact key

