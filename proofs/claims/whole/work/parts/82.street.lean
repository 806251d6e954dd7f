/-! THE CLASS: a street is made -/
/-- a street s is made -/
def G8 (M M' : mm_M) (s : Nat) : Prop := (mm_R M' 2 s 0 = some s ∧ mm_L M' 10 s = 7 ∧ ∀ w, w < 7 → mm_R M' 10 s w = some (7 * s + w)) ∧ (mm_N M' 10 = s + 1 ∧ mm_N M' 4 = 7 * s + 7 ∧ ∀ c, ¬ c = 10 → ¬ c = 4 → mm_N M' c = mm_N M c) ∧ (∀ c i k, ¬ (c = 10 ∧ i = s) → ¬ (c = 4 ∧ 7 * s ≤ i) → mm_I M' c i k = mm_I M c i k) ∧ (∀ c i k, ¬ (c = 10 ∧ i = s) → ¬ (c = 2 ∧ i = s) → ¬ (c = 4 ∧ 7 * s ≤ i) → mm_R M' c i k = mm_R M c i k) ∧ ∀ c i, ¬ (c = 10 ∧ i = s) → ¬ (c = 4 ∧ 7 * s ≤ i) → mm_L M' c i = mm_L M c i
/-- under way: w wrongs are made -/
def H8 (M M' : mm_M) (s v : Nat) : Prop := (mm_R M' 2 s 0 = some s ∧ mm_L M' 10 s = 7 ∧ ∀ w, w < v → mm_R M' 10 s w = some (7 * s + w)) ∧ (mm_N M' 10 = s + 1 ∧ mm_N M' 4 = 7 * s + v ∧ ∀ c, ¬ c = 10 → ¬ c = 4 → mm_N M' c = mm_N M c) ∧ (∀ c i k, ¬ (c = 10 ∧ i = s) → ¬ (c = 4 ∧ 7 * s ≤ i) → mm_I M' c i k = mm_I M c i k) ∧ (∀ c i k, ¬ (c = 10 ∧ i = s) → ¬ (c = 2 ∧ i = s) → ¬ (c = 4 ∧ 7 * s ≤ i) → mm_R M' c i k = mm_R M c i k) ∧ ∀ c i, ¬ (c = 10 ∧ i = s) → ¬ (c = 4 ∧ 7 * s ≤ i) → mm_L M' c i = mm_L M c i
theorem t_37 (d i : Nat) (M : mm_M) (post : mm_Post) : pC (d + 1) 37 [.inr (.inr (4, i))] M post = post none M := by
  simp (disch := omega) only [eC_37, eK_37_0, pw_nop2, pw_return_, qw_aload_n0, mm_rf_c, mm_rt_v, mm_rt_i, mm_rt_r, mm_alc_n, mm_alc_c, mm_rc_n, mm_rc_c, mm_wd_n, mm_wd_i, mm_wd_l, mm_wd_r, reduceCtorEq, false_implies, implies_true, true_implies, true_or, or_true, false_or, or_false, not_false_eq_true, mm_nl_n, mm_nl_i, mm_nl_r, mm_args_n, mm_args_i, mm_args_l, mm_args_r, mm_pad_0, mm_pad_n, mm_pad_c, List.length_cons, List.length_nil, List.nil_append, List.cons_append, Nat.zero_le, Nat.sub_zero, true_and, and_true, Nat.reduceAdd, Nat.reduceLeDiff, Nat.reduceLT, Nat.reduceSub, Nat.lt_irrefl, Nat.zero_add, Nat.add_zero, Nat.le_refl, k_20, k_10, k_01, ↓mm_if_T, ↓mm_if_F, ↓if10, ↓if00, not_true_eq_false, tf_01, ↓mm_if_tf, ↓mm_if_tn, ↓mm_if_nn, mm_pA_c]
theorem qw_aastore (d k : Nat) (post : mm_Post) (pc len a b i j : Nat) (x : Int32) (o : Option (Option Nat)) (v : Int32) (ts : List (Int32 × Nat)) (c : List mm_Ins) (ls : mm_LS) (s : List mm_V) (M : mm_M) (bu : mm_B) : pW d k post ((pc, len, .aastore, a, b, o, v, ts) :: c) ls (.inr (.inr (b, j)) :: .inl x :: .inr (.inr (a, i)) :: s) M bu = (vp_in x (mm_L M a i) ∧ pW d k post c ls s (mm_sR M a i x.toNatClampNeg (some j)) bu) := by
  rw [pw_aastore]
  simp only [mm_pI_c, mm_pR_c, true_and]
set_option maxHeartbeats 4000000 in
theorem k_8 (d : Nat) {M : mm_M} {post : mm_Post} {s : Nat} (h : ∀ M', G8 M M' s → post none M') : ∀ (m v B1 B2 : Nat) (M1 : mm_M), v + m = 7 → m ≤ B1 → 11 * m ≤ B2 → H8 M M1 s v → pK (d + 1) 8 post 1 [some (.inr (.inr (2, s))), some (.inl (nI v))] [] M1 (B1, B2) := by
  intro m
  induction m with
  | zero =>
    intro v B1 B2 M1 hv hb1 hb2 hH
    have e : v = 7 := by omega
    subst e
    rw [eK_8_1]
    simp (disch := omega) only [eK_8_2, pw_aastore, pw_bipush, pw_goto, pw_new, pw_return_, qw_aload_n0, qw_dup_i, qw_dup_r, qw_gf_b, qw_gf_i, qw_gf_r, qw_if_icmp_ge, qw_iinc1, qw_iload_n1, qw_invokespecial1, mm_rf_c, mm_rt_v, mm_rt_i, mm_rt_r, mm_alc_n, mm_alc_c, mm_rc_n, mm_rc_c, mm_wd_n, mm_wd_i, mm_wd_l, mm_wd_r, reduceCtorEq, false_implies, implies_true, true_implies, true_or, or_true, false_or, or_false, not_false_eq_true, mm_nl_n, mm_nl_i, mm_nl_r, mm_args_n, mm_args_i, mm_args_l, mm_args_r, mm_pad_0, mm_pad_n, mm_pad_c, List.length_cons, List.length_nil, List.nil_append, List.cons_append, Nat.zero_le, Nat.sub_zero, true_and, and_true, Nat.reduceAdd, Nat.reduceLeDiff, Nat.reduceLT, Nat.reduceSub, Nat.lt_irrefl, Nat.zero_add, Nat.add_zero, Nat.le_refl, k_20, k_10, k_01, ↓mm_if_T, ↓mm_if_F, ↓if10, ↓if00, not_true_eq_false, tf_01, ↓mm_if_tf, ↓mm_if_tn, ↓mm_if_nn, ↓mm_if_t (show (7 : Int32) ≤ nI 7 by decide)]
    exact h M1 hH
  | succ m ih =>
    intro v B1 B2 M1 hv hb1 hb2 hH
    obtain ⟨⟨h1, h2, h3⟩, ⟨h4, h5, h6⟩, h7, h8, h9⟩ := hH
    have hlt : ¬ (7 : Int32) ≤ nI v := nI_ge (b := 7) (by omega) (by omega)
    have o1 : 1 ≤ B1 := by omega
    have o2 : 11 ≤ B2 := by omega
    have q1 : mm_R (mm_nw M1 4 0) 2 s 0 = some s := by rw [mm_R_nw, if_neg (by omega)]; exact h1
    have q2 : mm_L (mm_nw M1 4 0) 10 s = 7 := by rw [mm_L_nw, if_neg (by omega)]; exact h2
    rw [eK_8_1]
    simp (disch := omega) only [pw_bipush, pw_goto, pw_new, qw_aload_n0, qw_dup_i, qw_dup_r, qw_gf_b, qw_gf_i, qw_gf_r, qw_if_icmp_ge, qw_iinc1, qw_iload_n1, qw_invokespecial1, mm_rf_c, mm_rt_v, mm_rt_i, mm_rt_r, mm_alc_n, mm_alc_c, mm_rc_n, mm_rc_c, mm_wd_n, mm_wd_i, mm_wd_l, mm_wd_r, reduceCtorEq, false_implies, implies_true, true_implies, true_or, or_true, false_or, or_false, not_false_eq_true, mm_nl_n, mm_nl_i, mm_nl_r, mm_args_n, mm_args_i, mm_args_l, mm_args_r, mm_pad_0, mm_pad_n, mm_pad_c, List.length_cons, List.length_nil, List.nil_append, List.cons_append, Nat.zero_le, Nat.sub_zero, true_and, and_true, Nat.reduceAdd, Nat.reduceLeDiff, Nat.reduceLT, Nat.reduceSub, Nat.lt_irrefl, Nat.zero_add, Nat.add_zero, Nat.le_refl, k_20, k_10, k_01, ↓mm_if_T, ↓mm_if_F, ↓if10, ↓if00, not_true_eq_false, tf_01, ↓mm_if_tf, ↓mm_if_tn, ↓mm_if_nn, ↓mm_if_f hlt, h1, o1, o2, h5, q1, q2, t_37 d, qw_aastore, vi_, ci_, nI_1]
    refine ih (v + 1) (B1 - 1) (B2 - 11) _ (by omega) (by omega) (by omega) ⟨⟨?_, ?_, fun w hw => ?_⟩, ⟨?_, ?_, fun c a b => ?_⟩, fun c i k a b => ?_, fun c i k a b e => ?_, fun c i a b => ?_⟩
    · rw [mm_R_sR, if_neg (by omega)]; exact q1
    · rw [mm_L_sR]; exact q2
    · rw [mm_R_sR]
      by_cases e : w = v
      · rw [if_pos ⟨rfl, rfl, e⟩, e]
      · rw [if_neg (fun z => e z.2.2), mm_R_nw, if_neg (by omega)]; exact h3 w (by omega)
    · rw [mm_N_sR, mm_N_nw, if_neg (by omega)]; exact h4
    · rw [mm_N_sR, mm_N_nw, if_pos rfl, h5]; omega
    · rw [mm_N_sR, mm_N_nw, if_neg b]; exact h6 c a b
    · rw [mm_I_sR, mm_I_nw, if_neg (by omega)]; exact h7 c i k a b
    · rw [mm_R_sR, if_neg (by omega), mm_R_nw, if_neg (by omega)]; exact h8 c i k a b e
    · rw [mm_L_sR, mm_L_nw, if_neg (by omega)]; exact h9 c i a b
set_option maxHeartbeats 4000000 in
theorem t_8 (d : Nat) {M : mm_M} {post : mm_Post} {s : Nat} (h10 : mm_N M 10 = s) (h4 : mm_N M 4 = 7 * s) (h : ∀ M', G8 M M' s → post none M') : pC (d + 2) 8 [.inr (.inr (2, s))] M post := by
  have w7 : (7 : Int32).toNatClampNeg = 7 := by decide
  have n7 : ¬ (7 : Int32) < 0 := by decide
  have fin := k_8 d (M := M) (post := post) h 7 0 7 77 (mm_sR (mm_nw M 10 7) 2 s 0 (some s)) (by omega) (by omega) (by omega) ⟨⟨?_, ?_, fun w hw => absurd hw (Nat.not_lt_zero w)⟩, ⟨?_, ?_, fun c a b => ?_⟩, fun c i k a b => ?_, fun c i k a b e => ?_, fun c i a b => ?_⟩
  · simp (disch := omega) only [eC_8, eK_8_0, pw_anewarray, pw_bipush, pw_iconst, pw_nop0, pw_nop2, qw_aload_n0, qw_istore_n1, qw_pf_b, qw_pf_i, qw_pf_r, mm_rf_c, mm_rt_v, mm_rt_i, mm_rt_r, mm_alc_n, mm_alc_c, mm_rc_n, mm_rc_c, mm_wd_n, mm_wd_i, mm_wd_l, mm_wd_r, reduceCtorEq, false_implies, implies_true, true_implies, true_or, or_true, false_or, or_false, not_false_eq_true, mm_nl_n, mm_nl_i, mm_nl_r, mm_args_n, mm_args_i, mm_args_l, mm_args_r, mm_pad_0, mm_pad_n, mm_pad_c, List.length_cons, List.length_nil, List.nil_append, List.cons_append, Nat.zero_le, Nat.sub_zero, true_and, and_true, Nat.reduceAdd, Nat.reduceLeDiff, Nat.reduceLT, Nat.reduceSub, Nat.lt_irrefl, Nat.zero_add, Nat.add_zero, Nat.le_refl, k_20, k_10, k_01, ↓mm_if_T, ↓mm_if_F, ↓if10, ↓if00, not_true_eq_false, tf_01, ↓mm_if_tf, ↓mm_if_tn, ↓mm_if_nn, mm_pA_c, mm_pI_c, w7, n7, h10]
    exact fin
  · rw [mm_R_sR, if_pos ⟨rfl, rfl, rfl⟩]
  · rw [mm_L_sR, mm_L_nw, if_pos ⟨rfl, h10.symm⟩]
  · rw [mm_N_sR, mm_N_nw, if_pos rfl, h10]
  · rw [mm_N_sR, mm_N_nw, if_neg (by omega), h4]; omega
  · rw [mm_N_sR, mm_N_nw, if_neg a]
  · rw [mm_I_sR, mm_I_nw, if_neg (by omega)]
  · rw [mm_R_sR, if_neg (by omega), mm_R_nw, if_neg (by omega)]
  · rw [mm_L_sR, mm_L_nw, if_neg (by omega)]

