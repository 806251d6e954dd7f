/-! THE CLASS: it is made -/
def CF (M : mm_M) (L : Nat) (xs : Nat → Int32) : Prop := (mm_R M 5 0 0 = some 0 ∧ mm_R M 5 0 1 = some 0 ∧ mm_R M 5 0 2 = some 0 ∧ mm_R M 5 0 3 = some 0 ∧ mm_R M 5 0 4 = some 0 ∧ mm_R M 5 0 5 = some 1 ∧ mm_R M 5 0 6 = some 2) ∧ (mm_L M 9 0 = 8 ∧ mm_L M 9 1 = 2 ∧ mm_L M 9 2 = 9) ∧ (mm_R M 3 0 0 = some 0 ∧ mm_R M 3 0 1 = some 1 ∧ mm_L M 7 0 = 200 ∧ mm_L M 7 1 = 5) ∧ (mm_R M 1 0 0 = some 2 ∧ mm_R M 1 0 1 = some 3 ∧ mm_L M 7 2 = 6 ∧ mm_L M 7 3 = 6) ∧ (mm_R M 0 0 0 = some 4 ∧ mm_L M 7 4 = 7) ∧ (mm_I M 5 0 7 = 0 ∧ mm_I M 5 0 8 = 0 ∧ mm_I M 1 0 2 = 0 ∧ mm_I M 3 0 3 = 0) ∧ SC M L xs
theorem CF_t {M M' : mm_M} {L : Nat} {xs : Nat → Int32} (h : CF M L xs) (r : ∀ c i k, c ≤ 5 → ¬ c = 2 → ¬ c = 4 → mm_R M' c i k = mm_R M c i k) (l : ∀ c i, c = 7 ∨ c = 9 ∨ c = 11 → mm_L M' c i = mm_L M c i) (n : ∀ c i k, c = 5 ∨ c = 1 ∨ c = 3 ∨ c = 11 → mm_I M' c i k = mm_I M c i k) : CF M' L xs := by
  unfold CF SC at *
  rw [r 5 0 0 (by omega) (by omega) (by omega), r 5 0 1 (by omega) (by omega) (by omega), r 5 0 2 (by omega) (by omega) (by omega), r 5 0 3 (by omega) (by omega) (by omega), r 5 0 4 (by omega) (by omega) (by omega), r 5 0 5 (by omega) (by omega) (by omega), r 5 0 6 (by omega) (by omega) (by omega), r 3 0 0 (by omega) (by omega) (by omega), r 3 0 1 (by omega) (by omega) (by omega), r 1 0 0 (by omega) (by omega) (by omega), r 1 0 1 (by omega) (by omega) (by omega), r 0 0 0 (by omega) (by omega) (by omega), l 9 0 (by omega), l 9 1 (by omega), l 9 2 (by omega), l 7 0 (by omega), l 7 1 (by omega), l 7 2 (by omega), l 7 3 (by omega), l 7 4 (by omega), l 11 0 (by omega), n 5 0 7 (by omega), n 5 0 8 (by omega), n 1 0 2 (by omega), n 3 0 3 (by omega)]
  exact ⟨h.1, h.2.1, h.2.2.1, h.2.2.2.1, h.2.2.2.2.1, h.2.2.2.2.2.1, h.2.2.2.2.2.2.1, fun k hk => by rw [n 11 0 k (by omega)]; exact h.2.2.2.2.2.2.2 k hk⟩
def CS (M : mm_M) (L : Nat) (xs : Nat → Int32) (j : Nat) : Prop := CF M L xs ∧ (∀ s, s < j → mm_R M 2 s 0 = some s ∧ mm_L M 10 s = 7 ∧ ∀ w, w < 7 → mm_R M 10 s w = some (7 * s + w)) ∧ (mm_N M 2 = j ∧ mm_N M 10 = j ∧ mm_N M 4 = 7 * j ∧ mm_N M 12 = 1 ∧ mm_N M 6 = 0 ∧ mm_N M 7 = 5 ∧ mm_N M 8 = 0) ∧ (∀ i, i < 8 → 1 + i < j → mm_R M 9 0 i = some (1 + i)) ∧ (∀ i, i < 2 → 9 + i < j → mm_R M 9 1 i = some (9 + i)) ∧ ∀ i, i < 9 → 11 + i < j → mm_R M 9 2 i = some (11 + i)
theorem CS_step {M M2 : mm_M} {L : Nat} {xs : Nat → Int32} {j : Nat} (h : CS M L xs j) (g : G8 (mm_nw M 2 0) M2 j) (a x : Nat) (hx : (a = 0 ∧ x < 8 ∧ j = 1 + x) ∨ (a = 1 ∧ x < 2 ∧ j = 9 + x) ∨ (a = 2 ∧ x < 9 ∧ j = 11 + x)) : CS (mm_sR M2 9 a x (some j)) L xs (j + 1) := by
  obtain ⟨h1, h2, ⟨n2, n10, n4, n12, n6, n7, n8⟩, e0, e1, e2⟩ := h
  obtain ⟨⟨g1, g2, g3⟩, ⟨g4, g5, g6⟩, g7, g8, g9⟩ := g
  refine ⟨CF_t h1 (fun c i k a1 a2 a3 => ?_) (fun c i a1 => ?_) (fun c i k a1 => ?_), fun s hs => ?_, ⟨?_, ?_, ?_, ?_, ?_, ?_, ?_⟩, fun i hi hj => ?_, fun i hi hj => ?_, fun i hi hj => ?_⟩
  · rw [mm_R_sR, if_neg (by omega), g8 c i k (by omega) (by omega) (by omega), mm_R_nw, if_neg (by omega)]
  · rw [mm_L_sR, g9 c i (by omega) (by omega), mm_L_nw, if_neg (by omega)]
  · rw [mm_I_sR, g7 c i k (by omega) (by omega), mm_I_nw, if_neg (by omega)]
  · by_cases e : s = j
    · subst e
      exact ⟨by rw [mm_R_sR, if_neg (by omega)]; exact g1, by rw [mm_L_sR]; exact g2, fun w hw => by rw [mm_R_sR, if_neg (by omega)]; exact g3 w hw⟩
    · obtain ⟨y1, y2, y3⟩ := h2 s (by omega)
      refine ⟨?_, ?_, fun w hw => ?_⟩
      · rw [mm_R_sR, if_neg (by omega), g8 2 s 0 (by omega) (by omega) (by omega), mm_R_nw, if_neg (by omega)]; exact y1
      · rw [mm_L_sR, g9 10 s (by omega) (by omega), mm_L_nw, if_neg (by omega)]; exact y2
      · rw [mm_R_sR, if_neg (by omega), g8 10 s w (by omega) (by omega) (by omega), mm_R_nw, if_neg (by omega)]; exact y3 w hw
  · rw [mm_N_sR, g6 2 (by omega) (by omega), mm_N_nw, if_pos rfl, n2]
  · rw [mm_N_sR, g4]
  · rw [mm_N_sR, g5]; omega
  · rw [mm_N_sR, g6 12 (by omega) (by omega), mm_N_nw, if_neg (by omega)]; exact n12
  · rw [mm_N_sR, g6 6 (by omega) (by omega), mm_N_nw, if_neg (by omega)]; exact n6
  · rw [mm_N_sR, g6 7 (by omega) (by omega), mm_N_nw, if_neg (by omega)]; exact n7
  · rw [mm_N_sR, g6 8 (by omega) (by omega), mm_N_nw, if_neg (by omega)]; exact n8
  · rw [mm_R_sR]
    by_cases e : a = 0 ∧ x = i
    · rw [if_pos ⟨rfl, e.1.symm, e.2.symm⟩]; congr 1; omega
    · rw [if_neg (by omega), g8 9 0 i (by omega) (by omega) (by omega), mm_R_nw, if_neg (by omega)]; exact e0 i hi (by omega)
  · rw [mm_R_sR]
    by_cases e : a = 1 ∧ x = i
    · rw [if_pos ⟨rfl, e.1.symm, e.2.symm⟩]; congr 1; omega
    · rw [if_neg (by omega), g8 9 1 i (by omega) (by omega) (by omega), mm_R_nw, if_neg (by omega)]; exact e1 i hi (by omega)
  · rw [mm_R_sR]
    by_cases e : a = 2 ∧ x = i
    · rw [if_pos ⟨rfl, e.1.symm, e.2.symm⟩]; congr 1; omega
    · rw [if_neg (by omega), g8 9 2 i (by omega) (by omega) (by omega), mm_R_nw, if_neg (by omega)]; exact e2 i hi (by omega)

set_option maxHeartbeats 4000000 in
theorem k_48a (d : Nat) {post : mm_Post} {L : Nat} {xs : Nat → Int32} (h : ∀ M', CS M' L xs (1 + 8) → pK (d + 2) 48 post 3 [some (.inr (.inr (5, 0))), some (.inl 0)] [] M' (9 * (20 - (1 + 8)), 89 * (20 - (1 + 8)))) : ∀ (m i : Nat) (M1 : mm_M), i + m = 8 → CS M1 L xs (1 + i) → pK (d + 2) 48 post 1 [some (.inr (.inr (5, 0))), some (.inl (nI i))] [] M1 (9 * (20 - (1 + i)), 89 * (20 - (1 + i))) := by
  intro m
  induction m with
  | zero =>
    intro i M1 hi hC
    have e : i = 8 := by omega
    subst e
    rw [eK_48_1]
    simp (disch := omega) only [eK_48_2, pw_aastore, pw_bipush, pw_goto, pw_iconst, pw_new, pw_nop0, qw_aload_n0, qw_dup_i, qw_dup_r, qw_gf_b, qw_gf_i, qw_gf_r, qw_if_icmp_ge, qw_iinc1, qw_iload_n1, qw_invokespecial1, qw_istore_n1, mm_rf_c, mm_rt_v, mm_rt_i, mm_rt_r, mm_alc_n, mm_alc_c, mm_rc_n, mm_rc_c, mm_wd_n, mm_wd_i, mm_wd_l, mm_wd_r, reduceCtorEq, false_implies, implies_true, true_implies, true_or, or_true, false_or, or_false, not_false_eq_true, mm_nl_n, mm_nl_i, mm_nl_r, mm_args_n, mm_args_i, mm_args_l, mm_args_r, mm_pad_0, mm_pad_n, mm_pad_c, List.length_cons, List.length_nil, List.nil_append, List.cons_append, Nat.zero_le, Nat.sub_zero, true_and, and_true, Nat.reduceAdd, Nat.reduceLeDiff, Nat.reduceLT, Nat.reduceSub, Nat.lt_irrefl, Nat.zero_add, Nat.add_zero, Nat.le_refl, k_20, k_10, k_01, ↓mm_if_T, ↓mm_if_F, ↓if10, ↓if00, not_true_eq_false, tf_01, ↓mm_if_tf, ↓mm_if_tn, ↓mm_if_nn, ↓mm_if_t (show (8 : Int32) ≤ nI 8 by decide)]
    exact h M1 hC
  | succ m ih =>
    intro i M1 hi hC
    have hlt : ¬ (8 : Int32) ≤ nI i := nI_ge (b := 8) (by omega) (by omega)
    obtain ⟨⟨⟨p0, p1, p2, p3, p4, p5, p6⟩, ⟨m0, m1, m2⟩, _⟩, _, ⟨n2, n10, n4, _⟩, _⟩ := id hC
    generalize hB1 : 9 * (20 - (1 + i)) = B1
    generalize hB2 : 89 * (20 - (1 + i)) = B2
    have o1 : 1 ≤ B1 := by omega
    have o2 : 5 ≤ B2 := by omega
    have o3 : 8 ≤ B1 - 1 := by omega
    have o4 : 84 ≤ B2 - 5 := by omega
    rw [eK_48_1]
    simp (disch := omega) only [pw_bipush, pw_goto, pw_new, qw_aload_n0, qw_dup_i, qw_dup_r, qw_gf_b, qw_gf_i, qw_gf_r, qw_if_icmp_ge, qw_iinc1, qw_iload_n1, qw_invokespecial1, mm_rf_c, mm_rt_v, mm_rt_i, mm_rt_r, mm_alc_n, mm_alc_c, mm_rc_n, mm_rc_c, mm_wd_n, mm_wd_i, mm_wd_l, mm_wd_r, reduceCtorEq, false_implies, implies_true, true_implies, true_or, or_true, false_or, or_false, not_false_eq_true, mm_nl_n, mm_nl_i, mm_nl_r, mm_args_n, mm_args_i, mm_args_l, mm_args_r, mm_pad_0, mm_pad_n, mm_pad_c, List.length_cons, List.length_nil, List.nil_append, List.cons_append, Nat.zero_le, Nat.sub_zero, true_and, and_true, Nat.reduceAdd, Nat.reduceLeDiff, Nat.reduceLT, Nat.reduceSub, Nat.lt_irrefl, Nat.zero_add, Nat.add_zero, Nat.le_refl, k_20, k_10, k_01, ↓mm_if_T, ↓mm_if_F, ↓if10, ↓if00, not_true_eq_false, tf_01, ↓mm_if_tf, ↓mm_if_tn, ↓mm_if_nn, ↓mm_if_f hlt, p4, o1, o2, o3, o4, n2]
    refine t_8 d (s := 1 + i) (by rw [mm_N_nw, if_neg (by omega)]; exact n10) (by rw [mm_N_nw, if_neg (by omega)]; exact n4) (fun M2 g => ?_)
    have l0 : mm_L M2 9 0 = 8 := by rw [g.2.2.2.2 9 0 (by omega) (by omega), mm_L_nw, if_neg (by omega)]; exact m0
    have key := ih (i + 1) _ (by omega) (CS_step hC g 0 i (by omega))
    rw [show 9 * (20 - (1 + (i + 1))) = B1 - 1 - 8 by omega, show 89 * (20 - (1 + (i + 1))) = B2 - 5 - 84 by omega] at key
    simp (disch := omega) only [pw_bipush, pw_goto, pw_new, qw_aload_n0, qw_dup_i, qw_dup_r, qw_gf_b, qw_gf_i, qw_gf_r, qw_if_icmp_ge, qw_iinc1, qw_iload_n1, qw_invokespecial1, mm_rf_c, mm_rt_v, mm_rt_i, mm_rt_r, mm_alc_n, mm_alc_c, mm_rc_n, mm_rc_c, mm_wd_n, mm_wd_i, mm_wd_l, mm_wd_r, reduceCtorEq, false_implies, implies_true, true_implies, true_or, or_true, false_or, or_false, not_false_eq_true, mm_nl_n, mm_nl_i, mm_nl_r, mm_args_n, mm_args_i, mm_args_l, mm_args_r, mm_pad_0, mm_pad_n, mm_pad_c, List.length_cons, List.length_nil, List.nil_append, List.cons_append, Nat.zero_le, Nat.sub_zero, true_and, and_true, Nat.reduceAdd, Nat.reduceLeDiff, Nat.reduceLT, Nat.reduceSub, Nat.lt_irrefl, Nat.zero_add, Nat.add_zero, Nat.le_refl, k_20, k_10, k_01, ↓mm_if_T, ↓mm_if_F, ↓if10, ↓if00, not_true_eq_false, tf_01, ↓mm_if_tf, ↓mm_if_tn, ↓mm_if_nn, qw_aastore, l0, vi_, ci_, nI_1]
    exact key

set_option maxHeartbeats 4000000 in
theorem k_48b (d : Nat) {post : mm_Post} {L : Nat} {xs : Nat → Int32} (h : ∀ M', CS M' L xs (9 + 2) → pK (d + 2) 48 post 5 [some (.inr (.inr (5, 0))), some (.inl 0)] [] M' (9 * (20 - (9 + 2)), 89 * (20 - (9 + 2)))) : ∀ (m i : Nat) (M1 : mm_M), i + m = 2 → CS M1 L xs (9 + i) → pK (d + 2) 48 post 3 [some (.inr (.inr (5, 0))), some (.inl (nI i))] [] M1 (9 * (20 - (9 + i)), 89 * (20 - (9 + i))) := by
  intro m
  induction m with
  | zero =>
    intro i M1 hi hC
    have e : i = 2 := by omega
    subst e
    rw [eK_48_3]
    simp (disch := omega) only [eK_48_4, pw_aastore, pw_goto, pw_iconst, pw_new, pw_nop0, qw_aload_n0, qw_dup_i, qw_dup_r, qw_gf_b, qw_gf_i, qw_gf_r, qw_if_icmp_ge, qw_iinc1, qw_iload_n1, qw_invokespecial1, qw_istore_n1, mm_rf_c, mm_rt_v, mm_rt_i, mm_rt_r, mm_alc_n, mm_alc_c, mm_rc_n, mm_rc_c, mm_wd_n, mm_wd_i, mm_wd_l, mm_wd_r, reduceCtorEq, false_implies, implies_true, true_implies, true_or, or_true, false_or, or_false, not_false_eq_true, mm_nl_n, mm_nl_i, mm_nl_r, mm_args_n, mm_args_i, mm_args_l, mm_args_r, mm_pad_0, mm_pad_n, mm_pad_c, List.length_cons, List.length_nil, List.nil_append, List.cons_append, Nat.zero_le, Nat.sub_zero, true_and, and_true, Nat.reduceAdd, Nat.reduceLeDiff, Nat.reduceLT, Nat.reduceSub, Nat.lt_irrefl, Nat.zero_add, Nat.add_zero, Nat.le_refl, k_20, k_10, k_01, ↓mm_if_T, ↓mm_if_F, ↓if10, ↓if00, not_true_eq_false, tf_01, ↓mm_if_tf, ↓mm_if_tn, ↓mm_if_nn, ↓mm_if_t (show (2 : Int32) ≤ nI 2 by decide)]
    exact h M1 hC
  | succ m ih =>
    intro i M1 hi hC
    have hlt : ¬ (2 : Int32) ≤ nI i := nI_ge (b := 2) (by omega) (by omega)
    obtain ⟨⟨⟨p0, p1, p2, p3, p4, p5, p6⟩, ⟨m0, m1, m2⟩, _⟩, _, ⟨n2, n10, n4, _⟩, _⟩ := id hC
    generalize hB1 : 9 * (20 - (9 + i)) = B1
    generalize hB2 : 89 * (20 - (9 + i)) = B2
    have o1 : 1 ≤ B1 := by omega
    have o2 : 5 ≤ B2 := by omega
    have o3 : 8 ≤ B1 - 1 := by omega
    have o4 : 84 ≤ B2 - 5 := by omega
    rw [eK_48_3]
    simp (disch := omega) only [pw_goto, pw_iconst, pw_new, qw_aload_n0, qw_dup_i, qw_dup_r, qw_gf_b, qw_gf_i, qw_gf_r, qw_if_icmp_ge, qw_iinc1, qw_iload_n1, qw_invokespecial1, mm_rf_c, mm_rt_v, mm_rt_i, mm_rt_r, mm_alc_n, mm_alc_c, mm_rc_n, mm_rc_c, mm_wd_n, mm_wd_i, mm_wd_l, mm_wd_r, reduceCtorEq, false_implies, implies_true, true_implies, true_or, or_true, false_or, or_false, not_false_eq_true, mm_nl_n, mm_nl_i, mm_nl_r, mm_args_n, mm_args_i, mm_args_l, mm_args_r, mm_pad_0, mm_pad_n, mm_pad_c, List.length_cons, List.length_nil, List.nil_append, List.cons_append, Nat.zero_le, Nat.sub_zero, true_and, and_true, Nat.reduceAdd, Nat.reduceLeDiff, Nat.reduceLT, Nat.reduceSub, Nat.lt_irrefl, Nat.zero_add, Nat.add_zero, Nat.le_refl, k_20, k_10, k_01, ↓mm_if_T, ↓mm_if_F, ↓if10, ↓if00, not_true_eq_false, tf_01, ↓mm_if_tf, ↓mm_if_tn, ↓mm_if_nn, ↓mm_if_f hlt, p5, o1, o2, o3, o4, n2]
    refine t_8 d (s := 9 + i) (by rw [mm_N_nw, if_neg (by omega)]; exact n10) (by rw [mm_N_nw, if_neg (by omega)]; exact n4) (fun M2 g => ?_)
    have l0 : mm_L M2 9 1 = 2 := by rw [g.2.2.2.2 9 1 (by omega) (by omega), mm_L_nw, if_neg (by omega)]; exact m1
    have key := ih (i + 1) _ (by omega) (CS_step hC g 1 i (by omega))
    rw [show 9 * (20 - (9 + (i + 1))) = B1 - 1 - 8 by omega, show 89 * (20 - (9 + (i + 1))) = B2 - 5 - 84 by omega] at key
    simp (disch := omega) only [pw_goto, pw_iconst, pw_new, qw_aload_n0, qw_dup_i, qw_dup_r, qw_gf_b, qw_gf_i, qw_gf_r, qw_if_icmp_ge, qw_iinc1, qw_iload_n1, qw_invokespecial1, mm_rf_c, mm_rt_v, mm_rt_i, mm_rt_r, mm_alc_n, mm_alc_c, mm_rc_n, mm_rc_c, mm_wd_n, mm_wd_i, mm_wd_l, mm_wd_r, reduceCtorEq, false_implies, implies_true, true_implies, true_or, or_true, false_or, or_false, not_false_eq_true, mm_nl_n, mm_nl_i, mm_nl_r, mm_args_n, mm_args_i, mm_args_l, mm_args_r, mm_pad_0, mm_pad_n, mm_pad_c, List.length_cons, List.length_nil, List.nil_append, List.cons_append, Nat.zero_le, Nat.sub_zero, true_and, and_true, Nat.reduceAdd, Nat.reduceLeDiff, Nat.reduceLT, Nat.reduceSub, Nat.lt_irrefl, Nat.zero_add, Nat.add_zero, Nat.le_refl, k_20, k_10, k_01, ↓mm_if_T, ↓mm_if_F, ↓if10, ↓if00, not_true_eq_false, tf_01, ↓mm_if_tf, ↓mm_if_tn, ↓mm_if_nn, qw_aastore, l0, vi_, ci_, nI_1]
    exact key

set_option maxHeartbeats 4000000 in
theorem k_48c (d : Nat) {post : mm_Post} {L : Nat} {xs : Nat → Int32} (h : ∀ M', CS M' L xs (11 + 9) → pK (d + 2) 48 post 7 [some (.inr (.inr (5, 0))), some (.inl 0)] [] M' (9 * (20 - (11 + 9)), 89 * (20 - (11 + 9)))) : ∀ (m i : Nat) (M1 : mm_M), i + m = 9 → CS M1 L xs (11 + i) → pK (d + 2) 48 post 5 [some (.inr (.inr (5, 0))), some (.inl (nI i))] [] M1 (9 * (20 - (11 + i)), 89 * (20 - (11 + i))) := by
  intro m
  induction m with
  | zero =>
    intro i M1 hi hC
    have e : i = 9 := by omega
    subst e
    rw [eK_48_5]
    simp (disch := omega) only [eK_48_6, pw_aastore, pw_bipush, pw_goto, pw_iconst, pw_new, pw_nop0, qw_aload_n0, qw_dup_i, qw_dup_r, qw_gf_b, qw_gf_i, qw_gf_r, qw_if_icmp_gt, qw_iinc1, qw_iload_n1, qw_invokespecial1, qw_istore_n1, mm_rf_c, mm_rt_v, mm_rt_i, mm_rt_r, mm_alc_n, mm_alc_c, mm_rc_n, mm_rc_c, mm_wd_n, mm_wd_i, mm_wd_l, mm_wd_r, reduceCtorEq, false_implies, implies_true, true_implies, true_or, or_true, false_or, or_false, not_false_eq_true, mm_nl_n, mm_nl_i, mm_nl_r, mm_args_n, mm_args_i, mm_args_l, mm_args_r, mm_pad_0, mm_pad_n, mm_pad_c, List.length_cons, List.length_nil, List.nil_append, List.cons_append, Nat.zero_le, Nat.sub_zero, true_and, and_true, Nat.reduceAdd, Nat.reduceLeDiff, Nat.reduceLT, Nat.reduceSub, Nat.lt_irrefl, Nat.zero_add, Nat.add_zero, Nat.le_refl, k_20, k_10, k_01, ↓mm_if_T, ↓mm_if_F, ↓if10, ↓if00, not_true_eq_false, tf_01, ↓mm_if_tf, ↓mm_if_tn, ↓mm_if_nn, ↓mm_if_t (show (8 : Int32) < nI 9 by decide)]
    exact h M1 hC
  | succ m ih =>
    intro i M1 hi hC
    have hlt : ¬ (8 : Int32) < nI i := nI_nlt (a := 8) (by omega) (by omega)
    obtain ⟨⟨⟨p0, p1, p2, p3, p4, p5, p6⟩, ⟨m0, m1, m2⟩, _⟩, _, ⟨n2, n10, n4, _⟩, _⟩ := id hC
    generalize hB1 : 9 * (20 - (11 + i)) = B1
    generalize hB2 : 89 * (20 - (11 + i)) = B2
    have o1 : 1 ≤ B1 := by omega
    have o2 : 5 ≤ B2 := by omega
    have o3 : 8 ≤ B1 - 1 := by omega
    have o4 : 84 ≤ B2 - 5 := by omega
    rw [eK_48_5]
    simp (disch := omega) only [pw_bipush, pw_goto, pw_new, qw_aload_n0, qw_dup_i, qw_dup_r, qw_gf_b, qw_gf_i, qw_gf_r, qw_if_icmp_gt, qw_iinc1, qw_iload_n1, qw_invokespecial1, mm_rf_c, mm_rt_v, mm_rt_i, mm_rt_r, mm_alc_n, mm_alc_c, mm_rc_n, mm_rc_c, mm_wd_n, mm_wd_i, mm_wd_l, mm_wd_r, reduceCtorEq, false_implies, implies_true, true_implies, true_or, or_true, false_or, or_false, not_false_eq_true, mm_nl_n, mm_nl_i, mm_nl_r, mm_args_n, mm_args_i, mm_args_l, mm_args_r, mm_pad_0, mm_pad_n, mm_pad_c, List.length_cons, List.length_nil, List.nil_append, List.cons_append, Nat.zero_le, Nat.sub_zero, true_and, and_true, Nat.reduceAdd, Nat.reduceLeDiff, Nat.reduceLT, Nat.reduceSub, Nat.lt_irrefl, Nat.zero_add, Nat.add_zero, Nat.le_refl, k_20, k_10, k_01, ↓mm_if_T, ↓mm_if_F, ↓if10, ↓if00, not_true_eq_false, tf_01, ↓mm_if_tf, ↓mm_if_tn, ↓mm_if_nn, ↓mm_if_f hlt, p6, o1, o2, o3, o4, n2]
    refine t_8 d (s := 11 + i) (by rw [mm_N_nw, if_neg (by omega)]; exact n10) (by rw [mm_N_nw, if_neg (by omega)]; exact n4) (fun M2 g => ?_)
    have l0 : mm_L M2 9 2 = 9 := by rw [g.2.2.2.2 9 2 (by omega) (by omega), mm_L_nw, if_neg (by omega)]; exact m2
    have key := ih (i + 1) _ (by omega) (CS_step hC g 2 i (by omega))
    rw [show 9 * (20 - (11 + (i + 1))) = B1 - 1 - 8 by omega, show 89 * (20 - (11 + (i + 1))) = B2 - 5 - 84 by omega] at key
    simp (disch := omega) only [pw_bipush, pw_goto, pw_new, qw_aload_n0, qw_dup_i, qw_dup_r, qw_gf_b, qw_gf_i, qw_gf_r, qw_if_icmp_gt, qw_iinc1, qw_iload_n1, qw_invokespecial1, mm_rf_c, mm_rt_v, mm_rt_i, mm_rt_r, mm_alc_n, mm_alc_c, mm_rc_n, mm_rc_c, mm_wd_n, mm_wd_i, mm_wd_l, mm_wd_r, reduceCtorEq, false_implies, implies_true, true_implies, true_or, or_true, false_or, or_false, not_false_eq_true, mm_nl_n, mm_nl_i, mm_nl_r, mm_args_n, mm_args_i, mm_args_l, mm_args_r, mm_pad_0, mm_pad_n, mm_pad_c, List.length_cons, List.length_nil, List.nil_append, List.cons_append, Nat.zero_le, Nat.sub_zero, true_and, and_true, Nat.reduceAdd, Nat.reduceLeDiff, Nat.reduceLT, Nat.reduceSub, Nat.lt_irrefl, Nat.zero_add, Nat.add_zero, Nat.le_refl, k_20, k_10, k_01, ↓mm_if_T, ↓mm_if_F, ↓if10, ↓if00, not_true_eq_false, tf_01, ↓mm_if_tf, ↓mm_if_tn, ↓mm_if_nn, qw_aastore, l0, vi_, ci_, nI_1]
    exact key

theorem tx_len : mm_txt.length = 102 := by decide +kernel
def lt0 (i : Nat) : Int32 := mm_txt.getD i 0
def CT (M : mm_M) (L : Nat) (xs : Nat → Int32) (i : Nat) : Prop := LyC M (fun i => 1 + i) ∧ (mm_N M 12 = 1 ∧ mm_N M 6 = 0 ∧ mm_N M 7 = 5 ∧ mm_N M 8 = 0) ∧ (mm_I M 5 0 7 = 0 ∧ mm_I M 5 0 8 = 0 ∧ mm_I M 1 0 2 = 0) ∧ SC M L xs ∧ mm_I M 3 0 3 = nI i ∧ ∀ u, u < i → mm_I M 7 0 u = lt0 u
theorem CT_0 {M : mm_M} {L : Nat} {xs : Nat → Int32} (h : CS M L xs 20) : CT M L xs 0 := by
  obtain ⟨⟨⟨p0, p1, p2, p3, p4, p5, p6⟩, ⟨m0, m1, m2⟩, tx, nt, pl, ⟨i1, i2, i3, i4⟩, sc⟩, h2, ⟨n2, n10, n4, n12, n6, n7, n8⟩, e0, e1, e2⟩ := h
  exact ⟨⟨h2, p0, p1, p2, p3, p4, p5, p6, m0, m1, m2, fun i hi => e1 i hi (by omega), fun i hi => e2 i hi (by omega), tx, nt, pl, fun i hi => ⟨e0 i hi (by omega), show 1 ≤ 1 + i by omega, show 1 + i ≤ 8 by omega⟩, fun i j _ _ e => by have e : 1 + i = 1 + j := e; omega⟩, ⟨n12, n6, n7, n8⟩, ⟨i1, i2, i3⟩, sc, i4, fun u hu => absurd hu (Nat.not_lt_zero u)⟩
set_option maxHeartbeats 4000000 in
theorem k_48t (d : Nat) {post : mm_Post} {L : Nat} {xs : Nat → Int32} (h : ∀ M', CT M' L xs 102 → pK (d + 1) 48 post 8 [some (.inr (.inr (5, 0))), some (.inl (nI 102))] [] M' (0, 0)) : ∀ (m i : Nat) (M1 : mm_M), i + m = 102 → CT M1 L xs i → pK (d + 1) 48 post 7 [some (.inr (.inr (5, 0))), some (.inl (nI i))] [] M1 (0, 0) := by
  intro m
  induction m with
  | zero =>
    intro i M1 hi hC
    have e : i = 102 := by omega
    subst e
    have o1 : 0 < mm_N M1 12 := by rw [hC.2.1.1]; omega
    rw [eK_48_7]
    simp (disch := omega) only [pw_goto, pw_nop3, pw_nop4, pw_nop5, pw_pop, qw_aload_n0, qw_gf_b, qw_gf_i, qw_gf_r, qw_if_icmp_ge, qw_iinc1, qw_iload_n1, qw_invokevirtual2, mm_rf_c, mm_rt_v, mm_rt_i, mm_rt_r, mm_alc_n, mm_alc_c, mm_rc_n, mm_rc_c, mm_wd_n, mm_wd_i, mm_wd_l, mm_wd_r, reduceCtorEq, false_implies, implies_true, true_implies, true_or, or_true, false_or, or_false, not_false_eq_true, mm_nl_n, mm_nl_i, mm_nl_r, mm_args_n, mm_args_i, mm_args_l, mm_args_r, mm_pad_0, mm_pad_n, mm_pad_c, List.length_cons, List.length_nil, List.nil_append, List.cons_append, Nat.zero_le, Nat.sub_zero, true_and, and_true, Nat.reduceAdd, Nat.reduceLeDiff, Nat.reduceLT, Nat.reduceSub, Nat.lt_irrefl, Nat.zero_add, Nat.add_zero, Nat.le_refl, k_20, k_10, k_01, ↓mm_if_T, ↓mm_if_F, ↓if10, ↓if00, not_true_eq_false, tf_01, ↓mm_if_tf, ↓mm_if_tn, ↓mm_if_nn, o1, tx_len, mm_pR_c, ↓mm_if_t (nI_le (Nat.le_refl 102) (show 102 < 2 ^ 31 by omega))]
    exact h M1 hC
  | succ m ih =>
    intro i M1 hi hC
    obtain ⟨c1, ⟨n12, n6, n7, n8⟩, c3, c4, c5, c6⟩ := id hC
    have o1 : 0 < mm_N M1 12 := by rw [n12]; omega
    have hlt : ¬ nI 102 ≤ nI i := nI_ge (by omega) (by omega)
    have p0 := c1.2.1
    have e26 := fun post x => e_26 (post := post) d c1 (show i ≤ 200 by omega) c5 x
    simp only [if_pos (show i < 200 by omega)] at e26
    have el : mm_txt.getD i 0 = lt0 i := rfl
    have key := ih (i + 1) (mm_sI (mm_sI M1 7 0 i (lt0 i)) 3 0 3 (nI (i + 1))) (by omega) ⟨LyC_2 (M := M1) rfl c1, ⟨n12, n6, n7, n8⟩, by simp (disch := omega) only [mm_I_c]; exact c3, ⟨c4.1, fun k hk => by rw [mm_I_c (by omega), mm_I_c (by omega)]; exact c4.2 k hk⟩, mm_I_s, fun u hu => ?_⟩
    · rw [eK_48_7]
      simp (disch := omega) only [pw_goto, pw_nop3, pw_nop4, pw_nop5, pw_pop, qw_aload_n0, qw_gf_b, qw_gf_i, qw_gf_r, qw_if_icmp_ge, qw_iinc1, qw_iload_n1, qw_invokevirtual2, mm_rf_c, mm_rt_v, mm_rt_i, mm_rt_r, mm_alc_n, mm_alc_c, mm_rc_n, mm_rc_c, mm_wd_n, mm_wd_i, mm_wd_l, mm_wd_r, reduceCtorEq, false_implies, implies_true, true_implies, true_or, or_true, false_or, or_false, not_false_eq_true, mm_nl_n, mm_nl_i, mm_nl_r, mm_args_n, mm_args_i, mm_args_l, mm_args_r, mm_pad_0, mm_pad_n, mm_pad_c, List.length_cons, List.length_nil, List.nil_append, List.cons_append, Nat.zero_le, Nat.sub_zero, true_and, and_true, Nat.reduceAdd, Nat.reduceLeDiff, Nat.reduceLT, Nat.reduceSub, Nat.lt_irrefl, Nat.zero_add, Nat.add_zero, Nat.le_refl, k_20, k_10, k_01, ↓mm_if_T, ↓mm_if_F, ↓if10, ↓if00, not_true_eq_false, tf_01, ↓mm_if_tf, ↓mm_if_tn, ↓mm_if_nn, o1, tx_len, mm_pR_c, mm_pI_c, mm_p1_i, ↓mm_if_f hlt, p0, vi_, ci_, el, e26, nI_1]
      exact key
    · rw [mm_I_c (by omega)]
      by_cases e : u = i
      · rw [e, mm_I_s]
      · rw [mm_I_k e]; exact c6 u (by omega)

