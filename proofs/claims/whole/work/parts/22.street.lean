/-! THE CLASS: a street, read -/
theorem mm_if_t {c A B : Prop} (h : c) : mm_if c A B = A := by unfold mm_if; simp [h]
theorem mm_if_f {c A B : Prop} (h : ¬ c) : mm_if c A B = B := by unfold mm_if; simp [h]
def LyS (M : mm_M) : Prop := ∀ s, s < 20 → mm_R M 2 s 0 = some s ∧ mm_L M 10 s = 7 ∧ ∀ w, w < 7 → mm_R M 10 s w = some (7 * s + w)
/-- street s is n wrongs that are as A has them, the day, copper, tin -/
def RS (M : mm_M) (s n : Nat) (A : Nat → Nat → Int32) (dy cp tn : Int32) : Prop := mm_I M 2 s 1 = nI n ∧ mm_I M 2 s 2 = dy ∧ mm_I M 2 s 3 = cp ∧ mm_I M 2 s 4 = tn ∧ ∀ w, w < n → ∀ k, k < 11 → mm_I M 4 (7 * s + w) k = A w k
theorem nI_v7 {v n : Nat} (h : v < n) (hn : n ≤ 7) : vp_in (nI v) 7 ∧ (nI v).toNatClampNeg = v ∧ ¬ nI n ≤ nI v := ⟨vp_in_nI (by omega) (by omega), nI_clamp (by omega), nI_ge h (by omega)⟩
theorem nI_e7 {v w : Nat} (h : v < 8) (hw : w < 8) : (nI v = nI w) = (v = w) := propext (nI_eq (by omega) (by omega))
/-- the loudest other bell that rings in an hour where the one of w lives -/
def g_lo (A : Nat → Nat → Int32) (w : Nat) (hr : Int32) : Nat → Int32
  | 0 => 0
  | v + 1 => if ¬ v = w ∧ A v 5 = 2 ∧ A v 10 = hr then (if g_lo A w hr v < f_lf (A v 8) (A v 9) (A w 1) then f_lf (A v 8) (A v 9) (A w 1) else g_lo A w hr v) else g_lo A w hr v

set_option maxHeartbeats 2000000 in
theorem l_15 (d : Nat) {s n : Nat} {A : Nat → Nat → Int32} {dy cp tn : Int32} {M : mm_M} {post : mm_Post} (hs : s < 20) (hn : n ≤ 7) (hL : LyS M) (hR : RS M s n A dy cp tn) {w : Nat} (hw : w < n) (hr : Int32) (h : post (some (.inl (g_lo A w hr n))) M) : ∀ (m v : Nat) (z : Option mm_V), v + m = n → pK (d + 1) 15 post 1 [some (.inr (.inr (2, s))), some (.inl (nI w)), some (.inl hr), some (.inl (A w 1)), some (.inl (g_lo A w hr v)), some (.inl (nI v)), z] [] M (0, 0) := by
  obtain ⟨h1, h2, h3⟩ := hL s hs
  obtain ⟨r1, r2, r3, r4, r5⟩ := hR
  intro m
  induction m with
  | zero =>
    intro v z hv
    have e : v = n := by omega
    subst e
    rw [eK_15_1]
    simp only [eK_15_0, eK_15_2, eK_15_3, pw_aaload, pw_aload, pw_aload_n, pw_astore, pw_getfield, pw_goto, pw_iconst, pw_ifCond, pw_if_icmp, pw_iinc, pw_iload, pw_iload_n, pw_invokestatic, pw_invokevirtual, pw_ireturn, pw_istore, pw_istore_n, pw_nop0, pw_nop1, mm_pI_c, mm_pL_c, mm_pA_c, mm_pR_c, mm_p1_i, mm_p1_r, mm_pN_0, mm_pN_s, mm_lI_c, mm_lL_c, mm_lA_c, mm_wd_n, mm_wd_i, mm_wd_l, mm_wd_r, mm_gf_i, mm_gf_b, mm_gf_r, mm_rf_c, mm_pf_i, mm_pf_b, mm_pf_r, mm_rt_v, mm_rt_i, mm_rt_r, mm_c_eq, mm_c_ne, mm_c_lt, mm_c_ge, mm_c_gt, mm_c_le, mm_sw_n, mm_sw_c, mm_alc_n, mm_alc_c, mm_rc_n, mm_rc_c, reduceCtorEq, false_implies, implies_true, true_implies, true_or, or_true, false_or, or_false, not_false_eq_true, mm_at_0, mm_at_s, mm_set_0, mm_set_s, mm_nl_n, mm_nl_i, mm_nl_r, mm_args_n, mm_args_i, mm_args_l, mm_args_r, mm_pad_0, mm_pad_n, mm_pad_c, List.length_cons, List.length_nil, List.nil_append, List.cons_append, Nat.zero_le, Nat.sub_zero, true_and, and_true, Nat.reduceAdd, Nat.reduceLeDiff, Nat.reduceLT, Nat.reduceSub, Nat.lt_irrefl, Nat.zero_add, Nat.add_zero, r1, mm_if_t (nI_le (Nat.le_refl v) (show v < 2 ^ 31 by omega))]
    exact h
  | succ m ih =>
    intro v z hv
    obtain ⟨q1, q2, q3⟩ := nI_v7 (show v < n by omega) hn
    have q4 := h3 v (by omega)
    have r := r5 v (by omega)
    have r5' := r 5 (by omega)
    have r10 := r 10 (by omega)
    have r8 := r 8 (by omega)
    have r9 := r 9 (by omega)
    have q5 := nI_e7 (show v < 8 by omega) (show w < 8 by omega)
    have key := ih (v + 1) (some (.inr (.inr (4, 7 * s + v)))) (by omega)
    rw [eK_15_1]
    simp only [eK_15_0, eK_15_2, eK_15_3, pw_aaload, pw_aload, pw_aload_n, pw_astore, pw_getfield, pw_goto, pw_iconst, pw_ifCond, pw_if_icmp, pw_iinc, pw_iload, pw_iload_n, pw_invokestatic, pw_invokevirtual, pw_ireturn, pw_istore, pw_istore_n, pw_nop0, pw_nop1, mm_pI_c, mm_pL_c, mm_pA_c, mm_pR_c, mm_p1_i, mm_p1_r, mm_pN_0, mm_pN_s, mm_lI_c, mm_lL_c, mm_lA_c, mm_wd_n, mm_wd_i, mm_wd_l, mm_wd_r, mm_gf_i, mm_gf_b, mm_gf_r, mm_rf_c, mm_pf_i, mm_pf_b, mm_pf_r, mm_rt_v, mm_rt_i, mm_rt_r, mm_c_eq, mm_c_ne, mm_c_lt, mm_c_ge, mm_c_gt, mm_c_le, mm_sw_n, mm_sw_c, mm_alc_n, mm_alc_c, mm_rc_n, mm_rc_c, reduceCtorEq, false_implies, implies_true, true_implies, true_or, or_true, false_or, or_false, not_false_eq_true, mm_at_0, mm_at_s, mm_set_0, mm_set_s, mm_nl_n, mm_nl_i, mm_nl_r, mm_args_n, mm_args_i, mm_args_l, mm_args_r, mm_pad_0, mm_pad_n, mm_pad_c, List.length_cons, List.length_nil, List.nil_append, List.cons_append, Nat.zero_le, Nat.sub_zero, true_and, and_true, Nat.reduceAdd, Nat.reduceLeDiff, Nat.reduceLT, Nat.reduceSub, Nat.lt_irrefl, Nat.zero_add, Nat.add_zero, r1, h1, h2, q1, q2, q4, mm_if_f q3, r5', r10, r8, r9, q5, nI_1, t_41, t_85, tf_0]
    simp only [mm_if]
    grind [g_lo]

set_option maxHeartbeats 2000000 in
theorem t_15 (d : Nat) {s n : Nat} {A : Nat → Nat → Int32} {dy cp tn : Int32} {M : mm_M} {post : mm_Post} (hs : s < 20) (hn : n ≤ 7) (hL : LyS M) (hR : RS M s n A dy cp tn) {w : Nat} (hw : w < n) (hr : Int32) (h : post (some (.inl (g_lo A w hr n))) M) : pC (d + 2) 15 [.inr (.inr (2, s)), .inl (nI w), .inl hr] M post := by
  obtain ⟨h1, h2, h3⟩ := hL s hs
  obtain ⟨q1, q2, q3⟩ := nI_v7 hw hn
  have q4 := h3 w (by omega)
  have r1 := hR.2.2.2.2 w hw 1 (by omega)
  have key := l_15 d hs hn hL hR hw hr h n 0 none (by omega)
  simp only [eC_15, eK_15_0, eK_15_2, eK_15_3, pw_aaload, pw_aload, pw_aload_n, pw_astore, pw_getfield, pw_goto, pw_iconst, pw_ifCond, pw_if_icmp, pw_iinc, pw_iload, pw_iload_n, pw_invokestatic, pw_invokevirtual, pw_ireturn, pw_istore, pw_istore_n, pw_nop0, pw_nop1, mm_pI_c, mm_pL_c, mm_pA_c, mm_pR_c, mm_p1_i, mm_p1_r, mm_pN_0, mm_pN_s, mm_lI_c, mm_lL_c, mm_lA_c, mm_wd_n, mm_wd_i, mm_wd_l, mm_wd_r, mm_gf_i, mm_gf_b, mm_gf_r, mm_rf_c, mm_pf_i, mm_pf_b, mm_pf_r, mm_rt_v, mm_rt_i, mm_rt_r, mm_c_eq, mm_c_ne, mm_c_lt, mm_c_ge, mm_c_gt, mm_c_le, mm_sw_n, mm_sw_c, mm_alc_n, mm_alc_c, mm_rc_n, mm_rc_c, reduceCtorEq, false_implies, implies_true, true_implies, true_or, or_true, false_or, or_false, not_false_eq_true, mm_at_0, mm_at_s, mm_set_0, mm_set_s, mm_nl_n, mm_nl_i, mm_nl_r, mm_args_n, mm_args_i, mm_args_l, mm_args_r, mm_pad_0, mm_pad_n, mm_pad_c, List.length_cons, List.length_nil, List.nil_append, List.cons_append, Nat.zero_le, Nat.sub_zero, true_and, and_true, Nat.reduceAdd, Nat.reduceLeDiff, Nat.reduceLT, Nat.reduceSub, Nat.lt_irrefl, Nat.zero_add, Nat.add_zero, h1, h2, q1, q2, q4, r1]
  exact key

