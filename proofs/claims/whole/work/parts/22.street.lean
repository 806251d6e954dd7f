/-! THE CLASS: a street, read -/
theorem mm_if_t {c A B : Prop} (h : c) : mm_if c A B = A := by unfold mm_if; simp [h]
theorem mm_if_f {c A B : Prop} (h : ¬ c) : mm_if c A B = B := by unfold mm_if; simp [h]
def LyS (M : mm_M) : Prop := ∀ s, s < 20 → mm_R M 2 s 0 = some s ∧ mm_L M 10 s = 7 ∧ ∀ w, w < 7 → mm_R M 10 s w = some (7 * s + w)
/-- street s is n wrongs that are as A has them, the day, copper, tin -/
def RS (M : mm_M) (s n : Nat) (A : Nat → Nat → Int32) (dy cp tn : Int32) : Prop := mm_I M 2 s 1 = nI n ∧ mm_I M 2 s 2 = dy ∧ mm_I M 2 s 3 = cp ∧ mm_I M 2 s 4 = tn ∧ ∀ w, w < n → ∀ k, k < 11 → mm_I M 4 (7 * s + w) k = A w k
theorem nI_v7 {v n : Nat} (h : v < n) (hn : n ≤ 7) : vp_in (nI v) 7 ∧ (nI v).toNatClampNeg = v ∧ ¬ nI n ≤ nI v := ⟨vp_in_nI (by omega) (by omega), nI_clamp (by omega), nI_ge h (by omega)⟩
theorem nI_e7 {v w : Nat} (h : v < 8) (hw : w < 8) : (nI v = nI w) = (v = w) := propext (nI_eq (by omega) (by omega))
/-- the loudest other bell that rings in an hour where the one of w lives -/
def g_lo (A : Nat → Nat → Int32) (w : Nat) (hr : Int32) : Nat → Int32
  | 0 => 0
  | v + 1 => if ¬ v = w ∧ A v 5 = 2 ∧ A v 10 = hr then (if g_lo A w hr v < f_lf (A v 8) (A v 9) (A w 1) then f_lf (A v 8) (A v 9) (A w 1) else g_lo A w hr v) else g_lo A w hr v

set_option maxHeartbeats 2000000 in
theorem l_15 (d : Nat) {s n : Nat} {A : Nat → Nat → Int32} {dy cp tn : Int32} {M : mm_M} {post : mm_Post} (hs : s < 20) (hn : n ≤ 7) (hL : LyS M) (hR : RS M s n A dy cp tn) {w : Nat} (hw : w < n) (hr : Int32) (h : post (some (.inl (g_lo A w hr n))) M) : ∀ (m v : Nat) (z : Option mm_V), v + m = n → pK (d + 1) 15 post 1 [some (.inr (.inr (2, s))), some (.inl (nI w)), some (.inl hr), some (.inl (A w 1)), some (.inl (g_lo A w hr v)), some (.inl (nI v)), z] [] M (0, 0) := by
  obtain ⟨h1, h2, h3⟩ := hL s hs
  obtain ⟨r1, r2, r3, r4, r5⟩ := hR
  intro m
  induction m with
  | zero =>
    intro v z hv
    have e : v = n := by omega
    subst e
    rw [eK_15_1]
    simp only [eK_15_0, eK_15_2, eK_15_3, pw_aaload, pw_aload, pw_aload_n, pw_astore, pw_getfield, pw_goto, pw_iconst, pw_ifCond, pw_if_icmp, pw_iinc, pw_iload, pw_iload_n, pw_invokestatic, pw_invokevirtual, pw_ireturn, pw_istore, pw_istore_n, pw_nop0, pw_nop1, mm_pI_c, mm_pL_c, mm_pA_c, mm_pR_c, mm_p1_i, mm_p1_r, mm_pN_0, mm_pN_s, mm_lI_c, mm_lL_c, mm_lA_c, mm_wd_n, mm_wd_i, mm_wd_l, mm_wd_r, mm_gf_i, mm_gf_b, mm_gf_r, mm_rf_c, mm_pf_i, mm_pf_b, mm_pf_r, mm_rt_v, mm_rt_i, mm_rt_r, mm_c_eq, mm_c_ne, mm_c_lt, mm_c_ge, mm_c_gt, mm_c_le, mm_sw_n, mm_sw_c, mm_alc_n, mm_alc_c, mm_rc_n, mm_rc_c, reduceCtorEq, false_implies, implies_true, true_implies, true_or, or_true, false_or, or_false, not_false_eq_true, mm_at_0, mm_at_s, mm_set_0, mm_set_s, mm_nl_n, mm_nl_i, mm_nl_r, mm_args_n, mm_args_i, mm_args_l, mm_args_r, mm_pad_0, mm_pad_n, mm_pad_c, List.length_cons, List.length_nil, List.nil_append, List.cons_append, Nat.zero_le, Nat.sub_zero, true_and, and_true, Nat.reduceAdd, Nat.reduceLeDiff, Nat.reduceLT, Nat.reduceSub, Nat.lt_irrefl, Nat.zero_add, Nat.add_zero, k_20, k_10, k_01, mm_if_T, mm_if_F, not_true_eq_false, not_false_eq_true, r1, mm_if_t (nI_le (Nat.le_refl v) (show v < 2 ^ 31 by omega))]
    exact h
  | succ m ih =>
    intro v z hv
    obtain ⟨q1, q2, q3⟩ := nI_v7 (show v < n by omega) hn
    have q4 := h3 v (by omega)
    have r := r5 v (by omega)
    have r5' := r 5 (by omega)
    have r10 := r 10 (by omega)
    have r8 := r 8 (by omega)
    have r9 := r 9 (by omega)
    have q5 := nI_e7 (show v < 8 by omega) (show w < 8 by omega)
    have key := ih (v + 1) (some (.inr (.inr (4, 7 * s + v)))) (by omega)
    rw [eK_15_1]
    simp only [eK_15_0, eK_15_2, eK_15_3, pw_aaload, pw_aload, pw_aload_n, pw_astore, pw_getfield, pw_goto, pw_iconst, pw_ifCond, pw_if_icmp, pw_iinc, pw_iload, pw_iload_n, pw_invokestatic, pw_invokevirtual, pw_ireturn, pw_istore, pw_istore_n, pw_nop0, pw_nop1, mm_pI_c, mm_pL_c, mm_pA_c, mm_pR_c, mm_p1_i, mm_p1_r, mm_pN_0, mm_pN_s, mm_lI_c, mm_lL_c, mm_lA_c, mm_wd_n, mm_wd_i, mm_wd_l, mm_wd_r, mm_gf_i, mm_gf_b, mm_gf_r, mm_rf_c, mm_pf_i, mm_pf_b, mm_pf_r, mm_rt_v, mm_rt_i, mm_rt_r, mm_c_eq, mm_c_ne, mm_c_lt, mm_c_ge, mm_c_gt, mm_c_le, mm_sw_n, mm_sw_c, mm_alc_n, mm_alc_c, mm_rc_n, mm_rc_c, reduceCtorEq, false_implies, implies_true, true_implies, true_or, or_true, false_or, or_false, not_false_eq_true, mm_at_0, mm_at_s, mm_set_0, mm_set_s, mm_nl_n, mm_nl_i, mm_nl_r, mm_args_n, mm_args_i, mm_args_l, mm_args_r, mm_pad_0, mm_pad_n, mm_pad_c, List.length_cons, List.length_nil, List.nil_append, List.cons_append, Nat.zero_le, Nat.sub_zero, true_and, and_true, Nat.reduceAdd, Nat.reduceLeDiff, Nat.reduceLT, Nat.reduceSub, Nat.lt_irrefl, Nat.zero_add, Nat.add_zero, k_20, k_10, k_01, mm_if_T, mm_if_F, not_true_eq_false, not_false_eq_true, r1, h1, h2, q1, q2, q4, mm_if_f q3, r5', r10, r8, r9, q5, nI_1, t_41, t_85, tf_0]
    simp only [mm_if]
    grind [g_lo]

set_option maxHeartbeats 2000000 in
theorem t_15 (d : Nat) {s n : Nat} {A : Nat → Nat → Int32} {dy cp tn : Int32} {M : mm_M} {post : mm_Post} (hs : s < 20) (hn : n ≤ 7) (hL : LyS M) (hR : RS M s n A dy cp tn) {w : Nat} (hw : w < n) (hr : Int32) (h : post (some (.inl (g_lo A w hr n))) M) : pC (d + 2) 15 [.inr (.inr (2, s)), .inl (nI w), .inl hr] M post := by
  obtain ⟨h1, h2, h3⟩ := hL s hs
  obtain ⟨q1, q2, q3⟩ := nI_v7 hw hn
  have q4 := h3 w (by omega)
  have r1 := hR.2.2.2.2 w hw 1 (by omega)
  have key := l_15 d hs hn hL hR hw hr h n 0 none (by omega)
  simp only [eC_15, eK_15_0, eK_15_2, eK_15_3, pw_aaload, pw_aload, pw_aload_n, pw_astore, pw_getfield, pw_goto, pw_iconst, pw_ifCond, pw_if_icmp, pw_iinc, pw_iload, pw_iload_n, pw_invokestatic, pw_invokevirtual, pw_ireturn, pw_istore, pw_istore_n, pw_nop0, pw_nop1, mm_pI_c, mm_pL_c, mm_pA_c, mm_pR_c, mm_p1_i, mm_p1_r, mm_pN_0, mm_pN_s, mm_lI_c, mm_lL_c, mm_lA_c, mm_wd_n, mm_wd_i, mm_wd_l, mm_wd_r, mm_gf_i, mm_gf_b, mm_gf_r, mm_rf_c, mm_pf_i, mm_pf_b, mm_pf_r, mm_rt_v, mm_rt_i, mm_rt_r, mm_c_eq, mm_c_ne, mm_c_lt, mm_c_ge, mm_c_gt, mm_c_le, mm_sw_n, mm_sw_c, mm_alc_n, mm_alc_c, mm_rc_n, mm_rc_c, reduceCtorEq, false_implies, implies_true, true_implies, true_or, or_true, false_or, or_false, not_false_eq_true, mm_at_0, mm_at_s, mm_set_0, mm_set_s, mm_nl_n, mm_nl_i, mm_nl_r, mm_args_n, mm_args_i, mm_args_l, mm_args_r, mm_pad_0, mm_pad_n, mm_pad_c, List.length_cons, List.length_nil, List.nil_append, List.cons_append, Nat.zero_le, Nat.sub_zero, true_and, and_true, Nat.reduceAdd, Nat.reduceLeDiff, Nat.reduceLT, Nat.reduceSub, Nat.lt_irrefl, Nat.zero_add, Nat.add_zero, k_20, k_10, k_01, mm_if_T, mm_if_F, not_true_eq_false, not_false_eq_true, h1, h2, q1, q2, q4, r1]
  exact key

/-- how loud the bell of v is where the one of w lives -/
def g_at (A : Nat → Nat → Int32) (v w : Nat) : Int32 := f_lf (A v 8) (A v 9) (A w 1)
def g_dr (A : Nat → Nat → Int32) (v w : Nat) : Int32 := tf ((if 1 < g_at A w w then g_at A w w else 1) ≤ g_at A v w)
def g_cv (A : Nat → Nat → Int32) (w : Nat) : Nat → Int32
  | 0 => 0
  | v + 1 => if ¬ v = w ∧ A v 5 = 2 ∧ A v 10 = A w 10 ∧ ¬ g_dr A v w = 0 then g_cv A w v ||| (1 <<< (nI v &&& 31)) else g_cv A w v
def g_ev (dy : Int32) : Int32 := tf (dy - dy / 2 * 2 = 0)
def g_hd (A : Nat → Nat → Int32) (n w : Nat) (ev : Int32) : Int32 := tf (A w 5 = 2 ∧ ¬ f_rbi (A w 0) (g_at A w w) (A w 7) ev = 0 ∧ g_lo A w (A w 10) n < g_at A w w)
def g_hb (A : Nat → Nat → Int32) (n : Nat) (ev : Int32) : Nat → Int32
  | 0 => 0
  | w + 1 => if ¬ g_hd A n w ev = 0 then g_hb A n ev w ||| (1 <<< (nI w &&& 31)) else g_hb A n ev w
def g_fb (A : Nat → Nat → Int32) : Nat → Int32
  | 0 => 0
  | w + 1 => if ¬ A w 4 = 0 then g_fb A w ||| (1 <<< (nI w &&& 31)) else g_fb A w
def g_bl (A : Nat → Nat → Int32) (b : Int32) : Nat → Int32
  | 0 => 0
  | w + 1 => if b ≤ A w 5 then g_bl A b w + 1 else g_bl A b w
def g_ot (A : Nat → Nat → Int32) (w : Nat) (p f : Int32) : Nat → Int32
  | 0 => 0
  | v + 1 => if (¬ v = w ∧ (¬ f = 0 ∨ A v 4 = 0)) ∧ 1 ≤ f_lf (A w 8) p (A v 1) then g_ot A w p f v + 1 else g_ot A w p f v

theorem e_15 (d : Nat) {s n : Nat} {A : Nat → Nat → Int32} {dy cp tn : Int32} {M : mm_M} {post : mm_Post} (hs : s < 20) (hn : n ≤ 7) (hL : LyS M) (hR : RS M s n A dy cp tn) {w : Nat} (hw : w < n) (hr : Int32) : pC (d + 2) 15 [.inr (.inr (2, s)), .inl (nI w), .inl hr] M post = post (some (.inl (g_lo A w hr n))) M := pC_one (fun post h => t_15 d hs hn hL hR hw hr h) post
set_option maxHeartbeats 2000000 in
theorem e_17 (d : Nat) {s n : Nat} {A : Nat → Nat → Int32} {dy cp tn : Int32} {M : mm_M} {post : mm_Post} (hs : s < 20) (hn : n ≤ 7) (hL : LyS M) (hR : RS M s n A dy cp tn) {v w : Nat} (hv : v < n) (hw : w < n) : pC (d + 3) 17 [.inr (.inr (2, s)), .inl (nI v), .inl (nI w)] M post = post (some (.inl (g_dr A v w))) M := by
  obtain ⟨h1, h2, h3⟩ := hL s hs
  obtain ⟨s1, s2, s3, s4, s5⟩ := hR
  obtain ⟨q1, q2, q3⟩ := nI_v7 (show v < n by omega) hn
  have q4 := h3 v (by omega)
  have r := s5 v (by omega)
  have r8 := r 8 (by omega)
  have r9 := r 9 (by omega)
  obtain ⟨wq1, wq2, wq3⟩ := nI_v7 (show w < n by omega) hn
  have wq4 := h3 w (by omega)
  have wr := s5 w (by omega)
  have wr1 := wr 1 (by omega)
  have wr8 := wr 8 (by omega)
  have wr9 := wr 9 (by omega)
  simp only [eC_17, eK_17_0, eK_17_1, eK_17_2, pw_aaload, pw_aload_n, pw_getfield, pw_goto, pw_iconst, pw_if_icmp, pw_iload_n, pw_invokevirtual, pw_ireturn, pw_nop0, pw_nop1, mm_pI_c, mm_pL_c, mm_pA_c, mm_pR_c, mm_p1_i, mm_p1_r, mm_pN_0, mm_pN_s, mm_lI_c, mm_lL_c, mm_lA_c, mm_wd_n, mm_wd_i, mm_wd_l, mm_wd_r, mm_gf_i, mm_gf_b, mm_gf_r, mm_rf_c, mm_pf_i, mm_pf_b, mm_pf_r, mm_rt_v, mm_rt_i, mm_rt_r, mm_c_eq, mm_c_ne, mm_c_lt, mm_c_ge, mm_c_gt, mm_c_le, mm_sw_n, mm_sw_c, mm_alc_n, mm_alc_c, mm_rc_n, mm_rc_c, reduceCtorEq, false_implies, implies_true, true_implies, true_or, or_true, false_or, or_false, not_false_eq_true, mm_at_0, mm_at_s, mm_set_0, mm_set_s, mm_nl_n, mm_nl_i, mm_nl_r, mm_args_n, mm_args_i, mm_args_l, mm_args_r, mm_pad_0, mm_pad_n, mm_pad_c, List.length_cons, List.length_nil, List.nil_append, List.cons_append, Nat.zero_le, Nat.sub_zero, true_and, and_true, Nat.reduceAdd, Nat.reduceLeDiff, Nat.reduceLT, Nat.reduceSub, Nat.lt_irrefl, Nat.zero_add, Nat.add_zero, k_20, k_10, k_01, mm_if_T, mm_if_F, not_true_eq_false, not_false_eq_true, h1, h2, q1, q2, q4, r8, r9, wq1, wq2, wq4, wr1, wr8, wr9, t_44, t_45, mm_if_v]
  refine congrArg (fun z => post (some (.inl z)) M) ?_
  unfold g_dr g_at tf
  grind
set_option maxHeartbeats 2000000 in
theorem e_18 (d : Nat) {s n : Nat} {A : Nat → Nat → Int32} {dy cp tn : Int32} {M : mm_M} {post : mm_Post} (hs : s < 20) (hn : n ≤ 7) (hL : LyS M) (hR : RS M s n A dy cp tn) {w : Nat} (hw : w < n) : pC (d + 3) 18 [.inr (.inr (2, s)), .inl (nI w)] M post = post (some (.inl (g_hd A n w (g_ev dy)))) M := by
  have hR0 := hR
  obtain ⟨h1, h2, h3⟩ := hL s hs
  obtain ⟨s1, s2, s3, s4, s5⟩ := hR
  obtain ⟨q1, q2, q3⟩ := nI_v7 (show w < n by omega) hn
  have q4 := h3 w (by omega)
  have r := s5 w (by omega)
  have r0 := r 0 (by omega)
  have r1 := r 1 (by omega)
  have r5 := r 5 (by omega)
  have r7 := r 7 (by omega)
  have r8 := r 8 (by omega)
  have r9 := r 9 (by omega)
  have r10 := r 10 (by omega)
  simp only [eC_18, eK_18_0, eK_18_1, eK_18_2, eK_18_3, eK_18_4, pw_aaload, pw_aload_n, pw_astore_n, pw_getfield, pw_goto, pw_iconst, pw_ifCond, pw_iload_n, pw_invokevirtual, pw_irem, pw_ireturn, pw_nop0, mm_pI_c, mm_pL_c, mm_pA_c, mm_pR_c, mm_p1_i, mm_p1_r, mm_pN_0, mm_pN_s, mm_lI_c, mm_lL_c, mm_lA_c, mm_wd_n, mm_wd_i, mm_wd_l, mm_wd_r, mm_gf_i, mm_gf_b, mm_gf_r, mm_rf_c, mm_pf_i, mm_pf_b, mm_pf_r, mm_rt_v, mm_rt_i, mm_rt_r, mm_c_eq, mm_c_ne, mm_c_lt, mm_c_ge, mm_c_gt, mm_c_le, mm_sw_n, mm_sw_c, mm_alc_n, mm_alc_c, mm_rc_n, mm_rc_c, reduceCtorEq, false_implies, implies_true, true_implies, true_or, or_true, false_or, or_false, not_false_eq_true, mm_at_0, mm_at_s, mm_set_0, mm_set_s, mm_nl_n, mm_nl_i, mm_nl_r, mm_args_n, mm_args_i, mm_args_l, mm_args_r, mm_pad_0, mm_pad_n, mm_pad_c, List.length_cons, List.length_nil, List.nil_append, List.cons_append, Nat.zero_le, Nat.sub_zero, true_and, and_true, Nat.reduceAdd, Nat.reduceLeDiff, Nat.reduceLT, Nat.reduceSub, Nat.lt_irrefl, Nat.zero_add, Nat.add_zero, k_20, k_10, k_01, mm_if_T, mm_if_F, not_true_eq_false, not_false_eq_true, h1, h2, s2, q1, q2, q4, r0, r1, r5, r7, r8, r9, r10, t_41, t_45, t_47, tf_0, e_15 d hs hn hL hR0 hw, mm_if_v]
  refine congrArg (fun z => post (some (.inl z)) M) ?_
  unfold g_hd g_ev g_at tf
  grind
set_option maxHeartbeats 4000000 in
theorem l_16 (d : Nat) {s n : Nat} {A : Nat → Nat → Int32} {dy cp tn : Int32} {M : mm_M} {post : mm_Post} (hs : s < 20) (hn : n ≤ 7) (hL : LyS M) (hR : RS M s n A dy cp tn) {w : Nat} (hw : w < n) (h : post (some (.inl (g_cv A w n))) M) : ∀ (m v : Nat), v + m = n → pK (d + 3) 16 post 1 [some (.inr (.inr (2, s))), some (.inl (nI w)), some (.inl (g_cv A w v)), some (.inl (nI v))] [] M (0, 0) := by
  have hR0 := hR
  obtain ⟨h1, h2, h3⟩ := hL s hs
  obtain ⟨s1, s2, s3, s4, s5⟩ := hR
  intro m
  induction m with
  | zero =>
    intro v  hv
    have e : v = n := by omega
    subst e
    rw [eK_16_1]
    simp only [eK_16_0, eK_16_2, eK_16_3, pw_aaload, pw_aload_n, pw_getfield, pw_goto, pw_iconst, pw_ifCond, pw_if_icmp, pw_iinc, pw_iload_n, pw_invokevirtual, pw_ior, pw_ireturn, pw_ishl, pw_istore_n, pw_nop0, mm_pI_c, mm_pL_c, mm_pA_c, mm_pR_c, mm_p1_i, mm_p1_r, mm_pN_0, mm_pN_s, mm_lI_c, mm_lL_c, mm_lA_c, mm_wd_n, mm_wd_i, mm_wd_l, mm_wd_r, mm_gf_i, mm_gf_b, mm_gf_r, mm_rf_c, mm_pf_i, mm_pf_b, mm_pf_r, mm_rt_v, mm_rt_i, mm_rt_r, mm_c_eq, mm_c_ne, mm_c_lt, mm_c_ge, mm_c_gt, mm_c_le, mm_sw_n, mm_sw_c, mm_alc_n, mm_alc_c, mm_rc_n, mm_rc_c, reduceCtorEq, false_implies, implies_true, true_implies, true_or, or_true, false_or, or_false, not_false_eq_true, mm_at_0, mm_at_s, mm_set_0, mm_set_s, mm_nl_n, mm_nl_i, mm_nl_r, mm_args_n, mm_args_i, mm_args_l, mm_args_r, mm_pad_0, mm_pad_n, mm_pad_c, List.length_cons, List.length_nil, List.nil_append, List.cons_append, Nat.zero_le, Nat.sub_zero, true_and, and_true, Nat.reduceAdd, Nat.reduceLeDiff, Nat.reduceLT, Nat.reduceSub, Nat.lt_irrefl, Nat.zero_add, Nat.add_zero, k_20, k_10, k_01, mm_if_T, mm_if_F, not_true_eq_false, not_false_eq_true, s1, mm_if_t (nI_le (Nat.le_refl v) (show v < 2 ^ 31 by omega))]
    exact h
  | succ m ih =>
    intro v  hv
    have hvn : v < n := by omega
    obtain ⟨q1, q2, q3⟩ := nI_v7 (show v < n by omega) hn
    have q4 := h3 v (by omega)
    have r := s5 v (by omega)
    have r5 := r 5 (by omega)
    have r10 := r 10 (by omega)
    obtain ⟨wq1, wq2, wq3⟩ := nI_v7 (show w < n by omega) hn
    have wq4 := h3 w (by omega)
    have wr := s5 w (by omega)
    have wr10 := wr 10 (by omega)
    have q5 := nI_e7 (show v < 8 by omega) (show w < 8 by omega)
    have key := ih (v + 1) (by omega)
    rw [eK_16_1]
    simp only [eK_16_0, eK_16_2, eK_16_3, pw_aaload, pw_aload_n, pw_getfield, pw_goto, pw_iconst, pw_ifCond, pw_if_icmp, pw_iinc, pw_iload_n, pw_invokevirtual, pw_ior, pw_ireturn, pw_ishl, pw_istore_n, pw_nop0, mm_pI_c, mm_pL_c, mm_pA_c, mm_pR_c, mm_p1_i, mm_p1_r, mm_pN_0, mm_pN_s, mm_lI_c, mm_lL_c, mm_lA_c, mm_wd_n, mm_wd_i, mm_wd_l, mm_wd_r, mm_gf_i, mm_gf_b, mm_gf_r, mm_rf_c, mm_pf_i, mm_pf_b, mm_pf_r, mm_rt_v, mm_rt_i, mm_rt_r, mm_c_eq, mm_c_ne, mm_c_lt, mm_c_ge, mm_c_gt, mm_c_le, mm_sw_n, mm_sw_c, mm_alc_n, mm_alc_c, mm_rc_n, mm_rc_c, reduceCtorEq, false_implies, implies_true, true_implies, true_or, or_true, false_or, or_false, not_false_eq_true, mm_at_0, mm_at_s, mm_set_0, mm_set_s, mm_nl_n, mm_nl_i, mm_nl_r, mm_args_n, mm_args_i, mm_args_l, mm_args_r, mm_pad_0, mm_pad_n, mm_pad_c, List.length_cons, List.length_nil, List.nil_append, List.cons_append, Nat.zero_le, Nat.sub_zero, true_and, and_true, Nat.reduceAdd, Nat.reduceLeDiff, Nat.reduceLT, Nat.reduceSub, Nat.lt_irrefl, Nat.zero_add, Nat.add_zero, k_20, k_10, k_01, mm_if_T, mm_if_F, not_true_eq_false, not_false_eq_true, s1, h1, h2, mm_if_f q3, nI_1, q1, q2, q4, r5, r10, wq1, wq2, wq4, wr10, q5, t_41, tf_0, e_17 d hs hn hL hR0 hvn hw]
    simp only [mm_if]
    grind [g_cv]
set_option maxHeartbeats 2000000 in
theorem t_16 (d : Nat) {s n : Nat} {A : Nat → Nat → Int32} {dy cp tn : Int32} {M : mm_M} {post : mm_Post} (hs : s < 20) (hn : n ≤ 7) (hL : LyS M) (hR : RS M s n A dy cp tn) {w : Nat} (hw : w < n) (h : post (some (.inl (g_cv A w n))) M) : pC (d + 4) 16 [.inr (.inr (2, s)), .inl (nI w)] M post := by
  have key := l_16 d hs hn hL hR hw h n 0  (by omega)
  simp only [eC_16, eK_16_0, eK_16_2, eK_16_3, pw_aaload, pw_aload_n, pw_getfield, pw_goto, pw_iconst, pw_ifCond, pw_if_icmp, pw_iinc, pw_iload_n, pw_invokevirtual, pw_ior, pw_ireturn, pw_ishl, pw_istore_n, pw_nop0, mm_pI_c, mm_pL_c, mm_pA_c, mm_pR_c, mm_p1_i, mm_p1_r, mm_pN_0, mm_pN_s, mm_lI_c, mm_lL_c, mm_lA_c, mm_wd_n, mm_wd_i, mm_wd_l, mm_wd_r, mm_gf_i, mm_gf_b, mm_gf_r, mm_rf_c, mm_pf_i, mm_pf_b, mm_pf_r, mm_rt_v, mm_rt_i, mm_rt_r, mm_c_eq, mm_c_ne, mm_c_lt, mm_c_ge, mm_c_gt, mm_c_le, mm_sw_n, mm_sw_c, mm_alc_n, mm_alc_c, mm_rc_n, mm_rc_c, reduceCtorEq, false_implies, implies_true, true_implies, true_or, or_true, false_or, or_false, not_false_eq_true, mm_at_0, mm_at_s, mm_set_0, mm_set_s, mm_nl_n, mm_nl_i, mm_nl_r, mm_args_n, mm_args_i, mm_args_l, mm_args_r, mm_pad_0, mm_pad_n, mm_pad_c, List.length_cons, List.length_nil, List.nil_append, List.cons_append, Nat.zero_le, Nat.sub_zero, true_and, and_true, Nat.reduceAdd, Nat.reduceLeDiff, Nat.reduceLT, Nat.reduceSub, Nat.lt_irrefl, Nat.zero_add, Nat.add_zero, k_20, k_10, k_01, mm_if_T, mm_if_F, not_true_eq_false, not_false_eq_true]
  exact key
theorem e_16 (d : Nat) {s n : Nat} {A : Nat → Nat → Int32} {dy cp tn : Int32} {M : mm_M} {post : mm_Post} (hs : s < 20) (hn : n ≤ 7) (hL : LyS M) (hR : RS M s n A dy cp tn) {w : Nat} (hw : w < n) : pC (d + 4) 16 [.inr (.inr (2, s)), .inl (nI w)] M post = post (some (.inl (g_cv A w n))) M := pC_one (fun post h => t_16 d hs hn hL hR hw h) post
set_option maxHeartbeats 4000000 in
theorem l_20 (d : Nat) {s n : Nat} {A : Nat → Nat → Int32} {dy cp tn : Int32} {M : mm_M} {post : mm_Post} (hs : s < 20) (hn : n ≤ 7) (hL : LyS M) (hR : RS M s n A dy cp tn)   (h : post (some (.inl (g_hb A n (g_ev dy) n))) M) : ∀ (m v : Nat), v + m = n → pK (d + 3) 20 post 1 [some (.inr (.inr (2, s))), some (.inl (g_hb A n (g_ev dy) v)), some (.inl (nI v))] [] M (0, 0) := by
  have hR0 := hR
  obtain ⟨h1, h2, h3⟩ := hL s hs
  obtain ⟨s1, s2, s3, s4, s5⟩ := hR
  intro m
  induction m with
  | zero =>
    intro v  hv
    have e : v = n := by omega
    subst e
    rw [eK_20_1]
    simp only [eK_20_0, eK_20_2, eK_20_3, pw_aload_n, pw_getfield, pw_goto, pw_iconst, pw_ifCond, pw_if_icmp, pw_iinc, pw_iload_n, pw_invokevirtual, pw_ior, pw_ireturn, pw_ishl, pw_istore_n, pw_nop0, mm_pI_c, mm_pL_c, mm_pA_c, mm_pR_c, mm_p1_i, mm_p1_r, mm_pN_0, mm_pN_s, mm_lI_c, mm_lL_c, mm_lA_c, mm_wd_n, mm_wd_i, mm_wd_l, mm_wd_r, mm_gf_i, mm_gf_b, mm_gf_r, mm_rf_c, mm_pf_i, mm_pf_b, mm_pf_r, mm_rt_v, mm_rt_i, mm_rt_r, mm_c_eq, mm_c_ne, mm_c_lt, mm_c_ge, mm_c_gt, mm_c_le, mm_sw_n, mm_sw_c, mm_alc_n, mm_alc_c, mm_rc_n, mm_rc_c, reduceCtorEq, false_implies, implies_true, true_implies, true_or, or_true, false_or, or_false, not_false_eq_true, mm_at_0, mm_at_s, mm_set_0, mm_set_s, mm_nl_n, mm_nl_i, mm_nl_r, mm_args_n, mm_args_i, mm_args_l, mm_args_r, mm_pad_0, mm_pad_n, mm_pad_c, List.length_cons, List.length_nil, List.nil_append, List.cons_append, Nat.zero_le, Nat.sub_zero, true_and, and_true, Nat.reduceAdd, Nat.reduceLeDiff, Nat.reduceLT, Nat.reduceSub, Nat.lt_irrefl, Nat.zero_add, Nat.add_zero, k_20, k_10, k_01, mm_if_T, mm_if_F, not_true_eq_false, not_false_eq_true, s1, mm_if_t (nI_le (Nat.le_refl v) (show v < 2 ^ 31 by omega))]
    exact h
  | succ m ih =>
    intro v  hv
    have hvn : v < n := by omega
    obtain ⟨q1, q2, q3⟩ := nI_v7 (show v < n by omega) hn
    have q4 := h3 v (by omega)
    have r := s5 v (by omega)
    have key := ih (v + 1) (by omega)
    rw [eK_20_1]
    simp only [eK_20_0, eK_20_2, eK_20_3, pw_aload_n, pw_getfield, pw_goto, pw_iconst, pw_ifCond, pw_if_icmp, pw_iinc, pw_iload_n, pw_invokevirtual, pw_ior, pw_ireturn, pw_ishl, pw_istore_n, pw_nop0, mm_pI_c, mm_pL_c, mm_pA_c, mm_pR_c, mm_p1_i, mm_p1_r, mm_pN_0, mm_pN_s, mm_lI_c, mm_lL_c, mm_lA_c, mm_wd_n, mm_wd_i, mm_wd_l, mm_wd_r, mm_gf_i, mm_gf_b, mm_gf_r, mm_rf_c, mm_pf_i, mm_pf_b, mm_pf_r, mm_rt_v, mm_rt_i, mm_rt_r, mm_c_eq, mm_c_ne, mm_c_lt, mm_c_ge, mm_c_gt, mm_c_le, mm_sw_n, mm_sw_c, mm_alc_n, mm_alc_c, mm_rc_n, mm_rc_c, reduceCtorEq, false_implies, implies_true, true_implies, true_or, or_true, false_or, or_false, not_false_eq_true, mm_at_0, mm_at_s, mm_set_0, mm_set_s, mm_nl_n, mm_nl_i, mm_nl_r, mm_args_n, mm_args_i, mm_args_l, mm_args_r, mm_pad_0, mm_pad_n, mm_pad_c, List.length_cons, List.length_nil, List.nil_append, List.cons_append, Nat.zero_le, Nat.sub_zero, true_and, and_true, Nat.reduceAdd, Nat.reduceLeDiff, Nat.reduceLT, Nat.reduceSub, Nat.lt_irrefl, Nat.zero_add, Nat.add_zero, k_20, k_10, k_01, mm_if_T, mm_if_F, not_true_eq_false, not_false_eq_true, s1, h1, h2, mm_if_f q3, nI_1, e_18 d hs hn hL hR0 hvn]
    simp only [mm_if]
    grind [g_hb]
set_option maxHeartbeats 2000000 in
theorem t_20 (d : Nat) {s n : Nat} {A : Nat → Nat → Int32} {dy cp tn : Int32} {M : mm_M} {post : mm_Post} (hs : s < 20) (hn : n ≤ 7) (hL : LyS M) (hR : RS M s n A dy cp tn)   (h : post (some (.inl (g_hb A n (g_ev dy) n))) M) : pC (d + 4) 20 [.inr (.inr (2, s))] M post := by
  have key := l_20 d hs hn hL hR  h n 0  (by omega)
  simp only [eC_20, eK_20_0, eK_20_2, eK_20_3, pw_aload_n, pw_getfield, pw_goto, pw_iconst, pw_ifCond, pw_if_icmp, pw_iinc, pw_iload_n, pw_invokevirtual, pw_ior, pw_ireturn, pw_ishl, pw_istore_n, pw_nop0, mm_pI_c, mm_pL_c, mm_pA_c, mm_pR_c, mm_p1_i, mm_p1_r, mm_pN_0, mm_pN_s, mm_lI_c, mm_lL_c, mm_lA_c, mm_wd_n, mm_wd_i, mm_wd_l, mm_wd_r, mm_gf_i, mm_gf_b, mm_gf_r, mm_rf_c, mm_pf_i, mm_pf_b, mm_pf_r, mm_rt_v, mm_rt_i, mm_rt_r, mm_c_eq, mm_c_ne, mm_c_lt, mm_c_ge, mm_c_gt, mm_c_le, mm_sw_n, mm_sw_c, mm_alc_n, mm_alc_c, mm_rc_n, mm_rc_c, reduceCtorEq, false_implies, implies_true, true_implies, true_or, or_true, false_or, or_false, not_false_eq_true, mm_at_0, mm_at_s, mm_set_0, mm_set_s, mm_nl_n, mm_nl_i, mm_nl_r, mm_args_n, mm_args_i, mm_args_l, mm_args_r, mm_pad_0, mm_pad_n, mm_pad_c, List.length_cons, List.length_nil, List.nil_append, List.cons_append, Nat.zero_le, Nat.sub_zero, true_and, and_true, Nat.reduceAdd, Nat.reduceLeDiff, Nat.reduceLT, Nat.reduceSub, Nat.lt_irrefl, Nat.zero_add, Nat.add_zero, k_20, k_10, k_01, mm_if_T, mm_if_F, not_true_eq_false, not_false_eq_true]
  exact key
theorem e_20 (d : Nat) {s n : Nat} {A : Nat → Nat → Int32} {dy cp tn : Int32} {M : mm_M} {post : mm_Post} (hs : s < 20) (hn : n ≤ 7) (hL : LyS M) (hR : RS M s n A dy cp tn)   : pC (d + 4) 20 [.inr (.inr (2, s))] M post = post (some (.inl (g_hb A n (g_ev dy) n))) M := pC_one (fun post h => t_20 d hs hn hL hR  h) post
set_option maxHeartbeats 4000000 in
theorem l_21 (d : Nat) {s n : Nat} {A : Nat → Nat → Int32} {dy cp tn : Int32} {M : mm_M} {post : mm_Post} (hs : s < 20) (hn : n ≤ 7) (hL : LyS M) (hR : RS M s n A dy cp tn)   (h : post (some (.inl (g_fb A n))) M) : ∀ (m v : Nat), v + m = n → pK (d + 0) 21 post 1 [some (.inr (.inr (2, s))), some (.inl (g_fb A v)), some (.inl (nI v))] [] M (0, 0) := by
  have hR0 := hR
  obtain ⟨h1, h2, h3⟩ := hL s hs
  obtain ⟨s1, s2, s3, s4, s5⟩ := hR
  intro m
  induction m with
  | zero =>
    intro v  hv
    have e : v = n := by omega
    subst e
    rw [eK_21_1]
    simp only [eK_21_0, eK_21_2, eK_21_3, pw_aaload, pw_aload_n, pw_getfield, pw_goto, pw_iconst, pw_ifCond, pw_if_icmp, pw_iinc, pw_iload_n, pw_ior, pw_ireturn, pw_ishl, pw_istore_n, pw_nop0, mm_pI_c, mm_pL_c, mm_pA_c, mm_pR_c, mm_p1_i, mm_p1_r, mm_pN_0, mm_pN_s, mm_lI_c, mm_lL_c, mm_lA_c, mm_wd_n, mm_wd_i, mm_wd_l, mm_wd_r, mm_gf_i, mm_gf_b, mm_gf_r, mm_rf_c, mm_pf_i, mm_pf_b, mm_pf_r, mm_rt_v, mm_rt_i, mm_rt_r, mm_c_eq, mm_c_ne, mm_c_lt, mm_c_ge, mm_c_gt, mm_c_le, mm_sw_n, mm_sw_c, mm_alc_n, mm_alc_c, mm_rc_n, mm_rc_c, reduceCtorEq, false_implies, implies_true, true_implies, true_or, or_true, false_or, or_false, not_false_eq_true, mm_at_0, mm_at_s, mm_set_0, mm_set_s, mm_nl_n, mm_nl_i, mm_nl_r, mm_args_n, mm_args_i, mm_args_l, mm_args_r, mm_pad_0, mm_pad_n, mm_pad_c, List.length_cons, List.length_nil, List.nil_append, List.cons_append, Nat.zero_le, Nat.sub_zero, true_and, and_true, Nat.reduceAdd, Nat.reduceLeDiff, Nat.reduceLT, Nat.reduceSub, Nat.lt_irrefl, Nat.zero_add, Nat.add_zero, k_20, k_10, k_01, mm_if_T, mm_if_F, not_true_eq_false, not_false_eq_true, s1, mm_if_t (nI_le (Nat.le_refl v) (show v < 2 ^ 31 by omega))]
    exact h
  | succ m ih =>
    intro v  hv
    have hvn : v < n := by omega
    obtain ⟨q1, q2, q3⟩ := nI_v7 (show v < n by omega) hn
    have q4 := h3 v (by omega)
    have r := s5 v (by omega)
    have r4 := r 4 (by omega)
    have key := ih (v + 1) (by omega)
    rw [eK_21_1]
    simp only [eK_21_0, eK_21_2, eK_21_3, pw_aaload, pw_aload_n, pw_getfield, pw_goto, pw_iconst, pw_ifCond, pw_if_icmp, pw_iinc, pw_iload_n, pw_ior, pw_ireturn, pw_ishl, pw_istore_n, pw_nop0, mm_pI_c, mm_pL_c, mm_pA_c, mm_pR_c, mm_p1_i, mm_p1_r, mm_pN_0, mm_pN_s, mm_lI_c, mm_lL_c, mm_lA_c, mm_wd_n, mm_wd_i, mm_wd_l, mm_wd_r, mm_gf_i, mm_gf_b, mm_gf_r, mm_rf_c, mm_pf_i, mm_pf_b, mm_pf_r, mm_rt_v, mm_rt_i, mm_rt_r, mm_c_eq, mm_c_ne, mm_c_lt, mm_c_ge, mm_c_gt, mm_c_le, mm_sw_n, mm_sw_c, mm_alc_n, mm_alc_c, mm_rc_n, mm_rc_c, reduceCtorEq, false_implies, implies_true, true_implies, true_or, or_true, false_or, or_false, not_false_eq_true, mm_at_0, mm_at_s, mm_set_0, mm_set_s, mm_nl_n, mm_nl_i, mm_nl_r, mm_args_n, mm_args_i, mm_args_l, mm_args_r, mm_pad_0, mm_pad_n, mm_pad_c, List.length_cons, List.length_nil, List.nil_append, List.cons_append, Nat.zero_le, Nat.sub_zero, true_and, and_true, Nat.reduceAdd, Nat.reduceLeDiff, Nat.reduceLT, Nat.reduceSub, Nat.lt_irrefl, Nat.zero_add, Nat.add_zero, k_20, k_10, k_01, mm_if_T, mm_if_F, not_true_eq_false, not_false_eq_true, s1, h1, h2, mm_if_f q3, nI_1, q1, q2, q4, r4]
    simp only [mm_if]
    grind [g_fb]
set_option maxHeartbeats 2000000 in
theorem t_21 (d : Nat) {s n : Nat} {A : Nat → Nat → Int32} {dy cp tn : Int32} {M : mm_M} {post : mm_Post} (hs : s < 20) (hn : n ≤ 7) (hL : LyS M) (hR : RS M s n A dy cp tn)   (h : post (some (.inl (g_fb A n))) M) : pC (d + 1) 21 [.inr (.inr (2, s))] M post := by
  have key := l_21 d hs hn hL hR  h n 0  (by omega)
  simp only [eC_21, eK_21_0, eK_21_2, eK_21_3, pw_aaload, pw_aload_n, pw_getfield, pw_goto, pw_iconst, pw_ifCond, pw_if_icmp, pw_iinc, pw_iload_n, pw_ior, pw_ireturn, pw_ishl, pw_istore_n, pw_nop0, mm_pI_c, mm_pL_c, mm_pA_c, mm_pR_c, mm_p1_i, mm_p1_r, mm_pN_0, mm_pN_s, mm_lI_c, mm_lL_c, mm_lA_c, mm_wd_n, mm_wd_i, mm_wd_l, mm_wd_r, mm_gf_i, mm_gf_b, mm_gf_r, mm_rf_c, mm_pf_i, mm_pf_b, mm_pf_r, mm_rt_v, mm_rt_i, mm_rt_r, mm_c_eq, mm_c_ne, mm_c_lt, mm_c_ge, mm_c_gt, mm_c_le, mm_sw_n, mm_sw_c, mm_alc_n, mm_alc_c, mm_rc_n, mm_rc_c, reduceCtorEq, false_implies, implies_true, true_implies, true_or, or_true, false_or, or_false, not_false_eq_true, mm_at_0, mm_at_s, mm_set_0, mm_set_s, mm_nl_n, mm_nl_i, mm_nl_r, mm_args_n, mm_args_i, mm_args_l, mm_args_r, mm_pad_0, mm_pad_n, mm_pad_c, List.length_cons, List.length_nil, List.nil_append, List.cons_append, Nat.zero_le, Nat.sub_zero, true_and, and_true, Nat.reduceAdd, Nat.reduceLeDiff, Nat.reduceLT, Nat.reduceSub, Nat.lt_irrefl, Nat.zero_add, Nat.add_zero, k_20, k_10, k_01, mm_if_T, mm_if_F, not_true_eq_false, not_false_eq_true]
  exact key
theorem e_21 (d : Nat) {s n : Nat} {A : Nat → Nat → Int32} {dy cp tn : Int32} {M : mm_M} {post : mm_Post} (hs : s < 20) (hn : n ≤ 7) (hL : LyS M) (hR : RS M s n A dy cp tn)   : pC (d + 1) 21 [.inr (.inr (2, s))] M post = post (some (.inl (g_fb A n))) M := pC_one (fun post h => t_21 d hs hn hL hR  h) post
set_option maxHeartbeats 4000000 in
theorem l_22 (d : Nat) {s n : Nat} {A : Nat → Nat → Int32} {dy cp tn : Int32} {M : mm_M} {post : mm_Post} (hs : s < 20) (hn : n ≤ 7) (hL : LyS M) (hR : RS M s n A dy cp tn)  (b : Int32) (h : post (some (.inl (g_bl A b n))) M) : ∀ (m v : Nat), v + m = n → pK (d + 0) 22 post 1 [some (.inr (.inr (2, s))), some (.inl b), some (.inl (g_bl A b v)), some (.inl (nI v))] [] M (0, 0) := by
  have hR0 := hR
  obtain ⟨h1, h2, h3⟩ := hL s hs
  obtain ⟨s1, s2, s3, s4, s5⟩ := hR
  intro m
  induction m with
  | zero =>
    intro v  hv
    have e : v = n := by omega
    subst e
    rw [eK_22_1]
    simp only [eK_22_0, eK_22_2, eK_22_3, pw_aaload, pw_aload_n, pw_getfield, pw_goto, pw_iconst, pw_if_icmp, pw_iinc, pw_iload_n, pw_ireturn, pw_istore_n, pw_nop0, mm_pI_c, mm_pL_c, mm_pA_c, mm_pR_c, mm_p1_i, mm_p1_r, mm_pN_0, mm_pN_s, mm_lI_c, mm_lL_c, mm_lA_c, mm_wd_n, mm_wd_i, mm_wd_l, mm_wd_r, mm_gf_i, mm_gf_b, mm_gf_r, mm_rf_c, mm_pf_i, mm_pf_b, mm_pf_r, mm_rt_v, mm_rt_i, mm_rt_r, mm_c_eq, mm_c_ne, mm_c_lt, mm_c_ge, mm_c_gt, mm_c_le, mm_sw_n, mm_sw_c, mm_alc_n, mm_alc_c, mm_rc_n, mm_rc_c, reduceCtorEq, false_implies, implies_true, true_implies, true_or, or_true, false_or, or_false, not_false_eq_true, mm_at_0, mm_at_s, mm_set_0, mm_set_s, mm_nl_n, mm_nl_i, mm_nl_r, mm_args_n, mm_args_i, mm_args_l, mm_args_r, mm_pad_0, mm_pad_n, mm_pad_c, List.length_cons, List.length_nil, List.nil_append, List.cons_append, Nat.zero_le, Nat.sub_zero, true_and, and_true, Nat.reduceAdd, Nat.reduceLeDiff, Nat.reduceLT, Nat.reduceSub, Nat.lt_irrefl, Nat.zero_add, Nat.add_zero, k_20, k_10, k_01, mm_if_T, mm_if_F, not_true_eq_false, not_false_eq_true, s1, mm_if_t (nI_le (Nat.le_refl v) (show v < 2 ^ 31 by omega))]
    exact h
  | succ m ih =>
    intro v  hv
    have hvn : v < n := by omega
    obtain ⟨q1, q2, q3⟩ := nI_v7 (show v < n by omega) hn
    have q4 := h3 v (by omega)
    have r := s5 v (by omega)
    have r5 := r 5 (by omega)
    have key := ih (v + 1) (by omega)
    rw [eK_22_1]
    simp only [eK_22_0, eK_22_2, eK_22_3, pw_aaload, pw_aload_n, pw_getfield, pw_goto, pw_iconst, pw_if_icmp, pw_iinc, pw_iload_n, pw_ireturn, pw_istore_n, pw_nop0, mm_pI_c, mm_pL_c, mm_pA_c, mm_pR_c, mm_p1_i, mm_p1_r, mm_pN_0, mm_pN_s, mm_lI_c, mm_lL_c, mm_lA_c, mm_wd_n, mm_wd_i, mm_wd_l, mm_wd_r, mm_gf_i, mm_gf_b, mm_gf_r, mm_rf_c, mm_pf_i, mm_pf_b, mm_pf_r, mm_rt_v, mm_rt_i, mm_rt_r, mm_c_eq, mm_c_ne, mm_c_lt, mm_c_ge, mm_c_gt, mm_c_le, mm_sw_n, mm_sw_c, mm_alc_n, mm_alc_c, mm_rc_n, mm_rc_c, reduceCtorEq, false_implies, implies_true, true_implies, true_or, or_true, false_or, or_false, not_false_eq_true, mm_at_0, mm_at_s, mm_set_0, mm_set_s, mm_nl_n, mm_nl_i, mm_nl_r, mm_args_n, mm_args_i, mm_args_l, mm_args_r, mm_pad_0, mm_pad_n, mm_pad_c, List.length_cons, List.length_nil, List.nil_append, List.cons_append, Nat.zero_le, Nat.sub_zero, true_and, and_true, Nat.reduceAdd, Nat.reduceLeDiff, Nat.reduceLT, Nat.reduceSub, Nat.lt_irrefl, Nat.zero_add, Nat.add_zero, k_20, k_10, k_01, mm_if_T, mm_if_F, not_true_eq_false, not_false_eq_true, s1, h1, h2, mm_if_f q3, nI_1, q1, q2, q4, r5]
    simp only [mm_if]
    grind [g_bl]
set_option maxHeartbeats 2000000 in
theorem t_22 (d : Nat) {s n : Nat} {A : Nat → Nat → Int32} {dy cp tn : Int32} {M : mm_M} {post : mm_Post} (hs : s < 20) (hn : n ≤ 7) (hL : LyS M) (hR : RS M s n A dy cp tn)  (b : Int32) (h : post (some (.inl (g_bl A b n))) M) : pC (d + 1) 22 [.inr (.inr (2, s)), .inl b] M post := by
  have key := l_22 d hs hn hL hR b h n 0  (by omega)
  simp only [eC_22, eK_22_0, eK_22_2, eK_22_3, pw_aaload, pw_aload_n, pw_getfield, pw_goto, pw_iconst, pw_if_icmp, pw_iinc, pw_iload_n, pw_ireturn, pw_istore_n, pw_nop0, mm_pI_c, mm_pL_c, mm_pA_c, mm_pR_c, mm_p1_i, mm_p1_r, mm_pN_0, mm_pN_s, mm_lI_c, mm_lL_c, mm_lA_c, mm_wd_n, mm_wd_i, mm_wd_l, mm_wd_r, mm_gf_i, mm_gf_b, mm_gf_r, mm_rf_c, mm_pf_i, mm_pf_b, mm_pf_r, mm_rt_v, mm_rt_i, mm_rt_r, mm_c_eq, mm_c_ne, mm_c_lt, mm_c_ge, mm_c_gt, mm_c_le, mm_sw_n, mm_sw_c, mm_alc_n, mm_alc_c, mm_rc_n, mm_rc_c, reduceCtorEq, false_implies, implies_true, true_implies, true_or, or_true, false_or, or_false, not_false_eq_true, mm_at_0, mm_at_s, mm_set_0, mm_set_s, mm_nl_n, mm_nl_i, mm_nl_r, mm_args_n, mm_args_i, mm_args_l, mm_args_r, mm_pad_0, mm_pad_n, mm_pad_c, List.length_cons, List.length_nil, List.nil_append, List.cons_append, Nat.zero_le, Nat.sub_zero, true_and, and_true, Nat.reduceAdd, Nat.reduceLeDiff, Nat.reduceLT, Nat.reduceSub, Nat.lt_irrefl, Nat.zero_add, Nat.add_zero, k_20, k_10, k_01, mm_if_T, mm_if_F, not_true_eq_false, not_false_eq_true]
  exact key
theorem e_22 (d : Nat) {s n : Nat} {A : Nat → Nat → Int32} {dy cp tn : Int32} {M : mm_M} {post : mm_Post} (hs : s < 20) (hn : n ≤ 7) (hL : LyS M) (hR : RS M s n A dy cp tn)  (b : Int32) : pC (d + 1) 22 [.inr (.inr (2, s)), .inl b] M post = post (some (.inl (g_bl A b n))) M := pC_one (fun post h => t_22 d hs hn hL hR b h) post
set_option maxHeartbeats 4000000 in
theorem l_19 (d : Nat) {s n : Nat} {A : Nat → Nat → Int32} {dy cp tn : Int32} {M : mm_M} {post : mm_Post} (hs : s < 20) (hn : n ≤ 7) (hL : LyS M) (hR : RS M s n A dy cp tn) {w : Nat} (hw : w < n) (p f : Int32) (h : post (some (.inl (g_ot A w p f n))) M) : ∀ (m v : Nat) (z : Option mm_V), v + m = n → pK (d + 1) 19 post 1 [some (.inr (.inr (2, s))), some (.inl (nI w)), some (.inl p), some (.inl f), some (.inl (g_ot A w p f v)), some (.inl (nI v)), z] [] M (0, 0) := by
  have hR0 := hR
  obtain ⟨h1, h2, h3⟩ := hL s hs
  obtain ⟨s1, s2, s3, s4, s5⟩ := hR
  intro m
  induction m with
  | zero =>
    intro v z hv
    have e : v = n := by omega
    subst e
    rw [eK_19_1]
    simp only [eK_19_0, eK_19_2, eK_19_3, eK_19_4, eK_19_5, eK_19_6, pw_aaload, pw_aload_n, pw_getfield, pw_goto, pw_iconst, pw_ifCond, pw_if_icmp, pw_iinc, pw_iload, pw_iload_n, pw_invokestatic, pw_ireturn, pw_istore, pw_nop0, mm_pI_c, mm_pL_c, mm_pA_c, mm_pR_c, mm_p1_i, mm_p1_r, mm_pN_0, mm_pN_s, mm_lI_c, mm_lL_c, mm_lA_c, mm_wd_n, mm_wd_i, mm_wd_l, mm_wd_r, mm_gf_i, mm_gf_b, mm_gf_r, mm_rf_c, mm_pf_i, mm_pf_b, mm_pf_r, mm_rt_v, mm_rt_i, mm_rt_r, mm_c_eq, mm_c_ne, mm_c_lt, mm_c_ge, mm_c_gt, mm_c_le, mm_sw_n, mm_sw_c, mm_alc_n, mm_alc_c, mm_rc_n, mm_rc_c, reduceCtorEq, false_implies, implies_true, true_implies, true_or, or_true, false_or, or_false, not_false_eq_true, mm_at_0, mm_at_s, mm_set_0, mm_set_s, mm_nl_n, mm_nl_i, mm_nl_r, mm_args_n, mm_args_i, mm_args_l, mm_args_r, mm_pad_0, mm_pad_n, mm_pad_c, List.length_cons, List.length_nil, List.nil_append, List.cons_append, Nat.zero_le, Nat.sub_zero, true_and, and_true, Nat.reduceAdd, Nat.reduceLeDiff, Nat.reduceLT, Nat.reduceSub, Nat.lt_irrefl, Nat.zero_add, Nat.add_zero, k_20, k_10, k_01, mm_if_T, mm_if_F, not_true_eq_false, not_false_eq_true, s1, mm_if_t (nI_le (Nat.le_refl v) (show v < 2 ^ 31 by omega))]
    exact h
  | succ m ih =>
    intro v z hv
    have hvn : v < n := by omega
    obtain ⟨q1, q2, q3⟩ := nI_v7 (show v < n by omega) hn
    have q4 := h3 v (by omega)
    have r := s5 v (by omega)
    have r1 := r 1 (by omega)
    have r4 := r 4 (by omega)
    obtain ⟨wq1, wq2, wq3⟩ := nI_v7 (show w < n by omega) hn
    have wq4 := h3 w (by omega)
    have wr := s5 w (by omega)
    have wr8 := wr 8 (by omega)
    have q5 := nI_e7 (show v < 8 by omega) (show w < 8 by omega)
    have key := fun z => ih (v + 1) z (by omega)
    rw [eK_19_1]
    simp only [eK_19_0, eK_19_2, eK_19_3, eK_19_4, eK_19_5, eK_19_6, pw_aaload, pw_aload_n, pw_getfield, pw_goto, pw_iconst, pw_ifCond, pw_if_icmp, pw_iinc, pw_iload, pw_iload_n, pw_invokestatic, pw_ireturn, pw_istore, pw_nop0, mm_pI_c, mm_pL_c, mm_pA_c, mm_pR_c, mm_p1_i, mm_p1_r, mm_pN_0, mm_pN_s, mm_lI_c, mm_lL_c, mm_lA_c, mm_wd_n, mm_wd_i, mm_wd_l, mm_wd_r, mm_gf_i, mm_gf_b, mm_gf_r, mm_rf_c, mm_pf_i, mm_pf_b, mm_pf_r, mm_rt_v, mm_rt_i, mm_rt_r, mm_c_eq, mm_c_ne, mm_c_lt, mm_c_ge, mm_c_gt, mm_c_le, mm_sw_n, mm_sw_c, mm_alc_n, mm_alc_c, mm_rc_n, mm_rc_c, reduceCtorEq, false_implies, implies_true, true_implies, true_or, or_true, false_or, or_false, not_false_eq_true, mm_at_0, mm_at_s, mm_set_0, mm_set_s, mm_nl_n, mm_nl_i, mm_nl_r, mm_args_n, mm_args_i, mm_args_l, mm_args_r, mm_pad_0, mm_pad_n, mm_pad_c, List.length_cons, List.length_nil, List.nil_append, List.cons_append, Nat.zero_le, Nat.sub_zero, true_and, and_true, Nat.reduceAdd, Nat.reduceLeDiff, Nat.reduceLT, Nat.reduceSub, Nat.lt_irrefl, Nat.zero_add, Nat.add_zero, k_20, k_10, k_01, mm_if_T, mm_if_F, not_true_eq_false, not_false_eq_true, s1, h1, h2, mm_if_f q3, nI_1, q1, q2, q4, r1, r4, wq1, wq2, wq4, wr8, q5, t_85]
    simp only [mm_if]
    grind [g_ot]
set_option maxHeartbeats 2000000 in
theorem t_19 (d : Nat) {s n : Nat} {A : Nat → Nat → Int32} {dy cp tn : Int32} {M : mm_M} {post : mm_Post} (hs : s < 20) (hn : n ≤ 7) (hL : LyS M) (hR : RS M s n A dy cp tn) {w : Nat} (hw : w < n) (p f : Int32) (h : post (some (.inl (g_ot A w p f n))) M) : pC (d + 2) 19 [.inr (.inr (2, s)), .inl (nI w), .inl p, .inl f] M post := by
  have key := l_19 d hs hn hL hR hw p f h n 0 none (by omega)
  simp only [eC_19, eK_19_0, eK_19_2, eK_19_3, eK_19_4, eK_19_5, eK_19_6, pw_aaload, pw_aload_n, pw_getfield, pw_goto, pw_iconst, pw_ifCond, pw_if_icmp, pw_iinc, pw_iload, pw_iload_n, pw_invokestatic, pw_ireturn, pw_istore, pw_nop0, mm_pI_c, mm_pL_c, mm_pA_c, mm_pR_c, mm_p1_i, mm_p1_r, mm_pN_0, mm_pN_s, mm_lI_c, mm_lL_c, mm_lA_c, mm_wd_n, mm_wd_i, mm_wd_l, mm_wd_r, mm_gf_i, mm_gf_b, mm_gf_r, mm_rf_c, mm_pf_i, mm_pf_b, mm_pf_r, mm_rt_v, mm_rt_i, mm_rt_r, mm_c_eq, mm_c_ne, mm_c_lt, mm_c_ge, mm_c_gt, mm_c_le, mm_sw_n, mm_sw_c, mm_alc_n, mm_alc_c, mm_rc_n, mm_rc_c, reduceCtorEq, false_implies, implies_true, true_implies, true_or, or_true, false_or, or_false, not_false_eq_true, mm_at_0, mm_at_s, mm_set_0, mm_set_s, mm_nl_n, mm_nl_i, mm_nl_r, mm_args_n, mm_args_i, mm_args_l, mm_args_r, mm_pad_0, mm_pad_n, mm_pad_c, List.length_cons, List.length_nil, List.nil_append, List.cons_append, Nat.zero_le, Nat.sub_zero, true_and, and_true, Nat.reduceAdd, Nat.reduceLeDiff, Nat.reduceLT, Nat.reduceSub, Nat.lt_irrefl, Nat.zero_add, Nat.add_zero, k_20, k_10, k_01, mm_if_T, mm_if_F, not_true_eq_false, not_false_eq_true]
  exact key
theorem e_19 (d : Nat) {s n : Nat} {A : Nat → Nat → Int32} {dy cp tn : Int32} {M : mm_M} {post : mm_Post} (hs : s < 20) (hn : n ≤ 7) (hL : LyS M) (hR : RS M s n A dy cp tn) {w : Nat} (hw : w < n) (p f : Int32) : pC (d + 2) 19 [.inr (.inr (2, s)), .inl (nI w), .inl p, .inl f] M post = post (some (.inl (g_ot A w p f n))) M := pC_one (fun post h => t_19 d hs hn hL hR hw p f h) post
