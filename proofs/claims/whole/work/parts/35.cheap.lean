/-! THE CLASS: what is cheap -/
/-- whether a bell of c and t at p in hour hr would be heard for w on an even day -/
def g_ch (A : Nat → Nat → Int32) (n w : Nat) (p hr : Int32) (c t : Nat) : Int32 := tf (¬ f_rbi (A w 0) (f_lf (f_lo (nI c) (nI t)) p (A w 1)) (nI t) 1 = 0 ∧ g_lo A w hr n < f_lf (f_lo (nI c) (nI t)) p (A w 1))
def ch_t (q : Nat → Nat → Int32) (s : Nat) : Nat → Option Int32
  | 0 => none
  | m + 1 => if 30 - m < s ∧ s ≤ 30 - m + 30 ∧ ¬ q (s - (30 - m)) (30 - m) = 0 then some (100 * nI (s - (30 - m)) + nI (30 - m)) else ch_t q s m
def ch_s (q : Nat → Nat → Int32) : Nat → Int32
  | 0 => -4
  | m + 1 => match ch_t q (60 - m) 31 with
    | some v => v
    | none => ch_s q m
def G66 (n : Nat) (X : Sx) (x p hr : Int32) : Int32 := if (isw n x ∧ 0 ≤ p ∧ p ≤ 40) ∧ 0 ≤ hr ∧ hr ≤ 23 then (if X.1.1 x.toNatClampNeg 4 = 0 then ch_s (g_ch X.1.1 n x.toNatClampNeg p hr) 60 else -2) else -1
theorem b7_mx : ∀ s : Nat, s < 61 → (if 0 < nI s - 30 then nI s - 30 else (0 : Int32)) = nI (s - 30) := by decide +kernel
theorem ch_lo {q : Nat → Nat → Int32} {s : Nat} : ∀ t, t ≤ 31 → t ≤ s - 30 → ch_t q s 31 = ch_t q s (31 - t)
  | 0, _, _ => rfl
  | t + 1, h, h2 => by
    rw [ch_lo t (by omega) (by omega)]
    have e : 31 - t = (30 - t) + 1 := by omega
    have e2 : 31 - (t + 1) = 30 - t := by omega
    rw [e, e2]
    show (if _ then _ else _) = _
    rw [if_neg (by omega)]
theorem ch_hi {q : Nat → Nat → Int32} {s : Nat} : ∀ m, m ≤ 31 → s ≤ 31 - m → ch_t q s m = none
  | 0, _, _ => rfl
  | m + 1, h, h2 => by
    show (if _ then _ else _) = _
    rw [if_neg (by omega), ch_hi m (by omega) (by omega)]

set_option maxHeartbeats 4000000 in
theorem l_66i (d : Nat) {A : Nat → Nat → Int32} {n w : Nat} {M : mm_M} {post : mm_Post} (r0 : mm_I M 4 w 0 = A w 0) (r1 : mm_I M 4 w 1 = A w 1) (p hr : Int32) (s : Nat) (hs : s ≤ 60) (h1 : ∀ v, ch_t (g_ch A n w p hr) s 31 = some v → post (some (.inl v)) M) (h2 : ch_t (g_ch A n w p hr) s 31 = none → ∀ t u, pK (d + 4) 66 post 4 [some (.inr (.inr (5, 0))), some (.inl (nI w)), some (.inl p), some (.inl hr), some (.inr (.inr (4, w))), some (.inl (g_lo A w hr n)), some (.inl (nI (s + 1))), t, u] [] M (0, 0)) : ∀ (m t : Nat) (u : Option mm_V), t + m = 31 → s ≤ t + 30 → ch_t (g_ch A n w p hr) s 31 = ch_t (g_ch A n w p hr) s m → pK (d + 4) 66 post 5 [some (.inr (.inr (5, 0))), some (.inl (nI w)), some (.inl p), some (.inl hr), some (.inr (.inr (4, w))), some (.inl (g_lo A w hr n)), some (.inl (nI (s))), some (.inl (nI t)), u] [] M (0, 0) := by
  intro m
  induction m with
  | zero =>
    intro t u ht hst he
    have e : t = 31 := by omega
    subst e
    have hq : (30 : Int32) < nI 31 := by decide
    rw [eK_66_5]
    simp only [eK_66_0, eK_66_1, eK_66_2, eK_66_3, eK_66_6, eK_66_7, eK_66_8, pw_aaload, pw_aload, pw_aload_n, pw_astore, pw_bipush, pw_getfield, pw_goto, pw_iadd, pw_iconst, pw_ifCond, pw_if_icmp, pw_iinc, pw_iload, pw_iload_n, pw_imul, pw_invokestatic, pw_invokevirtual, pw_ireturn, pw_istore, pw_isub, pw_nop0, pw_nop1, mm_pI_c, mm_pL_c, mm_pA_c, mm_pR_c, mm_p1_i, mm_p1_r, mm_pN_0, mm_pN_s, mm_lI_c, mm_lL_c, mm_lA_c, mm_wd_n, mm_wd_i, mm_wd_l, mm_wd_r, mm_gf_i, mm_gf_b, mm_gf_r, mm_rf_c, mm_pf_i, mm_pf_b, mm_pf_r, mm_rt_v, mm_rt_i, mm_rt_r, mm_c_eq, mm_c_ne, mm_c_lt, mm_c_ge, mm_c_gt, mm_c_le, mm_sw_n, mm_sw_c, mm_alc_n, mm_alc_c, mm_rc_n, mm_rc_c, reduceCtorEq, false_implies, implies_true, true_implies, true_or, or_true, false_or, or_false, not_false_eq_true, mm_at_0, mm_at_s, mm_set_0, mm_set_s, mm_nl_n, mm_nl_i, mm_nl_r, mm_args_n, mm_args_i, mm_args_l, mm_args_r, mm_pad_0, mm_pad_n, mm_pad_c, List.length_cons, List.length_nil, List.nil_append, List.cons_append, Nat.zero_le, Nat.sub_zero, true_and, and_true, Nat.reduceAdd, Nat.reduceLeDiff, Nat.reduceLT, Nat.reduceSub, Nat.lt_irrefl, Nat.zero_add, Nat.add_zero, k_20, k_10, k_01, mm_if_T, mm_if_F, not_true_eq_false, not_false_eq_true, mm_if_t hq, nI_1]
    exact h2 he _ _
  | succ m ih =>
    intro t u ht hst he
    have hq : ¬ (30 : Int32) < nI t := nI_nlt (b := t) (a := 30) (by omega) (by omega)
    by_cases hts : t < s
    · have hq2 : ¬ nI s ≤ nI t := nI_ge (by omega) (by omega)
      have hsub : nI s - nI t = nI (s - t) := pk_sub (by omega)
      have et : 30 - m = t := by omega
      have key := ih (t + 1)
      have hun : ch_t (g_ch A n w p hr) s (m + 1) = if 30 - m < s ∧ s ≤ 30 - m + 30 ∧ ¬ g_ch A n w p hr (s - (30 - m)) (30 - m) = 0 then some (100 * nI (s - (30 - m)) + nI (30 - m)) else ch_t (g_ch A n w p hr) s m := rfl
      rw [et] at hun
      rw [eK_66_5]
      simp only [eK_66_0, eK_66_1, eK_66_2, eK_66_3, eK_66_6, eK_66_7, eK_66_8, pw_aaload, pw_aload, pw_aload_n, pw_astore, pw_bipush, pw_getfield, pw_goto, pw_iadd, pw_iconst, pw_ifCond, pw_if_icmp, pw_iinc, pw_iload, pw_iload_n, pw_imul, pw_invokestatic, pw_invokevirtual, pw_ireturn, pw_istore, pw_isub, pw_nop0, pw_nop1, mm_pI_c, mm_pL_c, mm_pA_c, mm_pR_c, mm_p1_i, mm_p1_r, mm_pN_0, mm_pN_s, mm_lI_c, mm_lL_c, mm_lA_c, mm_wd_n, mm_wd_i, mm_wd_l, mm_wd_r, mm_gf_i, mm_gf_b, mm_gf_r, mm_rf_c, mm_pf_i, mm_pf_b, mm_pf_r, mm_rt_v, mm_rt_i, mm_rt_r, mm_c_eq, mm_c_ne, mm_c_lt, mm_c_ge, mm_c_gt, mm_c_le, mm_sw_n, mm_sw_c, mm_alc_n, mm_alc_c, mm_rc_n, mm_rc_c, reduceCtorEq, false_implies, implies_true, true_implies, true_or, or_true, false_or, or_false, not_false_eq_true, mm_at_0, mm_at_s, mm_set_0, mm_set_s, mm_nl_n, mm_nl_i, mm_nl_r, mm_args_n, mm_args_i, mm_args_l, mm_args_r, mm_pad_0, mm_pad_n, mm_pad_c, List.length_cons, List.length_nil, List.nil_append, List.cons_append, Nat.zero_le, Nat.sub_zero, true_and, and_true, Nat.reduceAdd, Nat.reduceLeDiff, Nat.reduceLT, Nat.reduceSub, Nat.lt_irrefl, Nat.zero_add, Nat.add_zero, k_20, k_10, k_01, mm_if_T, mm_if_F, not_true_eq_false, not_false_eq_true, mm_if_f hq, mm_if_f hq2, hsub, nI_1, t_84, t_85, t_47, r0, r1]
      by_cases hc : g_ch A n w p hr (s - t) t = 0
      · rw [if_neg (fun z => z.2.2 hc)] at hun
        have key2 := key (some (.inl (f_lf (f_lo (nI (s - t)) (nI t)) p (A w 1)))) (by omega) (by omega) (he.trans hun)
        unfold g_ch at hc
        simp only [mm_if]
        grind
      · rw [if_pos ⟨hts, by omega, hc⟩] at hun
        have hp := h1 _ (he.trans hun)
        unfold g_ch at hc
        simp only [mm_if]
        grind
    · have hq2 : nI s ≤ nI t := nI_le (by omega) (by omega)
      have hnone := h2 (he.trans (ch_hi (m + 1) (by omega) (by omega)))
      rw [eK_66_5]
      simp only [eK_66_0, eK_66_1, eK_66_2, eK_66_3, eK_66_6, eK_66_7, eK_66_8, pw_aaload, pw_aload, pw_aload_n, pw_astore, pw_bipush, pw_getfield, pw_goto, pw_iadd, pw_iconst, pw_ifCond, pw_if_icmp, pw_iinc, pw_iload, pw_iload_n, pw_imul, pw_invokestatic, pw_invokevirtual, pw_ireturn, pw_istore, pw_isub, pw_nop0, pw_nop1, mm_pI_c, mm_pL_c, mm_pA_c, mm_pR_c, mm_p1_i, mm_p1_r, mm_pN_0, mm_pN_s, mm_lI_c, mm_lL_c, mm_lA_c, mm_wd_n, mm_wd_i, mm_wd_l, mm_wd_r, mm_gf_i, mm_gf_b, mm_gf_r, mm_rf_c, mm_pf_i, mm_pf_b, mm_pf_r, mm_rt_v, mm_rt_i, mm_rt_r, mm_c_eq, mm_c_ne, mm_c_lt, mm_c_ge, mm_c_gt, mm_c_le, mm_sw_n, mm_sw_c, mm_alc_n, mm_alc_c, mm_rc_n, mm_rc_c, reduceCtorEq, false_implies, implies_true, true_implies, true_or, or_true, false_or, or_false, not_false_eq_true, mm_at_0, mm_at_s, mm_set_0, mm_set_s, mm_nl_n, mm_nl_i, mm_nl_r, mm_args_n, mm_args_i, mm_args_l, mm_args_r, mm_pad_0, mm_pad_n, mm_pad_c, List.length_cons, List.length_nil, List.nil_append, List.cons_append, Nat.zero_le, Nat.sub_zero, true_and, and_true, Nat.reduceAdd, Nat.reduceLeDiff, Nat.reduceLT, Nat.reduceSub, Nat.lt_irrefl, Nat.zero_add, Nat.add_zero, k_20, k_10, k_01, mm_if_T, mm_if_F, not_true_eq_false, not_false_eq_true, mm_if_f hq, mm_if_t hq2, nI_1]
      exact hnone _ _

set_option maxHeartbeats 4000000 in
theorem l_66 (d : Nat) {A : Nat → Nat → Int32} {n w : Nat} {M : mm_M} {post : mm_Post} (r0 : mm_I M 4 w 0 = A w 0) (r1 : mm_I M 4 w 1 = A w 1) (p hr : Int32) (h : post (some (.inl (ch_s (g_ch A n w p hr) 60))) M) : ∀ (m s : Nat) (t u : Option mm_V), s + m = 61 → ch_s (g_ch A n w p hr) 60 = ch_s (g_ch A n w p hr) m → pK (d + 4) 66 post 4 [some (.inr (.inr (5, 0))), some (.inl (nI w)), some (.inl p), some (.inl hr), some (.inr (.inr (4, w))), some (.inl (g_lo A w hr n)), some (.inl (nI (s))), t, u] [] M (0, 0) := by
  intro m
  induction m with
  | zero =>
    intro s t u ht he
    have e : s = 61 := by omega
    subst e
    have hq : (60 : Int32) < nI 61 := by decide
    rw [eK_66_4]
    simp only [eK_66_0, eK_66_1, eK_66_2, eK_66_3, eK_66_6, eK_66_7, eK_66_8, pw_aaload, pw_aload, pw_aload_n, pw_astore, pw_bipush, pw_getfield, pw_goto, pw_iadd, pw_iconst, pw_ifCond, pw_if_icmp, pw_iinc, pw_iload, pw_iload_n, pw_imul, pw_invokestatic, pw_invokevirtual, pw_ireturn, pw_istore, pw_isub, pw_nop0, pw_nop1, mm_pI_c, mm_pL_c, mm_pA_c, mm_pR_c, mm_p1_i, mm_p1_r, mm_pN_0, mm_pN_s, mm_lI_c, mm_lL_c, mm_lA_c, mm_wd_n, mm_wd_i, mm_wd_l, mm_wd_r, mm_gf_i, mm_gf_b, mm_gf_r, mm_rf_c, mm_pf_i, mm_pf_b, mm_pf_r, mm_rt_v, mm_rt_i, mm_rt_r, mm_c_eq, mm_c_ne, mm_c_lt, mm_c_ge, mm_c_gt, mm_c_le, mm_sw_n, mm_sw_c, mm_alc_n, mm_alc_c, mm_rc_n, mm_rc_c, reduceCtorEq, false_implies, implies_true, true_implies, true_or, or_true, false_or, or_false, not_false_eq_true, mm_at_0, mm_at_s, mm_set_0, mm_set_s, mm_nl_n, mm_nl_i, mm_nl_r, mm_args_n, mm_args_i, mm_args_l, mm_args_r, mm_pad_0, mm_pad_n, mm_pad_c, List.length_cons, List.length_nil, List.nil_append, List.cons_append, Nat.zero_le, Nat.sub_zero, true_and, and_true, Nat.reduceAdd, Nat.reduceLeDiff, Nat.reduceLT, Nat.reduceSub, Nat.lt_irrefl, Nat.zero_add, Nat.add_zero, k_20, k_10, k_01, mm_if_T, mm_if_F, not_true_eq_false, not_false_eq_true, mm_if_t hq, nI_1]
    rw [he] at h
    exact h
  | succ m ih =>
    intro s t u ht he
    have hq : ¬ (60 : Int32) < nI s := nI_nlt (b := s) (a := 60) (by omega) (by omega)
    have es : 60 - m = s := by omega
    have hun : ch_s (g_ch A n w p hr) (m + 1) = match ch_t (g_ch A n w p hr) (60 - m) 31 with | some v => v | none => ch_s (g_ch A n w p hr) m := rfl
    rw [es] at hun
    have hmx : (if 0 < nI s - 30 then nI s - 30 else (0 : Int32)) = nI (s - 30) := b7_mx s (by omega)
    have key := l_66i d (n := n) (M := M) (post := post) r0 r1 p hr s (by omega) (fun v hv => by rw [hv] at hun; rw [he, hun] at h; exact h) (fun hv t u => by rw [hv] at hun; exact ih (s + 1) t u (by omega) (he.trans hun)) (31 - (s - 30)) (s - 30) u (by omega) (by omega) (ch_lo _ (by omega) (by omega))
    rw [eK_66_4]
    simp only [eK_66_0, eK_66_1, eK_66_2, eK_66_3, eK_66_6, eK_66_7, eK_66_8, pw_aaload, pw_aload, pw_aload_n, pw_astore, pw_bipush, pw_getfield, pw_goto, pw_iadd, pw_iconst, pw_ifCond, pw_if_icmp, pw_iinc, pw_iload, pw_iload_n, pw_imul, pw_invokestatic, pw_invokevirtual, pw_ireturn, pw_istore, pw_isub, pw_nop0, pw_nop1, mm_pI_c, mm_pL_c, mm_pA_c, mm_pR_c, mm_p1_i, mm_p1_r, mm_pN_0, mm_pN_s, mm_lI_c, mm_lL_c, mm_lA_c, mm_wd_n, mm_wd_i, mm_wd_l, mm_wd_r, mm_gf_i, mm_gf_b, mm_gf_r, mm_rf_c, mm_pf_i, mm_pf_b, mm_pf_r, mm_rt_v, mm_rt_i, mm_rt_r, mm_c_eq, mm_c_ne, mm_c_lt, mm_c_ge, mm_c_gt, mm_c_le, mm_sw_n, mm_sw_c, mm_alc_n, mm_alc_c, mm_rc_n, mm_rc_c, reduceCtorEq, false_implies, implies_true, true_implies, true_or, or_true, false_or, or_false, not_false_eq_true, mm_at_0, mm_at_s, mm_set_0, mm_set_s, mm_nl_n, mm_nl_i, mm_nl_r, mm_args_n, mm_args_i, mm_args_l, mm_args_r, mm_pad_0, mm_pad_n, mm_pad_c, List.length_cons, List.length_nil, List.nil_append, List.cons_append, Nat.zero_le, Nat.sub_zero, true_and, and_true, Nat.reduceAdd, Nat.reduceLeDiff, Nat.reduceLT, Nat.reduceSub, Nat.lt_irrefl, Nat.zero_add, Nat.add_zero, k_20, k_10, k_01, mm_if_T, mm_if_F, not_true_eq_false, not_false_eq_true, mm_if_f hq, nI_1]
    rw [hmx]
    exact key

set_option maxHeartbeats 4000000 in
theorem e_66 (d : Nat) {n : Nat} {X : Sx} {a : Nat} {P : Nat → Sx} {b : Nat} {K : Nat → Sx} {M : mm_M} {post : mm_Post} (hI : I1 M n X a P b K) (x p hr : Int32) : pC (d + 5) 66 [.inr (.inr (5, 0)), .inl x, .inl p, .inl hr] M post = post (some (.inl (G66 n X x p hr))) M := by
  obtain ⟨ps, hC, hn, hR, hW, ha, ha2, hP, hb, hb2, hK⟩ := id hI
  have hR0 : RS M 0 n X.1.1 X.2 X.1.2.1 X.1.2.2 := hR
  obtain ⟨s1, s2, s3, s4, s5⟩ := id hR0
  obtain ⟨hS, c0, c1, c2, c3, c4, c5, c6, m0, m1, m2, k1, k2, ct, cn, cp0, hps, hpi⟩ := id hC
  obtain ⟨h1, h2, h3⟩ := hS 0 (by omega)
  by_cases hval : (isw n x ∧ 0 ≤ p ∧ p ≤ 40) ∧ 0 ≤ hr ∧ hr ≤ 23
  · obtain ⟨w, hw, rfl⟩ := isw_of hn hval.1.1
    obtain ⟨q1, q2, q3⟩ := nI_v7 hw hn
    have q4 := h3 w (by omega)
    have r0 := s5 w hw 0 (by omega)
    have r1 := s5 w hw 1 (by omega)
    have r4 := s5 w hw 4 (by omega)
    rw [Nat.mul_zero, Nat.zero_add] at q4 r0 r1 r4
    have hi := hval.1.1
    have v2 := hval.1.2
    have v3 := hval.2
    unfold G66
    rw [if_pos hval, q2]
    by_cases hf : X.1.1 w 4 = 0
    · rw [if_pos hf]
      refine pC_one (fun post h => ?_) post
      have key := fun u => l_66 d (n := n) (M := M) (post := post) r0 r1 p hr h 60 1 none u (by omega) rfl
      simp only [eC_66, eK_66_0, eK_66_1, eK_66_2, eK_66_3, eK_66_6, eK_66_7, eK_66_8, pw_aaload, pw_aload, pw_aload_n, pw_astore, pw_bipush, pw_getfield, pw_goto, pw_iadd, pw_iconst, pw_ifCond, pw_if_icmp, pw_iinc, pw_iload, pw_iload_n, pw_imul, pw_invokestatic, pw_invokevirtual, pw_ireturn, pw_istore, pw_isub, pw_nop0, pw_nop1, mm_pI_c, mm_pL_c, mm_pA_c, mm_pR_c, mm_p1_i, mm_p1_r, mm_pN_0, mm_pN_s, mm_lI_c, mm_lL_c, mm_lA_c, mm_wd_n, mm_wd_i, mm_wd_l, mm_wd_r, mm_gf_i, mm_gf_b, mm_gf_r, mm_rf_c, mm_pf_i, mm_pf_b, mm_pf_r, mm_rt_v, mm_rt_i, mm_rt_r, mm_c_eq, mm_c_ne, mm_c_lt, mm_c_ge, mm_c_gt, mm_c_le, mm_sw_n, mm_sw_c, mm_alc_n, mm_alc_c, mm_rc_n, mm_rc_c, reduceCtorEq, false_implies, implies_true, true_implies, true_or, or_true, false_or, or_false, not_false_eq_true, mm_at_0, mm_at_s, mm_set_0, mm_set_s, mm_nl_n, mm_nl_i, mm_nl_r, mm_args_n, mm_args_i, mm_args_l, mm_args_r, mm_pad_0, mm_pad_n, mm_pad_c, List.length_cons, List.length_nil, List.nil_append, List.cons_append, Nat.zero_le, Nat.sub_zero, true_and, and_true, Nat.reduceAdd, Nat.reduceLeDiff, Nat.reduceLT, Nat.reduceSub, Nat.lt_irrefl, Nat.zero_add, Nat.add_zero, k_20, k_10, k_01, mm_if_T, mm_if_F, not_true_eq_false, not_false_eq_true, e_79 (d + 2) hC hR.1, hi, v2, v3, t_80, t_81, tf_0, c3, h1, h2, q1, q2, q4, r4, hf, e_15 (d + 2) (show 0 < 20 by omega) hn hS hR0 hw, nI_1]
      exact key _
    · rw [if_neg hf]
      simp only [eC_66, eK_66_0, eK_66_1, eK_66_2, eK_66_3, eK_66_6, eK_66_7, eK_66_8, pw_aaload, pw_aload, pw_aload_n, pw_astore, pw_bipush, pw_getfield, pw_goto, pw_iadd, pw_iconst, pw_ifCond, pw_if_icmp, pw_iinc, pw_iload, pw_iload_n, pw_imul, pw_invokestatic, pw_invokevirtual, pw_ireturn, pw_istore, pw_isub, pw_nop0, pw_nop1, mm_pI_c, mm_pL_c, mm_pA_c, mm_pR_c, mm_p1_i, mm_p1_r, mm_pN_0, mm_pN_s, mm_lI_c, mm_lL_c, mm_lA_c, mm_wd_n, mm_wd_i, mm_wd_l, mm_wd_r, mm_gf_i, mm_gf_b, mm_gf_r, mm_rf_c, mm_pf_i, mm_pf_b, mm_pf_r, mm_rt_v, mm_rt_i, mm_rt_r, mm_c_eq, mm_c_ne, mm_c_lt, mm_c_ge, mm_c_gt, mm_c_le, mm_sw_n, mm_sw_c, mm_alc_n, mm_alc_c, mm_rc_n, mm_rc_c, reduceCtorEq, false_implies, implies_true, true_implies, true_or, or_true, false_or, or_false, not_false_eq_true, mm_at_0, mm_at_s, mm_set_0, mm_set_s, mm_nl_n, mm_nl_i, mm_nl_r, mm_args_n, mm_args_i, mm_args_l, mm_args_r, mm_pad_0, mm_pad_n, mm_pad_c, List.length_cons, List.length_nil, List.nil_append, List.cons_append, Nat.zero_le, Nat.sub_zero, true_and, and_true, Nat.reduceAdd, Nat.reduceLeDiff, Nat.reduceLT, Nat.reduceSub, Nat.lt_irrefl, Nat.zero_add, Nat.add_zero, k_20, k_10, k_01, mm_if_T, mm_if_F, not_true_eq_false, not_false_eq_true, e_79 (d + 2) hC hR.1, hi, v2, v3, t_80, t_81, tf_0, c3, h1, h2, q1, q2, q4, r4, hf]
  · have e : G66 n X x p hr = -1 := if_neg hval
    rw [e]
    simp only [eC_66, eK_66_0, eK_66_1, eK_66_2, eK_66_3, eK_66_6, eK_66_7, eK_66_8, pw_aaload, pw_aload, pw_aload_n, pw_astore, pw_bipush, pw_getfield, pw_goto, pw_iadd, pw_iconst, pw_ifCond, pw_if_icmp, pw_iinc, pw_iload, pw_iload_n, pw_imul, pw_invokestatic, pw_invokevirtual, pw_ireturn, pw_istore, pw_isub, pw_nop0, pw_nop1, mm_pI_c, mm_pL_c, mm_pA_c, mm_pR_c, mm_p1_i, mm_p1_r, mm_pN_0, mm_pN_s, mm_lI_c, mm_lL_c, mm_lA_c, mm_wd_n, mm_wd_i, mm_wd_l, mm_wd_r, mm_gf_i, mm_gf_b, mm_gf_r, mm_rf_c, mm_pf_i, mm_pf_b, mm_pf_r, mm_rt_v, mm_rt_i, mm_rt_r, mm_c_eq, mm_c_ne, mm_c_lt, mm_c_ge, mm_c_gt, mm_c_le, mm_sw_n, mm_sw_c, mm_alc_n, mm_alc_c, mm_rc_n, mm_rc_c, reduceCtorEq, false_implies, implies_true, true_implies, true_or, or_true, false_or, or_false, not_false_eq_true, mm_at_0, mm_at_s, mm_set_0, mm_set_s, mm_nl_n, mm_nl_i, mm_nl_r, mm_args_n, mm_args_i, mm_args_l, mm_args_r, mm_pad_0, mm_pad_n, mm_pad_c, List.length_cons, List.length_nil, List.nil_append, List.cons_append, Nat.zero_le, Nat.sub_zero, true_and, and_true, Nat.reduceAdd, Nat.reduceLeDiff, Nat.reduceLT, Nat.reduceSub, Nat.lt_irrefl, Nat.zero_add, Nat.add_zero, k_20, k_10, k_01, mm_if_T, mm_if_F, not_true_eq_false, not_false_eq_true, e_79 (d + 2) hC hR.1, t_80, t_81, tf_0]
    simp only [mm_if]
    grind

