/-! THE CLASS: what is best -/
/-- whether the bell of w, so loud at home, would be heard in hour k on an even day -/
def g_hh (A : Nat → Nat → Int32) (n w : Nat) (l : Int32) (k : Nat) : Int32 := tf (¬ f_rbi (A w 0) l (A w 7) 1 = 0 ∧ g_lo A w (nI k) n < l)
def fh_s (q : Nat → Int32) : Nat → Int32
  | 0 => -4
  | m + 1 => if q (23 - m) = 0 then fh_s q m else nI (23 - m)
def fb_s (A : Nat → Nat → Int32) (n w : Nat) : Nat → Int32 × Int32 × Int32
  | 0 => (-4, -4, -4)
  | p + 1 => if (fb_s A n w p).2.2 = -4 ∨ g_ot A w (nI p) 0 n < (fb_s A n w p).2.2 then (if fh_s (g_hh A n w (f_lf (A w 8) (nI p) (A w 1))) 24 = -4 then fb_s A n w p else (nI p, fh_s (g_hh A n w (f_lf (A w 8) (nI p) (A w 1))) 24, g_ot A w (nI p) 0 n)) else fb_s A n w p
theorem I1_5 {M : mm_M} {n : Nat} {X : Sx} {a : Nat} {P : Nat → Sx} {b : Nat} {K : Nat → Sx} (h : I1 M n X a P b K) {k : Nat} {v : Int32} (hk : 9 ≤ k) : I1 (mm_sI M 5 0 k v) n X a P b K := by
  obtain ⟨ps, hC, hn, hR0, hW0, ha, ha2, hP, hb, hb2, hK⟩ := h
  exact ⟨ps, LyC_2 (M := M) rfl hC, hn, RX_I hR0 (by omega), hW0, ha, by rw [mm_I_k (by omega)]; exact ha2, fun i hi => ⟨RX_I (hP i hi).1 (by omega), (hP i hi).2⟩, hb, by rw [mm_I_k (by omega)]; exact hb2, fun i hi => ⟨RX_I (hK i hi).1 (by omega), (hK i hi).2⟩⟩
def G67 (n : Nat) (X : Sx) (x y : Int32) : Int32 := if isw n x ∧ 0 ≤ y ∧ y ≤ 2 then (if 1 ≤ X.1.1 x.toNatClampNeg 5 then (if y = 0 then (fb_s X.1.1 n x.toNatClampNeg 41).1 else if y = 1 then (fb_s X.1.1 n x.toNatClampNeg 41).2.1 else (fb_s X.1.1 n x.toNatClampNeg 41).2.2) else -2) else -1

set_option maxHeartbeats 4000000 in
theorem l_90 (d : Nat) {n : Nat} {X : Sx} {a : Nat} {P : Nat → Sx} {b : Nat} {K : Nat → Sx} {M : mm_M} {post : mm_Post} (hI : I1 M n X a P b K) (l : Int32) {w : Nat} (hw : w < n) (h : post (some (.inl (fh_s (g_hh X.1.1 n w l) 24))) M) : ∀ (m k : Nat), k + m = 24 → fh_s (g_hh X.1.1 n w l) 24 = fh_s (g_hh X.1.1 n w l) m → pK (d + 3) 90 post 1 [some (.inr (.inr (5, 0))), some (.inl (nI w)), some (.inl l), some (.inr (.inr (4, w))), some (.inl (nI k))] [] M (0, 0) := by
  obtain ⟨ps, hC, hn, hR, hW, ha, ha2, hP, hb, hb2, hK⟩ := id hI
  have hR0 : RS M 0 n X.1.1 X.2 X.1.2.1 X.1.2.2 := hR
  obtain ⟨s1, s2, s3, s4, s5⟩ := id hR0
  obtain ⟨hS, c0, c1, c2, c3, c4, c5, c6, m0, m1, m2, k1, k2, ct, cn, cp0, hps, hpi⟩ := id hC
  obtain ⟨h1, h2, h3⟩ := hS 0 (by omega)
  have r0 := s5 w hw 0 (by omega)
  have r7 := s5 w hw 7 (by omega)
  rw [Nat.mul_zero, Nat.zero_add] at r0 r7
  intro m
  induction m with
  | zero =>
    intro k hk he
    have e : k = 24 := by omega
    subst e
    have hq : (23 : Int32) < nI 24 := by decide
    rw [eK_90_1]
    simp only [eK_90_0, eK_90_2, eK_90_3, pw_aaload, pw_aload_n, pw_astore_n, pw_bipush, pw_getfield, pw_goto, pw_iconst, pw_ifCond, pw_if_icmp, pw_iinc, pw_iload, pw_iload_n, pw_invokevirtual, pw_ireturn, pw_istore, pw_nop0, mm_pI_c, mm_pL_c, mm_pA_c, mm_pR_c, mm_p1_i, mm_p1_r, mm_pN_0, mm_pN_s, mm_lI_c, mm_lL_c, mm_lA_c, mm_wd_n, mm_wd_i, mm_wd_l, mm_wd_r, mm_gf_i, mm_gf_b, mm_gf_r, mm_rf_c, mm_pf_i, mm_pf_b, mm_pf_r, mm_rt_v, mm_rt_i, mm_rt_r, mm_c_eq, mm_c_ne, mm_c_lt, mm_c_ge, mm_c_gt, mm_c_le, mm_sw_n, mm_sw_c, mm_alc_n, mm_alc_c, mm_rc_n, mm_rc_c, reduceCtorEq, false_implies, implies_true, true_implies, true_or, or_true, false_or, or_false, not_false_eq_true, mm_at_0, mm_at_s, mm_set_0, mm_set_s, mm_nl_n, mm_nl_i, mm_nl_r, mm_args_n, mm_args_i, mm_args_l, mm_args_r, mm_pad_0, mm_pad_n, mm_pad_c, List.length_cons, List.length_nil, List.nil_append, List.cons_append, Nat.zero_le, Nat.sub_zero, true_and, and_true, Nat.reduceAdd, Nat.reduceLeDiff, Nat.reduceLT, Nat.reduceSub, Nat.lt_irrefl, Nat.zero_add, Nat.add_zero, k_20, k_10, k_01, mm_if_T, mm_if_F, not_true_eq_false, not_false_eq_true, mm_if_t hq, nI_1]
    rw [he] at h
    exact h
  | succ m ih =>
    intro k hk he
    have hq : ¬ (23 : Int32) < nI k := nI_nlt (b := k) (a := 23) (by omega) (by omega)
    have ek : 23 - m = k := by omega
    have hun : fh_s (g_hh X.1.1 n w l) (m + 1) = if g_hh X.1.1 n w l (23 - m) = 0 then fh_s (g_hh X.1.1 n w l) m else nI (23 - m) := rfl
    rw [ek] at hun
    have key := ih (k + 1) (by omega)
    rw [he, hun] at h
    rw [hun] at he
    rw [eK_90_1]
    simp only [eK_90_0, eK_90_2, eK_90_3, pw_aaload, pw_aload_n, pw_astore_n, pw_bipush, pw_getfield, pw_goto, pw_iconst, pw_ifCond, pw_if_icmp, pw_iinc, pw_iload, pw_iload_n, pw_invokevirtual, pw_ireturn, pw_istore, pw_nop0, mm_pI_c, mm_pL_c, mm_pA_c, mm_pR_c, mm_p1_i, mm_p1_r, mm_pN_0, mm_pN_s, mm_lI_c, mm_lL_c, mm_lA_c, mm_wd_n, mm_wd_i, mm_wd_l, mm_wd_r, mm_gf_i, mm_gf_b, mm_gf_r, mm_rf_c, mm_pf_i, mm_pf_b, mm_pf_r, mm_rt_v, mm_rt_i, mm_rt_r, mm_c_eq, mm_c_ne, mm_c_lt, mm_c_ge, mm_c_gt, mm_c_le, mm_sw_n, mm_sw_c, mm_alc_n, mm_alc_c, mm_rc_n, mm_rc_c, reduceCtorEq, false_implies, implies_true, true_implies, true_or, or_true, false_or, or_false, not_false_eq_true, mm_at_0, mm_at_s, mm_set_0, mm_set_s, mm_nl_n, mm_nl_i, mm_nl_r, mm_args_n, mm_args_i, mm_args_l, mm_args_r, mm_pad_0, mm_pad_n, mm_pad_c, List.length_cons, List.length_nil, List.nil_append, List.cons_append, Nat.zero_le, Nat.sub_zero, true_and, and_true, Nat.reduceAdd, Nat.reduceLeDiff, Nat.reduceLT, Nat.reduceSub, Nat.lt_irrefl, Nat.zero_add, Nat.add_zero, k_20, k_10, k_01, mm_if_T, mm_if_F, not_true_eq_false, not_false_eq_true, mm_if_f hq, nI_1, r0, r7, c3, t_47, e_15 (d + 1) (show 0 < 20 by omega) hn hS hR0 hw]
    simp only [mm_if]
    by_cases hc : g_hh X.1.1 n w l k = 0
    · rw [if_pos hc] at h he
      have key2 := key he
      unfold g_hh at hc
      grind
    · rw [if_neg hc] at h
      unfold g_hh at hc
      grind

set_option maxHeartbeats 4000000 in
theorem e_90 (d : Nat) {n : Nat} {X : Sx} {a : Nat} {P : Nat → Sx} {b : Nat} {K : Nat → Sx} {M : mm_M} {post : mm_Post} (hI : I1 M n X a P b K) (l : Int32) {w : Nat} (hw : w < n) : pC (d + 4) 90 [.inr (.inr (5, 0)), .inl (nI w), .inl l] M post = post (some (.inl (fh_s (g_hh X.1.1 n w l) 24))) M := by
  refine pC_one (fun post h => ?_) post
  have key := l_90 d hI l hw h 24 0 (by omega) rfl
  obtain ⟨ps, hC, hn, hR, hW, ha, ha2, hP, hb, hb2, hK⟩ := id hI
  obtain ⟨hS, c0, c1, c2, c3, c4, c5, c6, m0, m1, m2, k1, k2, ct, cn, cp0, hps, hpi⟩ := id hC
  obtain ⟨h1, h2, h3⟩ := hS 0 (by omega)
  obtain ⟨q1, q2, q3⟩ := nI_v7 hw hn
  have q4 := h3 w (by omega)
  rw [Nat.mul_zero, Nat.zero_add] at q4
  simp only [eC_90, eK_90_0, eK_90_2, eK_90_3, pw_aaload, pw_aload_n, pw_astore_n, pw_bipush, pw_getfield, pw_goto, pw_iconst, pw_ifCond, pw_if_icmp, pw_iinc, pw_iload, pw_iload_n, pw_invokevirtual, pw_ireturn, pw_istore, pw_nop0, mm_pI_c, mm_pL_c, mm_pA_c, mm_pR_c, mm_p1_i, mm_p1_r, mm_pN_0, mm_pN_s, mm_lI_c, mm_lL_c, mm_lA_c, mm_wd_n, mm_wd_i, mm_wd_l, mm_wd_r, mm_gf_i, mm_gf_b, mm_gf_r, mm_rf_c, mm_pf_i, mm_pf_b, mm_pf_r, mm_rt_v, mm_rt_i, mm_rt_r, mm_c_eq, mm_c_ne, mm_c_lt, mm_c_ge, mm_c_gt, mm_c_le, mm_sw_n, mm_sw_c, mm_alc_n, mm_alc_c, mm_rc_n, mm_rc_c, reduceCtorEq, false_implies, implies_true, true_implies, true_or, or_true, false_or, or_false, not_false_eq_true, mm_at_0, mm_at_s, mm_set_0, mm_set_s, mm_nl_n, mm_nl_i, mm_nl_r, mm_args_n, mm_args_i, mm_args_l, mm_args_r, mm_pad_0, mm_pad_n, mm_pad_c, List.length_cons, List.length_nil, List.nil_append, List.cons_append, Nat.zero_le, Nat.sub_zero, true_and, and_true, Nat.reduceAdd, Nat.reduceLeDiff, Nat.reduceLT, Nat.reduceSub, Nat.lt_irrefl, Nat.zero_add, Nat.add_zero, k_20, k_10, k_01, mm_if_T, mm_if_F, not_true_eq_false, not_false_eq_true, c3, h1, h2, q1, q2, q4]
  exact key

set_option maxHeartbeats 4000000 in
theorem l_89 (d : Nat) {n : Nat} {X : Sx} {a : Nat} {P : Nat → Sx} {b : Nat} {K : Nat → Sx} {M0 : mm_M} {post : mm_Post} {w : Nat} (hw : w < n) (h : ∀ M', I1 M' n X a P b K → FX M0 M' → mm_I M' 5 0 9 = (fb_s X.1.1 n w 41).1 → mm_I M' 5 0 10 = (fb_s X.1.1 n w 41).2.1 → mm_I M' 5 0 11 = (fb_s X.1.1 n w 41).2.2 → post none M') : ∀ (m p : Nat) (u v : Option mm_V) (M : mm_M), p + m = 41 → I1 M n X a P b K → FX M0 M → mm_I M 5 0 9 = (fb_s X.1.1 n w p).1 → mm_I M 5 0 10 = (fb_s X.1.1 n w p).2.1 → mm_I M 5 0 11 = (fb_s X.1.1 n w p).2.2 → pK (d + 5) 89 post 1 [some (.inr (.inr (5, 0))), some (.inl (nI w)), some (.inr (.inr (4, w))), some (.inl (nI p)), u, v] [] M (0, 0) := by
  intro m
  induction m with
  | zero =>
    intro p u v M hp hI hF e9 e10 e11
    have e : p = 41 := by omega
    subst e
    have hq : (40 : Int32) < nI 41 := by decide
    have hM := h M hI hF e9 e10 e11
    rw [eK_89_1]
    simp only [eK_89_0, eK_89_2, eK_89_3, eK_89_4, pw_aaload, pw_aload_n, pw_astore_n, pw_bipush, pw_getfield, pw_goto, pw_iconst, pw_if_icmp, pw_iinc, pw_iload, pw_iload_n, pw_invokestatic, pw_invokevirtual, pw_istore, pw_istore_n, pw_nop0, pw_putfield, pw_return_, mm_pI_c, mm_pL_c, mm_pA_c, mm_pR_c, mm_p1_i, mm_p1_r, mm_pN_0, mm_pN_s, mm_lI_c, mm_lL_c, mm_lA_c, mm_wd_n, mm_wd_i, mm_wd_l, mm_wd_r, mm_gf_i, mm_gf_b, mm_gf_r, mm_rf_c, mm_pf_i, mm_pf_b, mm_pf_r, mm_rt_v, mm_rt_i, mm_rt_r, mm_c_eq, mm_c_ne, mm_c_lt, mm_c_ge, mm_c_gt, mm_c_le, mm_sw_n, mm_sw_c, mm_alc_n, mm_alc_c, mm_rc_n, mm_rc_c, reduceCtorEq, false_implies, implies_true, true_implies, true_or, or_true, false_or, or_false, not_false_eq_true, mm_at_0, mm_at_s, mm_set_0, mm_set_s, mm_nl_n, mm_nl_i, mm_nl_r, mm_args_n, mm_args_i, mm_args_l, mm_args_r, mm_pad_0, mm_pad_n, mm_pad_c, List.length_cons, List.length_nil, List.nil_append, List.cons_append, Nat.zero_le, Nat.sub_zero, true_and, and_true, Nat.reduceAdd, Nat.reduceLeDiff, Nat.reduceLT, Nat.reduceSub, Nat.lt_irrefl, Nat.zero_add, Nat.add_zero, k_20, k_10, k_01, mm_if_T, mm_if_F, not_true_eq_false, not_false_eq_true, mm_if_t hq, nI_1]
    exact hM
  | succ m ih =>
    intro p u v M hp hI hF e9 e10 e11
    obtain ⟨ps, hC, hn, hR, hW, ha, ha2, hP, hb, hb2, hK⟩ := id hI
    have hR0 : RS M 0 n X.1.1 X.2 X.1.2.1 X.1.2.2 := hR
    obtain ⟨s1, s2, s3, s4, s5⟩ := id hR0
    obtain ⟨hS, c0, c1, c2, c3, c4, c5, c6, m0, m1, m2, k1, k2, ct, cn, cp0, hps, hpi⟩ := id hC
    obtain ⟨h1, h2, h3⟩ := hS 0 (by omega)
    have r8 := s5 w hw 8 (by omega)
    have r1 := s5 w hw 1 (by omega)
    rw [Nat.mul_zero, Nat.zero_add] at r8 r1
    have hq : ¬ (40 : Int32) < nI p := nI_nlt (b := p) (a := 40) (by omega) (by omega)
    have key := ih (p + 1)
    have hun : fb_s X.1.1 n w (p + 1) = if (fb_s X.1.1 n w p).2.2 = -4 ∨ g_ot X.1.1 w (nI p) 0 n < (fb_s X.1.1 n w p).2.2 then (if fh_s (g_hh X.1.1 n w (f_lf (X.1.1 w 8) (nI p) (X.1.1 w 1))) 24 = -4 then fb_s X.1.1 n w p else (nI p, fh_s (g_hh X.1.1 n w (f_lf (X.1.1 w 8) (nI p) (X.1.1 w 1))) 24, g_ot X.1.1 w (nI p) 0 n)) else fb_s X.1.1 n w p := rfl
    have kA : fb_s X.1.1 n w (p + 1) = fb_s X.1.1 n w p → ∀ u v, pK (d + 5) 89 post 1 [some (.inr (.inr (5, 0))), some (.inl (nI w)), some (.inr (.inr (4, w))), some (.inl (nI (p + 1))), u, v] [] M (0, 0) := fun e u v => key u v M (by omega) hI hF (by rw [e]; exact e9) (by rw [e]; exact e10) (by rw [e]; exact e11)
    have kB : ∀ x y, fb_s X.1.1 n w (p + 1) = (nI p, x, y) → ∀ u v, pK (d + 5) 89 post 1 [some (.inr (.inr (5, 0))), some (.inl (nI w)), some (.inr (.inr (4, w))), some (.inl (nI (p + 1))), u, v] [] (mm_sI (mm_sI (mm_sI M 5 0 9 (nI p)) 5 0 10 x) 5 0 11 y) (0, 0) := fun x y e u v => key u v _ (by omega) (I1_5 (I1_5 (I1_5 hI (by omega)) (by omega)) (by omega)) (FX_5 (FX_5 (FX_5 hF))) (by rw [e, mm_I_k (by omega), mm_I_k (by omega), mm_I_s]) (by rw [e, mm_I_k (by omega), mm_I_s]) (by rw [e, mm_I_s])
    clear key ih h
    rw [eK_89_1]
    simp only [eK_89_0, eK_89_2, eK_89_3, eK_89_4, pw_aaload, pw_aload_n, pw_astore_n, pw_bipush, pw_getfield, pw_goto, pw_iconst, pw_if_icmp, pw_iinc, pw_iload, pw_iload_n, pw_invokestatic, pw_invokevirtual, pw_istore, pw_istore_n, pw_nop0, pw_putfield, pw_return_, mm_pI_c, mm_pL_c, mm_pA_c, mm_pR_c, mm_p1_i, mm_p1_r, mm_pN_0, mm_pN_s, mm_lI_c, mm_lL_c, mm_lA_c, mm_wd_n, mm_wd_i, mm_wd_l, mm_wd_r, mm_gf_i, mm_gf_b, mm_gf_r, mm_rf_c, mm_pf_i, mm_pf_b, mm_pf_r, mm_rt_v, mm_rt_i, mm_rt_r, mm_c_eq, mm_c_ne, mm_c_lt, mm_c_ge, mm_c_gt, mm_c_le, mm_sw_n, mm_sw_c, mm_alc_n, mm_alc_c, mm_rc_n, mm_rc_c, reduceCtorEq, false_implies, implies_true, true_implies, true_or, or_true, false_or, or_false, not_false_eq_true, mm_at_0, mm_at_s, mm_set_0, mm_set_s, mm_nl_n, mm_nl_i, mm_nl_r, mm_args_n, mm_args_i, mm_args_l, mm_args_r, mm_pad_0, mm_pad_n, mm_pad_c, List.length_cons, List.length_nil, List.nil_append, List.cons_append, Nat.zero_le, Nat.sub_zero, true_and, and_true, Nat.reduceAdd, Nat.reduceLeDiff, Nat.reduceLT, Nat.reduceSub, Nat.lt_irrefl, Nat.zero_add, Nat.add_zero, k_20, k_10, k_01, mm_if_T, mm_if_F, not_true_eq_false, not_false_eq_true, mm_if_f hq, nI_1, r8, r1, c3, e11, t_85, e_19 (d + 3) (show 0 < 20 by omega) hn hS hR0 hw, e_90 (d := d + 1) hI _ hw]
    simp only [mm_if]
    clear hR0 s1 s2 s3 s4 s5 hS c0 c1 c2 c3 c4 c5 c6 m0 m1 m2 k1 k2 ct cn cp0 hps hpi h1 h2 h3 hC hR hW ha ha2 hP hb hb2 hK hI hF e9 e10
    grind

set_option maxHeartbeats 4000000 in
theorem C67 (d : Nat) {n : Nat} {X : Sx} {a : Nat} {P : Nat → Sx} {b : Nat} {K : Nat → Sx} {M : mm_M} {post : mm_Post} (hI : I1 M n X a P b K) (x y : Int32) (h : ∀ M', I1 M' n X a P b K → FX M M' → post (some (.inl (G67 n X x y))) M') : pC (d + 7) 67 [.inr (.inr (5, 0)), .inl x, .inl y] M post := by
  obtain ⟨ps, hC, hn, hR, hW, ha, ha2, hP, hb, hb2, hK⟩ := id hI
  have hR0 : RS M 0 n X.1.1 X.2 X.1.2.1 X.1.2.2 := hR
  obtain ⟨s1, s2, s3, s4, s5⟩ := id hR0
  obtain ⟨hS, c0, c1, c2, c3, c4, c5, c6, m0, m1, m2, k1, k2, ct, cn, cp0, hps, hpi⟩ := id hC
  obtain ⟨h1, h2, h3⟩ := hS 0 (by omega)
  by_cases hval : isw n x ∧ 0 ≤ y ∧ y ≤ 2
  · obtain ⟨w, hw, rfl⟩ := isw_of hn hval.1
    obtain ⟨q1, q2, q3⟩ := nI_v7 hw hn
    have q4 := h3 w (by omega)
    have r5 := s5 w hw 5 (by omega)
    rw [Nat.mul_zero, Nat.zero_add] at q4 r5
    have hi := hval.1
    have v2 := hval.2
    unfold G67 at h
    rw [if_pos hval, q2] at h
    by_cases hf : 1 ≤ X.1.1 w 5
    · rw [if_pos hf] at h
      have key := fun {post : mm_Post} hh => l_89 d (post := post) hw hh 41 0 none none (mm_sI (mm_sI (mm_sI M 5 0 9 (-4)) 5 0 10 (-4)) 5 0 11 (-4)) (by omega) (I1_5 (I1_5 (I1_5 hI (by omega)) (by omega)) (by omega)) (FX_5 (FX_5 (FX_5 (FX_rf M)))) (by rw [mm_I_k (by omega), mm_I_k (by omega), mm_I_s]; rfl) (by rw [mm_I_k (by omega), mm_I_s]; rfl) (by rw [mm_I_s]; rfl)
      simp only [eC_67, eK_67_0, eK_67_1, eK_67_2, eK_67_3, eK_67_4, eK_67_5, eK_67_6, pw_aaload, pw_aload_n, pw_bipush, pw_getfield, pw_iconst, pw_ifCond, pw_iload_n, pw_invokestatic, pw_invokevirtual, pw_ireturn, pw_lookupswitch, pw_nop0, mm_pI_c, mm_pL_c, mm_pA_c, mm_pR_c, mm_p1_i, mm_p1_r, mm_pN_0, mm_pN_s, mm_lI_c, mm_lL_c, mm_lA_c, mm_wd_n, mm_wd_i, mm_wd_l, mm_wd_r, mm_gf_i, mm_gf_b, mm_gf_r, mm_rf_c, mm_pf_i, mm_pf_b, mm_pf_r, mm_rt_v, mm_rt_i, mm_rt_r, mm_c_eq, mm_c_ne, mm_c_lt, mm_c_ge, mm_c_gt, mm_c_le, mm_sw_n, mm_sw_c, mm_alc_n, mm_alc_c, mm_rc_n, mm_rc_c, reduceCtorEq, false_implies, implies_true, true_implies, true_or, or_true, false_or, or_false, not_false_eq_true, mm_at_0, mm_at_s, mm_set_0, mm_set_s, mm_nl_n, mm_nl_i, mm_nl_r, mm_args_n, mm_args_i, mm_args_l, mm_args_r, mm_pad_0, mm_pad_n, mm_pad_c, List.length_cons, List.length_nil, List.nil_append, List.cons_append, Nat.zero_le, Nat.sub_zero, true_and, and_true, Nat.reduceAdd, Nat.reduceLeDiff, Nat.reduceLT, Nat.reduceSub, Nat.lt_irrefl, Nat.zero_add, Nat.add_zero, k_20, k_10, k_01, mm_if_T, mm_if_F, not_true_eq_false, not_false_eq_true, e_79 (d + 4) hC hR.1, hi, v2, t_82, t_40, tf_0, c3, h1, h2, q1, q2, q4, r5, hf, nI_1]
      rw [eC_89, eK_89_0]
      simp only [eK_89_0, eK_89_2, eK_89_3, eK_89_4, pw_aaload, pw_aload_n, pw_astore_n, pw_bipush, pw_getfield, pw_goto, pw_iconst, pw_if_icmp, pw_iinc, pw_iload, pw_iload_n, pw_invokestatic, pw_invokevirtual, pw_istore, pw_istore_n, pw_nop0, pw_putfield, pw_return_, mm_pI_c, mm_pL_c, mm_pA_c, mm_pR_c, mm_p1_i, mm_p1_r, mm_pN_0, mm_pN_s, mm_lI_c, mm_lL_c, mm_lA_c, mm_wd_n, mm_wd_i, mm_wd_l, mm_wd_r, mm_gf_i, mm_gf_b, mm_gf_r, mm_rf_c, mm_pf_i, mm_pf_b, mm_pf_r, mm_rt_v, mm_rt_i, mm_rt_r, mm_c_eq, mm_c_ne, mm_c_lt, mm_c_ge, mm_c_gt, mm_c_le, mm_sw_n, mm_sw_c, mm_alc_n, mm_alc_c, mm_rc_n, mm_rc_c, reduceCtorEq, false_implies, implies_true, true_implies, true_or, or_true, false_or, or_false, not_false_eq_true, mm_at_0, mm_at_s, mm_set_0, mm_set_s, mm_nl_n, mm_nl_i, mm_nl_r, mm_args_n, mm_args_i, mm_args_l, mm_args_r, mm_pad_0, mm_pad_n, mm_pad_c, List.length_cons, List.length_nil, List.nil_append, List.cons_append, Nat.zero_le, Nat.sub_zero, true_and, and_true, Nat.reduceAdd, Nat.reduceLeDiff, Nat.reduceLT, Nat.reduceSub, Nat.lt_irrefl, Nat.zero_add, Nat.add_zero, k_20, k_10, k_01, mm_if_T, mm_if_F, not_true_eq_false, not_false_eq_true, e_79 (d + 4) hC hR.1, hi, v2, t_82, t_40, tf_0, c3, h1, h2, q1, q2, q4, r5, hf, nI_1]
      refine key (fun M' hI' hF' e9 e10 e11 => ?_)
      have hp := h M' hI' hF'
      simp only [eC_67, eK_67_0, eK_67_1, eK_67_2, eK_67_3, eK_67_4, eK_67_5, eK_67_6, pw_aaload, pw_aload_n, pw_bipush, pw_getfield, pw_iconst, pw_ifCond, pw_iload_n, pw_invokestatic, pw_invokevirtual, pw_ireturn, pw_lookupswitch, pw_nop0, mm_pI_c, mm_pL_c, mm_pA_c, mm_pR_c, mm_p1_i, mm_p1_r, mm_pN_0, mm_pN_s, mm_lI_c, mm_lL_c, mm_lA_c, mm_wd_n, mm_wd_i, mm_wd_l, mm_wd_r, mm_gf_i, mm_gf_b, mm_gf_r, mm_rf_c, mm_pf_i, mm_pf_b, mm_pf_r, mm_rt_v, mm_rt_i, mm_rt_r, mm_c_eq, mm_c_ne, mm_c_lt, mm_c_ge, mm_c_gt, mm_c_le, mm_sw_n, mm_sw_c, mm_alc_n, mm_alc_c, mm_rc_n, mm_rc_c, reduceCtorEq, false_implies, implies_true, true_implies, true_or, or_true, false_or, or_false, not_false_eq_true, mm_at_0, mm_at_s, mm_set_0, mm_set_s, mm_nl_n, mm_nl_i, mm_nl_r, mm_args_n, mm_args_i, mm_args_l, mm_args_r, mm_pad_0, mm_pad_n, mm_pad_c, List.length_cons, List.length_nil, List.nil_append, List.cons_append, Nat.zero_le, Nat.sub_zero, true_and, and_true, Nat.reduceAdd, Nat.reduceLeDiff, Nat.reduceLT, Nat.reduceSub, Nat.lt_irrefl, Nat.zero_add, Nat.add_zero, k_20, k_10, k_01, mm_if_T, mm_if_F, not_true_eq_false, not_false_eq_true, mm_rt_v, List.nil_append, e9, e10, e11]
      simp only [mm_if]
      have y3 : y = 0 ∨ y = 1 ∨ y = 2 := by
        obtain ⟨N, hN, rfl⟩ := nI_of2 (M := 2) (n := 2) (by decide) (Int32.not_lt.mpr v2.1) v2.2
        rcases (show N = 0 ∨ N = 1 ∨ N = 2 by omega) with e | e | e <;> subst e <;> decide
      clear hI hI' hF' h key
      grind
    · rw [if_neg hf] at h
      have hp := h M hI (FX_rf M)
      simp only [eC_67, eK_67_0, eK_67_1, eK_67_2, eK_67_3, eK_67_4, eK_67_5, eK_67_6, pw_aaload, pw_aload_n, pw_bipush, pw_getfield, pw_iconst, pw_ifCond, pw_iload_n, pw_invokestatic, pw_invokevirtual, pw_ireturn, pw_lookupswitch, pw_nop0, mm_pI_c, mm_pL_c, mm_pA_c, mm_pR_c, mm_p1_i, mm_p1_r, mm_pN_0, mm_pN_s, mm_lI_c, mm_lL_c, mm_lA_c, mm_wd_n, mm_wd_i, mm_wd_l, mm_wd_r, mm_gf_i, mm_gf_b, mm_gf_r, mm_rf_c, mm_pf_i, mm_pf_b, mm_pf_r, mm_rt_v, mm_rt_i, mm_rt_r, mm_c_eq, mm_c_ne, mm_c_lt, mm_c_ge, mm_c_gt, mm_c_le, mm_sw_n, mm_sw_c, mm_alc_n, mm_alc_c, mm_rc_n, mm_rc_c, reduceCtorEq, false_implies, implies_true, true_implies, true_or, or_true, false_or, or_false, not_false_eq_true, mm_at_0, mm_at_s, mm_set_0, mm_set_s, mm_nl_n, mm_nl_i, mm_nl_r, mm_args_n, mm_args_i, mm_args_l, mm_args_r, mm_pad_0, mm_pad_n, mm_pad_c, List.length_cons, List.length_nil, List.nil_append, List.cons_append, Nat.zero_le, Nat.sub_zero, true_and, and_true, Nat.reduceAdd, Nat.reduceLeDiff, Nat.reduceLT, Nat.reduceSub, Nat.lt_irrefl, Nat.zero_add, Nat.add_zero, k_20, k_10, k_01, mm_if_T, mm_if_F, not_true_eq_false, not_false_eq_true, e_79 (d + 4) hC hR.1, hi, v2, t_82, t_40, tf_0, c3, h1, h2, q1, q2, q4, r5, hf]
      exact hp
  · have e : G67 n X x y = -1 := if_neg hval
    rw [e] at h
    have hp := h M hI (FX_rf M)
    simp only [eC_67, eK_67_0, eK_67_1, eK_67_2, eK_67_3, eK_67_4, eK_67_5, eK_67_6, pw_aaload, pw_aload_n, pw_bipush, pw_getfield, pw_iconst, pw_ifCond, pw_iload_n, pw_invokestatic, pw_invokevirtual, pw_ireturn, pw_lookupswitch, pw_nop0, mm_pI_c, mm_pL_c, mm_pA_c, mm_pR_c, mm_p1_i, mm_p1_r, mm_pN_0, mm_pN_s, mm_lI_c, mm_lL_c, mm_lA_c, mm_wd_n, mm_wd_i, mm_wd_l, mm_wd_r, mm_gf_i, mm_gf_b, mm_gf_r, mm_rf_c, mm_pf_i, mm_pf_b, mm_pf_r, mm_rt_v, mm_rt_i, mm_rt_r, mm_c_eq, mm_c_ne, mm_c_lt, mm_c_ge, mm_c_gt, mm_c_le, mm_sw_n, mm_sw_c, mm_alc_n, mm_alc_c, mm_rc_n, mm_rc_c, reduceCtorEq, false_implies, implies_true, true_implies, true_or, or_true, false_or, or_false, not_false_eq_true, mm_at_0, mm_at_s, mm_set_0, mm_set_s, mm_nl_n, mm_nl_i, mm_nl_r, mm_args_n, mm_args_i, mm_args_l, mm_args_r, mm_pad_0, mm_pad_n, mm_pad_c, List.length_cons, List.length_nil, List.nil_append, List.cons_append, Nat.zero_le, Nat.sub_zero, true_and, and_true, Nat.reduceAdd, Nat.reduceLeDiff, Nat.reduceLT, Nat.reduceSub, Nat.lt_irrefl, Nat.zero_add, Nat.add_zero, k_20, k_10, k_01, mm_if_T, mm_if_F, not_true_eq_false, not_false_eq_true, e_79 (d + 4) hC hR.1, t_82, tf_0]
    simp only [mm_if]
    clear hI h
    grind

