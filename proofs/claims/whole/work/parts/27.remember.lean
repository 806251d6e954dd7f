/-! THE CLASS: its state, and what every act does first -/
/-- of numbers only streets' and the object's own have changed -/
def FX (M M' : mm_M) : Prop := (∀ c i k, (c = 1 ∨ c = 3 ∨ 6 ≤ c) → mm_I M' c i k = mm_I M c i k) ∧ (∀ c i k, ¬ c = 9 → mm_R M' c i k = mm_R M c i k) ∧ M'.2.2 = M.2.2
theorem FX_rf (M : mm_M) : FX M M := ⟨fun _ _ _ _ => rfl, fun _ _ _ _ => rfl, rfl⟩
theorem FX_tr {M M1 M2 : mm_M} (h : FX M M1) (h' : FX M1 M2) : FX M M2 := ⟨fun c i k q => (h'.1 c i k q).trans (h.1 c i k q), fun c i k q => (h'.2.1 c i k q).trans (h.2.1 c i k q), h'.2.2.trans h.2.2⟩
theorem FX_S {M M' : mm_M} {s : Nat} (h : FS M M' s) : FX M M' := ⟨fun c i k q => h.2 c i k (fun z => by omega) (fun z => by omega), fun c i k _ => by unfold mm_R; rw [h.1], by rw [h.1]⟩
theorem FX_P {M M' : mm_M} (h : FP M M') : FX M M' := ⟨fun c i k _ => FP_I h c i k, fun c i k q => h.2.2 c i k (fun z => q z.1), h.2.1⟩
theorem FX_5 {M M' : mm_M} {k : Nat} {v : Int32} (h : FX M M') : FX M (mm_sI M' 5 0 k v) := ⟨fun c' i' k' q => by rw [mm_I_c (by omega)]; exact h.1 c' i' k' q, h.2.1, h.2.2⟩
theorem FX_C {M M' : mm_M} (h : FX M M') : FC M M' := ⟨fun c i k q => h.1 c i k (by omega), h.2.1, h.2.2⟩
/-- the streets: now, those that can be undone, those that are kept -/
def I1 (M : mm_M) (n : Nat) (X : Sx) (a : Nat) (P : Nat → Sx) (b : Nat) (K : Nat → Sx) : Prop := ∃ ps, LyC M ps ∧ n ≤ 7 ∧ RX M 0 n X ∧ WF n X.1.1 ∧ a ≤ 8 ∧ mm_I M 5 0 7 = nI a ∧ (∀ i, i < a → RX M (ps i) n (P i) ∧ WF n (P i).1.1) ∧ b ≤ 2 ∧ mm_I M 5 0 8 = nI b ∧ ∀ i, i < b → RX M (9 + i) n (K i) ∧ WF n (K i).1.1
/-- what is noted, the text -/
def I2 (M : mm_M) (q : Nat) (nx nl : Nat → Int32) (t : Nat) (lt : Nat → Int32) : Prop := q ≤ 6 ∧ mm_I M 1 0 2 = nI q ∧ (∀ i, i < q → mm_I M 7 2 i = nx i ∧ mm_I M 7 3 i = nl i) ∧ t ≤ 200 ∧ mm_I M 3 0 3 = nI t ∧ ∀ i, i < t → mm_I M 7 0 i = lt i
theorem I2_X {M M' : mm_M} (hF : FX M M') {q : Nat} {nx nl : Nat → Int32} {t : Nat} {lt : Nat → Int32} (h : I2 M q nx nl t lt) : I2 M' q nx nl t lt := by
  obtain ⟨h1, h2, h3, h4, h5, h6⟩ := h
  exact ⟨h1, by rw [hF.1 1 0 2 (by omega)]; exact h2, fun i hi => by rw [hF.1 7 2 i (by omega), hF.1 7 3 i (by omega)]; exact h3 i hi, h4, by rw [hF.1 3 0 3 (by omega)]; exact h5, fun i hi => by rw [hF.1 7 0 i (by omega)]; exact h6 i hi⟩
def pushP (a : Nat) (P : Nat → Sx) (X : Sx) : Nat × (Nat → Sx) := if a < 8 then (a + 1, fun i => if i = a then X else P i) else (8, fun i => if i = 7 then X else P (i + 1))
theorem RX_F {M M' : mm_M} {s s' n : Nat} {X : Sx} (h : RX M s n X) (hF : FS M M' s') (hs : ¬ s = s') (hn : n ≤ 7) : RX M' s n X := RS_F h hF hs hn
theorem RX_5 {M : mm_M} {s n : Nat} {X : Sx} (h : RX M s n X) (k : Nat) (v : Int32) : RX (mm_sI M 5 0 k v) s n X := by
  obtain ⟨h1, h2, h3, h4, h5⟩ := h
  exact ⟨by rw [mm_I_c (by decide)]; exact h1, by rw [mm_I_c (by decide)]; exact h2, by rw [mm_I_c (by decide)]; exact h3, by rw [mm_I_c (by decide)]; exact h4, fun w hw k hk => by rw [mm_I_c (by decide)]; exact h5 w hw k hk⟩
theorem FS_5 {M M' : mm_M} {s : Nat} (h : FS M M' s) (k : Nat) : mm_I M' 5 0 k = mm_I M 5 0 k := h.2 5 0 k (fun z => by omega) (fun z => by omega)
/-- past[p] is set to the street as it is, and there is one more -/
theorem I1_push {M M' : mm_M} {ps : Nat → Nat} {n : Nat} {X : Sx} {a : Nat} {P : Nat → Sx} {b : Nat} {K : Nat → Sx} (hC : LyC M ps) (hn : n ≤ 7) (hR : RX M 0 n X) (hW : WF n X.1.1) (ha : a < 8) (hP : ∀ i, i < a → RX M (ps i) n (P i) ∧ WF n (P i).1.1) (hb : b ≤ 2) (hb2 : mm_I M 5 0 8 = nI b) (hK : ∀ i, i < b → RX M (9 + i) n (K i) ∧ WF n (K i).1.1) (hR' : RX M' (ps a) n X) (hF : FS M M' (ps a)) :
    I1 (mm_sI M' 5 0 7 (nI (a + 1))) n X (a + 1) (fun i => if i = a then X else P i) b K := by
  obtain ⟨hS, c0, c1, c2, c3, c4, c5, c6, m0, m1, m2, k1, k2, ct, cn, cp0, hps, hpi⟩ := id hC
  have hpa := hps a ha
  refine ⟨ps, LyC_2 (show (mm_sI M' 5 0 7 (nI (a + 1))).2 = M.2 from hF.1) hC, hn, RX_5 (RX_F hR hF (by omega) hn) _ _, hW, by omega, mm_I_s, fun i hi => ?_, hb, by rw [mm_I_k (by decide), FS_5 hF]; exact hb2, fun i hi => ⟨RX_5 (RX_F (hK i hi).1 hF (by omega) hn) _ _, (hK i hi).2⟩⟩
  by_cases e : i = a
  · subst e
    simp only [if_true]
    exact ⟨RX_5 hR' _ _, hW⟩
  · simp only [e, if_false]
    exact ⟨RX_5 (RX_F (hP i (by omega)).1 hF (fun z => e (hpi i a (by omega) ha z)) hn) _ _, (hP i (by omega)).2⟩

set_option maxHeartbeats 4000000 in
theorem t_87 (d : Nat) {n : Nat} {X : Sx} {a : Nat} {P : Nat → Sx} {b : Nat} {K : Nat → Sx} {M : mm_M} {post : mm_Post} (hI : I1 M n X a P b K) (h : ∀ M', I1 M' n X (pushP a P X).1 (pushP a P X).2 b K → FX M M' → post none M') : pC (d + 3) 87 [.inr (.inr (5, 0))] M post := by
  obtain ⟨ps, hC, hn, hR, hW, ha, ha2, hP, hb, hb2, hK⟩ := hI
  have hC0 := hC
  obtain ⟨hS, c0, c1, c2, c3, c4, c5, c6, m0, m1, m2, k1, k2, ct, cn, cp0, hps, hpi⟩ := id hC
  by_cases e : a < 8
  · have hc : nI a < (8 : Int32) := nI_lt (b := 8) e (by omega)
    have va : vp_in (nI a) 8 := vp_in_nI e (by omega)
    have na : (nI a).toNatClampNeg = a := nI_clamp (by omega)
    have hpa := hps a e
    have hpa1 := hpa.1
    have e1 : pushP a P X = (a + 1, fun i => if i = a then X else P i) := if_pos e
    rw [e1] at h
    simp only [eC_87, eK_87_0, eK_87_1, pw_aaload, pw_aload_n, pw_bipush, pw_dup, pw_getfield, pw_iadd, pw_iconst, pw_if_icmp, pw_invokevirtual, pw_nop0, pw_putfield, pw_return_, mm_pI_c, mm_pL_c, mm_pA_c, mm_pR_c, mm_p1_i, mm_p1_r, mm_pN_0, mm_pN_s, mm_lI_c, mm_lL_c, mm_lA_c, mm_wd_n, mm_wd_i, mm_wd_l, mm_wd_r, mm_gf_i, mm_gf_b, mm_gf_r, mm_rf_c, mm_pf_i, mm_pf_b, mm_pf_r, mm_rt_v, mm_rt_i, mm_rt_r, mm_c_eq, mm_c_ne, mm_c_lt, mm_c_ge, mm_c_gt, mm_c_le, mm_sw_n, mm_sw_c, mm_alc_n, mm_alc_c, mm_rc_n, mm_rc_c, reduceCtorEq, false_implies, implies_true, true_implies, true_or, or_true, false_or, or_false, not_false_eq_true, mm_at_0, mm_at_s, mm_set_0, mm_set_s, mm_nl_n, mm_nl_i, mm_nl_r, mm_args_n, mm_args_i, mm_args_l, mm_args_r, mm_pad_0, mm_pad_n, mm_pad_c, List.length_cons, List.length_nil, List.nil_append, List.cons_append, Nat.zero_le, Nat.sub_zero, true_and, and_true, Nat.reduceAdd, Nat.reduceLeDiff, Nat.reduceLT, Nat.reduceSub, Nat.lt_irrefl, Nat.zero_add, Nat.add_zero, k_20, k_10, k_01, mm_if_T, mm_if_F, not_true_eq_false, not_false_eq_true, ha2, mm_if_t hc, c3, c4, m0, va, na, hpa1]
    refine t_10 (d := d) (s := ps a) (s' := 0) (by omega) (by omega) (by omega) hn hS hR (fun w hw => (hW w hw).2.2.1) (fun M' hR' hF' => ?_)
    have ha3 : mm_I M' 5 0 7 = nI a := by rw [FS_5 hF']; exact ha2
    simp only [eC_87, eK_87_0, eK_87_1, pw_aaload, pw_aload_n, pw_bipush, pw_dup, pw_getfield, pw_iadd, pw_iconst, pw_if_icmp, pw_invokevirtual, pw_nop0, pw_putfield, pw_return_, mm_pI_c, mm_pL_c, mm_pA_c, mm_pR_c, mm_p1_i, mm_p1_r, mm_pN_0, mm_pN_s, mm_lI_c, mm_lL_c, mm_lA_c, mm_wd_n, mm_wd_i, mm_wd_l, mm_wd_r, mm_gf_i, mm_gf_b, mm_gf_r, mm_rf_c, mm_pf_i, mm_pf_b, mm_pf_r, mm_rt_v, mm_rt_i, mm_rt_r, mm_c_eq, mm_c_ne, mm_c_lt, mm_c_ge, mm_c_gt, mm_c_le, mm_sw_n, mm_sw_c, mm_alc_n, mm_alc_c, mm_rc_n, mm_rc_c, reduceCtorEq, false_implies, implies_true, true_implies, true_or, or_true, false_or, or_false, not_false_eq_true, mm_at_0, mm_at_s, mm_set_0, mm_set_s, mm_nl_n, mm_nl_i, mm_nl_r, mm_args_n, mm_args_i, mm_args_l, mm_args_r, mm_pad_0, mm_pad_n, mm_pad_c, List.length_cons, List.length_nil, List.nil_append, List.cons_append, Nat.zero_le, Nat.sub_zero, true_and, and_true, Nat.reduceAdd, Nat.reduceLeDiff, Nat.reduceLT, Nat.reduceSub, Nat.lt_irrefl, Nat.zero_add, Nat.add_zero, k_20, k_10, k_01, mm_if_T, mm_if_F, not_true_eq_false, not_false_eq_true, ha3, nI_1]
    exact h _ (I1_push hC0 hn hR hW e hP hb hb2 hK hR' hF') (FX_5 (FX_S hF'))
  · have e8 : a = 8 := by omega
    subst e8
    have hc : ¬ nI 8 < (8 : Int32) := by decide
    have e1 : pushP 8 P X = (8, fun i => if i = 7 then X else P (i + 1)) := if_neg (by omega)
    rw [e1] at h
    simp only [eC_87, eK_87_0, eK_87_1, pw_aaload, pw_aload_n, pw_bipush, pw_dup, pw_getfield, pw_iadd, pw_iconst, pw_if_icmp, pw_invokevirtual, pw_nop0, pw_putfield, pw_return_, mm_pI_c, mm_pL_c, mm_pA_c, mm_pR_c, mm_p1_i, mm_p1_r, mm_pN_0, mm_pN_s, mm_lI_c, mm_lL_c, mm_lA_c, mm_wd_n, mm_wd_i, mm_wd_l, mm_wd_r, mm_gf_i, mm_gf_b, mm_gf_r, mm_rf_c, mm_pf_i, mm_pf_b, mm_pf_r, mm_rt_v, mm_rt_i, mm_rt_r, mm_c_eq, mm_c_ne, mm_c_lt, mm_c_ge, mm_c_gt, mm_c_le, mm_sw_n, mm_sw_c, mm_alc_n, mm_alc_c, mm_rc_n, mm_rc_c, reduceCtorEq, false_implies, implies_true, true_implies, true_or, or_true, false_or, or_false, not_false_eq_true, mm_at_0, mm_at_s, mm_set_0, mm_set_s, mm_nl_n, mm_nl_i, mm_nl_r, mm_args_n, mm_args_i, mm_args_l, mm_args_r, mm_pad_0, mm_pad_n, mm_pad_c, List.length_cons, List.length_nil, List.nil_append, List.cons_append, Nat.zero_le, Nat.sub_zero, true_and, and_true, Nat.reduceAdd, Nat.reduceLeDiff, Nat.reduceLT, Nat.reduceSub, Nat.lt_irrefl, Nat.zero_add, Nat.add_zero, k_20, k_10, k_01, mm_if_T, mm_if_F, not_true_eq_false, not_false_eq_true, ha2, mm_if_f hc]
    refine t_88 (d + 1) hC0 (fun M1 hF1 hC1 => ?_)
    obtain ⟨hS1, c01, c11, c21, c31, c41, c51, c61, m01, m11, m21, k11, k21, ct1, cn1, cp01, hps1, hpi1⟩ := id hC1
    have h7 := hps1 7 (by omega)
    have h71 := h7.1
    have v7 : vp_in 7 8 := vp_in_nI (n := 7) (by omega) (by omega)
    have n7 : (7 : Int32).toNatClampNeg = 7 := by decide
    simp only [eC_87, eK_87_0, eK_87_1, pw_aaload, pw_aload_n, pw_bipush, pw_dup, pw_getfield, pw_iadd, pw_iconst, pw_if_icmp, pw_invokevirtual, pw_nop0, pw_putfield, pw_return_, mm_pI_c, mm_pL_c, mm_pA_c, mm_pR_c, mm_p1_i, mm_p1_r, mm_pN_0, mm_pN_s, mm_lI_c, mm_lL_c, mm_lA_c, mm_wd_n, mm_wd_i, mm_wd_l, mm_wd_r, mm_gf_i, mm_gf_b, mm_gf_r, mm_rf_c, mm_pf_i, mm_pf_b, mm_pf_r, mm_rt_v, mm_rt_i, mm_rt_r, mm_c_eq, mm_c_ne, mm_c_lt, mm_c_ge, mm_c_gt, mm_c_le, mm_sw_n, mm_sw_c, mm_alc_n, mm_alc_c, mm_rc_n, mm_rc_c, reduceCtorEq, false_implies, implies_true, true_implies, true_or, or_true, false_or, or_false, not_false_eq_true, mm_at_0, mm_at_s, mm_set_0, mm_set_s, mm_nl_n, mm_nl_i, mm_nl_r, mm_args_n, mm_args_i, mm_args_l, mm_args_r, mm_pad_0, mm_pad_n, mm_pad_c, List.length_cons, List.length_nil, List.nil_append, List.cons_append, Nat.zero_le, Nat.sub_zero, true_and, and_true, Nat.reduceAdd, Nat.reduceLeDiff, Nat.reduceLT, Nat.reduceSub, Nat.lt_irrefl, Nat.zero_add, Nat.add_zero, k_20, k_10, k_01, mm_if_T, mm_if_F, not_true_eq_false, not_false_eq_true, mm_I_s, c31, c41, m01, v7, n7, h71, mm_R_sI, mm_L_sI]
    have hR1 : RX (mm_sI M1 5 0 7 7) 0 n X := RX_5 (FP_RX hF1 hR) _ _
    refine t_10 (d := d) (s := rot ps 7) (s' := 0) (M := mm_sI M1 5 0 7 7) (by omega) (by omega) (by omega) hn (LyS_2 rfl hS1) hR1 (fun w hw => (hW w hw).2.2.1) (fun M' hR' hF' => ?_)
    have ha3 : mm_I M' 5 0 7 = 7 := by rw [FS_5 hF']; exact mm_I_s
    simp only [eC_87, eK_87_0, eK_87_1, pw_aaload, pw_aload_n, pw_bipush, pw_dup, pw_getfield, pw_iadd, pw_iconst, pw_if_icmp, pw_invokevirtual, pw_nop0, pw_putfield, pw_return_, mm_pI_c, mm_pL_c, mm_pA_c, mm_pR_c, mm_p1_i, mm_p1_r, mm_pN_0, mm_pN_s, mm_lI_c, mm_lL_c, mm_lA_c, mm_wd_n, mm_wd_i, mm_wd_l, mm_wd_r, mm_gf_i, mm_gf_b, mm_gf_r, mm_rf_c, mm_pf_i, mm_pf_b, mm_pf_r, mm_rt_v, mm_rt_i, mm_rt_r, mm_c_eq, mm_c_ne, mm_c_lt, mm_c_ge, mm_c_gt, mm_c_le, mm_sw_n, mm_sw_c, mm_alc_n, mm_alc_c, mm_rc_n, mm_rc_c, reduceCtorEq, false_implies, implies_true, true_implies, true_or, or_true, false_or, or_false, not_false_eq_true, mm_at_0, mm_at_s, mm_set_0, mm_set_s, mm_nl_n, mm_nl_i, mm_nl_r, mm_args_n, mm_args_i, mm_args_l, mm_args_r, mm_pad_0, mm_pad_n, mm_pad_c, List.length_cons, List.length_nil, List.nil_append, List.cons_append, Nat.zero_le, Nat.sub_zero, true_and, and_true, Nat.reduceAdd, Nat.reduceLeDiff, Nat.reduceLT, Nat.reduceSub, Nat.lt_irrefl, Nat.zero_add, Nat.add_zero, k_20, k_10, k_01, mm_if_T, mm_if_F, not_true_eq_false, not_false_eq_true, ha3]
    have hI := I1_push (M := mm_sI M1 5 0 7 7) (M' := M') (ps := rot ps) (n := n) (X := X) (a := 7) (P := fun i => P (i + 1)) (b := b) (K := K) (LyC_2 rfl hC1) hn hR1 hW (by omega) (fun i hi => ⟨RX_5 (FP_RX hF1 ?_) _ _, (hP (i + 1) (by omega)).2⟩) hb (by rw [mm_I_k (by decide), FP_I hF1]; exact hb2) (fun i hi => ⟨RX_5 (FP_RX hF1 (hK i hi).1) _ _, (hK i hi).2⟩) hR' hF'
    · exact h _ hI (FX_5 (FX_tr (FX_5 (FX_P hF1)) (FX_S hF')))
    · have e2 : rot ps i = ps (i + 1) := by unfold rot; rw [if_pos hi]
      rw [e2]
      exact (hP (i + 1) (by omega)).1

