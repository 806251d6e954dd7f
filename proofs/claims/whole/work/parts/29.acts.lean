/-! THE CLASS: acts. a step: the answer, the street, what can be undone -/
abbrev S4 : Type := Int32 × Sx × Nat × (Nat → Sx)
theorem I1_now {M M' : mm_M} {n : Nat} {X X' : Sx} {a : Nat} {P : Nat → Sx} {b : Nat} {K : Nat → Sx} (h : I1 M n X a P b K) (hR : RX M' 0 n X') (hF : FS M M' 0) (hW : WF n X'.1.1) : I1 M' n X' a P b K := by
  obtain ⟨ps, hC, hn, hR0, hW0, ha, ha2, hP, hb, hb2, hK⟩ := h
  have hps := hC.2.2.2.2.2.2.2.2.2.2.2.2.2.2.2.2.1
  exact ⟨ps, LyC_2 hF.1 hC, hn, hR, hW, ha, by rw [FS_5 hF]; exact ha2, fun i hi => ⟨RX_F (hP i hi).1 hF (by have := hps i (by omega); omega) hn, (hP i hi).2⟩, hb, by rw [FS_5 hF]; exact hb2, fun i hi => ⟨RX_F (hK i hi).1 hF (by omega) hn, (hK i hi).2⟩⟩
theorem WF_ca {n w : Nat} {A : Nat → Nat → Int32} {cp tn c t : Int32} (h : WF n A) (hc : 1 ≤ c ∧ c ≤ 30) (ht : 0 ≤ t ∧ t ≤ 30) : WF n (g_ca (A, cp, tn) w c t).1 := by
  intro v hv
  have := h v hv
  simp only [g_ca, up]
  by_cases e : v = w <;> simp_all
theorem WF_ha {n w : Nat} {A : Nat → Nat → Int32} {p q : Int32} (h : WF n A) (hw : w < n) (h1 : 1 ≤ A w 5) (hp : 0 ≤ p ∧ p ≤ 40) (hq : 0 ≤ q ∧ q ≤ 23) : WF n (g_ha A w p q) := by
  intro v hv
  have := h v hv
  simp only [g_ha, up]
  by_cases e : v = w <;> simp_all
  · rcases this.2.2.2.1 with e | e | e <;> simp_all
theorem WF_td {n w : Nat} {A : Nat → Nat → Int32} (h : WF n A) (h1 : A w 5 = 2) : WF n (up A w 5 1) := by
  intro v hv
  have := h v hv
  simp only [up]
  by_cases e : v = w <;> simp_all
theorem WF_me {n w : Nat} {X : St} (h : WF n X.1) : WF n (g_me X w).1 := by
  intro v hv
  have := h v hv
  simp only [g_me, up]
  by_cases e : v = w <;> simp_all
theorem WF_34 {n w : Nat} {A : Nat → Nat → Int32} {x y : Int32} (h : WF n A) (hy : y = 0 ∨ y = 1) : WF n (up (up A w 3 x) w 4 y) := by
  intro v hv
  have := h v hv
  simp only [up]
  by_cases e : v = w <;> simp_all
theorem WF_3 {n w : Nat} {A : Nat → Nat → Int32} {x : Int32} (h : WF n A) : WF n (up A w 3 x) := by
  intro v hv
  have := h v hv
  simp only [up]
  by_cases e : v = w <;> simp_all
theorem WF_ho {n w : Nat} {X : St} (h : WF n X.1) : WF n (g_ho X w).1 := by
  unfold g_ho
  split
  · exact WF_me (WF_34 h (Or.inr rfl))
  · exact WF_3 h
theorem WF_gl {n : Nat} {X : St} {bits : Int32} (h : WF n X.1) : ∀ v, WF n (g_gl X bits v).1
  | 0 => h
  | v + 1 => by
    unfold g_gl
    split
    · exact WF_ho (WF_gl h v)
    · exact WF_gl h v
theorem WF_go {n : Nat} {X : St} {dy : Int32} (h : WF n X.1) : WF n (g_go n X dy).1 := WF_gl h n
/-- a day, the day counted -/
def g_dx (n : Nat) (X : Sx) : Sx := (g_go n X.1 X.2, X.2 + 1)
def g_dn (n : Nat) (X : Sx) : Nat → Sx
  | 0 => X
  | k + 1 => g_dx n (g_dn n X k)
theorem WF_dn {n : Nat} {X : Sx} (h : WF n X.1.1) : ∀ k, WF n (g_dn n X k).1.1
  | 0 => h
  | k + 1 => WF_go (WF_dn h k)
def T58 (n : Nat) (X : Sx) (a : Nat) (P : Nat → Sx) (x c t : Int32) : S4 := if isw n x ∧ (1 ≤ c ∧ c ≤ 30) ∧ (0 ≤ t ∧ t ≤ 30) then (if ¬ 1 ≤ X.1.1 x.toNatClampNeg 5 ∧ X.1.1 x.toNatClampNeg 4 = 0 ∧ c ≤ X.1.2.1 ∧ t ≤ X.1.2.2 then (f_lo c t, (g_ca X.1 x.toNatClampNeg c t, X.2), pushP a P X) else (-2, X, a, P)) else (-1, X, a, P)
def T59 (n : Nat) (X : Sx) (a : Nat) (P : Nat → Sx) (x p h : Int32) : S4 := if isw n x ∧ (0 ≤ p ∧ p ≤ 40) ∧ (0 ≤ h ∧ h ≤ 23) then (if 1 ≤ X.1.1 x.toNatClampNeg 5 then (g_ot (g_ha X.1.1 x.toNatClampNeg p h) x.toNatClampNeg p 1 n, ((g_ha X.1.1 x.toNatClampNeg p h, X.1.2), X.2), pushP a P X) else (-2, X, a, P)) else (-1, X, a, P)
def T60 (n : Nat) (X : Sx) (a : Nat) (P : Nat → Sx) (x : Int32) : S4 := if isw n x then (if X.1.1 x.toNatClampNeg 5 = 2 then (X.1.1 x.toNatClampNeg 9, ((up X.1.1 x.toNatClampNeg 5 1, X.1.2), X.2), pushP a P X) else (-2, X, a, P)) else (-1, X, a, P)
def T61 (n : Nat) (X : Sx) (a : Nat) (P : Nat → Sx) (x : Int32) : S4 := if isw n x then (if 1 ≤ X.1.1 x.toNatClampNeg 5 then (X.1.2.1 + X.1.1 x.toNatClampNeg 6, (g_me X.1 x.toNatClampNeg, X.2), pushP a P X) else (-2, X, a, P)) else (-1, X, a, P)
def T62 (n : Nat) (X : Sx) (a : Nat) (P : Nat → Sx) (x : Int32) : S4 := if 1 ≤ x ∧ x ≤ 24 then ((g_dn n X x.toNatClampNeg).2, g_dn n X x.toNatClampNeg, pushP a P X) else (-1, X, a, P)
def T63 (X : Sx) (a : Nat) (P : Nat → Sx) : S4 := if 1 ≤ a then (nI (a - 1), P (a - 1), a - 1, P) else (-2, X, a, P)

set_option maxHeartbeats 8000000 in
theorem C61 (d : Nat) {n : Nat} {X : Sx} {a : Nat} {P : Nat → Sx} {b : Nat} {K : Nat → Sx} {M : mm_M} {post : mm_Post} (hI : I1 M n X a P b K) (x : Int32) (h : ∀ M', I1 M' n (T61 n X a P x).2.1 (T61 n X a P x).2.2.1 (T61 n X a P x).2.2.2 b K → FX M M' → post (some (.inl (T61 n X a P x).1)) M') : pC (d + 6) 61 [.inr (.inr (5, 0)), .inl x] M post := by
  obtain ⟨ps, hC, hn, hR, hW, ha, ha2, hP, hb, hb2, hK⟩ := id hI
  have hR0 : RS M 0 n X.1.1 X.2 X.1.2.1 X.1.2.2 := hR
  obtain ⟨s1, s2, s3, s4, s5⟩ := id hR0
  obtain ⟨hS, c0, c1, c2, c3, c4, c5, c6, m0, m1, m2, k1, k2, ct, cn, cp0, hps, hpi⟩ := id hC
  obtain ⟨h1, h2, h3⟩ := hS 0 (by omega)
  by_cases hval : isw n x
  · have hi : isw n x := hval
    obtain ⟨w, hw, rfl⟩ := isw_of hn hi
    obtain ⟨q1, q2, q3⟩ := nI_v7 hw hn
    have q4 := h3 w (by omega)
    have r := s5 w hw
    have r5 := r 5 (by omega)
    have r6 := r 6 (by omega)
    rw [Nat.mul_zero, Nat.zero_add] at q4
    simp only [Nat.mul_zero, Nat.zero_add] at r5 r6
    by_cases hcan : 1 ≤ X.1.1 w 5
    · have e : T61 n X a P (nI w) = (X.1.2.1 + X.1.1 w 6, (g_me X.1 w, X.2), pushP a P X) := by unfold T61; rw [if_pos hval, q2, if_pos hcan]
      rw [e] at h
      simp only [eC_61, eK_61_0, eK_61_1, eK_61_2, pw_aaload, pw_aload_n, pw_bipush, pw_getfield, pw_iconst, pw_ifCond, pw_iload_n, pw_invokevirtual, pw_ireturn, mm_pI_c, mm_pL_c, mm_pA_c, mm_pR_c, mm_p1_i, mm_p1_r, mm_pN_0, mm_pN_s, mm_lI_c, mm_lL_c, mm_lA_c, mm_wd_n, mm_wd_i, mm_wd_l, mm_wd_r, mm_gf_i, mm_gf_b, mm_gf_r, mm_rf_c, mm_pf_i, mm_pf_b, mm_pf_r, mm_rt_v, mm_rt_i, mm_rt_r, mm_c_eq, mm_c_ne, mm_c_lt, mm_c_ge, mm_c_gt, mm_c_le, mm_sw_n, mm_sw_c, mm_alc_n, mm_alc_c, mm_rc_n, mm_rc_c, reduceCtorEq, false_implies, implies_true, true_implies, true_or, or_true, false_or, or_false, not_false_eq_true, mm_at_0, mm_at_s, mm_set_0, mm_set_s, mm_nl_n, mm_nl_i, mm_nl_r, mm_args_n, mm_args_i, mm_args_l, mm_args_r, mm_pad_0, mm_pad_n, mm_pad_c, List.length_cons, List.length_nil, List.nil_append, List.cons_append, Nat.zero_le, Nat.sub_zero, true_and, and_true, Nat.reduceAdd, Nat.reduceLeDiff, Nat.reduceLT, Nat.reduceSub, Nat.lt_irrefl, Nat.zero_add, Nat.add_zero, k_20, k_10, k_01, mm_if_T, mm_if_F, not_true_eq_false, not_false_eq_true, c3, h1, h2, q1, q2, q4, r5, r6, e_79 (d + 3) hC s1, hval, hcan, tf_0, t_40]
      refine t_87 (d + 2) hI (fun M1 hI1 hF1 => ?_)
      obtain ⟨ps1, hC1, -, hR1, hW1, -⟩ := id hI1
      have hS1 := hC1.1
      have c31 : mm_R M1 5 0 3 = some 0 := hC1.2.2.2.2.1
      obtain ⟨h11, h21, h31⟩ := hS1 0 (by omega)
      obtain ⟨t1, t2, t3, t4, t5⟩ := id hR1
      simp only [eC_61, eK_61_0, eK_61_1, eK_61_2, pw_aaload, pw_aload_n, pw_bipush, pw_getfield, pw_iconst, pw_ifCond, pw_iload_n, pw_invokevirtual, pw_ireturn, mm_pI_c, mm_pL_c, mm_pA_c, mm_pR_c, mm_p1_i, mm_p1_r, mm_pN_0, mm_pN_s, mm_lI_c, mm_lL_c, mm_lA_c, mm_wd_n, mm_wd_i, mm_wd_l, mm_wd_r, mm_gf_i, mm_gf_b, mm_gf_r, mm_rf_c, mm_pf_i, mm_pf_b, mm_pf_r, mm_rt_v, mm_rt_i, mm_rt_r, mm_c_eq, mm_c_ne, mm_c_lt, mm_c_ge, mm_c_gt, mm_c_le, mm_sw_n, mm_sw_c, mm_alc_n, mm_alc_c, mm_rc_n, mm_rc_c, reduceCtorEq, false_implies, implies_true, true_implies, true_or, or_true, false_or, or_false, not_false_eq_true, mm_at_0, mm_at_s, mm_set_0, mm_set_s, mm_nl_n, mm_nl_i, mm_nl_r, mm_args_n, mm_args_i, mm_args_l, mm_args_r, mm_pad_0, mm_pad_n, mm_pad_c, List.length_cons, List.length_nil, List.nil_append, List.cons_append, Nat.zero_le, Nat.sub_zero, true_and, and_true, Nat.reduceAdd, Nat.reduceLeDiff, Nat.reduceLT, Nat.reduceSub, Nat.lt_irrefl, Nat.zero_add, Nat.add_zero, k_20, k_10, k_01, mm_if_T, mm_if_F, not_true_eq_false, not_false_eq_true, c31, e_79 (d + 3) hC1 t1]
      refine t_14 (d + 4) (s := 0) (by omega) hn hS1 hR1 hw (fun M2 hR2 hF2 => ?_)
      have c32 : mm_R M2 5 0 3 = some 0 := by unfold mm_R; rw [hF2.1]; exact c31
      have z3 : mm_I M2 2 0 3 = X.1.2.1 + X.1.1 w 6 := hR2.2.2.1
      simp only [eC_61, eK_61_0, eK_61_1, eK_61_2, pw_aaload, pw_aload_n, pw_bipush, pw_getfield, pw_iconst, pw_ifCond, pw_iload_n, pw_invokevirtual, pw_ireturn, mm_pI_c, mm_pL_c, mm_pA_c, mm_pR_c, mm_p1_i, mm_p1_r, mm_pN_0, mm_pN_s, mm_lI_c, mm_lL_c, mm_lA_c, mm_wd_n, mm_wd_i, mm_wd_l, mm_wd_r, mm_gf_i, mm_gf_b, mm_gf_r, mm_rf_c, mm_pf_i, mm_pf_b, mm_pf_r, mm_rt_v, mm_rt_i, mm_rt_r, mm_c_eq, mm_c_ne, mm_c_lt, mm_c_ge, mm_c_gt, mm_c_le, mm_sw_n, mm_sw_c, mm_alc_n, mm_alc_c, mm_rc_n, mm_rc_c, reduceCtorEq, false_implies, implies_true, true_implies, true_or, or_true, false_or, or_false, not_false_eq_true, mm_at_0, mm_at_s, mm_set_0, mm_set_s, mm_nl_n, mm_nl_i, mm_nl_r, mm_args_n, mm_args_i, mm_args_l, mm_args_r, mm_pad_0, mm_pad_n, mm_pad_c, List.length_cons, List.length_nil, List.nil_append, List.cons_append, Nat.zero_le, Nat.sub_zero, true_and, and_true, Nat.reduceAdd, Nat.reduceLeDiff, Nat.reduceLT, Nat.reduceSub, Nat.lt_irrefl, Nat.zero_add, Nat.add_zero, k_20, k_10, k_01, mm_if_T, mm_if_F, not_true_eq_false, not_false_eq_true, c32, z3]
      exact h M2 (I1_now hI1 hR2 hF2 (WF_me hW)) (FX_tr hF1 (FX_S hF2))
    · have e : T61 n X a P (nI w) = (-2, X, a, P) := by unfold T61; rw [if_pos hval, q2, if_neg hcan]
      rw [e] at h
      simp only [eC_61, eK_61_0, eK_61_1, eK_61_2, pw_aaload, pw_aload_n, pw_bipush, pw_getfield, pw_iconst, pw_ifCond, pw_iload_n, pw_invokevirtual, pw_ireturn, mm_pI_c, mm_pL_c, mm_pA_c, mm_pR_c, mm_p1_i, mm_p1_r, mm_pN_0, mm_pN_s, mm_lI_c, mm_lL_c, mm_lA_c, mm_wd_n, mm_wd_i, mm_wd_l, mm_wd_r, mm_gf_i, mm_gf_b, mm_gf_r, mm_rf_c, mm_pf_i, mm_pf_b, mm_pf_r, mm_rt_v, mm_rt_i, mm_rt_r, mm_c_eq, mm_c_ne, mm_c_lt, mm_c_ge, mm_c_gt, mm_c_le, mm_sw_n, mm_sw_c, mm_alc_n, mm_alc_c, mm_rc_n, mm_rc_c, reduceCtorEq, false_implies, implies_true, true_implies, true_or, or_true, false_or, or_false, not_false_eq_true, mm_at_0, mm_at_s, mm_set_0, mm_set_s, mm_nl_n, mm_nl_i, mm_nl_r, mm_args_n, mm_args_i, mm_args_l, mm_args_r, mm_pad_0, mm_pad_n, mm_pad_c, List.length_cons, List.length_nil, List.nil_append, List.cons_append, Nat.zero_le, Nat.sub_zero, true_and, and_true, Nat.reduceAdd, Nat.reduceLeDiff, Nat.reduceLT, Nat.reduceSub, Nat.lt_irrefl, Nat.zero_add, Nat.add_zero, k_20, k_10, k_01, mm_if_T, mm_if_F, not_true_eq_false, not_false_eq_true, c3, h1, h2, q1, q2, q4, r5, r6, e_79 (d + 3) hC s1, hval, hcan, tf_0, t_40]
      exact h M hI (FX_rf M)
  · have e : T61 n X a P x = (-1, X, a, P) := by unfold T61; rw [if_neg hval]
    rw [e] at h
    have hM := h M hI (FX_rf M)
    simp only [eC_61, eK_61_0, eK_61_1, eK_61_2, pw_aaload, pw_aload_n, pw_bipush, pw_getfield, pw_iconst, pw_ifCond, pw_iload_n, pw_invokevirtual, pw_ireturn, mm_pI_c, mm_pL_c, mm_pA_c, mm_pR_c, mm_p1_i, mm_p1_r, mm_pN_0, mm_pN_s, mm_lI_c, mm_lL_c, mm_lA_c, mm_wd_n, mm_wd_i, mm_wd_l, mm_wd_r, mm_gf_i, mm_gf_b, mm_gf_r, mm_rf_c, mm_pf_i, mm_pf_b, mm_pf_r, mm_rt_v, mm_rt_i, mm_rt_r, mm_c_eq, mm_c_ne, mm_c_lt, mm_c_ge, mm_c_gt, mm_c_le, mm_sw_n, mm_sw_c, mm_alc_n, mm_alc_c, mm_rc_n, mm_rc_c, reduceCtorEq, false_implies, implies_true, true_implies, true_or, or_true, false_or, or_false, not_false_eq_true, mm_at_0, mm_at_s, mm_set_0, mm_set_s, mm_nl_n, mm_nl_i, mm_nl_r, mm_args_n, mm_args_i, mm_args_l, mm_args_r, mm_pad_0, mm_pad_n, mm_pad_c, List.length_cons, List.length_nil, List.nil_append, List.cons_append, Nat.zero_le, Nat.sub_zero, true_and, and_true, Nat.reduceAdd, Nat.reduceLeDiff, Nat.reduceLT, Nat.reduceSub, Nat.lt_irrefl, Nat.zero_add, Nat.add_zero, k_20, k_10, k_01, mm_if_T, mm_if_F, not_true_eq_false, not_false_eq_true, c3, e_79 (d + 3) hC s1, tf_0, mm_if, ]
    grind
