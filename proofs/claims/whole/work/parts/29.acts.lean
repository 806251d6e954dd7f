/-! THE CLASS: acts. a step: the answer, the street, what can be undone -/
abbrev S4 : Type := Int32 × Sx × Nat × (Nat → Sx)
theorem I1_now {M M' : mm_M} {n : Nat} {X X' : Sx} {a : Nat} {P : Nat → Sx} {b : Nat} {K : Nat → Sx} (h : I1 M n X a P b K) (hR : RX M' 0 n X') (hF : FS M M' 0) (hW : WF n X'.1.1) : I1 M' n X' a P b K := by
  obtain ⟨ps, hC, hn, hR0, hW0, ha, ha2, hP, hb, hb2, hK⟩ := h
  have hps := hC.2.2.2.2.2.2.2.2.2.2.2.2.2.2.2.2.1
  exact ⟨ps, LyC_2 hF.1 hC, hn, hR, hW, ha, by rw [FS_5 hF]; exact ha2, fun i hi => ⟨RX_F (hP i hi).1 hF (by have := hps i (by omega); omega) hn, (hP i hi).2⟩, hb, by rw [FS_5 hF]; exact hb2, fun i hi => ⟨RX_F (hK i hi).1 hF (by omega) hn, (hK i hi).2⟩⟩
theorem WF_ca {n w : Nat} {A : Nat → Nat → Int32} {cp tn c t : Int32} (h : WF n A) (hc : 1 ≤ c ∧ c ≤ 30) (ht : 0 ≤ t ∧ t ≤ 30) : WF n (g_ca (A, cp, tn) w c t).1 := by
  intro v hv
  have := h v hv
  simp only [g_ca, up]
  by_cases e : v = w <;> simp_all
theorem WF_ha {n w : Nat} {A : Nat → Nat → Int32} {p q : Int32} (h : WF n A) (hw : w < n) (h1 : 1 ≤ A w 5) (hp : 0 ≤ p ∧ p ≤ 40) (hq : 0 ≤ q ∧ q ≤ 23) : WF n (g_ha A w p q) := by
  intro v hv
  have := h v hv
  simp only [g_ha, up]
  by_cases e : v = w <;> simp_all
  · rcases this.2.2.2.1 with e | e | e <;> simp_all
theorem WF_td {n w : Nat} {A : Nat → Nat → Int32} (h : WF n A) (h1 : A w 5 = 2) : WF n (up A w 5 1) := by
  intro v hv
  have := h v hv
  simp only [up]
  by_cases e : v = w <;> simp_all
theorem WF_me {n w : Nat} {X : St} (h : WF n X.1) : WF n (g_me X w).1 := by
  intro v hv
  have := h v hv
  simp only [g_me, up]
  by_cases e : v = w <;> simp_all
theorem WF_34 {n w : Nat} {A : Nat → Nat → Int32} {x y : Int32} (h : WF n A) (hy : y = 0 ∨ y = 1) : WF n (up (up A w 3 x) w 4 y) := by
  intro v hv
  have := h v hv
  simp only [up]
  by_cases e : v = w <;> simp_all
theorem WF_3 {n w : Nat} {A : Nat → Nat → Int32} {x : Int32} (h : WF n A) : WF n (up A w 3 x) := by
  intro v hv
  have := h v hv
  simp only [up]
  by_cases e : v = w <;> simp_all
theorem WF_ho {n w : Nat} {X : St} (h : WF n X.1) : WF n (g_ho X w).1 := by
  unfold g_ho
  split
  · exact WF_me (WF_34 h (Or.inr rfl))
  · exact WF_3 h
theorem WF_gl {n : Nat} {X : St} {bits : Int32} (h : WF n X.1) : ∀ v, WF n (g_gl X bits v).1
  | 0 => h
  | v + 1 => by
    unfold g_gl
    split
    · exact WF_ho (WF_gl h v)
    · exact WF_gl h v
theorem WF_go {n : Nat} {X : St} {dy : Int32} (h : WF n X.1) : WF n (g_go n X dy).1 := WF_gl h n
/-- a day, the day counted -/
def g_dx (n : Nat) (X : Sx) : Sx := (g_go n X.1 X.2, X.2 + 1)
def g_dn (n : Nat) (X : Sx) : Nat → Sx
  | 0 => X
  | k + 1 => g_dx n (g_dn n X k)
theorem WF_dn {n : Nat} {X : Sx} (h : WF n X.1.1) : ∀ k, WF n (g_dn n X k).1.1
  | 0 => h
  | k + 1 => WF_go (WF_dn h k)
def T58 (n : Nat) (X : Sx) (a : Nat) (P : Nat → Sx) (x c t : Int32) : S4 := if isw n x ∧ (1 ≤ c ∧ c ≤ 30) ∧ (0 ≤ t ∧ t ≤ 30) then (if ¬ 1 ≤ X.1.1 x.toNatClampNeg 5 ∧ X.1.1 x.toNatClampNeg 4 = 0 ∧ c ≤ X.1.2.1 ∧ t ≤ X.1.2.2 then (f_lo c t, (g_ca X.1 x.toNatClampNeg c t, X.2), pushP a P X) else (-2, X, a, P)) else (-1, X, a, P)
def T59 (n : Nat) (X : Sx) (a : Nat) (P : Nat → Sx) (x p h : Int32) : S4 := if isw n x ∧ (0 ≤ p ∧ p ≤ 40) ∧ (0 ≤ h ∧ h ≤ 23) then (if 1 ≤ X.1.1 x.toNatClampNeg 5 then (g_ot (g_ha X.1.1 x.toNatClampNeg p h) x.toNatClampNeg p 1 n, ((g_ha X.1.1 x.toNatClampNeg p h, X.1.2), X.2), pushP a P X) else (-2, X, a, P)) else (-1, X, a, P)
def T60 (n : Nat) (X : Sx) (a : Nat) (P : Nat → Sx) (x : Int32) : S4 := if isw n x then (if X.1.1 x.toNatClampNeg 5 = 2 then (X.1.1 x.toNatClampNeg 9, ((up X.1.1 x.toNatClampNeg 5 1, X.1.2), X.2), pushP a P X) else (-2, X, a, P)) else (-1, X, a, P)
def T61 (n : Nat) (X : Sx) (a : Nat) (P : Nat → Sx) (x : Int32) : S4 := if isw n x then (if 1 ≤ X.1.1 x.toNatClampNeg 5 then (X.1.2.1 + X.1.1 x.toNatClampNeg 6, (g_me X.1 x.toNatClampNeg, X.2), pushP a P X) else (-2, X, a, P)) else (-1, X, a, P)
def T62 (n : Nat) (X : Sx) (a : Nat) (P : Nat → Sx) (x : Int32) : S4 := if 1 ≤ x ∧ x ≤ 24 then ((g_dn n X x.toNatClampNeg).2, g_dn n X x.toNatClampNeg, pushP a P X) else (-1, X, a, P)
def T63 (X : Sx) (a : Nat) (P : Nat → Sx) : S4 := if 1 ≤ a then (nI (a - 1), P (a - 1), a - 1, P) else (-2, X, a, P)

set_option maxHeartbeats 8000000 in
theorem C61 (d : Nat) {n : Nat} {X : Sx} {a : Nat} {P : Nat → Sx} {b : Nat} {K : Nat → Sx} {M : mm_M} {post : mm_Post} (hI : I1 M n X a P b K) (x : Int32) (h : ∀ M', I1 M' n (T61 n X a P x).2.1 (T61 n X a P x).2.2.1 (T61 n X a P x).2.2.2 b K → FX M M' → post (some (.inl (T61 n X a P x).1)) M') : pC (d + 6) 61 [.inr (.inr (5, 0)), .inl x] M post := by
  obtain ⟨ps, hC, hn, hR, hW, ha, ha2, hP, hb, hb2, hK⟩ := id hI
  have hR0 : RS M 0 n X.1.1 X.2 X.1.2.1 X.1.2.2 := hR
  obtain ⟨s1, s2, s3, s4, s5⟩ := id hR0
  obtain ⟨hS, c0, c1, c2, c3, c4, c5, c6, m0, m1, m2, k1, k2, ct, cn, cp0, hps, hpi⟩ := id hC
  obtain ⟨h1, h2, h3⟩ := hS 0 (by omega)
  by_cases hval : isw n x
  · have hi : isw n x := hval
    obtain ⟨w, hw, rfl⟩ := isw_of hn hi
    obtain ⟨q1, q2, q3⟩ := nI_v7 hw hn
    have q4 := h3 w (by omega)
    have r := s5 w hw
    have r5 := r 5 (by omega)
    have r6 := r 6 (by omega)
    rw [Nat.mul_zero, Nat.zero_add] at q4
    simp only [Nat.mul_zero, Nat.zero_add] at r5 r6
    by_cases hcan : 1 ≤ X.1.1 w 5
    · have e : T61 n X a P (nI w) = (X.1.2.1 + X.1.1 w 6, (g_me X.1 w, X.2), pushP a P X) := by unfold T61; rw [if_pos hval, q2, if_pos hcan]
      rw [e] at h
      simp only [eC_61, eK_61_0, eK_61_1, eK_61_2, pw_aaload, pw_aload_n, pw_bipush, pw_getfield, pw_iconst, pw_ifCond, pw_iload_n, pw_invokevirtual, pw_ireturn, mm_pI_c, mm_pL_c, mm_pA_c, mm_pR_c, mm_p1_i, mm_p1_r, mm_pN_0, mm_pN_s, mm_lI_c, mm_lL_c, mm_lA_c, mm_wd_n, mm_wd_i, mm_wd_l, mm_wd_r, mm_gf_i, mm_gf_b, mm_gf_r, mm_rf_c, mm_pf_i, mm_pf_b, mm_pf_r, mm_rt_v, mm_rt_i, mm_rt_r, mm_c_eq, mm_c_ne, mm_c_lt, mm_c_ge, mm_c_gt, mm_c_le, mm_sw_n, mm_sw_c, mm_alc_n, mm_alc_c, mm_rc_n, mm_rc_c, reduceCtorEq, false_implies, implies_true, true_implies, true_or, or_true, false_or, or_false, not_false_eq_true, mm_at_0, mm_at_s, mm_set_0, mm_set_s, mm_nl_n, mm_nl_i, mm_nl_r, mm_args_n, mm_args_i, mm_args_l, mm_args_r, mm_pad_0, mm_pad_n, mm_pad_c, List.length_cons, List.length_nil, List.nil_append, List.cons_append, Nat.zero_le, Nat.sub_zero, true_and, and_true, Nat.reduceAdd, Nat.reduceLeDiff, Nat.reduceLT, Nat.reduceSub, Nat.lt_irrefl, Nat.zero_add, Nat.add_zero, k_20, k_10, k_01, mm_if_T, mm_if_F, not_true_eq_false, not_false_eq_true, c3, h1, h2, q1, q2, q4, r5, r6, e_79 (d + 3) hC s1, hval, hcan, tf_0, t_40]
      refine t_87 (d + 2) hI (fun M1 hI1 hF1 => ?_)
      obtain ⟨ps1, hC1, -, hR1, hW1, -⟩ := id hI1
      have hS1 := hC1.1
      have c31 : mm_R M1 5 0 3 = some 0 := hC1.2.2.2.2.1
      obtain ⟨h11, h21, h31⟩ := hS1 0 (by omega)
      obtain ⟨t1, t2, t3, t4, t5⟩ := id hR1
      simp only [eC_61, eK_61_0, eK_61_1, eK_61_2, pw_aaload, pw_aload_n, pw_bipush, pw_getfield, pw_iconst, pw_ifCond, pw_iload_n, pw_invokevirtual, pw_ireturn, mm_pI_c, mm_pL_c, mm_pA_c, mm_pR_c, mm_p1_i, mm_p1_r, mm_pN_0, mm_pN_s, mm_lI_c, mm_lL_c, mm_lA_c, mm_wd_n, mm_wd_i, mm_wd_l, mm_wd_r, mm_gf_i, mm_gf_b, mm_gf_r, mm_rf_c, mm_pf_i, mm_pf_b, mm_pf_r, mm_rt_v, mm_rt_i, mm_rt_r, mm_c_eq, mm_c_ne, mm_c_lt, mm_c_ge, mm_c_gt, mm_c_le, mm_sw_n, mm_sw_c, mm_alc_n, mm_alc_c, mm_rc_n, mm_rc_c, reduceCtorEq, false_implies, implies_true, true_implies, true_or, or_true, false_or, or_false, not_false_eq_true, mm_at_0, mm_at_s, mm_set_0, mm_set_s, mm_nl_n, mm_nl_i, mm_nl_r, mm_args_n, mm_args_i, mm_args_l, mm_args_r, mm_pad_0, mm_pad_n, mm_pad_c, List.length_cons, List.length_nil, List.nil_append, List.cons_append, Nat.zero_le, Nat.sub_zero, true_and, and_true, Nat.reduceAdd, Nat.reduceLeDiff, Nat.reduceLT, Nat.reduceSub, Nat.lt_irrefl, Nat.zero_add, Nat.add_zero, k_20, k_10, k_01, mm_if_T, mm_if_F, not_true_eq_false, not_false_eq_true, c31, e_79 (d + 3) hC1 t1]
      refine t_14 (d + 4) (s := 0) (by omega) hn hS1 hR1 hw (fun M2 hR2 hF2 => ?_)
      have c32 : mm_R M2 5 0 3 = some 0 := by unfold mm_R; rw [hF2.1]; exact c31
      have z3 : mm_I M2 2 0 3 = X.1.2.1 + X.1.1 w 6 := hR2.2.2.1
      simp only [eC_61, eK_61_0, eK_61_1, eK_61_2, pw_aaload, pw_aload_n, pw_bipush, pw_getfield, pw_iconst, pw_ifCond, pw_iload_n, pw_invokevirtual, pw_ireturn, mm_pI_c, mm_pL_c, mm_pA_c, mm_pR_c, mm_p1_i, mm_p1_r, mm_pN_0, mm_pN_s, mm_lI_c, mm_lL_c, mm_lA_c, mm_wd_n, mm_wd_i, mm_wd_l, mm_wd_r, mm_gf_i, mm_gf_b, mm_gf_r, mm_rf_c, mm_pf_i, mm_pf_b, mm_pf_r, mm_rt_v, mm_rt_i, mm_rt_r, mm_c_eq, mm_c_ne, mm_c_lt, mm_c_ge, mm_c_gt, mm_c_le, mm_sw_n, mm_sw_c, mm_alc_n, mm_alc_c, mm_rc_n, mm_rc_c, reduceCtorEq, false_implies, implies_true, true_implies, true_or, or_true, false_or, or_false, not_false_eq_true, mm_at_0, mm_at_s, mm_set_0, mm_set_s, mm_nl_n, mm_nl_i, mm_nl_r, mm_args_n, mm_args_i, mm_args_l, mm_args_r, mm_pad_0, mm_pad_n, mm_pad_c, List.length_cons, List.length_nil, List.nil_append, List.cons_append, Nat.zero_le, Nat.sub_zero, true_and, and_true, Nat.reduceAdd, Nat.reduceLeDiff, Nat.reduceLT, Nat.reduceSub, Nat.lt_irrefl, Nat.zero_add, Nat.add_zero, k_20, k_10, k_01, mm_if_T, mm_if_F, not_true_eq_false, not_false_eq_true, c32, z3]
      exact h M2 (I1_now hI1 hR2 hF2 (WF_me hW)) (FX_tr hF1 (FX_S hF2))
    · have e : T61 n X a P (nI w) = (-2, X, a, P) := by unfold T61; rw [if_pos hval, q2, if_neg hcan]
      rw [e] at h
      simp only [eC_61, eK_61_0, eK_61_1, eK_61_2, pw_aaload, pw_aload_n, pw_bipush, pw_getfield, pw_iconst, pw_ifCond, pw_iload_n, pw_invokevirtual, pw_ireturn, mm_pI_c, mm_pL_c, mm_pA_c, mm_pR_c, mm_p1_i, mm_p1_r, mm_pN_0, mm_pN_s, mm_lI_c, mm_lL_c, mm_lA_c, mm_wd_n, mm_wd_i, mm_wd_l, mm_wd_r, mm_gf_i, mm_gf_b, mm_gf_r, mm_rf_c, mm_pf_i, mm_pf_b, mm_pf_r, mm_rt_v, mm_rt_i, mm_rt_r, mm_c_eq, mm_c_ne, mm_c_lt, mm_c_ge, mm_c_gt, mm_c_le, mm_sw_n, mm_sw_c, mm_alc_n, mm_alc_c, mm_rc_n, mm_rc_c, reduceCtorEq, false_implies, implies_true, true_implies, true_or, or_true, false_or, or_false, not_false_eq_true, mm_at_0, mm_at_s, mm_set_0, mm_set_s, mm_nl_n, mm_nl_i, mm_nl_r, mm_args_n, mm_args_i, mm_args_l, mm_args_r, mm_pad_0, mm_pad_n, mm_pad_c, List.length_cons, List.length_nil, List.nil_append, List.cons_append, Nat.zero_le, Nat.sub_zero, true_and, and_true, Nat.reduceAdd, Nat.reduceLeDiff, Nat.reduceLT, Nat.reduceSub, Nat.lt_irrefl, Nat.zero_add, Nat.add_zero, k_20, k_10, k_01, mm_if_T, mm_if_F, not_true_eq_false, not_false_eq_true, c3, h1, h2, q1, q2, q4, r5, r6, e_79 (d + 3) hC s1, hval, hcan, tf_0, t_40]
      exact h M hI (FX_rf M)
  · have e : T61 n X a P x = (-1, X, a, P) := by unfold T61; rw [if_neg hval]
    rw [e] at h
    have hM := h M hI (FX_rf M)
    simp only [eC_61, eK_61_0, eK_61_1, eK_61_2, pw_aaload, pw_aload_n, pw_bipush, pw_getfield, pw_iconst, pw_ifCond, pw_iload_n, pw_invokevirtual, pw_ireturn, mm_pI_c, mm_pL_c, mm_pA_c, mm_pR_c, mm_p1_i, mm_p1_r, mm_pN_0, mm_pN_s, mm_lI_c, mm_lL_c, mm_lA_c, mm_wd_n, mm_wd_i, mm_wd_l, mm_wd_r, mm_gf_i, mm_gf_b, mm_gf_r, mm_rf_c, mm_pf_i, mm_pf_b, mm_pf_r, mm_rt_v, mm_rt_i, mm_rt_r, mm_c_eq, mm_c_ne, mm_c_lt, mm_c_ge, mm_c_gt, mm_c_le, mm_sw_n, mm_sw_c, mm_alc_n, mm_alc_c, mm_rc_n, mm_rc_c, reduceCtorEq, false_implies, implies_true, true_implies, true_or, or_true, false_or, or_false, not_false_eq_true, mm_at_0, mm_at_s, mm_set_0, mm_set_s, mm_nl_n, mm_nl_i, mm_nl_r, mm_args_n, mm_args_i, mm_args_l, mm_args_r, mm_pad_0, mm_pad_n, mm_pad_c, List.length_cons, List.length_nil, List.nil_append, List.cons_append, Nat.zero_le, Nat.sub_zero, true_and, and_true, Nat.reduceAdd, Nat.reduceLeDiff, Nat.reduceLT, Nat.reduceSub, Nat.lt_irrefl, Nat.zero_add, Nat.add_zero, k_20, k_10, k_01, mm_if_T, mm_if_F, not_true_eq_false, not_false_eq_true, c3, e_79 (d + 3) hC s1, tf_0, mm_if, ]
    grind
theorem RS_w0 {M : mm_M} {n : Nat} {A : Nat → Nat → Int32} {dy cp tn : Int32} (h : RS M 0 n A dy cp tn) (w k : Nat) (v : Int32) : RS (mm_sI M 4 w k v) 0 n (up A w k v) dy cp tn := by
  have := RS_w h w k v
  rw [Nat.mul_zero, Nat.zero_add] at this
  exact this
theorem FS_40 {M M' : mm_M} {w k : Nat} {v : Int32} (h : FS M M' 0) (hw : w < 7) : FS M (mm_sI M' 4 w k v) 0 := by
  have := FS_4 (s := 0) (w := w) (k := k) (v := v) h hw
  rw [Nat.mul_zero, Nat.zero_add] at this
  exact this
set_option maxHeartbeats 8000000 in
theorem C60 (d : Nat) {n : Nat} {X : Sx} {a : Nat} {P : Nat → Sx} {b : Nat} {K : Nat → Sx} {M : mm_M} {post : mm_Post} (hI : I1 M n X a P b K) (x : Int32) (h : ∀ M', I1 M' n (T60 n X a P x).2.1 (T60 n X a P x).2.2.1 (T60 n X a P x).2.2.2 b K → FX M M' → post (some (.inl (T60 n X a P x).1)) M') : pC (d + 5) 60 [.inr (.inr (5, 0)), .inl x] M post := by
  obtain ⟨ps, hC, hn, hR, hW, ha, ha2, hP, hb, hb2, hK⟩ := id hI
  have hR0 : RS M 0 n X.1.1 X.2 X.1.2.1 X.1.2.2 := hR
  obtain ⟨s1, s2, s3, s4, s5⟩ := id hR0
  obtain ⟨hS, c0, c1, c2, c3, c4, c5, c6, m0, m1, m2, k1, k2, ct, cn, cp0, hps, hpi⟩ := id hC
  obtain ⟨h1, h2, h3⟩ := hS 0 (by omega)
  by_cases hval : isw n x
  · have hi : isw n x := hval
    obtain ⟨w, hw, rfl⟩ := isw_of hn hi
    obtain ⟨q1, q2, q3⟩ := nI_v7 hw hn
    have q4 := h3 w (by omega)
    have r := s5 w hw
    have r5 := r 5 (by omega)
    have r9 := r 9 (by omega)
    rw [Nat.mul_zero, Nat.zero_add] at q4
    simp only [Nat.mul_zero, Nat.zero_add] at r5 r9
    by_cases hcan : X.1.1 w 5 = 2
    · have e : T60 n X a P (nI w) = (X.1.1 w 9, ((up X.1.1 w 5 1, X.1.2), X.2), pushP a P X) := by unfold T60; rw [if_pos hval, q2, if_pos hcan]
      rw [e] at h
      simp only [eC_60, eK_60_0, eK_60_1, eK_60_2, pw_aaload, pw_aload_n, pw_bipush, pw_getfield, pw_iconst, pw_ifCond, pw_iload_n, pw_invokevirtual, pw_ireturn, pw_putfield, mm_pI_c, mm_pL_c, mm_pA_c, mm_pR_c, mm_p1_i, mm_p1_r, mm_pN_0, mm_pN_s, mm_lI_c, mm_lL_c, mm_lA_c, mm_wd_n, mm_wd_i, mm_wd_l, mm_wd_r, mm_gf_i, mm_gf_b, mm_gf_r, mm_rf_c, mm_pf_i, mm_pf_b, mm_pf_r, mm_rt_v, mm_rt_i, mm_rt_r, mm_c_eq, mm_c_ne, mm_c_lt, mm_c_ge, mm_c_gt, mm_c_le, mm_sw_n, mm_sw_c, mm_alc_n, mm_alc_c, mm_rc_n, mm_rc_c, reduceCtorEq, false_implies, implies_true, true_implies, true_or, or_true, false_or, or_false, not_false_eq_true, mm_at_0, mm_at_s, mm_set_0, mm_set_s, mm_nl_n, mm_nl_i, mm_nl_r, mm_args_n, mm_args_i, mm_args_l, mm_args_r, mm_pad_0, mm_pad_n, mm_pad_c, List.length_cons, List.length_nil, List.nil_append, List.cons_append, Nat.zero_le, Nat.sub_zero, true_and, and_true, Nat.reduceAdd, Nat.reduceLeDiff, Nat.reduceLT, Nat.reduceSub, Nat.lt_irrefl, Nat.zero_add, Nat.add_zero, k_20, k_10, k_01, mm_if_T, mm_if_F, not_true_eq_false, not_false_eq_true, c3, h1, h2, q1, q2, q4, r5, r9, e_79 (d + 2) hC s1, hval, hcan, tf_0, t_41]
      refine t_87 (d + 1) hI (fun M1 hI1 hF1 => ?_)
      obtain ⟨ps1, hC1, -, hR1, hW1, -⟩ := id hI1
      have hS1 := hC1.1
      have c31 : mm_R M1 5 0 3 = some 0 := hC1.2.2.2.2.1
      obtain ⟨h11, h21, h31⟩ := hS1 0 (by omega)
      obtain ⟨t1, t2, t3, t4, t5⟩ := id hR1
      have q41 := h31 w (by omega)
      have t9 := t5 w hw 9 (by omega)
      rw [Nat.mul_zero, Nat.zero_add] at q41 t9
      simp only [eC_60, eK_60_0, eK_60_1, eK_60_2, pw_aaload, pw_aload_n, pw_bipush, pw_getfield, pw_iconst, pw_ifCond, pw_iload_n, pw_invokevirtual, pw_ireturn, pw_putfield, mm_pI_c, mm_pL_c, mm_pA_c, mm_pR_c, mm_p1_i, mm_p1_r, mm_pN_0, mm_pN_s, mm_lI_c, mm_lL_c, mm_lA_c, mm_wd_n, mm_wd_i, mm_wd_l, mm_wd_r, mm_gf_i, mm_gf_b, mm_gf_r, mm_rf_c, mm_pf_i, mm_pf_b, mm_pf_r, mm_rt_v, mm_rt_i, mm_rt_r, mm_c_eq, mm_c_ne, mm_c_lt, mm_c_ge, mm_c_gt, mm_c_le, mm_sw_n, mm_sw_c, mm_alc_n, mm_alc_c, mm_rc_n, mm_rc_c, reduceCtorEq, false_implies, implies_true, true_implies, true_or, or_true, false_or, or_false, not_false_eq_true, mm_at_0, mm_at_s, mm_set_0, mm_set_s, mm_nl_n, mm_nl_i, mm_nl_r, mm_args_n, mm_args_i, mm_args_l, mm_args_r, mm_pad_0, mm_pad_n, mm_pad_c, List.length_cons, List.length_nil, List.nil_append, List.cons_append, Nat.zero_le, Nat.sub_zero, true_and, and_true, Nat.reduceAdd, Nat.reduceLeDiff, Nat.reduceLT, Nat.reduceSub, Nat.lt_irrefl, Nat.zero_add, Nat.add_zero, k_20, k_10, k_01, mm_if_T, mm_if_F, not_true_eq_false, not_false_eq_true, c31, h11, h21, q1, q2, q41, t9, mm_I_k, mm_I_c, mm_I_s, mm_R_sI, mm_L_sI, mm_N_sI, Nat.reduceEqDiff, not_false_eq_true, ne_eq]
      exact h _ (I1_now hI1 (RS_w0 hR1 w 5 1) (FS_40 (FS_rf _ _) (by omega)) (WF_td hW hcan)) (FX_tr hF1 (FX_S (FS_40 (FS_rf _ _) (by omega))))
    · have e : T60 n X a P (nI w) = (-2, X, a, P) := by unfold T60; rw [if_pos hval, q2, if_neg hcan]
      rw [e] at h
      simp only [eC_60, eK_60_0, eK_60_1, eK_60_2, pw_aaload, pw_aload_n, pw_bipush, pw_getfield, pw_iconst, pw_ifCond, pw_iload_n, pw_invokevirtual, pw_ireturn, pw_putfield, mm_pI_c, mm_pL_c, mm_pA_c, mm_pR_c, mm_p1_i, mm_p1_r, mm_pN_0, mm_pN_s, mm_lI_c, mm_lL_c, mm_lA_c, mm_wd_n, mm_wd_i, mm_wd_l, mm_wd_r, mm_gf_i, mm_gf_b, mm_gf_r, mm_rf_c, mm_pf_i, mm_pf_b, mm_pf_r, mm_rt_v, mm_rt_i, mm_rt_r, mm_c_eq, mm_c_ne, mm_c_lt, mm_c_ge, mm_c_gt, mm_c_le, mm_sw_n, mm_sw_c, mm_alc_n, mm_alc_c, mm_rc_n, mm_rc_c, reduceCtorEq, false_implies, implies_true, true_implies, true_or, or_true, false_or, or_false, not_false_eq_true, mm_at_0, mm_at_s, mm_set_0, mm_set_s, mm_nl_n, mm_nl_i, mm_nl_r, mm_args_n, mm_args_i, mm_args_l, mm_args_r, mm_pad_0, mm_pad_n, mm_pad_c, List.length_cons, List.length_nil, List.nil_append, List.cons_append, Nat.zero_le, Nat.sub_zero, true_and, and_true, Nat.reduceAdd, Nat.reduceLeDiff, Nat.reduceLT, Nat.reduceSub, Nat.lt_irrefl, Nat.zero_add, Nat.add_zero, k_20, k_10, k_01, mm_if_T, mm_if_F, not_true_eq_false, not_false_eq_true, c3, h1, h2, q1, q2, q4, r5, r9, e_79 (d + 2) hC s1, hval, hcan, tf_0, t_41]
      exact h M hI (FX_rf M)
  · have e : T60 n X a P x = (-1, X, a, P) := by unfold T60; rw [if_neg hval]
    rw [e] at h
    have hM := h M hI (FX_rf M)
    simp only [eC_60, eK_60_0, eK_60_1, eK_60_2, pw_aaload, pw_aload_n, pw_bipush, pw_getfield, pw_iconst, pw_ifCond, pw_iload_n, pw_invokevirtual, pw_ireturn, pw_putfield, mm_pI_c, mm_pL_c, mm_pA_c, mm_pR_c, mm_p1_i, mm_p1_r, mm_pN_0, mm_pN_s, mm_lI_c, mm_lL_c, mm_lA_c, mm_wd_n, mm_wd_i, mm_wd_l, mm_wd_r, mm_gf_i, mm_gf_b, mm_gf_r, mm_rf_c, mm_pf_i, mm_pf_b, mm_pf_r, mm_rt_v, mm_rt_i, mm_rt_r, mm_c_eq, mm_c_ne, mm_c_lt, mm_c_ge, mm_c_gt, mm_c_le, mm_sw_n, mm_sw_c, mm_alc_n, mm_alc_c, mm_rc_n, mm_rc_c, reduceCtorEq, false_implies, implies_true, true_implies, true_or, or_true, false_or, or_false, not_false_eq_true, mm_at_0, mm_at_s, mm_set_0, mm_set_s, mm_nl_n, mm_nl_i, mm_nl_r, mm_args_n, mm_args_i, mm_args_l, mm_args_r, mm_pad_0, mm_pad_n, mm_pad_c, List.length_cons, List.length_nil, List.nil_append, List.cons_append, Nat.zero_le, Nat.sub_zero, true_and, and_true, Nat.reduceAdd, Nat.reduceLeDiff, Nat.reduceLT, Nat.reduceSub, Nat.lt_irrefl, Nat.zero_add, Nat.add_zero, k_20, k_10, k_01, mm_if_T, mm_if_F, not_true_eq_false, not_false_eq_true, c3, e_79 (d + 2) hC s1, tf_0, mm_if, ]
    grind
set_option maxHeartbeats 8000000 in
theorem C59 (d : Nat) {n : Nat} {X : Sx} {a : Nat} {P : Nat → Sx} {b : Nat} {K : Nat → Sx} {M : mm_M} {post : mm_Post} (hI : I1 M n X a P b K) (x : Int32) (p : Int32) (hr : Int32) (h : ∀ M', I1 M' n (T59 n X a P x p hr).2.1 (T59 n X a P x p hr).2.2.1 (T59 n X a P x p hr).2.2.2 b K → FX M M' → post (some (.inl (T59 n X a P x p hr).1)) M') : pC (d + 5) 59 [.inr (.inr (5, 0)), .inl x, .inl p, .inl hr] M post := by
  obtain ⟨ps, hC, hn, hR, hW, ha, ha2, hP, hb, hb2, hK⟩ := id hI
  have hR0 : RS M 0 n X.1.1 X.2 X.1.2.1 X.1.2.2 := hR
  obtain ⟨s1, s2, s3, s4, s5⟩ := id hR0
  obtain ⟨hS, c0, c1, c2, c3, c4, c5, c6, m0, m1, m2, k1, k2, ct, cn, cp0, hps, hpi⟩ := id hC
  obtain ⟨h1, h2, h3⟩ := hS 0 (by omega)
  by_cases hval : isw n x ∧ (0 ≤ p ∧ p ≤ 40) ∧ (0 ≤ hr ∧ hr ≤ 23)
  · have hi : isw n x := hval.1
    obtain ⟨w, hw, rfl⟩ := isw_of hn hi
    obtain ⟨q1, q2, q3⟩ := nI_v7 hw hn
    have q4 := h3 w (by omega)
    have r := s5 w hw
    have r5 := r 5 (by omega)
    rw [Nat.mul_zero, Nat.zero_add] at q4
    simp only [Nat.mul_zero, Nat.zero_add] at r5
    by_cases hcan : 1 ≤ X.1.1 w 5
    · have e : T59 n X a P (nI w) p hr = (g_ot (g_ha X.1.1 w p hr) w p 1 n, ((g_ha X.1.1 w p hr, X.1.2), X.2), pushP a P X) := by unfold T59; rw [if_pos hval, q2, if_pos hcan]
      rw [e] at h
      simp only [eC_59, eK_59_0, eK_59_1, eK_59_2, eK_59_3, pw_aaload, pw_aload_n, pw_bipush, pw_getfield, pw_iconst, pw_ifCond, pw_iload_n, pw_invokestatic, pw_invokevirtual, pw_ireturn, pw_nop0, mm_pI_c, mm_pL_c, mm_pA_c, mm_pR_c, mm_p1_i, mm_p1_r, mm_pN_0, mm_pN_s, mm_lI_c, mm_lL_c, mm_lA_c, mm_wd_n, mm_wd_i, mm_wd_l, mm_wd_r, mm_gf_i, mm_gf_b, mm_gf_r, mm_rf_c, mm_pf_i, mm_pf_b, mm_pf_r, mm_rt_v, mm_rt_i, mm_rt_r, mm_c_eq, mm_c_ne, mm_c_lt, mm_c_ge, mm_c_gt, mm_c_le, mm_sw_n, mm_sw_c, mm_alc_n, mm_alc_c, mm_rc_n, mm_rc_c, reduceCtorEq, false_implies, implies_true, true_implies, true_or, or_true, false_or, or_false, not_false_eq_true, mm_at_0, mm_at_s, mm_set_0, mm_set_s, mm_nl_n, mm_nl_i, mm_nl_r, mm_args_n, mm_args_i, mm_args_l, mm_args_r, mm_pad_0, mm_pad_n, mm_pad_c, List.length_cons, List.length_nil, List.nil_append, List.cons_append, Nat.zero_le, Nat.sub_zero, true_and, and_true, Nat.reduceAdd, Nat.reduceLeDiff, Nat.reduceLT, Nat.reduceSub, Nat.lt_irrefl, Nat.zero_add, Nat.add_zero, k_20, k_10, k_01, mm_if_T, mm_if_F, not_true_eq_false, not_false_eq_true, c3, h1, h2, q1, q2, q4, r5, e_79 (d + 2) hC s1, hval, hcan, tf_0, t_40, t_80, t_81]
      refine t_87 (d + 1) hI (fun M1 hI1 hF1 => ?_)
      obtain ⟨ps1, hC1, -, hR1, hW1, -⟩ := id hI1
      have hS1 := hC1.1
      have c31 : mm_R M1 5 0 3 = some 0 := hC1.2.2.2.2.1
      obtain ⟨h11, h21, h31⟩ := hS1 0 (by omega)
      obtain ⟨t1, t2, t3, t4, t5⟩ := id hR1
      have q41 := h31 w (by omega)
      rw [Nat.mul_zero, Nat.zero_add] at q41
      have hR2 : RS (mm_sI (mm_sI (mm_sI M1 4 w 9 p) 4 w 10 hr) 4 w 5 2) 0 n (g_ha X.1.1 w p hr) X.2 X.1.2.1 X.1.2.2 := RS_w0 (RS_w0 (RS_w0 hR1 w 9 p) w 10 hr) w 5 2
      have hS2 : LyS (mm_sI (mm_sI (mm_sI M1 4 w 9 p) 4 w 10 hr) 4 w 5 2) := LyS_2 (M := M1) rfl hS1
      have hF2 : FS M1 (mm_sI (mm_sI (mm_sI M1 4 w 9 p) 4 w 10 hr) 4 w 5 2) 0 := FS_40 (FS_40 (FS_40 (FS_rf _ _) (by omega)) (by omega)) (by omega)
      simp only [eC_59, eK_59_0, eK_59_1, eK_59_2, eK_59_3, pw_aaload, pw_aload_n, pw_bipush, pw_getfield, pw_iconst, pw_ifCond, pw_iload_n, pw_invokestatic, pw_invokevirtual, pw_ireturn, pw_nop0, mm_pI_c, mm_pL_c, mm_pA_c, mm_pR_c, mm_p1_i, mm_p1_r, mm_pN_0, mm_pN_s, mm_lI_c, mm_lL_c, mm_lA_c, mm_wd_n, mm_wd_i, mm_wd_l, mm_wd_r, mm_gf_i, mm_gf_b, mm_gf_r, mm_rf_c, mm_pf_i, mm_pf_b, mm_pf_r, mm_rt_v, mm_rt_i, mm_rt_r, mm_c_eq, mm_c_ne, mm_c_lt, mm_c_ge, mm_c_gt, mm_c_le, mm_sw_n, mm_sw_c, mm_alc_n, mm_alc_c, mm_rc_n, mm_rc_c, reduceCtorEq, false_implies, implies_true, true_implies, true_or, or_true, false_or, or_false, not_false_eq_true, mm_at_0, mm_at_s, mm_set_0, mm_set_s, mm_nl_n, mm_nl_i, mm_nl_r, mm_args_n, mm_args_i, mm_args_l, mm_args_r, mm_pad_0, mm_pad_n, mm_pad_c, List.length_cons, List.length_nil, List.nil_append, List.cons_append, Nat.zero_le, Nat.sub_zero, true_and, and_true, Nat.reduceAdd, Nat.reduceLeDiff, Nat.reduceLT, Nat.reduceSub, Nat.lt_irrefl, Nat.zero_add, Nat.add_zero, k_20, k_10, k_01, mm_if_T, mm_if_F, not_true_eq_false, not_false_eq_true, c31, h11, h21, q1, q2, q41, t_43, mm_R_sI, mm_L_sI, e_19 (d + 2) (show 0 < 20 by omega) hn hS2 hR2 hw p 1]
      exact h _ (I1_now hI1 hR2 hF2 (WF_ha hW hw hcan hval.2.1 hval.2.2)) (FX_tr hF1 (FX_S hF2))
    · have e : T59 n X a P (nI w) p hr = (-2, X, a, P) := by unfold T59; rw [if_pos hval, q2, if_neg hcan]
      rw [e] at h
      simp only [eC_59, eK_59_0, eK_59_1, eK_59_2, eK_59_3, pw_aaload, pw_aload_n, pw_bipush, pw_getfield, pw_iconst, pw_ifCond, pw_iload_n, pw_invokestatic, pw_invokevirtual, pw_ireturn, pw_nop0, mm_pI_c, mm_pL_c, mm_pA_c, mm_pR_c, mm_p1_i, mm_p1_r, mm_pN_0, mm_pN_s, mm_lI_c, mm_lL_c, mm_lA_c, mm_wd_n, mm_wd_i, mm_wd_l, mm_wd_r, mm_gf_i, mm_gf_b, mm_gf_r, mm_rf_c, mm_pf_i, mm_pf_b, mm_pf_r, mm_rt_v, mm_rt_i, mm_rt_r, mm_c_eq, mm_c_ne, mm_c_lt, mm_c_ge, mm_c_gt, mm_c_le, mm_sw_n, mm_sw_c, mm_alc_n, mm_alc_c, mm_rc_n, mm_rc_c, reduceCtorEq, false_implies, implies_true, true_implies, true_or, or_true, false_or, or_false, not_false_eq_true, mm_at_0, mm_at_s, mm_set_0, mm_set_s, mm_nl_n, mm_nl_i, mm_nl_r, mm_args_n, mm_args_i, mm_args_l, mm_args_r, mm_pad_0, mm_pad_n, mm_pad_c, List.length_cons, List.length_nil, List.nil_append, List.cons_append, Nat.zero_le, Nat.sub_zero, true_and, and_true, Nat.reduceAdd, Nat.reduceLeDiff, Nat.reduceLT, Nat.reduceSub, Nat.lt_irrefl, Nat.zero_add, Nat.add_zero, k_20, k_10, k_01, mm_if_T, mm_if_F, not_true_eq_false, not_false_eq_true, c3, h1, h2, q1, q2, q4, r5, e_79 (d + 2) hC s1, hval, hcan, tf_0, t_40, t_80, t_81]
      exact h M hI (FX_rf M)
  · have e : T59 n X a P x p hr = (-1, X, a, P) := by unfold T59; rw [if_neg hval]
    rw [e] at h
    have hM := h M hI (FX_rf M)
    simp only [eC_59, eK_59_0, eK_59_1, eK_59_2, eK_59_3, pw_aaload, pw_aload_n, pw_bipush, pw_getfield, pw_iconst, pw_ifCond, pw_iload_n, pw_invokestatic, pw_invokevirtual, pw_ireturn, pw_nop0, mm_pI_c, mm_pL_c, mm_pA_c, mm_pR_c, mm_p1_i, mm_p1_r, mm_pN_0, mm_pN_s, mm_lI_c, mm_lL_c, mm_lA_c, mm_wd_n, mm_wd_i, mm_wd_l, mm_wd_r, mm_gf_i, mm_gf_b, mm_gf_r, mm_rf_c, mm_pf_i, mm_pf_b, mm_pf_r, mm_rt_v, mm_rt_i, mm_rt_r, mm_c_eq, mm_c_ne, mm_c_lt, mm_c_ge, mm_c_gt, mm_c_le, mm_sw_n, mm_sw_c, mm_alc_n, mm_alc_c, mm_rc_n, mm_rc_c, reduceCtorEq, false_implies, implies_true, true_implies, true_or, or_true, false_or, or_false, not_false_eq_true, mm_at_0, mm_at_s, mm_set_0, mm_set_s, mm_nl_n, mm_nl_i, mm_nl_r, mm_args_n, mm_args_i, mm_args_l, mm_args_r, mm_pad_0, mm_pad_n, mm_pad_c, List.length_cons, List.length_nil, List.nil_append, List.cons_append, Nat.zero_le, Nat.sub_zero, true_and, and_true, Nat.reduceAdd, Nat.reduceLeDiff, Nat.reduceLT, Nat.reduceSub, Nat.lt_irrefl, Nat.zero_add, Nat.add_zero, k_20, k_10, k_01, mm_if_T, mm_if_F, not_true_eq_false, not_false_eq_true, c3, e_79 (d + 2) hC s1, tf_0, mm_if, t_80, t_81]
    grind
set_option maxHeartbeats 8000000 in
theorem C58 (d : Nat) {n : Nat} {X : Sx} {a : Nat} {P : Nat → Sx} {b : Nat} {K : Nat → Sx} {M : mm_M} {post : mm_Post} (hI : I1 M n X a P b K) (x : Int32) (c : Int32) (t : Int32) (h : ∀ M', I1 M' n (T58 n X a P x c t).2.1 (T58 n X a P x c t).2.2.1 (T58 n X a P x c t).2.2.2 b K → FX M M' → post (some (.inl (T58 n X a P x c t).1)) M') : pC (d + 6) 58 [.inr (.inr (5, 0)), .inl x, .inl c, .inl t] M post := by
  obtain ⟨ps, hC, hn, hR, hW, ha, ha2, hP, hb, hb2, hK⟩ := id hI
  have hR0 : RS M 0 n X.1.1 X.2 X.1.2.1 X.1.2.2 := hR
  obtain ⟨s1, s2, s3, s4, s5⟩ := id hR0
  obtain ⟨hS, c0, c1, c2, c3, c4, c5, c6, m0, m1, m2, k1, k2, ct, cn, cp0, hps, hpi⟩ := id hC
  obtain ⟨h1, h2, h3⟩ := hS 0 (by omega)
  by_cases hval : isw n x ∧ (1 ≤ c ∧ c ≤ 30) ∧ (0 ≤ t ∧ t ≤ 30)
  · have hi : isw n x := hval.1
    obtain ⟨w, hw, rfl⟩ := isw_of hn hi
    obtain ⟨q1, q2, q3⟩ := nI_v7 hw hn
    have q4 := h3 w (by omega)
    have r := s5 w hw
    have r5 := r 5 (by omega)
    rw [Nat.mul_zero, Nat.zero_add] at q4
    simp only [Nat.mul_zero, Nat.zero_add] at r5
    by_cases hcan : ¬ 1 ≤ X.1.1 w 5 ∧ X.1.1 w 4 = 0 ∧ c ≤ X.1.2.1 ∧ t ≤ X.1.2.2
    · have e : T58 n X a P (nI w) c t = (f_lo c t, (g_ca X.1 w c t, X.2), pushP a P X) := by unfold T58; rw [if_pos hval, q2, if_pos hcan]
      rw [e] at h
      simp only [eC_58, eK_58_0, eK_58_1, eK_58_2, eK_58_3, pw_aload_n, pw_bipush, pw_getfield, pw_iconst, pw_ifCond, pw_iload_n, pw_invokestatic, pw_invokevirtual, pw_ireturn, pw_nop0, mm_pI_c, mm_pL_c, mm_pA_c, mm_pR_c, mm_p1_i, mm_p1_r, mm_pN_0, mm_pN_s, mm_lI_c, mm_lL_c, mm_lA_c, mm_wd_n, mm_wd_i, mm_wd_l, mm_wd_r, mm_gf_i, mm_gf_b, mm_gf_r, mm_rf_c, mm_pf_i, mm_pf_b, mm_pf_r, mm_rt_v, mm_rt_i, mm_rt_r, mm_c_eq, mm_c_ne, mm_c_lt, mm_c_ge, mm_c_gt, mm_c_le, mm_sw_n, mm_sw_c, mm_alc_n, mm_alc_c, mm_rc_n, mm_rc_c, reduceCtorEq, false_implies, implies_true, true_implies, true_or, or_true, false_or, or_false, not_false_eq_true, mm_at_0, mm_at_s, mm_set_0, mm_set_s, mm_nl_n, mm_nl_i, mm_nl_r, mm_args_n, mm_args_i, mm_args_l, mm_args_r, mm_pad_0, mm_pad_n, mm_pad_c, List.length_cons, List.length_nil, List.nil_append, List.cons_append, Nat.zero_le, Nat.sub_zero, true_and, and_true, Nat.reduceAdd, Nat.reduceLeDiff, Nat.reduceLT, Nat.reduceSub, Nat.lt_irrefl, Nat.zero_add, Nat.add_zero, k_20, k_10, k_01, mm_if_T, mm_if_F, not_true_eq_false, not_false_eq_true, c3, h1, h2, q1, q2, q4, r5, e_79 (d + 3) hC s1, hval, hcan, tf_0, t_82, e_12 (d + 3) (show 0 < 20 by omega) hn hS hR0 hw]
      refine t_87 (d + 2) hI (fun M1 hI1 hF1 => ?_)
      obtain ⟨ps1, hC1, -, hR1, hW1, -⟩ := id hI1
      have hS1 := hC1.1
      have c31 : mm_R M1 5 0 3 = some 0 := hC1.2.2.2.2.1
      obtain ⟨h11, h21, h31⟩ := hS1 0 (by omega)
      obtain ⟨t1, t2, t3, t4, t5⟩ := id hR1
      simp only [eC_58, eK_58_0, eK_58_1, eK_58_2, eK_58_3, pw_aload_n, pw_bipush, pw_getfield, pw_iconst, pw_ifCond, pw_iload_n, pw_invokestatic, pw_invokevirtual, pw_ireturn, pw_nop0, mm_pI_c, mm_pL_c, mm_pA_c, mm_pR_c, mm_p1_i, mm_p1_r, mm_pN_0, mm_pN_s, mm_lI_c, mm_lL_c, mm_lA_c, mm_wd_n, mm_wd_i, mm_wd_l, mm_wd_r, mm_gf_i, mm_gf_b, mm_gf_r, mm_rf_c, mm_pf_i, mm_pf_b, mm_pf_r, mm_rt_v, mm_rt_i, mm_rt_r, mm_c_eq, mm_c_ne, mm_c_lt, mm_c_ge, mm_c_gt, mm_c_le, mm_sw_n, mm_sw_c, mm_alc_n, mm_alc_c, mm_rc_n, mm_rc_c, reduceCtorEq, false_implies, implies_true, true_implies, true_or, or_true, false_or, or_false, not_false_eq_true, mm_at_0, mm_at_s, mm_set_0, mm_set_s, mm_nl_n, mm_nl_i, mm_nl_r, mm_args_n, mm_args_i, mm_args_l, mm_args_r, mm_pad_0, mm_pad_n, mm_pad_c, List.length_cons, List.length_nil, List.nil_append, List.cons_append, Nat.zero_le, Nat.sub_zero, true_and, and_true, Nat.reduceAdd, Nat.reduceLeDiff, Nat.reduceLT, Nat.reduceSub, Nat.lt_irrefl, Nat.zero_add, Nat.add_zero, k_20, k_10, k_01, mm_if_T, mm_if_F, not_true_eq_false, not_false_eq_true, c31]
      refine t_13 (d + 1) (s := 0) (by omega) hn hS1 hR1 hw c t (fun M2 hR2 hF2 => ?_)
      simp only [eC_58, eK_58_0, eK_58_1, eK_58_2, eK_58_3, pw_aload_n, pw_bipush, pw_getfield, pw_iconst, pw_ifCond, pw_iload_n, pw_invokestatic, pw_invokevirtual, pw_ireturn, pw_nop0, mm_pI_c, mm_pL_c, mm_pA_c, mm_pR_c, mm_p1_i, mm_p1_r, mm_pN_0, mm_pN_s, mm_lI_c, mm_lL_c, mm_lA_c, mm_wd_n, mm_wd_i, mm_wd_l, mm_wd_r, mm_gf_i, mm_gf_b, mm_gf_r, mm_rf_c, mm_pf_i, mm_pf_b, mm_pf_r, mm_rt_v, mm_rt_i, mm_rt_r, mm_c_eq, mm_c_ne, mm_c_lt, mm_c_ge, mm_c_gt, mm_c_le, mm_sw_n, mm_sw_c, mm_alc_n, mm_alc_c, mm_rc_n, mm_rc_c, reduceCtorEq, false_implies, implies_true, true_implies, true_or, or_true, false_or, or_false, not_false_eq_true, mm_at_0, mm_at_s, mm_set_0, mm_set_s, mm_nl_n, mm_nl_i, mm_nl_r, mm_args_n, mm_args_i, mm_args_l, mm_args_r, mm_pad_0, mm_pad_n, mm_pad_c, List.length_cons, List.length_nil, List.nil_append, List.cons_append, Nat.zero_le, Nat.sub_zero, true_and, and_true, Nat.reduceAdd, Nat.reduceLeDiff, Nat.reduceLT, Nat.reduceSub, Nat.lt_irrefl, Nat.zero_add, Nat.add_zero, k_20, k_10, k_01, mm_if_T, mm_if_F, not_true_eq_false, not_false_eq_true, t_84]
      exact h M2 (I1_now hI1 hR2 hF2 (WF_ca hW hval.2.1 hval.2.2)) (FX_tr hF1 (FX_S hF2))
    · have e : T58 n X a P (nI w) c t = (-2, X, a, P) := by unfold T58; rw [if_pos hval, q2, if_neg hcan]
      rw [e] at h
      simp only [eC_58, eK_58_0, eK_58_1, eK_58_2, eK_58_3, pw_aload_n, pw_bipush, pw_getfield, pw_iconst, pw_ifCond, pw_iload_n, pw_invokestatic, pw_invokevirtual, pw_ireturn, pw_nop0, mm_pI_c, mm_pL_c, mm_pA_c, mm_pR_c, mm_p1_i, mm_p1_r, mm_pN_0, mm_pN_s, mm_lI_c, mm_lL_c, mm_lA_c, mm_wd_n, mm_wd_i, mm_wd_l, mm_wd_r, mm_gf_i, mm_gf_b, mm_gf_r, mm_rf_c, mm_pf_i, mm_pf_b, mm_pf_r, mm_rt_v, mm_rt_i, mm_rt_r, mm_c_eq, mm_c_ne, mm_c_lt, mm_c_ge, mm_c_gt, mm_c_le, mm_sw_n, mm_sw_c, mm_alc_n, mm_alc_c, mm_rc_n, mm_rc_c, reduceCtorEq, false_implies, implies_true, true_implies, true_or, or_true, false_or, or_false, not_false_eq_true, mm_at_0, mm_at_s, mm_set_0, mm_set_s, mm_nl_n, mm_nl_i, mm_nl_r, mm_args_n, mm_args_i, mm_args_l, mm_args_r, mm_pad_0, mm_pad_n, mm_pad_c, List.length_cons, List.length_nil, List.nil_append, List.cons_append, Nat.zero_le, Nat.sub_zero, true_and, and_true, Nat.reduceAdd, Nat.reduceLeDiff, Nat.reduceLT, Nat.reduceSub, Nat.lt_irrefl, Nat.zero_add, Nat.add_zero, k_20, k_10, k_01, mm_if_T, mm_if_F, not_true_eq_false, not_false_eq_true, c3, h1, h2, q1, q2, q4, r5, e_79 (d + 3) hC s1, hval, hcan, tf_0, t_82, e_12 (d + 3) (show 0 < 20 by omega) hn hS hR0 hw]
      exact h M hI (FX_rf M)
  · have e : T58 n X a P x c t = (-1, X, a, P) := by unfold T58; rw [if_neg hval]
    rw [e] at h
    have hM := h M hI (FX_rf M)
    simp only [eC_58, eK_58_0, eK_58_1, eK_58_2, eK_58_3, pw_aload_n, pw_bipush, pw_getfield, pw_iconst, pw_ifCond, pw_iload_n, pw_invokestatic, pw_invokevirtual, pw_ireturn, pw_nop0, mm_pI_c, mm_pL_c, mm_pA_c, mm_pR_c, mm_p1_i, mm_p1_r, mm_pN_0, mm_pN_s, mm_lI_c, mm_lL_c, mm_lA_c, mm_wd_n, mm_wd_i, mm_wd_l, mm_wd_r, mm_gf_i, mm_gf_b, mm_gf_r, mm_rf_c, mm_pf_i, mm_pf_b, mm_pf_r, mm_rt_v, mm_rt_i, mm_rt_r, mm_c_eq, mm_c_ne, mm_c_lt, mm_c_ge, mm_c_gt, mm_c_le, mm_sw_n, mm_sw_c, mm_alc_n, mm_alc_c, mm_rc_n, mm_rc_c, reduceCtorEq, false_implies, implies_true, true_implies, true_or, or_true, false_or, or_false, not_false_eq_true, mm_at_0, mm_at_s, mm_set_0, mm_set_s, mm_nl_n, mm_nl_i, mm_nl_r, mm_args_n, mm_args_i, mm_args_l, mm_args_r, mm_pad_0, mm_pad_n, mm_pad_c, List.length_cons, List.length_nil, List.nil_append, List.cons_append, Nat.zero_le, Nat.sub_zero, true_and, and_true, Nat.reduceAdd, Nat.reduceLeDiff, Nat.reduceLT, Nat.reduceSub, Nat.lt_irrefl, Nat.zero_add, Nat.add_zero, k_20, k_10, k_01, mm_if_T, mm_if_F, not_true_eq_false, not_false_eq_true, c3, e_79 (d + 3) hC s1, tf_0, mm_if, t_82]
    grind
set_option maxHeartbeats 4000000 in
theorem l_62 (d : Nat) {n : Nat} {X : Sx} {a : Nat} {P : Nat → Sx} {b : Nat} {K : Nat → Sx} {M : mm_M} {post : mm_Post} (N : Nat) (hN : N ≤ 24) (hW : WF n X.1.1) (h : ∀ M', I1 M' n (g_dn n X N) a P b K → FX M M' → post (some (.inl (g_dn n X N).2)) M') : ∀ (m i : Nat) (M1 : mm_M), i + m = N → I1 M1 n (g_dn n X i) a P b K → FX M M1 → pK (d + 5) 62 post 2 [some (.inr (.inr (5, 0))), some (.inl (nI N)), some (.inl (nI i))] [] M1 (0, 0) := by
  intro m
  induction m with
  | zero =>
    intro i M1 hi hI hF
    have e : i = N := by omega
    subst e
    obtain ⟨ps, hC, hn, hR, -⟩ := id hI
    have c3 : mm_R M1 5 0 3 = some 0 := hC.2.2.2.2.1
    have s2 : mm_I M1 2 0 2 = (g_dn n X i).2 := hR.2.1
    rw [eK_62_2]
    simp only [eK_62_0, eK_62_1, eK_62_3, pw_aload_n, pw_bipush, pw_getfield, pw_goto, pw_iconst, pw_ifCond, pw_if_icmp, pw_iinc, pw_iload_n, pw_invokestatic, pw_invokevirtual, pw_ireturn, pw_istore_n, pw_nop0, mm_pI_c, mm_pL_c, mm_pA_c, mm_pR_c, mm_p1_i, mm_p1_r, mm_pN_0, mm_pN_s, mm_lI_c, mm_lL_c, mm_lA_c, mm_wd_n, mm_wd_i, mm_wd_l, mm_wd_r, mm_gf_i, mm_gf_b, mm_gf_r, mm_rf_c, mm_pf_i, mm_pf_b, mm_pf_r, mm_rt_v, mm_rt_i, mm_rt_r, mm_c_eq, mm_c_ne, mm_c_lt, mm_c_ge, mm_c_gt, mm_c_le, mm_sw_n, mm_sw_c, mm_alc_n, mm_alc_c, mm_rc_n, mm_rc_c, reduceCtorEq, false_implies, implies_true, true_implies, true_or, or_true, false_or, or_false, not_false_eq_true, mm_at_0, mm_at_s, mm_set_0, mm_set_s, mm_nl_n, mm_nl_i, mm_nl_r, mm_args_n, mm_args_i, mm_args_l, mm_args_r, mm_pad_0, mm_pad_n, mm_pad_c, List.length_cons, List.length_nil, List.nil_append, List.cons_append, Nat.zero_le, Nat.sub_zero, true_and, and_true, Nat.reduceAdd, Nat.reduceLeDiff, Nat.reduceLT, Nat.reduceSub, Nat.lt_irrefl, Nat.zero_add, Nat.add_zero, k_20, k_10, k_01, mm_if_T, mm_if_F, not_true_eq_false, not_false_eq_true, c3, s2, mm_if_t (nI_le (Nat.le_refl i) (show i < 2 ^ 31 by omega))]
    exact h M1 hI hF
  | succ m ih =>
    intro i M1 hi hI hF
    obtain ⟨ps, hC, hn, hR, -⟩ := id hI
    have c3 : mm_R M1 5 0 3 = some 0 := hC.2.2.2.2.1
    have q3 : ¬ nI N ≤ nI i := nI_ge (by omega) (by omega)
    rw [eK_62_2]
    simp only [eK_62_0, eK_62_1, eK_62_3, pw_aload_n, pw_bipush, pw_getfield, pw_goto, pw_iconst, pw_ifCond, pw_if_icmp, pw_iinc, pw_iload_n, pw_invokestatic, pw_invokevirtual, pw_ireturn, pw_istore_n, pw_nop0, mm_pI_c, mm_pL_c, mm_pA_c, mm_pR_c, mm_p1_i, mm_p1_r, mm_pN_0, mm_pN_s, mm_lI_c, mm_lL_c, mm_lA_c, mm_wd_n, mm_wd_i, mm_wd_l, mm_wd_r, mm_gf_i, mm_gf_b, mm_gf_r, mm_rf_c, mm_pf_i, mm_pf_b, mm_pf_r, mm_rt_v, mm_rt_i, mm_rt_r, mm_c_eq, mm_c_ne, mm_c_lt, mm_c_ge, mm_c_gt, mm_c_le, mm_sw_n, mm_sw_c, mm_alc_n, mm_alc_c, mm_rc_n, mm_rc_c, reduceCtorEq, false_implies, implies_true, true_implies, true_or, or_true, false_or, or_false, not_false_eq_true, mm_at_0, mm_at_s, mm_set_0, mm_set_s, mm_nl_n, mm_nl_i, mm_nl_r, mm_args_n, mm_args_i, mm_args_l, mm_args_r, mm_pad_0, mm_pad_n, mm_pad_c, List.length_cons, List.length_nil, List.nil_append, List.cons_append, Nat.zero_le, Nat.sub_zero, true_and, and_true, Nat.reduceAdd, Nat.reduceLeDiff, Nat.reduceLT, Nat.reduceSub, Nat.lt_irrefl, Nat.zero_add, Nat.add_zero, k_20, k_10, k_01, mm_if_T, mm_if_F, not_true_eq_false, not_false_eq_true, c3, mm_if_f q3, nI_1]
    refine t_23 d (s := 0) (by omega) hn hC.1 hR (fun M' hR' hF' => ?_)
    simp only [mm_rt_v, List.nil_append]
    exact ih (i + 1) M' (by omega) (I1_now hI hR' hF' (WF_dn hW (i + 1))) (FX_tr hF (FX_S hF'))

set_option maxHeartbeats 4000000 in
theorem C62 (d : Nat) {n : Nat} {X : Sx} {a : Nat} {P : Nat → Sx} {b : Nat} {K : Nat → Sx} {M : mm_M} {post : mm_Post} (hI : I1 M n X a P b K) (x : Int32) (h : ∀ M', I1 M' n (T62 n X a P x).2.1 (T62 n X a P x).2.2.1 (T62 n X a P x).2.2.2 b K → FX M M' → post (some (.inl (T62 n X a P x).1)) M') : pC (d + 6) 62 [.inr (.inr (5, 0)), .inl x] M post := by
  obtain ⟨ps, hC, hn, hR, hW, ha, ha2, hP, hb, hb2, hK⟩ := id hI
  by_cases hval : 1 ≤ x ∧ x ≤ 24
  · obtain ⟨N, hN, rfl⟩ := nI_of2 (M := 24) (n := 24) (by decide) (Int32.not_lt.mpr (Int32.le_trans (by decide) hval.1)) hval.2
    have q2 : (nI N).toNatClampNeg = N := nI_clamp (by omega)
    have e : T62 n X a P (nI N) = ((g_dn n X N).2, g_dn n X N, pushP a P X) := by unfold T62; rw [if_pos hval, q2]
    rw [e] at h
    simp only [eC_62, eK_62_0, eK_62_1, eK_62_3, pw_aload_n, pw_bipush, pw_getfield, pw_goto, pw_iconst, pw_ifCond, pw_if_icmp, pw_iinc, pw_iload_n, pw_invokestatic, pw_invokevirtual, pw_ireturn, pw_istore_n, pw_nop0, mm_pI_c, mm_pL_c, mm_pA_c, mm_pR_c, mm_p1_i, mm_p1_r, mm_pN_0, mm_pN_s, mm_lI_c, mm_lL_c, mm_lA_c, mm_wd_n, mm_wd_i, mm_wd_l, mm_wd_r, mm_gf_i, mm_gf_b, mm_gf_r, mm_rf_c, mm_pf_i, mm_pf_b, mm_pf_r, mm_rt_v, mm_rt_i, mm_rt_r, mm_c_eq, mm_c_ne, mm_c_lt, mm_c_ge, mm_c_gt, mm_c_le, mm_sw_n, mm_sw_c, mm_alc_n, mm_alc_c, mm_rc_n, mm_rc_c, reduceCtorEq, false_implies, implies_true, true_implies, true_or, or_true, false_or, or_false, not_false_eq_true, mm_at_0, mm_at_s, mm_set_0, mm_set_s, mm_nl_n, mm_nl_i, mm_nl_r, mm_args_n, mm_args_i, mm_args_l, mm_args_r, mm_pad_0, mm_pad_n, mm_pad_c, List.length_cons, List.length_nil, List.nil_append, List.cons_append, Nat.zero_le, Nat.sub_zero, true_and, and_true, Nat.reduceAdd, Nat.reduceLeDiff, Nat.reduceLT, Nat.reduceSub, Nat.lt_irrefl, Nat.zero_add, Nat.add_zero, k_20, k_10, k_01, mm_if_T, mm_if_F, not_true_eq_false, not_false_eq_true, t_82, tf_0, hval]
    refine t_87 (d + 2) hI (fun M1 hI1 hF1 => ?_)
    simp only [mm_rt_v, List.nil_append]
    exact l_62 d N hN hW (fun M' hI' hF' => h M' hI' (FX_tr hF1 hF')) N 0 M1 (by omega) hI1 (FX_rf _)
  · have e : T62 n X a P x = (-1, X, a, P) := by unfold T62; rw [if_neg hval]
    rw [e] at h
    have hM := h M hI (FX_rf M)
    simp only [eC_62, eK_62_0, eK_62_1, eK_62_3, pw_aload_n, pw_bipush, pw_getfield, pw_goto, pw_iconst, pw_ifCond, pw_if_icmp, pw_iinc, pw_iload_n, pw_invokestatic, pw_invokevirtual, pw_ireturn, pw_istore_n, pw_nop0, mm_pI_c, mm_pL_c, mm_pA_c, mm_pR_c, mm_p1_i, mm_p1_r, mm_pN_0, mm_pN_s, mm_lI_c, mm_lL_c, mm_lA_c, mm_wd_n, mm_wd_i, mm_wd_l, mm_wd_r, mm_gf_i, mm_gf_b, mm_gf_r, mm_rf_c, mm_pf_i, mm_pf_b, mm_pf_r, mm_rt_v, mm_rt_i, mm_rt_r, mm_c_eq, mm_c_ne, mm_c_lt, mm_c_ge, mm_c_gt, mm_c_le, mm_sw_n, mm_sw_c, mm_alc_n, mm_alc_c, mm_rc_n, mm_rc_c, reduceCtorEq, false_implies, implies_true, true_implies, true_or, or_true, false_or, or_false, not_false_eq_true, mm_at_0, mm_at_s, mm_set_0, mm_set_s, mm_nl_n, mm_nl_i, mm_nl_r, mm_args_n, mm_args_i, mm_args_l, mm_args_r, mm_pad_0, mm_pad_n, mm_pad_c, List.length_cons, List.length_nil, List.nil_append, List.cons_append, Nat.zero_le, Nat.sub_zero, true_and, and_true, Nat.reduceAdd, Nat.reduceLeDiff, Nat.reduceLT, Nat.reduceSub, Nat.lt_irrefl, Nat.zero_add, Nat.add_zero, k_20, k_10, k_01, mm_if_T, mm_if_F, not_true_eq_false, not_false_eq_true, t_82, tf_0, hval]
    exact hM

set_option maxHeartbeats 4000000 in
theorem C63 (d : Nat) {n : Nat} {X : Sx} {a : Nat} {P : Nat → Sx} {b : Nat} {K : Nat → Sx} {M : mm_M} {post : mm_Post} (hI : I1 M n X a P b K) (h : ∀ M', I1 M' n (T63 X a P).2.1 (T63 X a P).2.2.1 (T63 X a P).2.2.2 b K → FX M M' → post (some (.inl (T63 X a P).1)) M') : pC (d + 3) 63 [.inr (.inr (5, 0))] M post := by
  obtain ⟨ps, hC, hn, hR, hW, ha, ha2, hP, hb, hb2, hK⟩ := id hI
  obtain ⟨hS, c0, c1, c2, c3, c4, c5, c6, m0, m1, m2, k1, k2, ct, cn, cp0, hps, hpi⟩ := id hC
  by_cases hval : 1 ≤ a
  · have e : T63 X a P = (nI (a - 1), P (a - 1), a - 1, P) := if_pos hval
    rw [e] at h
    have hc : (1 : Int32) ≤ nI a := nI_le (a := 1) hval (by omega)
    have e1 : nI a - 1 = nI (a - 1) := nI_m1 (by omega)
    have va : vp_in (nI (a - 1)) 8 := vp_in_nI (by omega) (by omega)
    have na : (nI (a - 1)).toNatClampNeg = a - 1 := nI_clamp (by omega)
    have hpa := hps (a - 1) (by omega)
    have hpa1 := hpa.1
    obtain ⟨hPa, hWa⟩ := hP (a - 1) (by omega)
    have hRa : RX (mm_sI M 5 0 7 (nI (a - 1))) (ps (a - 1)) n (P (a - 1)) := RX_5 hPa _ _
    simp only [eC_63, eK_63_0, eK_63_1, pw_aaload, pw_aload_n, pw_bipush, pw_dup, pw_getfield, pw_iconst, pw_if_icmp, pw_invokevirtual, pw_ireturn, pw_isub, pw_putfield, mm_pI_c, mm_pL_c, mm_pA_c, mm_pR_c, mm_p1_i, mm_p1_r, mm_pN_0, mm_pN_s, mm_lI_c, mm_lL_c, mm_lA_c, mm_wd_n, mm_wd_i, mm_wd_l, mm_wd_r, mm_gf_i, mm_gf_b, mm_gf_r, mm_rf_c, mm_pf_i, mm_pf_b, mm_pf_r, mm_rt_v, mm_rt_i, mm_rt_r, mm_c_eq, mm_c_ne, mm_c_lt, mm_c_ge, mm_c_gt, mm_c_le, mm_sw_n, mm_sw_c, mm_alc_n, mm_alc_c, mm_rc_n, mm_rc_c, reduceCtorEq, false_implies, implies_true, true_implies, true_or, or_true, false_or, or_false, not_false_eq_true, mm_at_0, mm_at_s, mm_set_0, mm_set_s, mm_nl_n, mm_nl_i, mm_nl_r, mm_args_n, mm_args_i, mm_args_l, mm_args_r, mm_pad_0, mm_pad_n, mm_pad_c, List.length_cons, List.length_nil, List.nil_append, List.cons_append, Nat.zero_le, Nat.sub_zero, true_and, and_true, Nat.reduceAdd, Nat.reduceLeDiff, Nat.reduceLT, Nat.reduceSub, Nat.lt_irrefl, Nat.zero_add, Nat.add_zero, k_20, k_10, k_01, mm_if_T, mm_if_F, not_true_eq_false, not_false_eq_true, ha2, mm_if_t hc, e1, c3, c4, m0, va, na, hpa1, mm_I_s, mm_R_sI, mm_L_sI]
    refine t_10 (d := d) (M := mm_sI M 5 0 7 (nI (a - 1))) (s := 0) (s' := ps (a - 1)) (by omega) (by omega) (by omega) hn (LyS_2 rfl hS) hRa (fun w hw => (hWa w hw).2.2.1) (fun M' hR' hF' => ?_)
    have z7 : mm_I M' 5 0 7 = nI (a - 1) := by rw [FS_5 hF']; exact mm_I_s
    simp only [eC_63, eK_63_0, eK_63_1, pw_aaload, pw_aload_n, pw_bipush, pw_dup, pw_getfield, pw_iconst, pw_if_icmp, pw_invokevirtual, pw_ireturn, pw_isub, pw_putfield, mm_pI_c, mm_pL_c, mm_pA_c, mm_pR_c, mm_p1_i, mm_p1_r, mm_pN_0, mm_pN_s, mm_lI_c, mm_lL_c, mm_lA_c, mm_wd_n, mm_wd_i, mm_wd_l, mm_wd_r, mm_gf_i, mm_gf_b, mm_gf_r, mm_rf_c, mm_pf_i, mm_pf_b, mm_pf_r, mm_rt_v, mm_rt_i, mm_rt_r, mm_c_eq, mm_c_ne, mm_c_lt, mm_c_ge, mm_c_gt, mm_c_le, mm_sw_n, mm_sw_c, mm_alc_n, mm_alc_c, mm_rc_n, mm_rc_c, reduceCtorEq, false_implies, implies_true, true_implies, true_or, or_true, false_or, or_false, not_false_eq_true, mm_at_0, mm_at_s, mm_set_0, mm_set_s, mm_nl_n, mm_nl_i, mm_nl_r, mm_args_n, mm_args_i, mm_args_l, mm_args_r, mm_pad_0, mm_pad_n, mm_pad_c, List.length_cons, List.length_nil, List.nil_append, List.cons_append, Nat.zero_le, Nat.sub_zero, true_and, and_true, Nat.reduceAdd, Nat.reduceLeDiff, Nat.reduceLT, Nat.reduceSub, Nat.lt_irrefl, Nat.zero_add, Nat.add_zero, k_20, k_10, k_01, mm_if_T, mm_if_F, not_true_eq_false, not_false_eq_true, z7]
    have hI1 : I1 (mm_sI M 5 0 7 (nI (a - 1))) n X (a - 1) P b K := ⟨ps, LyC_2 (M := M) rfl hC, hn, RX_5 hR _ _, hW, by omega, mm_I_s, fun i hi => ⟨RX_5 (hP i (by omega)).1 _ _, (hP i (by omega)).2⟩, hb, by rw [mm_I_k (by decide)]; exact hb2, fun i hi => ⟨RX_5 (hK i hi).1 _ _, (hK i hi).2⟩⟩
    exact h M' (I1_now hI1 hR' hF' hWa) (FX_tr (FX_5 (FX_rf _)) (FX_S hF'))
  · have e : T63 X a P = (-2, X, a, P) := if_neg hval
    rw [e] at h
    have e0 : a = 0 := by omega
    subst e0
    have hc : ¬ (1 : Int32) ≤ nI 0 := by decide
    simp only [eC_63, eK_63_0, eK_63_1, pw_aaload, pw_aload_n, pw_bipush, pw_dup, pw_getfield, pw_iconst, pw_if_icmp, pw_invokevirtual, pw_ireturn, pw_isub, pw_putfield, mm_pI_c, mm_pL_c, mm_pA_c, mm_pR_c, mm_p1_i, mm_p1_r, mm_pN_0, mm_pN_s, mm_lI_c, mm_lL_c, mm_lA_c, mm_wd_n, mm_wd_i, mm_wd_l, mm_wd_r, mm_gf_i, mm_gf_b, mm_gf_r, mm_rf_c, mm_pf_i, mm_pf_b, mm_pf_r, mm_rt_v, mm_rt_i, mm_rt_r, mm_c_eq, mm_c_ne, mm_c_lt, mm_c_ge, mm_c_gt, mm_c_le, mm_sw_n, mm_sw_c, mm_alc_n, mm_alc_c, mm_rc_n, mm_rc_c, reduceCtorEq, false_implies, implies_true, true_implies, true_or, or_true, false_or, or_false, not_false_eq_true, mm_at_0, mm_at_s, mm_set_0, mm_set_s, mm_nl_n, mm_nl_i, mm_nl_r, mm_args_n, mm_args_i, mm_args_l, mm_args_r, mm_pad_0, mm_pad_n, mm_pad_c, List.length_cons, List.length_nil, List.nil_append, List.cons_append, Nat.zero_le, Nat.sub_zero, true_and, and_true, Nat.reduceAdd, Nat.reduceLeDiff, Nat.reduceLT, Nat.reduceSub, Nat.lt_irrefl, Nat.zero_add, Nat.add_zero, k_20, k_10, k_01, mm_if_T, mm_if_F, not_true_eq_false, not_false_eq_true, ha2, mm_if_f hc]
    exact h M hI (FX_rf M)

