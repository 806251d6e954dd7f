/-! THE REFERENCE: all of its streets; what is known of before -/
def SK (n : Nat) (X Y : Sx) : Prop := ∀ w, w < n → ∀ k, k < 3 → Y.1.1 w k = X.1.1 w k
def J1 (M : mm_M) (n : Nat) (X : Sx) (a : Nat) (P : Nat → Sx) (b : Nat) (K : Nat → Sx) : Prop := LyM M ∧ RM M n X.1.1 ∧ RB M 0 n X ∧ mm_I M 6 0 9 = nI a ∧ (∀ i, i < a → RB M (39 * (i + 1)) n (P i) ∧ SK n X (P i)) ∧ mm_I M 6 0 10 = nI b ∧ ∀ i, i < b → RB M (39 * (9 + i)) n (K i) ∧ SK n X (K i)
def J2 (M : mm_M) (q : Nat) (nx nl : Nat → Int32) (t : Nat) (lt : Nat → Int32) : Prop := mm_I M 6 0 16 = nI q ∧ (∀ i, i < q → mm_I M 7 12 i = nx i ∧ mm_I M 7 13 i = nl i) ∧ mm_I M 6 0 11 = nI t ∧ ∀ i, i < t → mm_I M 8 0 i = lt i
def FY (M M' : mm_M) : Prop := M'.2 = M.2 ∧ ∀ c i k, ¬ (c = 6 ∧ (k = 9 ∨ k = 10)) → ¬ (c = 7 ∧ (i = 11 ∨ i = 14 ∨ i = 15)) → mm_I M' c i k = mm_I M c i k
theorem FY_rf (M : mm_M) : FY M M := ⟨rfl, fun _ _ _ _ _ => rfl⟩
theorem FY_tr {M M1 M2 : mm_M} (h : FY M M1) (h' : FY M1 M2) : FY M M2 := ⟨h'.1.trans h.1, fun c i k a b => (h'.2 c i k a b).trans (h.2 c i k a b)⟩
theorem FY_B {M M' : mm_M} {B : Nat} (h : FB M M' B) : FY M M' := ⟨h.1, fun c i k _ b => h.2 c i k (fun z => b ⟨z.1, Or.inl z.2.1⟩)⟩
theorem FY_6 {M M' : mm_M} {k : Nat} {v : Int32} (h : FY M M') (hk : k = 9 ∨ k = 10) : FY M (mm_sI M' 6 0 k v) := ⟨h.1, fun c i k' a b => by rw [mm_I_sI, if_neg (fun z => a ⟨z.1, by omega⟩)]; exact h.2 c i k' a b⟩
theorem FY_11 {M M' : mm_M} {i k : Nat} {v : Int32} (h : FY M M') (hi : i = 11 ∨ i = 14 ∨ i = 15) : FY M (mm_sI M' 7 i k v) := ⟨h.1, fun c i' k' a b => by rw [mm_I_sI, if_neg (fun z => b ⟨z.1, by omega⟩)]; exact h.2 c i' k' a b⟩
theorem J2_Y {M M' : mm_M} (hF : FY M M') {q : Nat} {nx nl : Nat → Int32} {t : Nat} {lt : Nat → Int32} (h : J2 M q nx nl t lt) : J2 M' q nx nl t lt := by
  obtain ⟨h1, h2, h3, h4⟩ := h
  refine ⟨by rw [hF.2 6 0 16 (by omega) (by omega)]; exact h1, fun i hi => ?_, by rw [hF.2 6 0 11 (by omega) (by omega)]; exact h3, fun i hi => by rw [hF.2 8 0 i (by omega) (by omega)]; exact h4 i hi⟩
  rw [hF.2 7 12 i (by omega) (by omega), hF.2 7 13 i (by omega) (by omega)]
  exact h2 i hi
theorem J1_f {M M' : mm_M} {n : Nat} {X : Sx} {a : Nat} {P : Nat → Sx} {b : Nat} {K : Nat → Sx} (h : J1 M n X a P b K) (hn : n ≤ 7) (ha : a ≤ 8) (hb : b ≤ 2) (h2 : M'.2 = M.2) (e : ∀ c i k, (c = 6 ∧ (k = 0 ∨ k = 9 ∨ k = 10)) ∨ (c = 7 ∧ 5 ≤ i ∧ i < 8) ∨ (c = 7 ∧ i = 11 ∧ k < 429) → mm_I M' c i k = mm_I M c i k) : J1 M' n X a P b K := by
  obtain ⟨hL, hM, hR, h9, hP, h10, hK⟩ := h
  exact ⟨LyM_2 h2 hL, RM_e hM (fun c i k q => e c i k (by omega)), RB_e hR hn (fun k _ _ => e 7 11 k (by omega)), by rw [e 6 0 9 (by omega)]; exact h9, fun i hi => ⟨RB_e (hP i hi).1 hn (fun k _ _ => e 7 11 k (by omega)), (hP i hi).2⟩, by rw [e 6 0 10 (by omega)]; exact h10, fun i hi => ⟨RB_e (hK i hi).1 hn (fun k _ _ => e 7 11 k (by omega)), (hK i hi).2⟩⟩
theorem J1_t {M M' : mm_M} {n : Nat} {X : Sx} {a : Nat} {P : Nat → Sx} {b : Nat} {K : Nat → Sx} (h : J1 M n X a P b K) (hn : n ≤ 7) (ha : a ≤ 8) (hb : b ≤ 2) (hF : FB M M' 429) : J1 M' n X a P b K := J1_f h hn ha hb hF.1 (fun c i k q => hF.2 c i k (by omega))
theorem J1_now {M M' : mm_M} {n : Nat} {X X' : Sx} {a : Nat} {P : Nat → Sx} {b : Nat} {K : Nat → Sx} (h : J1 M n X a P b K) (hn : n ≤ 7) (hF : FB M M' 0) (hR : RB M' 0 n X') (hs : SK n X X') : J1 M' n X' a P b K := by
  obtain ⟨hL, hM, hR0, h9, hP, h10, hK⟩ := h
  exact ⟨LyM_2 hF.1 hL, RM_c (RM_B hM hF) hs, hR, by rw [hF.2 6 0 9 (by omega)]; exact h9, fun i hi => ⟨RB_B (hP i hi).1 hF (by omega) hn, fun w hw k hk => by rw [hs w hw k hk]; exact (hP i hi).2 w hw k hk⟩, by rw [hF.2 6 0 10 (by omega)]; exact h10, fun i hi => ⟨RB_B (hK i hi).1 hF (by omega) hn, fun w hw k hk => by rw [hs w hw k hk]; exact (hK i hi).2 w hw k hk⟩⟩
theorem nI_39 : ∀ a, a < 12 → nI a * 39 = nI (39 * a) := by decide +kernel

set_option maxHeartbeats 2000000 in
theorem k_133b (d : Nat) {M : mm_M} {post : mm_Post} {n : Nat} {X : Sx} {a : Nat} {P : Nat → Sx} {b : Nat} {K : Nat → Sx} (hJ : J1 M n X a P b K) (hn : n ≤ 7) (ha : a ≤ 7) (hb : b ≤ 2) (u : Option mm_V) (h : ∀ M', J1 M' n X (a + 1) (fun i => if i = a then X else P i) b K → FY M M' → post none M') : pK (d + 1) 133 post 3 [some (.inr (.inr (6, 0))), u] [] M (0, 0) := by
  obtain ⟨hL, hM, hR, h9, hP, h10, hK⟩ := id hJ
  have e39 := nI_39 (a + 1) (by omega)
  rw [eK_133_3]
  simp (disch := omega) only [pw_bipush, pw_iconst, pw_return_, qw_aload_n0, qw_dup_i, qw_dup_r, qw_gf_b, qw_gf_i, qw_gf_r, qw_iadd, qw_imul, qw_invokevirtual3, qw_pf_b, qw_pf_i, qw_pf_r, mm_rf_c, mm_rt_v, mm_rt_i, mm_rt_r, mm_alc_n, mm_alc_c, mm_rc_n, mm_rc_c, mm_wd_n, mm_wd_i, mm_wd_l, mm_wd_r, reduceCtorEq, false_implies, implies_true, true_implies, true_or, or_true, false_or, or_false, not_false_eq_true, mm_nl_n, mm_nl_i, mm_nl_r, mm_args_n, mm_args_i, mm_args_l, mm_args_r, mm_pad_0, mm_pad_n, mm_pad_c, List.length_cons, List.length_nil, List.nil_append, List.cons_append, Nat.zero_le, Nat.sub_zero, true_and, and_true, Nat.reduceAdd, Nat.reduceLeDiff, Nat.reduceLT, Nat.reduceSub, Nat.lt_irrefl, Nat.zero_add, Nat.add_zero, Nat.le_refl, k_20, k_10, k_01, ↓mm_if_T, ↓mm_if_F, ↓if10, ↓if00, not_true_eq_false, tf_01, ↓mm_if_tf, ↓mm_if_tn, ↓mm_if_nn, h9, nI_1, mm_I_s, e39]
  refine r_105 (B := 0) (C := 39 * (a + 1)) d (LyM_2 rfl hL) (by omega) (by omega) (by omega) (fun M' hF hc => ?_)
  simp only [mm_rt_v, pw_return_, List.nil_append, true_and]
  have hF0 : FY M (mm_sI M 6 0 9 (nI (a + 1))) := FY_6 (FY_rf M) (by omega)
  refine h M' ⟨LyM_2 (M := M) hF.1 hL, RM_e hM (fun c i k q => ?_), RB_B (B' := 39 * (a + 1)) (M := mm_sI M 6 0 9 (nI (a + 1))) (RB_e hR hn (fun k _ _ => by rw [mm_I_c (by omega)])) hF (by omega) hn, ?_, fun i hi => ?_, ?_, fun i hi => ?_⟩ (FY_tr hF0 (FY_B hF))
  · rw [hF.2 c i k (by omega), mm_I_sI, if_neg (by omega)]
  · rw [hF.2 6 0 9 (by omega), mm_I_s]
  · by_cases e : i = a
    · subst e
      simp only [if_true]
      exact ⟨RB_cp hn hR (fun k hk => by rw [hc k hk, mm_I_c (by omega)]), fun w hw k hk => rfl⟩
    · simp only [e, if_false]
      exact ⟨RB_B (B' := 39 * (a + 1)) (M := mm_sI M 6 0 9 (nI (a + 1))) (RB_e (hP i (by omega)).1 hn (fun k _ _ => by rw [mm_I_c (by omega)])) hF (by omega) hn, (hP i (by omega)).2⟩
  · rw [hF.2 6 0 10 (by omega), mm_I_k (by omega)]; exact h10
  · exact ⟨RB_B (B' := 39 * (a + 1)) (M := mm_sI M 6 0 9 (nI (a + 1))) (RB_e (hK i (by omega)).1 hn (fun k _ _ => by rw [mm_I_c (by omega)])) hF (by omega) hn, (hK i (by omega)).2⟩

set_option maxHeartbeats 2000000 in
theorem k_133 (d : Nat) {M : mm_M} {post : mm_Post} (h : ∀ M', M'.2 = M.2 → (∀ c i k, ¬ (c = 7 ∧ i = 11 ∧ 39 ≤ k ∧ k < 312) → mm_I M' c i k = mm_I M c i k) → (∀ k, 39 ≤ k → k < 312 → mm_I M' 7 11 k = mm_I M 7 11 (k + 39)) → pK d 133 post 3 [some (.inr (.inr (6, 0))), some (.inl (nI 312))] [] (mm_sI M' 6 0 9 7) (0, 0)) : ∀ (m v : Nat) (M1 : mm_M), v + m = 312 → 39 ≤ v → LyM M1 → M1.2 = M.2 → (∀ c i k, ¬ (c = 7 ∧ i = 11 ∧ 39 ≤ k ∧ k < v) → mm_I M1 c i k = mm_I M c i k) → (∀ k, 39 ≤ k → k < v → mm_I M1 7 11 k = mm_I M 7 11 (k + 39)) → pK d 133 post 1 [some (.inr (.inr (6, 0))), some (.inl (nI v))] [] M1 (0, 0) := by
  intro m
  induction m with
  | zero =>
    intro v M1 hv h39 hL h2 hF hk
    have e : v = 312 := by omega
    subst e
    rw [eK_133_1]
    simp (disch := omega) only [eK_133_2, pw_bipush, pw_goto, pw_nop0, pw_sipush, qw_aload_n0, qw_gf_b, qw_gf_i, qw_gf_r, qw_iadd, qw_iaload, qw_iastore, qw_if_icmp_ge, qw_iinc1, qw_iload_n1, qw_pf_b, qw_pf_i, qw_pf_r, mm_rf_c, mm_rt_v, mm_rt_i, mm_rt_r, mm_alc_n, mm_alc_c, mm_rc_n, mm_rc_c, mm_wd_n, mm_wd_i, mm_wd_l, mm_wd_r, reduceCtorEq, false_implies, implies_true, true_implies, true_or, or_true, false_or, or_false, not_false_eq_true, mm_nl_n, mm_nl_i, mm_nl_r, mm_args_n, mm_args_i, mm_args_l, mm_args_r, mm_pad_0, mm_pad_n, mm_pad_c, List.length_cons, List.length_nil, List.nil_append, List.cons_append, Nat.zero_le, Nat.sub_zero, true_and, and_true, Nat.reduceAdd, Nat.reduceLeDiff, Nat.reduceLT, Nat.reduceSub, Nat.lt_irrefl, Nat.zero_add, Nat.add_zero, Nat.le_refl, k_20, k_10, k_01, ↓mm_if_T, ↓mm_if_F, ↓if10, ↓if00, not_true_eq_false, tf_01, ↓mm_if_tf, ↓mm_if_tn, ↓mm_if_nn, ↓mm_if_t (show (312 : Int32) ≤ nI 312 by decide)]
    exact h M1 h2 hF hk
  | succ m ih =>
    intro v M1 hv h39 hL h2 hF hk
    have l1 := hL.1.2.2.2.2.2.2.1
    have l2 : mm_L M1 7 11 = 468 := hL.2.2.2.2.2.2.2.1
    have hlt : ¬ (312 : Int32) ≤ nI v := nI_ge (b := 312) (by omega) (by omega)
    have e39 : nI v + 39 = nI (v + 39) := nI_add v 39
    rw [eK_133_1]
    simp (disch := omega) only [pw_bipush, pw_goto, pw_sipush, qw_aload_n0, qw_gf_b, qw_gf_i, qw_gf_r, qw_iadd, qw_iaload, qw_iastore, qw_if_icmp_ge, qw_iinc1, qw_iload_n1, mm_rf_c, mm_rt_v, mm_rt_i, mm_rt_r, mm_alc_n, mm_alc_c, mm_rc_n, mm_rc_c, mm_wd_n, mm_wd_i, mm_wd_l, mm_wd_r, reduceCtorEq, false_implies, implies_true, true_implies, true_or, or_true, false_or, or_false, not_false_eq_true, mm_nl_n, mm_nl_i, mm_nl_r, mm_args_n, mm_args_i, mm_args_l, mm_args_r, mm_pad_0, mm_pad_n, mm_pad_c, List.length_cons, List.length_nil, List.nil_append, List.cons_append, Nat.zero_le, Nat.sub_zero, true_and, and_true, Nat.reduceAdd, Nat.reduceLeDiff, Nat.reduceLT, Nat.reduceSub, Nat.lt_irrefl, Nat.zero_add, Nat.add_zero, Nat.le_refl, k_20, k_10, k_01, ↓mm_if_T, ↓mm_if_F, ↓if10, ↓if00, not_true_eq_false, tf_01, ↓mm_if_tf, ↓mm_if_tn, ↓mm_if_nn, l1, l2, ↓mm_if_f hlt, e39, nI_1, nI_c7, nI_c8, nI_c15, nI_c22, nI_c29, nI_c36, nI_c361, nI_c38, nI_add, vi_, ci_, mm_L_s, mm_R_s, mm_I_c, mm_I_i, mm_I_k, mm_I_s]
    refine ih (v + 1) _ (by omega) (by omega) (LyM_2 rfl hL) h2 (fun c i k q => ?_) (fun k hk1 hk2 => ?_)
    · rw [mm_I_sI, if_neg (by omega)]
      exact hF c i k (by omega)
    · by_cases e : k = v
      · subst e
        rw [mm_I_s, hF 7 11 (k + 39) (by omega)]
      · rw [mm_I_k e]
        exact hk k hk1 (by omega)
theorem r_133 (d : Nat) {M : mm_M} {post : mm_Post} {n : Nat} {X : Sx} {a : Nat} {P : Nat → Sx} {b : Nat} {K : Nat → Sx} (hJ : J1 M n X a P b K) (hn : n ≤ 7) (ha : a ≤ 8) (hb : b ≤ 2) (h : ∀ M', J1 M' n X (pushP a P X).1 (pushP a P X).2 b K → FY M M' → post none M') : pC (d + 2) 133 [.inr (.inr (6, 0))] M post := by
  obtain ⟨hL, hM, hR, h9, hP, h10, hK⟩ := id hJ
  unfold pushP at h
  by_cases c : a < 8
  · simp only [c, if_true] at h
    have c8 : ¬ nI a = 8 := fun z => by have := (nI_eq (a := a) (b := 8) (by omega) (by omega)).mp z; omega
    have := k_133b d hJ hn (by omega) hb none h
    simp (disch := omega) only [eC_133, eK_133_0, pw_bipush, pw_nop0, qw_aload_n0, qw_gf_b, qw_gf_i, qw_gf_r, qw_if_icmp_ne, qw_istore_n1, mm_rf_c, mm_rt_v, mm_rt_i, mm_rt_r, mm_alc_n, mm_alc_c, mm_rc_n, mm_rc_c, mm_wd_n, mm_wd_i, mm_wd_l, mm_wd_r, reduceCtorEq, false_implies, implies_true, true_implies, true_or, or_true, false_or, or_false, not_false_eq_true, mm_nl_n, mm_nl_i, mm_nl_r, mm_args_n, mm_args_i, mm_args_l, mm_args_r, mm_pad_0, mm_pad_n, mm_pad_c, List.length_cons, List.length_nil, List.nil_append, List.cons_append, Nat.zero_le, Nat.sub_zero, true_and, and_true, Nat.reduceAdd, Nat.reduceLeDiff, Nat.reduceLT, Nat.reduceSub, Nat.lt_irrefl, Nat.zero_add, Nat.add_zero, Nat.le_refl, k_20, k_10, k_01, ↓mm_if_T, ↓mm_if_F, ↓if10, ↓if00, not_true_eq_false, tf_01, ↓mm_if_tf, ↓mm_if_tn, ↓mm_if_nn, h9, ↓mm_if_f c8]
    exact this
  · simp only [c, if_false] at h
    have e8 : a = 8 := by omega
    subst e8
    have c8 : nI 8 = (8 : Int32) := rfl
    have := k_133 (d + 1) (M := M) (post := post) (fun M' h2 hF hk => by
      have h39 : ∀ i, i < 7 → RB M' (39 * (i + 1)) n (P (i + 1)) := fun i hi => RB_cp (B := 39 * (i + 1 + 1)) hn (hP (i + 1) (by omega)).1 (fun k hk2 => by rw [hk _ (by omega) (by omega)]; congr 1; omega)
      have hJ' : J1 (mm_sI M' 6 0 9 7) n X 7 (fun i => P (i + 1)) b K := ⟨LyM_2 (M := M) h2 hL, RM_e hM (fun c i k q => by rw [mm_I_sI, if_neg (by omega)]; exact hF c i k (by omega)), RB_e hR hn (fun k _ _ => by rw [mm_I_c (by omega)]; exact hF 7 11 k (by omega)), mm_I_s, fun i hi => ⟨RB_e (h39 i hi) hn (fun k _ _ => by rw [mm_I_c (by omega)]), (hP (i + 1) (by omega)).2⟩, by rw [mm_I_k (by omega), hF 6 0 10 (by omega)]; exact h10, fun i hi => ⟨RB_e (hK i hi).1 hn (fun k _ _ => by rw [mm_I_c (by omega)]; exact hF 7 11 k (by omega)), (hK i hi).2⟩⟩
      have hY : FY M (mm_sI M' 6 0 9 7) := FY_6 (⟨h2, fun c i k q1 q2 => hF c i k (by omega)⟩ : FY M M') (by omega)
      exact k_133b d hJ' hn (by omega) hb _ (fun M2 j f => h M2 j (FY_tr hY f))) 273 39 M (by omega) (by omega) hL rfl (fun _ _ _ _ => rfl) (fun k a b => by omega)
    simp (disch := omega) only [eC_133, eK_133_0, pw_bipush, pw_nop0, qw_aload_n0, qw_gf_b, qw_gf_i, qw_gf_r, qw_if_icmp_ne, qw_istore_n1, mm_rf_c, mm_rt_v, mm_rt_i, mm_rt_r, mm_alc_n, mm_alc_c, mm_rc_n, mm_rc_c, mm_wd_n, mm_wd_i, mm_wd_l, mm_wd_r, reduceCtorEq, false_implies, implies_true, true_implies, true_or, or_true, false_or, or_false, not_false_eq_true, mm_nl_n, mm_nl_i, mm_nl_r, mm_args_n, mm_args_i, mm_args_l, mm_args_r, mm_pad_0, mm_pad_n, mm_pad_c, List.length_cons, List.length_nil, List.nil_append, List.cons_append, Nat.zero_le, Nat.sub_zero, true_and, and_true, Nat.reduceAdd, Nat.reduceLeDiff, Nat.reduceLT, Nat.reduceSub, Nat.lt_irrefl, Nat.zero_add, Nat.add_zero, Nat.le_refl, k_20, k_10, k_01, ↓mm_if_T, ↓mm_if_F, ↓if10, ↓if00, not_true_eq_false, tf_01, ↓mm_if_tf, ↓mm_if_tn, ↓mm_if_nn, h9, ↓mm_if_t c8]
    exact this

