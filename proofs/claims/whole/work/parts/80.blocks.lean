/-! THE LAW: class and reference side by side -/
theorem if_rf {a : Int32} {A B : Prop} : mm_if (a = a) A B = A := mm_if_t rfl
theorem LyM_C {M M' : mm_M} (h : FC M M') (hL : LyM M) : LyM M' := by
  obtain ⟨⟨a1, a2, a3, a4, a5, a6, a7, a8, a9, a10, a11, a12⟩, b1, b2, b3, b4, b5, b6, b7, b8, b9, b10, b11, b12⟩ := hL
  have r : ∀ k, mm_R M' 6 0 k = mm_R M 6 0 k := fun k => h.2.1 6 0 k (by omega)
  have l : ∀ c i, mm_L M' c i = mm_L M c i := fun c i => by unfold mm_L; rw [h.2.2]
  refine ⟨⟨?_, ?_, ?_, ?_, ?_, ?_, ?_, ?_, ?_, ?_, ?_, ?_⟩, ?_, ?_, ?_, ?_, ?_, ?_, ?_, ?_, ?_, ?_, ?_, ?_⟩ <;> first | (rw [r]; assumption) | (rw [l]; assumption)
theorem J1_C {M M' : mm_M} {n : Nat} {X : Sx} {a : Nat} {P : Nat → Sx} {b : Nat} {K : Nat → Sx} (hF : FC M M') (hn : n ≤ 7) (h : J1 M n X a P b K) : J1 M' n X a P b K := by
  obtain ⟨hL, hM, hR, h9, hP, h10, hK⟩ := h
  exact ⟨LyM_C hF hL, RM_e hM (fun c i k q => hF.1 c i k (by omega)), RB_e hR hn (fun k _ _ => hF.1 7 11 k (by omega)), by rw [hF.1 6 0 9 (by omega)]; exact h9, fun i hi => ⟨RB_e (hP i hi).1 hn (fun k _ _ => hF.1 7 11 k (by omega)), (hP i hi).2⟩, by rw [hF.1 6 0 10 (by omega)]; exact h10, fun i hi => ⟨RB_e (hK i hi).1 hn (fun k _ _ => hF.1 7 11 k (by omega)), (hK i hi).2⟩⟩
theorem J2_C {M M' : mm_M} (hF : FC M M') {q : Nat} {nx nl : Nat → Int32} {t : Nat} {lt : Nat → Int32} (h : J2 M q nx nl t lt) : J2 M' q nx nl t lt := by
  obtain ⟨h1, h2, h3, h4⟩ := h
  refine ⟨by rw [hF.1 6 0 16 (by omega)]; exact h1, fun i hi => ?_, by rw [hF.1 6 0 11 (by omega)]; exact h3, fun i hi => by rw [hF.1 8 0 i (by omega)]; exact h4 i hi⟩
  rw [hF.1 7 12 i (by omega), hF.1 7 13 i (by omega)]
  exact h2 i hi
theorem RX_N {M M' : mm_M} (hF : FN M M') {s n : Nat} {X : Sx} (h : RX M s n X) : RX M' s n X := by
  obtain ⟨h1, h2, h3, h4, h5⟩ := h
  have e : ∀ i k, mm_I M' 2 i k = mm_I M 2 i k := fun i k => hF.2 2 i k (by omega) (by omega) (by omega)
  exact ⟨by rw [e]; exact h1, by rw [e]; exact h2, by rw [e]; exact h3, by rw [e]; exact h4, fun w hw k hk => by rw [hF.2 4 (7 * s + w) k (by omega) (by omega) (by omega)]; exact h5 w hw k hk⟩
theorem I1_N {M M' : mm_M} {n : Nat} {X : Sx} {a : Nat} {P : Nat → Sx} {b : Nat} {K : Nat → Sx} (hF : FN M M') (h : I1 M n X a P b K) : I1 M' n X a P b K := by
  obtain ⟨ps, hC, hn, hR, hW, ha, ha2, hP, hb, hb2, hK⟩ := h
  exact ⟨ps, LyC_2 hF.1 hC, hn, RX_N hF hR, hW, ha, by rw [hF.2 5 0 7 (by omega) (by omega) (by omega)]; exact ha2, fun i hi => ⟨RX_N hF (hP i hi).1, (hP i hi).2⟩, hb, by rw [hF.2 5 0 8 (by omega) (by omega) (by omega)]; exact hb2, fun i hi => ⟨RX_N hF (hK i hi).1, (hK i hi).2⟩⟩
theorem I2_N {M M' : mm_M} (hF : FN M M') {q : Nat} {nx nl : Nat → Int32} {t : Nat} {lt : Nat → Int32} (h : I2 M q nx nl t lt) : I2 M' q nx nl t lt := by
  obtain ⟨h0, h1, h2, h3, h4, h5⟩ := h
  refine ⟨h0, by rw [hF.2 1 0 2 (by omega) (by omega) (by omega)]; exact h1, fun i hi => ?_, h3, by rw [hF.2 3 0 3 (by omega) (by omega) (by omega)]; exact h4, fun i hi => by rw [hF.2 7 0 i (by omega) (by omega) (by omega)]; exact h5 i hi⟩
  rw [hF.2 7 2 i (by omega) (by omega) (by omega), hF.2 7 3 i (by omega) (by omega) (by omega)]
  exact h2 i hi
def SC (M : mm_M) (L : Nat) (xs : Nat → Int32) : Prop := mm_L M 11 0 = L ∧ ∀ k, k < L → mm_I M 11 0 k = xs k
theorem SC_C {M M' : mm_M} {L : Nat} {xs : Nat → Int32} (hF : FC M M') (h : SC M L xs) : SC M' L xs := ⟨by have : mm_L M' 11 0 = mm_L M 11 0 := by unfold mm_L; rw [hF.2.2]
                                                                                                           rw [this]; exact h.1, fun k hk => by rw [hF.1 11 0 k (by omega)]; exact h.2 k hk⟩
theorem SC_N {M M' : mm_M} {L : Nat} {xs : Nat → Int32} (hF : FN M M') (h : SC M L xs) : SC M' L xs := ⟨by have : mm_L M' 11 0 = mm_L M 11 0 := by unfold mm_L; rw [hF.1]
                                                                                                           rw [this]; exact h.1, fun k hk => by rw [hF.2 11 0 k (by omega) (by omega) (by omega)]; exact h.2 k hk⟩
def LI (L : Nat) (xs : Nat → Int32) (M : mm_M) (n : Nat) (X : Sx) (a : Nat) (P : Nat → Sx) (b : Nat) (K : Nat → Sx) (q : Nat) (nx nl : Nat → Int32) (t : Nat) (lt : Nat → Int32) : Prop := I1 M n X a P b K ∧ I2 M q nx nl t lt ∧ J1 M n X a P b K ∧ J2 M q nx nl t lt ∧ 1 ≤ n ∧ (∀ i, i < q → 0 ≤ nx i ∧ nx i ≤ 40) ∧ SC M L xs
def NX (L : Nat) (xs : Nat → Int32) (post : mm_Post) (i : Nat) : Prop := ∀ M n X a P b K q nx nl t lt, LI L xs M n X a P b K q nx nl t lt → pK 40 166 post 32 [some (.inr (.inr (11, 0))), some (.inr (.inr (5, 0))), some (.inr (.inr (6, 0))), some (.inl (nI i))] [] M (0, 0)
theorem T70_nx {q : Nat} {nx nl : Nat → Int32} (x l : Int32) (h : ∀ i, i < q → 0 ≤ nx i ∧ nx i ≤ 40) : ∀ i, i < (T70 q nx nl x l).2.1 → 0 ≤ (T70 q nx nl x l).2.2.1 i ∧ (T70 q nx nl x l).2.2.1 i ≤ 40 := by
  unfold T70
  by_cases c : (0 ≤ x ∧ x ≤ 40) ∧ (0 ≤ l ∧ l ≤ 99)
  · rw [if_pos c]
    by_cases c2 : q < 6
    · rw [if_pos c2]
      intro i hi
      dsimp only at hi ⊢
      unfold fu
      by_cases e : i = q
      · rw [if_pos e]; exact c.1
      · rw [if_neg e]; exact h i (by omega)
    · rw [if_neg c2]; exact h
  · rw [if_neg c]; exact h
theorem pC_d {d d' k : Nat} {as : List mm_V} {M : mm_M} {post : mm_Post} (e : d = d') (h : pC d k as M post) : pC d' k as M post := e ▸ h
theorem j_1 (i : Nat) : nI i + 1 = nI (i + 1) := nI_add i 1
theorem j_2 (i : Nat) : nI i + 2 = nI (i + 2) := nI_add i 2
theorem j_3 (i : Nat) : nI i + 3 = nI (i + 3) := nI_add i 3
theorem j_4 (i : Nat) : nI i + 4 = nI (i + 4) := nI_add i 4
theorem v320 {k L : Nat} (hL : L ≤ 320) (h : k < L) : vp_in (nI k) L = True := eq_true (vp_in_nI h (by omega))

set_option maxHeartbeats 2000000 in
theorem b_2 {L : Nat} {xs : Nat → Int32} (hL : L ≤ 320) {i : Nat} (hi : i + 5 ≤ L) {post : mm_Post} (nxt : NX L xs post i) {M : mm_M} {n : Nat} {X : Sx} {a : Nat} {P : Nat → Sx} {b : Nat} {K : Nat → Sx} {q : Nat} {nx nl : Nat → Int32} {t : Nat} {lt : Nat → Int32} (h : LI L xs M n X a P b K q nx nl t lt) : pK 40 166 post 2 [some (.inr (.inr (11, 0))), some (.inr (.inr (5, 0))), some (.inr (.inr (6, 0))), some (.inl (nI i))] [] M (0, 0) := by
  obtain ⟨hI, hI2, hJ, hJ2, h1n, hnx, hs⟩ := h
  obtain ⟨ps, hC, hn, hR, hW, ha, -, -, hb, -, -⟩ := id hI
  have hq := hI2.1
  have ht := hI2.2.2.2.1
  have s0 := hs.1
  have w1 : mm_I M 11 0 (i + 1) = xs (i + 1) := hs.2 (i + 1) (by omega)
  rw [eK_166_2]
  simp (disch := omega) only [pw_iconst, qw_aload_n0, qw_aload_n1, qw_aload_n2, qw_iadd, qw_iaload, qw_if_icmp_eq, qw_iload_n3, qw_invokevirtual2, qw_ireturn, mm_rf_c, mm_rt_v, mm_rt_i, mm_rt_r, mm_alc_n, mm_alc_c, mm_rc_n, mm_rc_c, mm_wd_n, mm_wd_i, mm_wd_l, mm_wd_r, reduceCtorEq, false_implies, implies_true, true_implies, true_or, or_true, false_or, or_false, not_false_eq_true, mm_nl_n, mm_nl_i, mm_nl_r, mm_args_n, mm_args_i, mm_args_l, mm_args_r, mm_pad_0, mm_pad_n, mm_pad_c, List.length_cons, List.length_nil, List.nil_append, List.cons_append, Nat.zero_le, Nat.sub_zero, true_and, and_true, Nat.reduceAdd, Nat.reduceLeDiff, Nat.reduceLT, Nat.reduceSub, Nat.lt_irrefl, Nat.zero_add, Nat.add_zero, Nat.le_refl, k_20, k_10, k_01, ↓mm_if_T, ↓mm_if_F, ↓if10, ↓if00, not_true_eq_false, tf_01, ↓mm_if_tf, ↓mm_if_tn, ↓mm_if_nn, j_1, j_2, j_3, j_4, v320 hL, ci_, s0, w1]
  refine C49 38 hI hI2 (xs (i + 1)) (fun M1 hI1 hI21 hF1 => ?_)
  have FC1 := hF1
  have hu := SC_C FC1 hs
  have u0 := hu.1
  have u1 : mm_I M1 11 0 (i + 1) = xs (i + 1) := hu.2 (i + 1) (by omega)
  simp (disch := omega) only [pw_iconst, qw_aload_n0, qw_aload_n1, qw_aload_n2, qw_iadd, qw_iaload, qw_if_icmp_eq, qw_iload_n3, qw_invokevirtual2, qw_ireturn, mm_rf_c, mm_rt_v, mm_rt_i, mm_rt_r, mm_alc_n, mm_alc_c, mm_rc_n, mm_rc_c, mm_wd_n, mm_wd_i, mm_wd_l, mm_wd_r, reduceCtorEq, false_implies, implies_true, true_implies, true_or, or_true, false_or, or_false, not_false_eq_true, mm_nl_n, mm_nl_i, mm_nl_r, mm_args_n, mm_args_i, mm_args_l, mm_args_r, mm_pad_0, mm_pad_n, mm_pad_c, List.length_cons, List.length_nil, List.nil_append, List.cons_append, Nat.zero_le, Nat.sub_zero, true_and, and_true, Nat.reduceAdd, Nat.reduceLeDiff, Nat.reduceLT, Nat.reduceSub, Nat.lt_irrefl, Nat.zero_add, Nat.add_zero, Nat.le_refl, k_20, k_10, k_01, ↓mm_if_T, ↓mm_if_F, ↓if10, ↓if00, not_true_eq_false, tf_01, ↓mm_if_tf, ↓mm_if_tn, ↓mm_if_nn, j_1, j_2, j_3, j_4, v320 hL, ci_, u0, u1]
  refine r_107 38 (J1_C FC1 hn hJ).1 (J2_C FC1 hJ2) hq ht (xs (i + 1)) (fun M2 hJ22 hF2 => ?_)
  have FN2 := FN_6 hF2
  have hI2' := I1_N FN2 hI1
  have hI22 := I2_N FN2 hI21
  have hs2 := SC_N FN2 hu
  have hJ1 := J1_6 (J1_C FC1 hn hJ) hn ha hb hF2
  simp (disch := omega) only [pw_iconst, qw_aload_n0, qw_aload_n1, qw_aload_n2, qw_iadd, qw_iaload, qw_if_icmp_eq, qw_iload_n3, qw_invokevirtual2, qw_ireturn, mm_rf_c, mm_rt_v, mm_rt_i, mm_rt_r, mm_alc_n, mm_alc_c, mm_rc_n, mm_rc_c, mm_wd_n, mm_wd_i, mm_wd_l, mm_wd_r, reduceCtorEq, false_implies, implies_true, true_implies, true_or, or_true, false_or, or_false, not_false_eq_true, mm_nl_n, mm_nl_i, mm_nl_r, mm_args_n, mm_args_i, mm_args_l, mm_args_r, mm_pad_0, mm_pad_n, mm_pad_c, List.length_cons, List.length_nil, List.nil_append, List.cons_append, Nat.zero_le, Nat.sub_zero, true_and, and_true, Nat.reduceAdd, Nat.reduceLeDiff, Nat.reduceLT, Nat.reduceSub, Nat.lt_irrefl, Nat.zero_add, Nat.add_zero, Nat.le_refl, k_20, k_10, k_01, ↓mm_if_T, ↓mm_if_F, ↓if10, ↓if00, not_true_eq_false, tf_01, ↓mm_if_tf, ↓mm_if_tn, ↓mm_if_nn, ↓if_rf]
  exact nxt M2 n X a P b K q nx nl (T49 t lt (xs (i + 1))).2.1 (T49 t lt (xs (i + 1))).2.2 ⟨hI2', hI22, hJ1, hJ22, h1n, hnx, hs2⟩

set_option maxHeartbeats 2000000 in
theorem b_3 {L : Nat} {xs : Nat → Int32} (hL : L ≤ 320) {i : Nat} (hi : i + 5 ≤ L) {post : mm_Post} (nxt : NX L xs post i) {M : mm_M} {n : Nat} {X : Sx} {a : Nat} {P : Nat → Sx} {b : Nat} {K : Nat → Sx} {q : Nat} {nx nl : Nat → Int32} {t : Nat} {lt : Nat → Int32} (h : LI L xs M n X a P b K q nx nl t lt) : pK 40 166 post 3 [some (.inr (.inr (11, 0))), some (.inr (.inr (5, 0))), some (.inr (.inr (6, 0))), some (.inl (nI i))] [] M (0, 0) := by
  obtain ⟨hI, hI2, hJ, hJ2, h1n, hnx, hs⟩ := h
  obtain ⟨ps, hC, hn, hR, hW, ha, -, -, hb, -, -⟩ := id hI
  have hq := hI2.1
  have ht := hI2.2.2.2.1
  have s0 := hs.1
  rw [eK_166_3]
  simp (disch := omega) only [pw_iconst, qw_aload_n1, qw_aload_n2, qw_if_icmp_eq, qw_invokevirtual1, qw_ireturn, mm_rf_c, mm_rt_v, mm_rt_i, mm_rt_r, mm_alc_n, mm_alc_c, mm_rc_n, mm_rc_c, mm_wd_n, mm_wd_i, mm_wd_l, mm_wd_r, reduceCtorEq, false_implies, implies_true, true_implies, true_or, or_true, false_or, or_false, not_false_eq_true, mm_nl_n, mm_nl_i, mm_nl_r, mm_args_n, mm_args_i, mm_args_l, mm_args_r, mm_pad_0, mm_pad_n, mm_pad_c, List.length_cons, List.length_nil, List.nil_append, List.cons_append, Nat.zero_le, Nat.sub_zero, true_and, and_true, Nat.reduceAdd, Nat.reduceLeDiff, Nat.reduceLT, Nat.reduceSub, Nat.lt_irrefl, Nat.zero_add, Nat.add_zero, Nat.le_refl, k_20, k_10, k_01, ↓mm_if_T, ↓mm_if_F, ↓if10, ↓if00, not_true_eq_false, tf_01, ↓mm_if_tf, ↓mm_if_tn, ↓mm_if_nn, j_1, j_2, j_3, j_4, v320 hL, ci_, s0]
  refine C50 38 hI hI2 (fun M1 hI1 hI21 hF1 => ?_)
  have FC1 := hF1
  have hu := SC_C FC1 hs
  have u0 := hu.1
  simp (disch := omega) only [pw_iconst, qw_aload_n1, qw_aload_n2, qw_if_icmp_eq, qw_invokevirtual1, qw_ireturn, mm_rf_c, mm_rt_v, mm_rt_i, mm_rt_r, mm_alc_n, mm_alc_c, mm_rc_n, mm_rc_c, mm_wd_n, mm_wd_i, mm_wd_l, mm_wd_r, reduceCtorEq, false_implies, implies_true, true_implies, true_or, or_true, false_or, or_false, not_false_eq_true, mm_nl_n, mm_nl_i, mm_nl_r, mm_args_n, mm_args_i, mm_args_l, mm_args_r, mm_pad_0, mm_pad_n, mm_pad_c, List.length_cons, List.length_nil, List.nil_append, List.cons_append, Nat.zero_le, Nat.sub_zero, true_and, and_true, Nat.reduceAdd, Nat.reduceLeDiff, Nat.reduceLT, Nat.reduceSub, Nat.lt_irrefl, Nat.zero_add, Nat.add_zero, Nat.le_refl, k_20, k_10, k_01, ↓mm_if_T, ↓mm_if_F, ↓if10, ↓if00, not_true_eq_false, tf_01, ↓mm_if_tf, ↓mm_if_tn, ↓mm_if_nn, j_1, j_2, j_3, j_4, v320 hL, ci_, u0]
  refine r_108 39 (J1_C FC1 hn hJ).1 (J2_C FC1 hJ2) hq ht (fun M2 hJ22 hF2 => ?_)
  have FN2 := FN_6 hF2
  have hI2' := I1_N FN2 hI1
  have hI22 := I2_N FN2 hI21
  have hs2 := SC_N FN2 hu
  have hJ1 := J1_6 (J1_C FC1 hn hJ) hn ha hb hF2
  simp (disch := omega) only [pw_iconst, qw_aload_n1, qw_aload_n2, qw_if_icmp_eq, qw_invokevirtual1, qw_ireturn, mm_rf_c, mm_rt_v, mm_rt_i, mm_rt_r, mm_alc_n, mm_alc_c, mm_rc_n, mm_rc_c, mm_wd_n, mm_wd_i, mm_wd_l, mm_wd_r, reduceCtorEq, false_implies, implies_true, true_implies, true_or, or_true, false_or, or_false, not_false_eq_true, mm_nl_n, mm_nl_i, mm_nl_r, mm_args_n, mm_args_i, mm_args_l, mm_args_r, mm_pad_0, mm_pad_n, mm_pad_c, List.length_cons, List.length_nil, List.nil_append, List.cons_append, Nat.zero_le, Nat.sub_zero, true_and, and_true, Nat.reduceAdd, Nat.reduceLeDiff, Nat.reduceLT, Nat.reduceSub, Nat.lt_irrefl, Nat.zero_add, Nat.add_zero, Nat.le_refl, k_20, k_10, k_01, ↓mm_if_T, ↓mm_if_F, ↓if10, ↓if00, not_true_eq_false, tf_01, ↓mm_if_tf, ↓mm_if_tn, ↓mm_if_nn, ↓if_rf]
  exact nxt M2 n X a P b K q nx nl 0 lt ⟨hI2', hI22, hJ1, hJ22, h1n, hnx, hs2⟩

set_option maxHeartbeats 2000000 in
theorem b_4 {L : Nat} {xs : Nat → Int32} (hL : L ≤ 320) {i : Nat} (hi : i + 5 ≤ L) {post : mm_Post} (nxt : NX L xs post i) {M : mm_M} {n : Nat} {X : Sx} {a : Nat} {P : Nat → Sx} {b : Nat} {K : Nat → Sx} {q : Nat} {nx nl : Nat → Int32} {t : Nat} {lt : Nat → Int32} (h : LI L xs M n X a P b K q nx nl t lt) : pK 40 166 post 4 [some (.inr (.inr (11, 0))), some (.inr (.inr (5, 0))), some (.inr (.inr (6, 0))), some (.inl (nI i))] [] M (0, 0) := by
  obtain ⟨hI, hI2, hJ, hJ2, h1n, hnx, hs⟩ := h
  obtain ⟨ps, hC, hn, hR, hW, ha, -, -, hb, -, -⟩ := id hI
  have hq := hI2.1
  have ht := hI2.2.2.2.1
  have s0 := hs.1
  rw [eK_166_4]
  simp (disch := omega) only [pw_iconst, qw_aload_n1, qw_aload_n2, qw_if_icmp_eq, qw_invokevirtual1, qw_ireturn, mm_rf_c, mm_rt_v, mm_rt_i, mm_rt_r, mm_alc_n, mm_alc_c, mm_rc_n, mm_rc_c, mm_wd_n, mm_wd_i, mm_wd_l, mm_wd_r, reduceCtorEq, false_implies, implies_true, true_implies, true_or, or_true, false_or, or_false, not_false_eq_true, mm_nl_n, mm_nl_i, mm_nl_r, mm_args_n, mm_args_i, mm_args_l, mm_args_r, mm_pad_0, mm_pad_n, mm_pad_c, List.length_cons, List.length_nil, List.nil_append, List.cons_append, Nat.zero_le, Nat.sub_zero, true_and, and_true, Nat.reduceAdd, Nat.reduceLeDiff, Nat.reduceLT, Nat.reduceSub, Nat.lt_irrefl, Nat.zero_add, Nat.add_zero, Nat.le_refl, k_20, k_10, k_01, ↓mm_if_T, ↓mm_if_F, ↓if10, ↓if00, not_true_eq_false, tf_01, ↓mm_if_tf, ↓mm_if_tn, ↓mm_if_nn, j_1, j_2, j_3, j_4, v320 hL, ci_, s0]
  refine C51 33 hI hI2 (fun M1 hI1 hI21 hF1 => ?_)
  have FC1 := hF1
  have hu := SC_C FC1 hs
  have u0 := hu.1
  simp (disch := omega) only [pw_iconst, qw_aload_n1, qw_aload_n2, qw_if_icmp_eq, qw_invokevirtual1, qw_ireturn, mm_rf_c, mm_rt_v, mm_rt_i, mm_rt_r, mm_alc_n, mm_alc_c, mm_rc_n, mm_rc_c, mm_wd_n, mm_wd_i, mm_wd_l, mm_wd_r, reduceCtorEq, false_implies, implies_true, true_implies, true_or, or_true, false_or, or_false, not_false_eq_true, mm_nl_n, mm_nl_i, mm_nl_r, mm_args_n, mm_args_i, mm_args_l, mm_args_r, mm_pad_0, mm_pad_n, mm_pad_c, List.length_cons, List.length_nil, List.nil_append, List.cons_append, Nat.zero_le, Nat.sub_zero, true_and, and_true, Nat.reduceAdd, Nat.reduceLeDiff, Nat.reduceLT, Nat.reduceSub, Nat.lt_irrefl, Nat.zero_add, Nat.add_zero, Nat.le_refl, k_20, k_10, k_01, ↓mm_if_T, ↓mm_if_F, ↓if10, ↓if00, not_true_eq_false, tf_01, ↓mm_if_tf, ↓mm_if_tn, ↓mm_if_nn, j_1, j_2, j_3, j_4, v320 hL, ci_, u0]
  refine r_116 33 (J1_C FC1 hn hJ) hn ha hb (J2_C FC1 hJ2) ht (fun M2 hJ1 hJ22 hF2 => ?_)
  have FN2 := hF2
  have hI2' := I1_N FN2 hI1
  have hI22 := I2_N FN2 hI21
  have hs2 := SC_N FN2 hu
  simp (disch := omega) only [pw_iconst, qw_aload_n1, qw_aload_n2, qw_if_icmp_eq, qw_invokevirtual1, qw_ireturn, mm_rf_c, mm_rt_v, mm_rt_i, mm_rt_r, mm_alc_n, mm_alc_c, mm_rc_n, mm_rc_c, mm_wd_n, mm_wd_i, mm_wd_l, mm_wd_r, reduceCtorEq, false_implies, implies_true, true_implies, true_or, or_true, false_or, or_false, not_false_eq_true, mm_nl_n, mm_nl_i, mm_nl_r, mm_args_n, mm_args_i, mm_args_l, mm_args_r, mm_pad_0, mm_pad_n, mm_pad_c, List.length_cons, List.length_nil, List.nil_append, List.cons_append, Nat.zero_le, Nat.sub_zero, true_and, and_true, Nat.reduceAdd, Nat.reduceLeDiff, Nat.reduceLT, Nat.reduceSub, Nat.lt_irrefl, Nat.zero_add, Nat.add_zero, Nat.le_refl, k_20, k_10, k_01, ↓mm_if_T, ↓mm_if_F, ↓if10, ↓if00, not_true_eq_false, tf_01, ↓mm_if_tf, ↓mm_if_tn, ↓mm_if_nn, ↓if_rf]
  exact nxt M2 n X a P b K q nx nl t lt ⟨hI2', hI22, hJ1, hJ22, h1n, hnx, hs2⟩

set_option maxHeartbeats 2000000 in
theorem b_6 {L : Nat} {xs : Nat → Int32} (hL : L ≤ 320) {i : Nat} (hi : i + 5 ≤ L) {post : mm_Post} (nxt : NX L xs post i) {M : mm_M} {n : Nat} {X : Sx} {a : Nat} {P : Nat → Sx} {b : Nat} {K : Nat → Sx} {q : Nat} {nx nl : Nat → Int32} {t : Nat} {lt : Nat → Int32} (h : LI L xs M n X a P b K q nx nl t lt) : pK 40 166 post 6 [some (.inr (.inr (11, 0))), some (.inr (.inr (5, 0))), some (.inr (.inr (6, 0))), some (.inl (nI i))] [] M (0, 0) := by
  obtain ⟨hI, hI2, hJ, hJ2, h1n, hnx, hs⟩ := h
  obtain ⟨ps, hC, hn, hR, hW, ha, -, -, hb, -, -⟩ := id hI
  have hq := hI2.1
  have ht := hI2.2.2.2.1
  have s0 := hs.1
  have w1 : mm_I M 11 0 (i + 1) = xs (i + 1) := hs.2 (i + 1) (by omega)
  have w2 : mm_I M 11 0 (i + 2) = xs (i + 2) := hs.2 (i + 2) (by omega)
  have ec : ∀ post, pC 40 53 [.inr (.inr (5, 0)), .inl (xs (i + 1)), .inl (xs (i + 2))] M post = post (some (.inl (G53 n X.1.1 (xs (i + 1)) (xs (i + 2))))) M := fun post => e_53 37 hn hC hR (xs (i + 1)) (xs (i + 2))
  have er : ∀ post, pC 40 128 [.inr (.inr (6, 0)), .inl (xs (i + 1)), .inl (xs (i + 2))] M post = post (some (.inl (G53 n X.1.1 (xs (i + 1)) (xs (i + 2))))) M := fun post => r_128 37 hJ.1 hn hJ.2.1 hJ.2.2.1 hW (xs (i + 1)) (xs (i + 2))
  rw [eK_166_6]
  simp (disch := omega) only [pw_iconst, qw_aload_n0, qw_aload_n1, qw_aload_n2, qw_iadd, qw_iaload, qw_if_icmp_eq, qw_iload_n3, qw_invokevirtual3, qw_ireturn, mm_rf_c, mm_rt_v, mm_rt_i, mm_rt_r, mm_alc_n, mm_alc_c, mm_rc_n, mm_rc_c, mm_wd_n, mm_wd_i, mm_wd_l, mm_wd_r, reduceCtorEq, false_implies, implies_true, true_implies, true_or, or_true, false_or, or_false, not_false_eq_true, mm_nl_n, mm_nl_i, mm_nl_r, mm_args_n, mm_args_i, mm_args_l, mm_args_r, mm_pad_0, mm_pad_n, mm_pad_c, List.length_cons, List.length_nil, List.nil_append, List.cons_append, Nat.zero_le, Nat.sub_zero, true_and, and_true, Nat.reduceAdd, Nat.reduceLeDiff, Nat.reduceLT, Nat.reduceSub, Nat.lt_irrefl, Nat.zero_add, Nat.add_zero, Nat.le_refl, k_20, k_10, k_01, ↓mm_if_T, ↓mm_if_F, ↓if10, ↓if00, not_true_eq_false, tf_01, ↓mm_if_tf, ↓mm_if_tn, ↓mm_if_nn, j_1, j_2, j_3, j_4, v320 hL, ci_, s0, ec, er, ↓if_rf, w1, w2]
  exact nxt M n X a P b K q nx nl t lt ⟨hI, hI2, hJ, hJ2, h1n, hnx, hs⟩

set_option maxHeartbeats 2000000 in
theorem b_7 {L : Nat} {xs : Nat → Int32} (hL : L ≤ 320) {i : Nat} (hi : i + 5 ≤ L) {post : mm_Post} (nxt : NX L xs post i) {M : mm_M} {n : Nat} {X : Sx} {a : Nat} {P : Nat → Sx} {b : Nat} {K : Nat → Sx} {q : Nat} {nx nl : Nat → Int32} {t : Nat} {lt : Nat → Int32} (h : LI L xs M n X a P b K q nx nl t lt) : pK 40 166 post 7 [some (.inr (.inr (11, 0))), some (.inr (.inr (5, 0))), some (.inr (.inr (6, 0))), some (.inl (nI i))] [] M (0, 0) := by
  obtain ⟨hI, hI2, hJ, hJ2, h1n, hnx, hs⟩ := h
  obtain ⟨ps, hC, hn, hR, hW, ha, -, -, hb, -, -⟩ := id hI
  have hq := hI2.1
  have ht := hI2.2.2.2.1
  have s0 := hs.1
  have w1 : mm_I M 11 0 (i + 1) = xs (i + 1) := hs.2 (i + 1) (by omega)
  have w2 : mm_I M 11 0 (i + 2) = xs (i + 2) := hs.2 (i + 2) (by omega)
  have ec : ∀ post, pC 40 54 [.inr (.inr (5, 0)), .inl (xs (i + 1)), .inl (xs (i + 2))] M post = post (some (.inl (G54 n X.1.1 (xs (i + 1)) (xs (i + 2))))) M := fun post => e_54 37 hn hC hR (xs (i + 1)) (xs (i + 2))
  have er : ∀ post, pC 40 129 [.inr (.inr (6, 0)), .inl (xs (i + 1)), .inl (xs (i + 2))] M post = post (some (.inl (G54 n X.1.1 (xs (i + 1)) (xs (i + 2))))) M := fun post => r_129 37 hJ.1 hn hJ.2.1 hJ.2.2.1 hW (xs (i + 1)) (xs (i + 2))
  rw [eK_166_7]
  simp (disch := omega) only [pw_iconst, qw_aload_n0, qw_aload_n1, qw_aload_n2, qw_iadd, qw_iaload, qw_if_icmp_eq, qw_iload_n3, qw_invokevirtual3, qw_ireturn, mm_rf_c, mm_rt_v, mm_rt_i, mm_rt_r, mm_alc_n, mm_alc_c, mm_rc_n, mm_rc_c, mm_wd_n, mm_wd_i, mm_wd_l, mm_wd_r, reduceCtorEq, false_implies, implies_true, true_implies, true_or, or_true, false_or, or_false, not_false_eq_true, mm_nl_n, mm_nl_i, mm_nl_r, mm_args_n, mm_args_i, mm_args_l, mm_args_r, mm_pad_0, mm_pad_n, mm_pad_c, List.length_cons, List.length_nil, List.nil_append, List.cons_append, Nat.zero_le, Nat.sub_zero, true_and, and_true, Nat.reduceAdd, Nat.reduceLeDiff, Nat.reduceLT, Nat.reduceSub, Nat.lt_irrefl, Nat.zero_add, Nat.add_zero, Nat.le_refl, k_20, k_10, k_01, ↓mm_if_T, ↓mm_if_F, ↓if10, ↓if00, not_true_eq_false, tf_01, ↓mm_if_tf, ↓mm_if_tn, ↓mm_if_nn, j_1, j_2, j_3, j_4, v320 hL, ci_, s0, ec, er, ↓if_rf, w1, w2]
  exact nxt M n X a P b K q nx nl t lt ⟨hI, hI2, hJ, hJ2, h1n, hnx, hs⟩

set_option maxHeartbeats 2000000 in
theorem b_8 {L : Nat} {xs : Nat → Int32} (hL : L ≤ 320) {i : Nat} (hi : i + 5 ≤ L) {post : mm_Post} (nxt : NX L xs post i) {M : mm_M} {n : Nat} {X : Sx} {a : Nat} {P : Nat → Sx} {b : Nat} {K : Nat → Sx} {q : Nat} {nx nl : Nat → Int32} {t : Nat} {lt : Nat → Int32} (h : LI L xs M n X a P b K q nx nl t lt) : pK 40 166 post 8 [some (.inr (.inr (11, 0))), some (.inr (.inr (5, 0))), some (.inr (.inr (6, 0))), some (.inl (nI i))] [] M (0, 0) := by
  obtain ⟨hI, hI2, hJ, hJ2, h1n, hnx, hs⟩ := h
  obtain ⟨ps, hC, hn, hR, hW, ha, -, -, hb, -, -⟩ := id hI
  have hq := hI2.1
  have ht := hI2.2.2.2.1
  have s0 := hs.1
  have w1 : mm_I M 11 0 (i + 1) = xs (i + 1) := hs.2 (i + 1) (by omega)
  have w2 : mm_I M 11 0 (i + 2) = xs (i + 2) := hs.2 (i + 2) (by omega)
  have ec : ∀ post, pC 40 55 [.inr (.inr (5, 0)), .inl (xs (i + 1)), .inl (xs (i + 2))] M post = post (some (.inl (G55 n X.1.1 (xs (i + 1)) (xs (i + 2))))) M := fun post => e_55 37 hn hC hR (xs (i + 1)) (xs (i + 2))
  have er : ∀ post, pC 40 130 [.inr (.inr (6, 0)), .inl (xs (i + 1)), .inl (xs (i + 2))] M post = post (some (.inl (G55 n X.1.1 (xs (i + 1)) (xs (i + 2))))) M := fun post => r_130 37 hJ.1 hn hJ.2.1 hJ.2.2.1 hW (xs (i + 1)) (xs (i + 2))
  rw [eK_166_8]
  simp (disch := omega) only [pw_iconst, qw_aload_n0, qw_aload_n1, qw_aload_n2, qw_iadd, qw_iaload, qw_if_icmp_eq, qw_iload_n3, qw_invokevirtual3, qw_ireturn, mm_rf_c, mm_rt_v, mm_rt_i, mm_rt_r, mm_alc_n, mm_alc_c, mm_rc_n, mm_rc_c, mm_wd_n, mm_wd_i, mm_wd_l, mm_wd_r, reduceCtorEq, false_implies, implies_true, true_implies, true_or, or_true, false_or, or_false, not_false_eq_true, mm_nl_n, mm_nl_i, mm_nl_r, mm_args_n, mm_args_i, mm_args_l, mm_args_r, mm_pad_0, mm_pad_n, mm_pad_c, List.length_cons, List.length_nil, List.nil_append, List.cons_append, Nat.zero_le, Nat.sub_zero, true_and, and_true, Nat.reduceAdd, Nat.reduceLeDiff, Nat.reduceLT, Nat.reduceSub, Nat.lt_irrefl, Nat.zero_add, Nat.add_zero, Nat.le_refl, k_20, k_10, k_01, ↓mm_if_T, ↓mm_if_F, ↓if10, ↓if00, not_true_eq_false, tf_01, ↓mm_if_tf, ↓mm_if_tn, ↓mm_if_nn, j_1, j_2, j_3, j_4, v320 hL, ci_, s0, ec, er, ↓if_rf, w1, w2]
  exact nxt M n X a P b K q nx nl t lt ⟨hI, hI2, hJ, hJ2, h1n, hnx, hs⟩

set_option maxHeartbeats 2000000 in
theorem b_9 {L : Nat} {xs : Nat → Int32} (hL : L ≤ 320) {i : Nat} (hi : i + 5 ≤ L) {post : mm_Post} (nxt : NX L xs post i) {M : mm_M} {n : Nat} {X : Sx} {a : Nat} {P : Nat → Sx} {b : Nat} {K : Nat → Sx} {q : Nat} {nx nl : Nat → Int32} {t : Nat} {lt : Nat → Int32} (h : LI L xs M n X a P b K q nx nl t lt) : pK 40 166 post 9 [some (.inr (.inr (11, 0))), some (.inr (.inr (5, 0))), some (.inr (.inr (6, 0))), some (.inl (nI i))] [] M (0, 0) := by
  obtain ⟨hI, hI2, hJ, hJ2, h1n, hnx, hs⟩ := h
  obtain ⟨ps, hC, hn, hR, hW, ha, -, -, hb, -, -⟩ := id hI
  have hq := hI2.1
  have ht := hI2.2.2.2.1
  have s0 := hs.1
  have w1 : mm_I M 11 0 (i + 1) = xs (i + 1) := hs.2 (i + 1) (by omega)
  have ec : ∀ post, pC 40 56 [.inr (.inr (5, 0)), .inl (xs (i + 1))] M post = post (some (.inl (G56 n X.1.1 (xs (i + 1))))) M := fun post => e_56 34 hn hC hR (xs (i + 1))
  have er : ∀ post, pC 40 131 [.inr (.inr (6, 0)), .inl (xs (i + 1))] M post = post (some (.inl (G56 n X.1.1 (xs (i + 1))))) M := fun post => r_131 36 hJ.1 hn hJ.2.1 hJ.2.2.1 hW (xs (i + 1))
  rw [eK_166_9]
  simp (disch := omega) only [pw_iconst, qw_aload_n0, qw_aload_n1, qw_aload_n2, qw_iadd, qw_iaload, qw_if_icmp_eq, qw_iload_n3, qw_invokevirtual2, qw_ireturn, mm_rf_c, mm_rt_v, mm_rt_i, mm_rt_r, mm_alc_n, mm_alc_c, mm_rc_n, mm_rc_c, mm_wd_n, mm_wd_i, mm_wd_l, mm_wd_r, reduceCtorEq, false_implies, implies_true, true_implies, true_or, or_true, false_or, or_false, not_false_eq_true, mm_nl_n, mm_nl_i, mm_nl_r, mm_args_n, mm_args_i, mm_args_l, mm_args_r, mm_pad_0, mm_pad_n, mm_pad_c, List.length_cons, List.length_nil, List.nil_append, List.cons_append, Nat.zero_le, Nat.sub_zero, true_and, and_true, Nat.reduceAdd, Nat.reduceLeDiff, Nat.reduceLT, Nat.reduceSub, Nat.lt_irrefl, Nat.zero_add, Nat.add_zero, Nat.le_refl, k_20, k_10, k_01, ↓mm_if_T, ↓mm_if_F, ↓if10, ↓if00, not_true_eq_false, tf_01, ↓mm_if_tf, ↓mm_if_tn, ↓mm_if_nn, j_1, j_2, j_3, j_4, v320 hL, ci_, s0, ec, er, ↓if_rf, w1]
  exact nxt M n X a P b K q nx nl t lt ⟨hI, hI2, hJ, hJ2, h1n, hnx, hs⟩

set_option maxHeartbeats 2000000 in
theorem b_10 {L : Nat} {xs : Nat → Int32} (hL : L ≤ 320) {i : Nat} (hi : i + 5 ≤ L) {post : mm_Post} (nxt : NX L xs post i) {M : mm_M} {n : Nat} {X : Sx} {a : Nat} {P : Nat → Sx} {b : Nat} {K : Nat → Sx} {q : Nat} {nx nl : Nat → Int32} {t : Nat} {lt : Nat → Int32} (h : LI L xs M n X a P b K q nx nl t lt) : pK 40 166 post 10 [some (.inr (.inr (11, 0))), some (.inr (.inr (5, 0))), some (.inr (.inr (6, 0))), some (.inl (nI i))] [] M (0, 0) := by
  obtain ⟨hI, hI2, hJ, hJ2, h1n, hnx, hs⟩ := h
  obtain ⟨ps, hC, hn, hR, hW, ha, -, -, hb, -, -⟩ := id hI
  have hq := hI2.1
  have ht := hI2.2.2.2.1
  have s0 := hs.1
  have w1 : mm_I M 11 0 (i + 1) = xs (i + 1) := hs.2 (i + 1) (by omega)
  have ec : ∀ post, pC 40 57 [.inr (.inr (5, 0)), .inl (xs (i + 1))] M post = post (some (.inl (G57 n X.1.1 X.2 (xs (i + 1))))) M := fun post => e_57 35 hn hC hR (xs (i + 1))
  have er : ∀ post, pC 40 132 [.inr (.inr (6, 0)), .inl (xs (i + 1))] M post = post (some (.inl (G57 n X.1.1 X.2 (xs (i + 1))))) M := fun post => r_132 35 hJ.1 hn hJ.2.1 hJ.2.2.1 hW (xs (i + 1))
  rw [eK_166_10]
  simp (disch := omega) only [pw_iconst, qw_aload_n0, qw_aload_n1, qw_aload_n2, qw_iadd, qw_iaload, qw_if_icmp_eq, qw_iload_n3, qw_invokevirtual2, qw_ireturn, mm_rf_c, mm_rt_v, mm_rt_i, mm_rt_r, mm_alc_n, mm_alc_c, mm_rc_n, mm_rc_c, mm_wd_n, mm_wd_i, mm_wd_l, mm_wd_r, reduceCtorEq, false_implies, implies_true, true_implies, true_or, or_true, false_or, or_false, not_false_eq_true, mm_nl_n, mm_nl_i, mm_nl_r, mm_args_n, mm_args_i, mm_args_l, mm_args_r, mm_pad_0, mm_pad_n, mm_pad_c, List.length_cons, List.length_nil, List.nil_append, List.cons_append, Nat.zero_le, Nat.sub_zero, true_and, and_true, Nat.reduceAdd, Nat.reduceLeDiff, Nat.reduceLT, Nat.reduceSub, Nat.lt_irrefl, Nat.zero_add, Nat.add_zero, Nat.le_refl, k_20, k_10, k_01, ↓mm_if_T, ↓mm_if_F, ↓if10, ↓if00, not_true_eq_false, tf_01, ↓mm_if_tf, ↓mm_if_tn, ↓mm_if_nn, j_1, j_2, j_3, j_4, v320 hL, ci_, s0, ec, er, ↓if_rf, w1]
  exact nxt M n X a P b K q nx nl t lt ⟨hI, hI2, hJ, hJ2, h1n, hnx, hs⟩

set_option maxHeartbeats 2000000 in
theorem b_11 {L : Nat} {xs : Nat → Int32} (hL : L ≤ 320) {i : Nat} (hi : i + 5 ≤ L) {post : mm_Post} (nxt : NX L xs post i) {M : mm_M} {n : Nat} {X : Sx} {a : Nat} {P : Nat → Sx} {b : Nat} {K : Nat → Sx} {q : Nat} {nx nl : Nat → Int32} {t : Nat} {lt : Nat → Int32} (h : LI L xs M n X a P b K q nx nl t lt) : pK 40 166 post 11 [some (.inr (.inr (11, 0))), some (.inr (.inr (5, 0))), some (.inr (.inr (6, 0))), some (.inl (nI i))] [] M (0, 0) := by
  obtain ⟨hI, hI2, hJ, hJ2, h1n, hnx, hs⟩ := h
  obtain ⟨ps, hC, hn, hR, hW, ha, -, -, hb, -, -⟩ := id hI
  have hq := hI2.1
  have ht := hI2.2.2.2.1
  have s0 := hs.1
  have w1 : mm_I M 11 0 (i + 1) = xs (i + 1) := hs.2 (i + 1) (by omega)
  have w2 : mm_I M 11 0 (i + 2) = xs (i + 2) := hs.2 (i + 2) (by omega)
  have w3 : mm_I M 11 0 (i + 3) = xs (i + 3) := hs.2 (i + 3) (by omega)
  rw [eK_166_11]
  simp (disch := omega) only [pw_iconst, qw_aload_n0, qw_aload_n1, qw_aload_n2, qw_iadd, qw_iaload, qw_if_icmp_eq, qw_iload_n3, qw_invokevirtual4, qw_ireturn, mm_rf_c, mm_rt_v, mm_rt_i, mm_rt_r, mm_alc_n, mm_alc_c, mm_rc_n, mm_rc_c, mm_wd_n, mm_wd_i, mm_wd_l, mm_wd_r, reduceCtorEq, false_implies, implies_true, true_implies, true_or, or_true, false_or, or_false, not_false_eq_true, mm_nl_n, mm_nl_i, mm_nl_r, mm_args_n, mm_args_i, mm_args_l, mm_args_r, mm_pad_0, mm_pad_n, mm_pad_c, List.length_cons, List.length_nil, List.nil_append, List.cons_append, Nat.zero_le, Nat.sub_zero, true_and, and_true, Nat.reduceAdd, Nat.reduceLeDiff, Nat.reduceLT, Nat.reduceSub, Nat.lt_irrefl, Nat.zero_add, Nat.add_zero, Nat.le_refl, k_20, k_10, k_01, ↓mm_if_T, ↓mm_if_F, ↓if10, ↓if00, not_true_eq_false, tf_01, ↓mm_if_tf, ↓mm_if_tn, ↓mm_if_nn, j_1, j_2, j_3, j_4, v320 hL, ci_, s0, w1, w2, w3]
  refine C58 34 hI (xs (i + 1)) (xs (i + 2)) (xs (i + 3)) (fun M1 hI1 hF1 => ?_)
  have FC1 := FX_C hF1
  have hI21 := I2_X hF1 hI2
  have hu := SC_C FC1 hs
  have u0 := hu.1
  have u1 : mm_I M1 11 0 (i + 1) = xs (i + 1) := hu.2 (i + 1) (by omega)
  have u2 : mm_I M1 11 0 (i + 2) = xs (i + 2) := hu.2 (i + 2) (by omega)
  have u3 : mm_I M1 11 0 (i + 3) = xs (i + 3) := hu.2 (i + 3) (by omega)
  simp (disch := omega) only [pw_iconst, qw_aload_n0, qw_aload_n1, qw_aload_n2, qw_iadd, qw_iaload, qw_if_icmp_eq, qw_iload_n3, qw_invokevirtual4, qw_ireturn, mm_rf_c, mm_rt_v, mm_rt_i, mm_rt_r, mm_alc_n, mm_alc_c, mm_rc_n, mm_rc_c, mm_wd_n, mm_wd_i, mm_wd_l, mm_wd_r, reduceCtorEq, false_implies, implies_true, true_implies, true_or, or_true, false_or, or_false, not_false_eq_true, mm_nl_n, mm_nl_i, mm_nl_r, mm_args_n, mm_args_i, mm_args_l, mm_args_r, mm_pad_0, mm_pad_n, mm_pad_c, List.length_cons, List.length_nil, List.nil_append, List.cons_append, Nat.zero_le, Nat.sub_zero, true_and, and_true, Nat.reduceAdd, Nat.reduceLeDiff, Nat.reduceLT, Nat.reduceSub, Nat.lt_irrefl, Nat.zero_add, Nat.add_zero, Nat.le_refl, k_20, k_10, k_01, ↓mm_if_T, ↓mm_if_F, ↓if10, ↓if00, not_true_eq_false, tf_01, ↓mm_if_tf, ↓mm_if_tn, ↓mm_if_nn, j_1, j_2, j_3, j_4, v320 hL, ci_, u0, u1, u2, u3]
  refine r_137 36 (J1_C FC1 hn hJ) hn ha hb hW (xs (i + 1)) (xs (i + 2)) (xs (i + 3)) (fun M2 hJ1 hF2 => ?_)
  have FN2 := FN_Y hF2
  have hI2' := I1_N FN2 hI1
  have hI22 := I2_N FN2 hI21
  have hs2 := SC_N FN2 hu
  have hJ22 := J2_Y hF2 (J2_C FC1 hJ2)
  simp (disch := omega) only [pw_iconst, qw_aload_n0, qw_aload_n1, qw_aload_n2, qw_iadd, qw_iaload, qw_if_icmp_eq, qw_iload_n3, qw_invokevirtual4, qw_ireturn, mm_rf_c, mm_rt_v, mm_rt_i, mm_rt_r, mm_alc_n, mm_alc_c, mm_rc_n, mm_rc_c, mm_wd_n, mm_wd_i, mm_wd_l, mm_wd_r, reduceCtorEq, false_implies, implies_true, true_implies, true_or, or_true, false_or, or_false, not_false_eq_true, mm_nl_n, mm_nl_i, mm_nl_r, mm_args_n, mm_args_i, mm_args_l, mm_args_r, mm_pad_0, mm_pad_n, mm_pad_c, List.length_cons, List.length_nil, List.nil_append, List.cons_append, Nat.zero_le, Nat.sub_zero, true_and, and_true, Nat.reduceAdd, Nat.reduceLeDiff, Nat.reduceLT, Nat.reduceSub, Nat.lt_irrefl, Nat.zero_add, Nat.add_zero, Nat.le_refl, k_20, k_10, k_01, ↓mm_if_T, ↓mm_if_F, ↓if10, ↓if00, not_true_eq_false, tf_01, ↓mm_if_tf, ↓mm_if_tn, ↓mm_if_nn, ↓if_rf]
  exact nxt M2 n (T58 n X a P (xs (i + 1)) (xs (i + 2)) (xs (i + 3))).2.1 (T58 n X a P (xs (i + 1)) (xs (i + 2)) (xs (i + 3))).2.2.1 (T58 n X a P (xs (i + 1)) (xs (i + 2)) (xs (i + 3))).2.2.2 b K q nx nl t lt ⟨hI2', hI22, hJ1, hJ22, h1n, hnx, hs2⟩

set_option maxHeartbeats 2000000 in
theorem b_12 {L : Nat} {xs : Nat → Int32} (hL : L ≤ 320) {i : Nat} (hi : i + 5 ≤ L) {post : mm_Post} (nxt : NX L xs post i) {M : mm_M} {n : Nat} {X : Sx} {a : Nat} {P : Nat → Sx} {b : Nat} {K : Nat → Sx} {q : Nat} {nx nl : Nat → Int32} {t : Nat} {lt : Nat → Int32} (h : LI L xs M n X a P b K q nx nl t lt) : pK 40 166 post 12 [some (.inr (.inr (11, 0))), some (.inr (.inr (5, 0))), some (.inr (.inr (6, 0))), some (.inl (nI i))] [] M (0, 0) := by
  obtain ⟨hI, hI2, hJ, hJ2, h1n, hnx, hs⟩ := h
  obtain ⟨ps, hC, hn, hR, hW, ha, -, -, hb, -, -⟩ := id hI
  have hq := hI2.1
  have ht := hI2.2.2.2.1
  have s0 := hs.1
  have w1 : mm_I M 11 0 (i + 1) = xs (i + 1) := hs.2 (i + 1) (by omega)
  have w2 : mm_I M 11 0 (i + 2) = xs (i + 2) := hs.2 (i + 2) (by omega)
  have w3 : mm_I M 11 0 (i + 3) = xs (i + 3) := hs.2 (i + 3) (by omega)
  rw [eK_166_12]
  simp (disch := omega) only [pw_iconst, qw_aload_n0, qw_aload_n1, qw_aload_n2, qw_iadd, qw_iaload, qw_if_icmp_eq, qw_iload_n3, qw_invokevirtual4, qw_ireturn, mm_rf_c, mm_rt_v, mm_rt_i, mm_rt_r, mm_alc_n, mm_alc_c, mm_rc_n, mm_rc_c, mm_wd_n, mm_wd_i, mm_wd_l, mm_wd_r, reduceCtorEq, false_implies, implies_true, true_implies, true_or, or_true, false_or, or_false, not_false_eq_true, mm_nl_n, mm_nl_i, mm_nl_r, mm_args_n, mm_args_i, mm_args_l, mm_args_r, mm_pad_0, mm_pad_n, mm_pad_c, List.length_cons, List.length_nil, List.nil_append, List.cons_append, Nat.zero_le, Nat.sub_zero, true_and, and_true, Nat.reduceAdd, Nat.reduceLeDiff, Nat.reduceLT, Nat.reduceSub, Nat.lt_irrefl, Nat.zero_add, Nat.add_zero, Nat.le_refl, k_20, k_10, k_01, ↓mm_if_T, ↓mm_if_F, ↓if10, ↓if00, not_true_eq_false, tf_01, ↓mm_if_tf, ↓mm_if_tn, ↓mm_if_nn, j_1, j_2, j_3, j_4, v320 hL, ci_, s0, w1, w2, w3]
  refine C59 35 hI (xs (i + 1)) (xs (i + 2)) (xs (i + 3)) (fun M1 hI1 hF1 => ?_)
  have FC1 := FX_C hF1
  have hI21 := I2_X hF1 hI2
  have hu := SC_C FC1 hs
  have u0 := hu.1
  have u1 : mm_I M1 11 0 (i + 1) = xs (i + 1) := hu.2 (i + 1) (by omega)
  have u2 : mm_I M1 11 0 (i + 2) = xs (i + 2) := hu.2 (i + 2) (by omega)
  have u3 : mm_I M1 11 0 (i + 3) = xs (i + 3) := hu.2 (i + 3) (by omega)
  simp (disch := omega) only [pw_iconst, qw_aload_n0, qw_aload_n1, qw_aload_n2, qw_iadd, qw_iaload, qw_if_icmp_eq, qw_iload_n3, qw_invokevirtual4, qw_ireturn, mm_rf_c, mm_rt_v, mm_rt_i, mm_rt_r, mm_alc_n, mm_alc_c, mm_rc_n, mm_rc_c, mm_wd_n, mm_wd_i, mm_wd_l, mm_wd_r, reduceCtorEq, false_implies, implies_true, true_implies, true_or, or_true, false_or, or_false, not_false_eq_true, mm_nl_n, mm_nl_i, mm_nl_r, mm_args_n, mm_args_i, mm_args_l, mm_args_r, mm_pad_0, mm_pad_n, mm_pad_c, List.length_cons, List.length_nil, List.nil_append, List.cons_append, Nat.zero_le, Nat.sub_zero, true_and, and_true, Nat.reduceAdd, Nat.reduceLeDiff, Nat.reduceLT, Nat.reduceSub, Nat.lt_irrefl, Nat.zero_add, Nat.add_zero, Nat.le_refl, k_20, k_10, k_01, ↓mm_if_T, ↓mm_if_F, ↓if10, ↓if00, not_true_eq_false, tf_01, ↓mm_if_tf, ↓mm_if_tn, ↓mm_if_nn, j_1, j_2, j_3, j_4, v320 hL, ci_, u0, u1, u2, u3]
  refine r_140 36 (J1_C FC1 hn hJ) hn ha hb hW (xs (i + 1)) (xs (i + 2)) (xs (i + 3)) (fun M2 hJ1 hF2 => ?_)
  have FN2 := FN_Y hF2
  have hI2' := I1_N FN2 hI1
  have hI22 := I2_N FN2 hI21
  have hs2 := SC_N FN2 hu
  have hJ22 := J2_Y hF2 (J2_C FC1 hJ2)
  simp (disch := omega) only [pw_iconst, qw_aload_n0, qw_aload_n1, qw_aload_n2, qw_iadd, qw_iaload, qw_if_icmp_eq, qw_iload_n3, qw_invokevirtual4, qw_ireturn, mm_rf_c, mm_rt_v, mm_rt_i, mm_rt_r, mm_alc_n, mm_alc_c, mm_rc_n, mm_rc_c, mm_wd_n, mm_wd_i, mm_wd_l, mm_wd_r, reduceCtorEq, false_implies, implies_true, true_implies, true_or, or_true, false_or, or_false, not_false_eq_true, mm_nl_n, mm_nl_i, mm_nl_r, mm_args_n, mm_args_i, mm_args_l, mm_args_r, mm_pad_0, mm_pad_n, mm_pad_c, List.length_cons, List.length_nil, List.nil_append, List.cons_append, Nat.zero_le, Nat.sub_zero, true_and, and_true, Nat.reduceAdd, Nat.reduceLeDiff, Nat.reduceLT, Nat.reduceSub, Nat.lt_irrefl, Nat.zero_add, Nat.add_zero, Nat.le_refl, k_20, k_10, k_01, ↓mm_if_T, ↓mm_if_F, ↓if10, ↓if00, not_true_eq_false, tf_01, ↓mm_if_tf, ↓mm_if_tn, ↓mm_if_nn, ↓if_rf]
  exact nxt M2 n (T59 n X a P (xs (i + 1)) (xs (i + 2)) (xs (i + 3))).2.1 (T59 n X a P (xs (i + 1)) (xs (i + 2)) (xs (i + 3))).2.2.1 (T59 n X a P (xs (i + 1)) (xs (i + 2)) (xs (i + 3))).2.2.2 b K q nx nl t lt ⟨hI2', hI22, hJ1, hJ22, h1n, hnx, hs2⟩

set_option maxHeartbeats 2000000 in
theorem b_13 {L : Nat} {xs : Nat → Int32} (hL : L ≤ 320) {i : Nat} (hi : i + 5 ≤ L) {post : mm_Post} (nxt : NX L xs post i) {M : mm_M} {n : Nat} {X : Sx} {a : Nat} {P : Nat → Sx} {b : Nat} {K : Nat → Sx} {q : Nat} {nx nl : Nat → Int32} {t : Nat} {lt : Nat → Int32} (h : LI L xs M n X a P b K q nx nl t lt) : pK 40 166 post 13 [some (.inr (.inr (11, 0))), some (.inr (.inr (5, 0))), some (.inr (.inr (6, 0))), some (.inl (nI i))] [] M (0, 0) := by
  obtain ⟨hI, hI2, hJ, hJ2, h1n, hnx, hs⟩ := h
  obtain ⟨ps, hC, hn, hR, hW, ha, -, -, hb, -, -⟩ := id hI
  have hq := hI2.1
  have ht := hI2.2.2.2.1
  have s0 := hs.1
  have w1 : mm_I M 11 0 (i + 1) = xs (i + 1) := hs.2 (i + 1) (by omega)
  rw [eK_166_13]
  simp (disch := omega) only [pw_iconst, qw_aload_n0, qw_aload_n1, qw_aload_n2, qw_iadd, qw_iaload, qw_if_icmp_eq, qw_iload_n3, qw_invokevirtual2, qw_ireturn, mm_rf_c, mm_rt_v, mm_rt_i, mm_rt_r, mm_alc_n, mm_alc_c, mm_rc_n, mm_rc_c, mm_wd_n, mm_wd_i, mm_wd_l, mm_wd_r, reduceCtorEq, false_implies, implies_true, true_implies, true_or, or_true, false_or, or_false, not_false_eq_true, mm_nl_n, mm_nl_i, mm_nl_r, mm_args_n, mm_args_i, mm_args_l, mm_args_r, mm_pad_0, mm_pad_n, mm_pad_c, List.length_cons, List.length_nil, List.nil_append, List.cons_append, Nat.zero_le, Nat.sub_zero, true_and, and_true, Nat.reduceAdd, Nat.reduceLeDiff, Nat.reduceLT, Nat.reduceSub, Nat.lt_irrefl, Nat.zero_add, Nat.add_zero, Nat.le_refl, k_20, k_10, k_01, ↓mm_if_T, ↓mm_if_F, ↓if10, ↓if00, not_true_eq_false, tf_01, ↓mm_if_tf, ↓mm_if_tn, ↓mm_if_nn, j_1, j_2, j_3, j_4, v320 hL, ci_, s0, w1]
  refine C60 35 hI (xs (i + 1)) (fun M1 hI1 hF1 => ?_)
  have FC1 := FX_C hF1
  have hI21 := I2_X hF1 hI2
  have hu := SC_C FC1 hs
  have u0 := hu.1
  have u1 : mm_I M1 11 0 (i + 1) = xs (i + 1) := hu.2 (i + 1) (by omega)
  simp (disch := omega) only [pw_iconst, qw_aload_n0, qw_aload_n1, qw_aload_n2, qw_iadd, qw_iaload, qw_if_icmp_eq, qw_iload_n3, qw_invokevirtual2, qw_ireturn, mm_rf_c, mm_rt_v, mm_rt_i, mm_rt_r, mm_alc_n, mm_alc_c, mm_rc_n, mm_rc_c, mm_wd_n, mm_wd_i, mm_wd_l, mm_wd_r, reduceCtorEq, false_implies, implies_true, true_implies, true_or, or_true, false_or, or_false, not_false_eq_true, mm_nl_n, mm_nl_i, mm_nl_r, mm_args_n, mm_args_i, mm_args_l, mm_args_r, mm_pad_0, mm_pad_n, mm_pad_c, List.length_cons, List.length_nil, List.nil_append, List.cons_append, Nat.zero_le, Nat.sub_zero, true_and, and_true, Nat.reduceAdd, Nat.reduceLeDiff, Nat.reduceLT, Nat.reduceSub, Nat.lt_irrefl, Nat.zero_add, Nat.add_zero, Nat.le_refl, k_20, k_10, k_01, ↓mm_if_T, ↓mm_if_F, ↓if10, ↓if00, not_true_eq_false, tf_01, ↓mm_if_tf, ↓mm_if_tn, ↓mm_if_nn, j_1, j_2, j_3, j_4, v320 hL, ci_, u0, u1]
  refine r_141 37 (J1_C FC1 hn hJ) hn ha hb hW (xs (i + 1)) (fun M2 hJ1 hF2 => ?_)
  have FN2 := FN_Y hF2
  have hI2' := I1_N FN2 hI1
  have hI22 := I2_N FN2 hI21
  have hs2 := SC_N FN2 hu
  have hJ22 := J2_Y hF2 (J2_C FC1 hJ2)
  simp (disch := omega) only [pw_iconst, qw_aload_n0, qw_aload_n1, qw_aload_n2, qw_iadd, qw_iaload, qw_if_icmp_eq, qw_iload_n3, qw_invokevirtual2, qw_ireturn, mm_rf_c, mm_rt_v, mm_rt_i, mm_rt_r, mm_alc_n, mm_alc_c, mm_rc_n, mm_rc_c, mm_wd_n, mm_wd_i, mm_wd_l, mm_wd_r, reduceCtorEq, false_implies, implies_true, true_implies, true_or, or_true, false_or, or_false, not_false_eq_true, mm_nl_n, mm_nl_i, mm_nl_r, mm_args_n, mm_args_i, mm_args_l, mm_args_r, mm_pad_0, mm_pad_n, mm_pad_c, List.length_cons, List.length_nil, List.nil_append, List.cons_append, Nat.zero_le, Nat.sub_zero, true_and, and_true, Nat.reduceAdd, Nat.reduceLeDiff, Nat.reduceLT, Nat.reduceSub, Nat.lt_irrefl, Nat.zero_add, Nat.add_zero, Nat.le_refl, k_20, k_10, k_01, ↓mm_if_T, ↓mm_if_F, ↓if10, ↓if00, not_true_eq_false, tf_01, ↓mm_if_tf, ↓mm_if_tn, ↓mm_if_nn, ↓if_rf]
  exact nxt M2 n (T60 n X a P (xs (i + 1))).2.1 (T60 n X a P (xs (i + 1))).2.2.1 (T60 n X a P (xs (i + 1))).2.2.2 b K q nx nl t lt ⟨hI2', hI22, hJ1, hJ22, h1n, hnx, hs2⟩

set_option maxHeartbeats 2000000 in
theorem b_14 {L : Nat} {xs : Nat → Int32} (hL : L ≤ 320) {i : Nat} (hi : i + 5 ≤ L) {post : mm_Post} (nxt : NX L xs post i) {M : mm_M} {n : Nat} {X : Sx} {a : Nat} {P : Nat → Sx} {b : Nat} {K : Nat → Sx} {q : Nat} {nx nl : Nat → Int32} {t : Nat} {lt : Nat → Int32} (h : LI L xs M n X a P b K q nx nl t lt) : pK 40 166 post 14 [some (.inr (.inr (11, 0))), some (.inr (.inr (5, 0))), some (.inr (.inr (6, 0))), some (.inl (nI i))] [] M (0, 0) := by
  obtain ⟨hI, hI2, hJ, hJ2, h1n, hnx, hs⟩ := h
  obtain ⟨ps, hC, hn, hR, hW, ha, -, -, hb, -, -⟩ := id hI
  have hq := hI2.1
  have ht := hI2.2.2.2.1
  have s0 := hs.1
  have w1 : mm_I M 11 0 (i + 1) = xs (i + 1) := hs.2 (i + 1) (by omega)
  rw [eK_166_14]
  simp (disch := omega) only [pw_iconst, qw_aload_n0, qw_aload_n1, qw_aload_n2, qw_iadd, qw_iaload, qw_if_icmp_eq, qw_iload_n3, qw_invokevirtual2, qw_ireturn, mm_rf_c, mm_rt_v, mm_rt_i, mm_rt_r, mm_alc_n, mm_alc_c, mm_rc_n, mm_rc_c, mm_wd_n, mm_wd_i, mm_wd_l, mm_wd_r, reduceCtorEq, false_implies, implies_true, true_implies, true_or, or_true, false_or, or_false, not_false_eq_true, mm_nl_n, mm_nl_i, mm_nl_r, mm_args_n, mm_args_i, mm_args_l, mm_args_r, mm_pad_0, mm_pad_n, mm_pad_c, List.length_cons, List.length_nil, List.nil_append, List.cons_append, Nat.zero_le, Nat.sub_zero, true_and, and_true, Nat.reduceAdd, Nat.reduceLeDiff, Nat.reduceLT, Nat.reduceSub, Nat.lt_irrefl, Nat.zero_add, Nat.add_zero, Nat.le_refl, k_20, k_10, k_01, ↓mm_if_T, ↓mm_if_F, ↓if10, ↓if00, not_true_eq_false, tf_01, ↓mm_if_tf, ↓mm_if_tn, ↓mm_if_nn, j_1, j_2, j_3, j_4, v320 hL, ci_, s0, w1]
  refine C61 34 hI (xs (i + 1)) (fun M1 hI1 hF1 => ?_)
  have FC1 := FX_C hF1
  have hI21 := I2_X hF1 hI2
  have hu := SC_C FC1 hs
  have u0 := hu.1
  have u1 : mm_I M1 11 0 (i + 1) = xs (i + 1) := hu.2 (i + 1) (by omega)
  simp (disch := omega) only [pw_iconst, qw_aload_n0, qw_aload_n1, qw_aload_n2, qw_iadd, qw_iaload, qw_if_icmp_eq, qw_iload_n3, qw_invokevirtual2, qw_ireturn, mm_rf_c, mm_rt_v, mm_rt_i, mm_rt_r, mm_alc_n, mm_alc_c, mm_rc_n, mm_rc_c, mm_wd_n, mm_wd_i, mm_wd_l, mm_wd_r, reduceCtorEq, false_implies, implies_true, true_implies, true_or, or_true, false_or, or_false, not_false_eq_true, mm_nl_n, mm_nl_i, mm_nl_r, mm_args_n, mm_args_i, mm_args_l, mm_args_r, mm_pad_0, mm_pad_n, mm_pad_c, List.length_cons, List.length_nil, List.nil_append, List.cons_append, Nat.zero_le, Nat.sub_zero, true_and, and_true, Nat.reduceAdd, Nat.reduceLeDiff, Nat.reduceLT, Nat.reduceSub, Nat.lt_irrefl, Nat.zero_add, Nat.add_zero, Nat.le_refl, k_20, k_10, k_01, ↓mm_if_T, ↓mm_if_F, ↓if10, ↓if00, not_true_eq_false, tf_01, ↓mm_if_tf, ↓mm_if_tn, ↓mm_if_nn, j_1, j_2, j_3, j_4, v320 hL, ci_, u0, u1]
  refine r_142 37 (J1_C FC1 hn hJ) hn ha hb hW (xs (i + 1)) (fun M2 hJ1 hF2 => ?_)
  have FN2 := FN_Y hF2
  have hI2' := I1_N FN2 hI1
  have hI22 := I2_N FN2 hI21
  have hs2 := SC_N FN2 hu
  have hJ22 := J2_Y hF2 (J2_C FC1 hJ2)
  simp (disch := omega) only [pw_iconst, qw_aload_n0, qw_aload_n1, qw_aload_n2, qw_iadd, qw_iaload, qw_if_icmp_eq, qw_iload_n3, qw_invokevirtual2, qw_ireturn, mm_rf_c, mm_rt_v, mm_rt_i, mm_rt_r, mm_alc_n, mm_alc_c, mm_rc_n, mm_rc_c, mm_wd_n, mm_wd_i, mm_wd_l, mm_wd_r, reduceCtorEq, false_implies, implies_true, true_implies, true_or, or_true, false_or, or_false, not_false_eq_true, mm_nl_n, mm_nl_i, mm_nl_r, mm_args_n, mm_args_i, mm_args_l, mm_args_r, mm_pad_0, mm_pad_n, mm_pad_c, List.length_cons, List.length_nil, List.nil_append, List.cons_append, Nat.zero_le, Nat.sub_zero, true_and, and_true, Nat.reduceAdd, Nat.reduceLeDiff, Nat.reduceLT, Nat.reduceSub, Nat.lt_irrefl, Nat.zero_add, Nat.add_zero, Nat.le_refl, k_20, k_10, k_01, ↓mm_if_T, ↓mm_if_F, ↓if10, ↓if00, not_true_eq_false, tf_01, ↓mm_if_tf, ↓mm_if_tn, ↓mm_if_nn, ↓if_rf]
  exact nxt M2 n (T61 n X a P (xs (i + 1))).2.1 (T61 n X a P (xs (i + 1))).2.2.1 (T61 n X a P (xs (i + 1))).2.2.2 b K q nx nl t lt ⟨hI2', hI22, hJ1, hJ22, h1n, hnx, hs2⟩

set_option maxHeartbeats 2000000 in
theorem b_15 {L : Nat} {xs : Nat → Int32} (hL : L ≤ 320) {i : Nat} (hi : i + 5 ≤ L) {post : mm_Post} (nxt : NX L xs post i) {M : mm_M} {n : Nat} {X : Sx} {a : Nat} {P : Nat → Sx} {b : Nat} {K : Nat → Sx} {q : Nat} {nx nl : Nat → Int32} {t : Nat} {lt : Nat → Int32} (h : LI L xs M n X a P b K q nx nl t lt) : pK 40 166 post 15 [some (.inr (.inr (11, 0))), some (.inr (.inr (5, 0))), some (.inr (.inr (6, 0))), some (.inl (nI i))] [] M (0, 0) := by
  obtain ⟨hI, hI2, hJ, hJ2, h1n, hnx, hs⟩ := h
  obtain ⟨ps, hC, hn, hR, hW, ha, -, -, hb, -, -⟩ := id hI
  have hq := hI2.1
  have ht := hI2.2.2.2.1
  have s0 := hs.1
  have w1 : mm_I M 11 0 (i + 1) = xs (i + 1) := hs.2 (i + 1) (by omega)
  rw [eK_166_15]
  simp (disch := omega) only [pw_iconst, qw_aload_n0, qw_aload_n1, qw_aload_n2, qw_iadd, qw_iaload, qw_if_icmp_eq, qw_iload_n3, qw_invokevirtual2, qw_ireturn, mm_rf_c, mm_rt_v, mm_rt_i, mm_rt_r, mm_alc_n, mm_alc_c, mm_rc_n, mm_rc_c, mm_wd_n, mm_wd_i, mm_wd_l, mm_wd_r, reduceCtorEq, false_implies, implies_true, true_implies, true_or, or_true, false_or, or_false, not_false_eq_true, mm_nl_n, mm_nl_i, mm_nl_r, mm_args_n, mm_args_i, mm_args_l, mm_args_r, mm_pad_0, mm_pad_n, mm_pad_c, List.length_cons, List.length_nil, List.nil_append, List.cons_append, Nat.zero_le, Nat.sub_zero, true_and, and_true, Nat.reduceAdd, Nat.reduceLeDiff, Nat.reduceLT, Nat.reduceSub, Nat.lt_irrefl, Nat.zero_add, Nat.add_zero, Nat.le_refl, k_20, k_10, k_01, ↓mm_if_T, ↓mm_if_F, ↓if10, ↓if00, not_true_eq_false, tf_01, ↓mm_if_tf, ↓mm_if_tn, ↓mm_if_nn, j_1, j_2, j_3, j_4, v320 hL, ci_, s0, w1]
  refine C62 34 hI (xs (i + 1)) (fun M1 hI1 hF1 => ?_)
  have FC1 := FX_C hF1
  have hI21 := I2_X hF1 hI2
  have hu := SC_C FC1 hs
  have u0 := hu.1
  have u1 : mm_I M1 11 0 (i + 1) = xs (i + 1) := hu.2 (i + 1) (by omega)
  simp (disch := omega) only [pw_iconst, qw_aload_n0, qw_aload_n1, qw_aload_n2, qw_iadd, qw_iaload, qw_if_icmp_eq, qw_iload_n3, qw_invokevirtual2, qw_ireturn, mm_rf_c, mm_rt_v, mm_rt_i, mm_rt_r, mm_alc_n, mm_alc_c, mm_rc_n, mm_rc_c, mm_wd_n, mm_wd_i, mm_wd_l, mm_wd_r, reduceCtorEq, false_implies, implies_true, true_implies, true_or, or_true, false_or, or_false, not_false_eq_true, mm_nl_n, mm_nl_i, mm_nl_r, mm_args_n, mm_args_i, mm_args_l, mm_args_r, mm_pad_0, mm_pad_n, mm_pad_c, List.length_cons, List.length_nil, List.nil_append, List.cons_append, Nat.zero_le, Nat.sub_zero, true_and, and_true, Nat.reduceAdd, Nat.reduceLeDiff, Nat.reduceLT, Nat.reduceSub, Nat.lt_irrefl, Nat.zero_add, Nat.add_zero, Nat.le_refl, k_20, k_10, k_01, ↓mm_if_T, ↓mm_if_F, ↓if10, ↓if00, not_true_eq_false, tf_01, ↓mm_if_tf, ↓mm_if_tn, ↓mm_if_nn, j_1, j_2, j_3, j_4, v320 hL, ci_, u0, u1]
  refine r_144 34 (J1_C FC1 hn hJ) hn ha hb hW (xs (i + 1)) (fun M2 hJ1 hF2 => ?_)
  have FN2 := FN_Y hF2
  have hI2' := I1_N FN2 hI1
  have hI22 := I2_N FN2 hI21
  have hs2 := SC_N FN2 hu
  have hJ22 := J2_Y hF2 (J2_C FC1 hJ2)
  simp (disch := omega) only [pw_iconst, qw_aload_n0, qw_aload_n1, qw_aload_n2, qw_iadd, qw_iaload, qw_if_icmp_eq, qw_iload_n3, qw_invokevirtual2, qw_ireturn, mm_rf_c, mm_rt_v, mm_rt_i, mm_rt_r, mm_alc_n, mm_alc_c, mm_rc_n, mm_rc_c, mm_wd_n, mm_wd_i, mm_wd_l, mm_wd_r, reduceCtorEq, false_implies, implies_true, true_implies, true_or, or_true, false_or, or_false, not_false_eq_true, mm_nl_n, mm_nl_i, mm_nl_r, mm_args_n, mm_args_i, mm_args_l, mm_args_r, mm_pad_0, mm_pad_n, mm_pad_c, List.length_cons, List.length_nil, List.nil_append, List.cons_append, Nat.zero_le, Nat.sub_zero, true_and, and_true, Nat.reduceAdd, Nat.reduceLeDiff, Nat.reduceLT, Nat.reduceSub, Nat.lt_irrefl, Nat.zero_add, Nat.add_zero, Nat.le_refl, k_20, k_10, k_01, ↓mm_if_T, ↓mm_if_F, ↓if10, ↓if00, not_true_eq_false, tf_01, ↓mm_if_tf, ↓mm_if_tn, ↓mm_if_nn, ↓if_rf]
  exact nxt M2 n (T62 n X a P (xs (i + 1))).2.1 (T62 n X a P (xs (i + 1))).2.2.1 (T62 n X a P (xs (i + 1))).2.2.2 b K q nx nl t lt ⟨hI2', hI22, hJ1, hJ22, h1n, hnx, hs2⟩

set_option maxHeartbeats 2000000 in
theorem b_16 {L : Nat} {xs : Nat → Int32} (hL : L ≤ 320) {i : Nat} (hi : i + 5 ≤ L) {post : mm_Post} (nxt : NX L xs post i) {M : mm_M} {n : Nat} {X : Sx} {a : Nat} {P : Nat → Sx} {b : Nat} {K : Nat → Sx} {q : Nat} {nx nl : Nat → Int32} {t : Nat} {lt : Nat → Int32} (h : LI L xs M n X a P b K q nx nl t lt) : pK 40 166 post 16 [some (.inr (.inr (11, 0))), some (.inr (.inr (5, 0))), some (.inr (.inr (6, 0))), some (.inl (nI i))] [] M (0, 0) := by
  obtain ⟨hI, hI2, hJ, hJ2, h1n, hnx, hs⟩ := h
  obtain ⟨ps, hC, hn, hR, hW, ha, -, -, hb, -, -⟩ := id hI
  have hq := hI2.1
  have ht := hI2.2.2.2.1
  have s0 := hs.1
  rw [eK_166_16]
  simp (disch := omega) only [pw_iconst, qw_aload_n1, qw_aload_n2, qw_if_icmp_eq, qw_invokevirtual1, qw_ireturn, mm_rf_c, mm_rt_v, mm_rt_i, mm_rt_r, mm_alc_n, mm_alc_c, mm_rc_n, mm_rc_c, mm_wd_n, mm_wd_i, mm_wd_l, mm_wd_r, reduceCtorEq, false_implies, implies_true, true_implies, true_or, or_true, false_or, or_false, not_false_eq_true, mm_nl_n, mm_nl_i, mm_nl_r, mm_args_n, mm_args_i, mm_args_l, mm_args_r, mm_pad_0, mm_pad_n, mm_pad_c, List.length_cons, List.length_nil, List.nil_append, List.cons_append, Nat.zero_le, Nat.sub_zero, true_and, and_true, Nat.reduceAdd, Nat.reduceLeDiff, Nat.reduceLT, Nat.reduceSub, Nat.lt_irrefl, Nat.zero_add, Nat.add_zero, Nat.le_refl, k_20, k_10, k_01, ↓mm_if_T, ↓mm_if_F, ↓if10, ↓if00, not_true_eq_false, tf_01, ↓mm_if_tf, ↓mm_if_tn, ↓mm_if_nn, j_1, j_2, j_3, j_4, v320 hL, ci_, s0]
  refine C63 37 hI  (fun M1 hI1 hF1 => ?_)
  have FC1 := FX_C hF1
  have hI21 := I2_X hF1 hI2
  have hu := SC_C FC1 hs
  have u0 := hu.1
  simp (disch := omega) only [pw_iconst, qw_aload_n1, qw_aload_n2, qw_if_icmp_eq, qw_invokevirtual1, qw_ireturn, mm_rf_c, mm_rt_v, mm_rt_i, mm_rt_r, mm_alc_n, mm_alc_c, mm_rc_n, mm_rc_c, mm_wd_n, mm_wd_i, mm_wd_l, mm_wd_r, reduceCtorEq, false_implies, implies_true, true_implies, true_or, or_true, false_or, or_false, not_false_eq_true, mm_nl_n, mm_nl_i, mm_nl_r, mm_args_n, mm_args_i, mm_args_l, mm_args_r, mm_pad_0, mm_pad_n, mm_pad_c, List.length_cons, List.length_nil, List.nil_append, List.cons_append, Nat.zero_le, Nat.sub_zero, true_and, and_true, Nat.reduceAdd, Nat.reduceLeDiff, Nat.reduceLT, Nat.reduceSub, Nat.lt_irrefl, Nat.zero_add, Nat.add_zero, Nat.le_refl, k_20, k_10, k_01, ↓mm_if_T, ↓mm_if_F, ↓if10, ↓if00, not_true_eq_false, tf_01, ↓mm_if_tf, ↓mm_if_tn, ↓mm_if_nn, j_1, j_2, j_3, j_4, v320 hL, ci_, u0]
  refine r_145 38 (J1_C FC1 hn hJ) hn ha hb hW  (fun M2 hJ1 hF2 => ?_)
  have FN2 := FN_Y hF2
  have hI2' := I1_N FN2 hI1
  have hI22 := I2_N FN2 hI21
  have hs2 := SC_N FN2 hu
  have hJ22 := J2_Y hF2 (J2_C FC1 hJ2)
  simp (disch := omega) only [pw_iconst, qw_aload_n1, qw_aload_n2, qw_if_icmp_eq, qw_invokevirtual1, qw_ireturn, mm_rf_c, mm_rt_v, mm_rt_i, mm_rt_r, mm_alc_n, mm_alc_c, mm_rc_n, mm_rc_c, mm_wd_n, mm_wd_i, mm_wd_l, mm_wd_r, reduceCtorEq, false_implies, implies_true, true_implies, true_or, or_true, false_or, or_false, not_false_eq_true, mm_nl_n, mm_nl_i, mm_nl_r, mm_args_n, mm_args_i, mm_args_l, mm_args_r, mm_pad_0, mm_pad_n, mm_pad_c, List.length_cons, List.length_nil, List.nil_append, List.cons_append, Nat.zero_le, Nat.sub_zero, true_and, and_true, Nat.reduceAdd, Nat.reduceLeDiff, Nat.reduceLT, Nat.reduceSub, Nat.lt_irrefl, Nat.zero_add, Nat.add_zero, Nat.le_refl, k_20, k_10, k_01, ↓mm_if_T, ↓mm_if_F, ↓if10, ↓if00, not_true_eq_false, tf_01, ↓mm_if_tf, ↓mm_if_tn, ↓mm_if_nn, ↓if_rf]
  exact nxt M2 n (T63 X a P).2.1 (T63 X a P).2.2.1 (T63 X a P).2.2.2 b K q nx nl t lt ⟨hI2', hI22, hJ1, hJ22, h1n, hnx, hs2⟩

set_option maxHeartbeats 2000000 in
theorem b_17 {L : Nat} {xs : Nat → Int32} (hL : L ≤ 320) {i : Nat} (hi : i + 5 ≤ L) {post : mm_Post} (nxt : NX L xs post i) {M : mm_M} {n : Nat} {X : Sx} {a : Nat} {P : Nat → Sx} {b : Nat} {K : Nat → Sx} {q : Nat} {nx nl : Nat → Int32} {t : Nat} {lt : Nat → Int32} (h : LI L xs M n X a P b K q nx nl t lt) : pK 40 166 post 17 [some (.inr (.inr (11, 0))), some (.inr (.inr (5, 0))), some (.inr (.inr (6, 0))), some (.inl (nI i))] [] M (0, 0) := by
  obtain ⟨hI, hI2, hJ, hJ2, h1n, hnx, hs⟩ := h
  obtain ⟨ps, hC, hn, hR, hW, ha, -, -, hb, -, -⟩ := id hI
  have hq := hI2.1
  have ht := hI2.2.2.2.1
  have s0 := hs.1
  have w1 : mm_I M 11 0 (i + 1) = xs (i + 1) := hs.2 (i + 1) (by omega)
  rw [eK_166_17]
  simp (disch := omega) only [pw_iconst, qw_aload_n0, qw_aload_n1, qw_aload_n2, qw_iadd, qw_iaload, qw_if_icmp_eq, qw_iload_n3, qw_invokevirtual2, qw_ireturn, mm_rf_c, mm_rt_v, mm_rt_i, mm_rt_r, mm_alc_n, mm_alc_c, mm_rc_n, mm_rc_c, mm_wd_n, mm_wd_i, mm_wd_l, mm_wd_r, reduceCtorEq, false_implies, implies_true, true_implies, true_or, or_true, false_or, or_false, not_false_eq_true, mm_nl_n, mm_nl_i, mm_nl_r, mm_args_n, mm_args_i, mm_args_l, mm_args_r, mm_pad_0, mm_pad_n, mm_pad_c, List.length_cons, List.length_nil, List.nil_append, List.cons_append, Nat.zero_le, Nat.sub_zero, true_and, and_true, Nat.reduceAdd, Nat.reduceLeDiff, Nat.reduceLT, Nat.reduceSub, Nat.lt_irrefl, Nat.zero_add, Nat.add_zero, Nat.le_refl, k_20, k_10, k_01, ↓mm_if_T, ↓mm_if_F, ↓if10, ↓if00, not_true_eq_false, tf_01, ↓mm_if_tf, ↓mm_if_tn, ↓mm_if_nn, j_1, j_2, j_3, j_4, v320 hL, ci_, s0, w1]
  refine C64 34 hI (xs (i + 1)) (fun M1 hI1 hF1 => ?_)
  have FC1 := FX_C hF1
  have hI21 := I2_X hF1 hI2
  have hu := SC_C FC1 hs
  have u0 := hu.1
  have u1 : mm_I M1 11 0 (i + 1) = xs (i + 1) := hu.2 (i + 1) (by omega)
  simp (disch := omega) only [pw_iconst, qw_aload_n0, qw_aload_n1, qw_aload_n2, qw_iadd, qw_iaload, qw_if_icmp_eq, qw_iload_n3, qw_invokevirtual2, qw_ireturn, mm_rf_c, mm_rt_v, mm_rt_i, mm_rt_r, mm_alc_n, mm_alc_c, mm_rc_n, mm_rc_c, mm_wd_n, mm_wd_i, mm_wd_l, mm_wd_r, reduceCtorEq, false_implies, implies_true, true_implies, true_or, or_true, false_or, or_false, not_false_eq_true, mm_nl_n, mm_nl_i, mm_nl_r, mm_args_n, mm_args_i, mm_args_l, mm_args_r, mm_pad_0, mm_pad_n, mm_pad_c, List.length_cons, List.length_nil, List.nil_append, List.cons_append, Nat.zero_le, Nat.sub_zero, true_and, and_true, Nat.reduceAdd, Nat.reduceLeDiff, Nat.reduceLT, Nat.reduceSub, Nat.lt_irrefl, Nat.zero_add, Nat.add_zero, Nat.le_refl, k_20, k_10, k_01, ↓mm_if_T, ↓mm_if_F, ↓if10, ↓if00, not_true_eq_false, tf_01, ↓mm_if_tf, ↓mm_if_tn, ↓mm_if_nn, j_1, j_2, j_3, j_4, v320 hL, ci_, u0, u1]
  refine r_146 34 (J1_C FC1 hn hJ) hn ha hb hW (xs (i + 1)) (fun M2 hJ1 hF2 => ?_)
  have FN2 := FN_Y hF2
  have hI2' := I1_N FN2 hI1
  have hI22 := I2_N FN2 hI21
  have hs2 := SC_N FN2 hu
  have hJ22 := J2_Y hF2 (J2_C FC1 hJ2)
  simp (disch := omega) only [pw_iconst, qw_aload_n0, qw_aload_n1, qw_aload_n2, qw_iadd, qw_iaload, qw_if_icmp_eq, qw_iload_n3, qw_invokevirtual2, qw_ireturn, mm_rf_c, mm_rt_v, mm_rt_i, mm_rt_r, mm_alc_n, mm_alc_c, mm_rc_n, mm_rc_c, mm_wd_n, mm_wd_i, mm_wd_l, mm_wd_r, reduceCtorEq, false_implies, implies_true, true_implies, true_or, or_true, false_or, or_false, not_false_eq_true, mm_nl_n, mm_nl_i, mm_nl_r, mm_args_n, mm_args_i, mm_args_l, mm_args_r, mm_pad_0, mm_pad_n, mm_pad_c, List.length_cons, List.length_nil, List.nil_append, List.cons_append, Nat.zero_le, Nat.sub_zero, true_and, and_true, Nat.reduceAdd, Nat.reduceLeDiff, Nat.reduceLT, Nat.reduceSub, Nat.lt_irrefl, Nat.zero_add, Nat.add_zero, Nat.le_refl, k_20, k_10, k_01, ↓mm_if_T, ↓mm_if_F, ↓if10, ↓if00, not_true_eq_false, tf_01, ↓mm_if_tf, ↓mm_if_tn, ↓mm_if_nn, ↓if_rf]
  exact nxt M2 n X a P b K q nx nl t lt ⟨hI2', hI22, hJ1, hJ22, h1n, hnx, hs2⟩

set_option maxHeartbeats 2000000 in
theorem b_18 {L : Nat} {xs : Nat → Int32} (hL : L ≤ 320) {i : Nat} (hi : i + 5 ≤ L) {post : mm_Post} (nxt : NX L xs post i) {M : mm_M} {n : Nat} {X : Sx} {a : Nat} {P : Nat → Sx} {b : Nat} {K : Nat → Sx} {q : Nat} {nx nl : Nat → Int32} {t : Nat} {lt : Nat → Int32} (h : LI L xs M n X a P b K q nx nl t lt) : pK 40 166 post 18 [some (.inr (.inr (11, 0))), some (.inr (.inr (5, 0))), some (.inr (.inr (6, 0))), some (.inl (nI i))] [] M (0, 0) := by
  obtain ⟨hI, hI2, hJ, hJ2, h1n, hnx, hs⟩ := h
  obtain ⟨ps, hC, hn, hR, hW, ha, -, -, hb, -, -⟩ := id hI
  have hq := hI2.1
  have ht := hI2.2.2.2.1
  have s0 := hs.1
  have w1 : mm_I M 11 0 (i + 1) = xs (i + 1) := hs.2 (i + 1) (by omega)
  rw [eK_166_18]
  simp (disch := omega) only [pw_iconst, qw_aload_n0, qw_aload_n1, qw_aload_n2, qw_iadd, qw_iaload, qw_if_icmp_eq, qw_iload_n3, qw_invokevirtual2, qw_ireturn, mm_rf_c, mm_rt_v, mm_rt_i, mm_rt_r, mm_alc_n, mm_alc_c, mm_rc_n, mm_rc_c, mm_wd_n, mm_wd_i, mm_wd_l, mm_wd_r, reduceCtorEq, false_implies, implies_true, true_implies, true_or, or_true, false_or, or_false, not_false_eq_true, mm_nl_n, mm_nl_i, mm_nl_r, mm_args_n, mm_args_i, mm_args_l, mm_args_r, mm_pad_0, mm_pad_n, mm_pad_c, List.length_cons, List.length_nil, List.nil_append, List.cons_append, Nat.zero_le, Nat.sub_zero, true_and, and_true, Nat.reduceAdd, Nat.reduceLeDiff, Nat.reduceLT, Nat.reduceSub, Nat.lt_irrefl, Nat.zero_add, Nat.add_zero, Nat.le_refl, k_20, k_10, k_01, ↓mm_if_T, ↓mm_if_F, ↓if10, ↓if00, not_true_eq_false, tf_01, ↓mm_if_tf, ↓mm_if_tn, ↓mm_if_nn, j_1, j_2, j_3, j_4, v320 hL, ci_, s0, w1]
  refine C65 34 hI (xs (i + 1)) (fun M1 hI1 hF1 => ?_)
  have FC1 := FX_C hF1
  have hI21 := I2_X hF1 hI2
  have hu := SC_C FC1 hs
  have u0 := hu.1
  have u1 : mm_I M1 11 0 (i + 1) = xs (i + 1) := hu.2 (i + 1) (by omega)
  simp (disch := omega) only [pw_iconst, qw_aload_n0, qw_aload_n1, qw_aload_n2, qw_iadd, qw_iaload, qw_if_icmp_eq, qw_iload_n3, qw_invokevirtual2, qw_ireturn, mm_rf_c, mm_rt_v, mm_rt_i, mm_rt_r, mm_alc_n, mm_alc_c, mm_rc_n, mm_rc_c, mm_wd_n, mm_wd_i, mm_wd_l, mm_wd_r, reduceCtorEq, false_implies, implies_true, true_implies, true_or, or_true, false_or, or_false, not_false_eq_true, mm_nl_n, mm_nl_i, mm_nl_r, mm_args_n, mm_args_i, mm_args_l, mm_args_r, mm_pad_0, mm_pad_n, mm_pad_c, List.length_cons, List.length_nil, List.nil_append, List.cons_append, Nat.zero_le, Nat.sub_zero, true_and, and_true, Nat.reduceAdd, Nat.reduceLeDiff, Nat.reduceLT, Nat.reduceSub, Nat.lt_irrefl, Nat.zero_add, Nat.add_zero, Nat.le_refl, k_20, k_10, k_01, ↓mm_if_T, ↓mm_if_F, ↓if10, ↓if00, not_true_eq_false, tf_01, ↓mm_if_tf, ↓mm_if_tn, ↓mm_if_nn, j_1, j_2, j_3, j_4, v320 hL, ci_, u0, u1]
  refine r_147 34 (J1_C FC1 hn hJ) hn ha hb hW (xs (i + 1)) (fun M2 hJ1 hF2 => ?_)
  have FN2 := FN_Y hF2
  have hI2' := I1_N FN2 hI1
  have hI22 := I2_N FN2 hI21
  have hs2 := SC_N FN2 hu
  have hJ22 := J2_Y hF2 (J2_C FC1 hJ2)
  simp (disch := omega) only [pw_iconst, qw_aload_n0, qw_aload_n1, qw_aload_n2, qw_iadd, qw_iaload, qw_if_icmp_eq, qw_iload_n3, qw_invokevirtual2, qw_ireturn, mm_rf_c, mm_rt_v, mm_rt_i, mm_rt_r, mm_alc_n, mm_alc_c, mm_rc_n, mm_rc_c, mm_wd_n, mm_wd_i, mm_wd_l, mm_wd_r, reduceCtorEq, false_implies, implies_true, true_implies, true_or, or_true, false_or, or_false, not_false_eq_true, mm_nl_n, mm_nl_i, mm_nl_r, mm_args_n, mm_args_i, mm_args_l, mm_args_r, mm_pad_0, mm_pad_n, mm_pad_c, List.length_cons, List.length_nil, List.nil_append, List.cons_append, Nat.zero_le, Nat.sub_zero, true_and, and_true, Nat.reduceAdd, Nat.reduceLeDiff, Nat.reduceLT, Nat.reduceSub, Nat.lt_irrefl, Nat.zero_add, Nat.add_zero, Nat.le_refl, k_20, k_10, k_01, ↓mm_if_T, ↓mm_if_F, ↓if10, ↓if00, not_true_eq_false, tf_01, ↓mm_if_tf, ↓mm_if_tn, ↓mm_if_nn, ↓if_rf]
  exact nxt M2 n X a P b K q nx nl t lt ⟨hI2', hI22, hJ1, hJ22, h1n, hnx, hs2⟩

set_option maxHeartbeats 2000000 in
theorem b_19 {L : Nat} {xs : Nat → Int32} (hL : L ≤ 320) {i : Nat} (hi : i + 5 ≤ L) {post : mm_Post} (nxt : NX L xs post i) {M : mm_M} {n : Nat} {X : Sx} {a : Nat} {P : Nat → Sx} {b : Nat} {K : Nat → Sx} {q : Nat} {nx nl : Nat → Int32} {t : Nat} {lt : Nat → Int32} (h : LI L xs M n X a P b K q nx nl t lt) : pK 40 166 post 19 [some (.inr (.inr (11, 0))), some (.inr (.inr (5, 0))), some (.inr (.inr (6, 0))), some (.inl (nI i))] [] M (0, 0) := by
  obtain ⟨hI, hI2, hJ, hJ2, h1n, hnx, hs⟩ := h
  obtain ⟨ps, hC, hn, hR, hW, ha, -, -, hb, -, -⟩ := id hI
  have hq := hI2.1
  have ht := hI2.2.2.2.1
  have s0 := hs.1
  have w1 : mm_I M 11 0 (i + 1) = xs (i + 1) := hs.2 (i + 1) (by omega)
  have w2 : mm_I M 11 0 (i + 2) = xs (i + 2) := hs.2 (i + 2) (by omega)
  have w3 : mm_I M 11 0 (i + 3) = xs (i + 3) := hs.2 (i + 3) (by omega)
  have ec : ∀ post, pC 40 66 [.inr (.inr (5, 0)), .inl (xs (i + 1)), .inl (xs (i + 2)), .inl (xs (i + 3))] M post = post (some (.inl (G66 n X (xs (i + 1)) (xs (i + 2)) (xs (i + 3))))) M := fun post => e_66 35 hI (xs (i + 1)) (xs (i + 2)) (xs (i + 3))
  rw [eK_166_19]
  simp (disch := omega) only [pw_iconst, qw_aload_n0, qw_aload_n1, qw_aload_n2, qw_iadd, qw_iaload, qw_if_icmp_eq, qw_iload_n3, qw_invokevirtual4, qw_ireturn, mm_rf_c, mm_rt_v, mm_rt_i, mm_rt_r, mm_alc_n, mm_alc_c, mm_rc_n, mm_rc_c, mm_wd_n, mm_wd_i, mm_wd_l, mm_wd_r, reduceCtorEq, false_implies, implies_true, true_implies, true_or, or_true, false_or, or_false, not_false_eq_true, mm_nl_n, mm_nl_i, mm_nl_r, mm_args_n, mm_args_i, mm_args_l, mm_args_r, mm_pad_0, mm_pad_n, mm_pad_c, List.length_cons, List.length_nil, List.nil_append, List.cons_append, Nat.zero_le, Nat.sub_zero, true_and, and_true, Nat.reduceAdd, Nat.reduceLeDiff, Nat.reduceLT, Nat.reduceSub, Nat.lt_irrefl, Nat.zero_add, Nat.add_zero, Nat.le_refl, k_20, k_10, k_01, ↓mm_if_T, ↓mm_if_F, ↓if10, ↓if00, not_true_eq_false, tf_01, ↓mm_if_tf, ↓mm_if_tn, ↓mm_if_nn, j_1, j_2, j_3, j_4, v320 hL, ci_, s0, ec, w1, w2, w3]
  refine r_148 35 hJ hn ha hb hW (xs (i + 1)) (xs (i + 2)) (xs (i + 3)) (fun M2 hJ1 hF2 => ?_)
  have FN2 := FN_Y hF2
  have hI2' := I1_N FN2 hI
  have hI22 := I2_N FN2 hI2
  have hs2 := SC_N FN2 hs
  have hJ22 := J2_Y hF2 hJ2
  simp (disch := omega) only [pw_iconst, qw_aload_n0, qw_aload_n1, qw_aload_n2, qw_iadd, qw_iaload, qw_if_icmp_eq, qw_iload_n3, qw_invokevirtual4, qw_ireturn, mm_rf_c, mm_rt_v, mm_rt_i, mm_rt_r, mm_alc_n, mm_alc_c, mm_rc_n, mm_rc_c, mm_wd_n, mm_wd_i, mm_wd_l, mm_wd_r, reduceCtorEq, false_implies, implies_true, true_implies, true_or, or_true, false_or, or_false, not_false_eq_true, mm_nl_n, mm_nl_i, mm_nl_r, mm_args_n, mm_args_i, mm_args_l, mm_args_r, mm_pad_0, mm_pad_n, mm_pad_c, List.length_cons, List.length_nil, List.nil_append, List.cons_append, Nat.zero_le, Nat.sub_zero, true_and, and_true, Nat.reduceAdd, Nat.reduceLeDiff, Nat.reduceLT, Nat.reduceSub, Nat.lt_irrefl, Nat.zero_add, Nat.add_zero, Nat.le_refl, k_20, k_10, k_01, ↓mm_if_T, ↓mm_if_F, ↓if10, ↓if00, not_true_eq_false, tf_01, ↓mm_if_tf, ↓mm_if_tn, ↓mm_if_nn, ↓if_rf]
  exact nxt M2 n X a P b K q nx nl t lt ⟨hI2', hI22, hJ1, hJ22, h1n, hnx, hs2⟩

set_option maxHeartbeats 2000000 in
theorem b_20 {L : Nat} {xs : Nat → Int32} (hL : L ≤ 320) {i : Nat} (hi : i + 5 ≤ L) {post : mm_Post} (nxt : NX L xs post i) {M : mm_M} {n : Nat} {X : Sx} {a : Nat} {P : Nat → Sx} {b : Nat} {K : Nat → Sx} {q : Nat} {nx nl : Nat → Int32} {t : Nat} {lt : Nat → Int32} (h : LI L xs M n X a P b K q nx nl t lt) : pK 40 166 post 20 [some (.inr (.inr (11, 0))), some (.inr (.inr (5, 0))), some (.inr (.inr (6, 0))), some (.inl (nI i))] [] M (0, 0) := by
  obtain ⟨hI, hI2, hJ, hJ2, h1n, hnx, hs⟩ := h
  obtain ⟨ps, hC, hn, hR, hW, ha, -, -, hb, -, -⟩ := id hI
  have hq := hI2.1
  have ht := hI2.2.2.2.1
  have s0 := hs.1
  have w1 : mm_I M 11 0 (i + 1) = xs (i + 1) := hs.2 (i + 1) (by omega)
  have w2 : mm_I M 11 0 (i + 2) = xs (i + 2) := hs.2 (i + 2) (by omega)
  rw [eK_166_20]
  simp (disch := omega) only [pw_iconst, qw_aload_n0, qw_aload_n1, qw_aload_n2, qw_iadd, qw_iaload, qw_if_icmp_eq, qw_iload_n3, qw_invokevirtual3, qw_ireturn, mm_rf_c, mm_rt_v, mm_rt_i, mm_rt_r, mm_alc_n, mm_alc_c, mm_rc_n, mm_rc_c, mm_wd_n, mm_wd_i, mm_wd_l, mm_wd_r, reduceCtorEq, false_implies, implies_true, true_implies, true_or, or_true, false_or, or_false, not_false_eq_true, mm_nl_n, mm_nl_i, mm_nl_r, mm_args_n, mm_args_i, mm_args_l, mm_args_r, mm_pad_0, mm_pad_n, mm_pad_c, List.length_cons, List.length_nil, List.nil_append, List.cons_append, Nat.zero_le, Nat.sub_zero, true_and, and_true, Nat.reduceAdd, Nat.reduceLeDiff, Nat.reduceLT, Nat.reduceSub, Nat.lt_irrefl, Nat.zero_add, Nat.add_zero, Nat.le_refl, k_20, k_10, k_01, ↓mm_if_T, ↓mm_if_F, ↓if10, ↓if00, not_true_eq_false, tf_01, ↓mm_if_tf, ↓mm_if_tn, ↓mm_if_nn, j_1, j_2, j_3, j_4, v320 hL, ci_, s0, w1, w2]
  refine C67 33 hI (xs (i + 1)) (xs (i + 2)) (fun M1 hI1 hF1 => ?_)
  have FC1 := FX_C hF1
  have hI21 := I2_X hF1 hI2
  have hu := SC_C FC1 hs
  have u0 := hu.1
  have u1 : mm_I M1 11 0 (i + 1) = xs (i + 1) := hu.2 (i + 1) (by omega)
  have u2 : mm_I M1 11 0 (i + 2) = xs (i + 2) := hu.2 (i + 2) (by omega)
  simp (disch := omega) only [pw_iconst, qw_aload_n0, qw_aload_n1, qw_aload_n2, qw_iadd, qw_iaload, qw_if_icmp_eq, qw_iload_n3, qw_invokevirtual3, qw_ireturn, mm_rf_c, mm_rt_v, mm_rt_i, mm_rt_r, mm_alc_n, mm_alc_c, mm_rc_n, mm_rc_c, mm_wd_n, mm_wd_i, mm_wd_l, mm_wd_r, reduceCtorEq, false_implies, implies_true, true_implies, true_or, or_true, false_or, or_false, not_false_eq_true, mm_nl_n, mm_nl_i, mm_nl_r, mm_args_n, mm_args_i, mm_args_l, mm_args_r, mm_pad_0, mm_pad_n, mm_pad_c, List.length_cons, List.length_nil, List.nil_append, List.cons_append, Nat.zero_le, Nat.sub_zero, true_and, and_true, Nat.reduceAdd, Nat.reduceLeDiff, Nat.reduceLT, Nat.reduceSub, Nat.lt_irrefl, Nat.zero_add, Nat.add_zero, Nat.le_refl, k_20, k_10, k_01, ↓mm_if_T, ↓mm_if_F, ↓if10, ↓if00, not_true_eq_false, tf_01, ↓mm_if_tf, ↓mm_if_tn, ↓mm_if_nn, j_1, j_2, j_3, j_4, v320 hL, ci_, u0, u1, u2]
  refine r_149 35 (J1_C FC1 hn hJ) hn ha hb hW (xs (i + 1)) (xs (i + 2)) (fun M2 hJ1 hF2 => ?_)
  have FN2 := FN_Y hF2
  have hI2' := I1_N FN2 hI1
  have hI22 := I2_N FN2 hI21
  have hs2 := SC_N FN2 hu
  have hJ22 := J2_Y hF2 (J2_C FC1 hJ2)
  simp (disch := omega) only [pw_iconst, qw_aload_n0, qw_aload_n1, qw_aload_n2, qw_iadd, qw_iaload, qw_if_icmp_eq, qw_iload_n3, qw_invokevirtual3, qw_ireturn, mm_rf_c, mm_rt_v, mm_rt_i, mm_rt_r, mm_alc_n, mm_alc_c, mm_rc_n, mm_rc_c, mm_wd_n, mm_wd_i, mm_wd_l, mm_wd_r, reduceCtorEq, false_implies, implies_true, true_implies, true_or, or_true, false_or, or_false, not_false_eq_true, mm_nl_n, mm_nl_i, mm_nl_r, mm_args_n, mm_args_i, mm_args_l, mm_args_r, mm_pad_0, mm_pad_n, mm_pad_c, List.length_cons, List.length_nil, List.nil_append, List.cons_append, Nat.zero_le, Nat.sub_zero, true_and, and_true, Nat.reduceAdd, Nat.reduceLeDiff, Nat.reduceLT, Nat.reduceSub, Nat.lt_irrefl, Nat.zero_add, Nat.add_zero, Nat.le_refl, k_20, k_10, k_01, ↓mm_if_T, ↓mm_if_F, ↓if10, ↓if00, not_true_eq_false, tf_01, ↓mm_if_tf, ↓mm_if_tn, ↓mm_if_nn, ↓if_rf]
  exact nxt M2 n X a P b K q nx nl t lt ⟨hI2', hI22, hJ1, hJ22, h1n, hnx, hs2⟩

set_option maxHeartbeats 2000000 in
theorem b_22 {L : Nat} {xs : Nat → Int32} (hL : L ≤ 320) {i : Nat} (hi : i + 5 ≤ L) {post : mm_Post} (nxt : NX L xs post i) {M : mm_M} {n : Nat} {X : Sx} {a : Nat} {P : Nat → Sx} {b : Nat} {K : Nat → Sx} {q : Nat} {nx nl : Nat → Int32} {t : Nat} {lt : Nat → Int32} (h : LI L xs M n X a P b K q nx nl t lt) : pK 40 166 post 22 [some (.inr (.inr (11, 0))), some (.inr (.inr (5, 0))), some (.inr (.inr (6, 0))), some (.inl (nI i))] [] M (0, 0) := by
  obtain ⟨hI, hI2, hJ, hJ2, h1n, hnx, hs⟩ := h
  obtain ⟨ps, hC, hn, hR, hW, ha, -, -, hb, -, -⟩ := id hI
  have hq := hI2.1
  have ht := hI2.2.2.2.1
  have s0 := hs.1
  have w1 : mm_I M 11 0 (i + 1) = xs (i + 1) := hs.2 (i + 1) (by omega)
  have ec : ∀ post, pC 40 69 [.inr (.inr (5, 0)), .inl (xs (i + 1))] M post = post (some (.inl (G69 n X.1.1 (xs (i + 1))))) M := fun post => e_69 34 hn hC hR (xs (i + 1))
  have er : ∀ post, pC 40 153 [.inr (.inr (6, 0)), .inl (xs (i + 1))] M post = post (some (.inl (G69 n X.1.1 (xs (i + 1))))) M := fun post => r_153 36 hJ.1 hn hJ.2.1 hJ.2.2.1 hW (xs (i + 1))
  rw [eK_166_22]
  simp (disch := omega) only [pw_iconst, qw_aload_n0, qw_aload_n1, qw_aload_n2, qw_iadd, qw_iaload, qw_if_icmp_eq, qw_iload_n3, qw_invokevirtual2, qw_ireturn, mm_rf_c, mm_rt_v, mm_rt_i, mm_rt_r, mm_alc_n, mm_alc_c, mm_rc_n, mm_rc_c, mm_wd_n, mm_wd_i, mm_wd_l, mm_wd_r, reduceCtorEq, false_implies, implies_true, true_implies, true_or, or_true, false_or, or_false, not_false_eq_true, mm_nl_n, mm_nl_i, mm_nl_r, mm_args_n, mm_args_i, mm_args_l, mm_args_r, mm_pad_0, mm_pad_n, mm_pad_c, List.length_cons, List.length_nil, List.nil_append, List.cons_append, Nat.zero_le, Nat.sub_zero, true_and, and_true, Nat.reduceAdd, Nat.reduceLeDiff, Nat.reduceLT, Nat.reduceSub, Nat.lt_irrefl, Nat.zero_add, Nat.add_zero, Nat.le_refl, k_20, k_10, k_01, ↓mm_if_T, ↓mm_if_F, ↓if10, ↓if00, not_true_eq_false, tf_01, ↓mm_if_tf, ↓mm_if_tn, ↓mm_if_nn, j_1, j_2, j_3, j_4, v320 hL, ci_, s0, ec, er, ↓if_rf, w1]
  exact nxt M n X a P b K q nx nl t lt ⟨hI, hI2, hJ, hJ2, h1n, hnx, hs⟩

set_option maxHeartbeats 2000000 in
theorem b_23 {L : Nat} {xs : Nat → Int32} (hL : L ≤ 320) {i : Nat} (hi : i + 5 ≤ L) {post : mm_Post} (nxt : NX L xs post i) {M : mm_M} {n : Nat} {X : Sx} {a : Nat} {P : Nat → Sx} {b : Nat} {K : Nat → Sx} {q : Nat} {nx nl : Nat → Int32} {t : Nat} {lt : Nat → Int32} (h : LI L xs M n X a P b K q nx nl t lt) : pK 40 166 post 23 [some (.inr (.inr (11, 0))), some (.inr (.inr (5, 0))), some (.inr (.inr (6, 0))), some (.inl (nI i))] [] M (0, 0) := by
  obtain ⟨hI, hI2, hJ, hJ2, h1n, hnx, hs⟩ := h
  obtain ⟨ps, hC, hn, hR, hW, ha, -, -, hb, -, -⟩ := id hI
  have hq := hI2.1
  have ht := hI2.2.2.2.1
  have s0 := hs.1
  have w1 : mm_I M 11 0 (i + 1) = xs (i + 1) := hs.2 (i + 1) (by omega)
  have w2 : mm_I M 11 0 (i + 2) = xs (i + 2) := hs.2 (i + 2) (by omega)
  rw [eK_166_23]
  simp (disch := omega) only [pw_iconst, qw_aload_n0, qw_aload_n1, qw_aload_n2, qw_iadd, qw_iaload, qw_if_icmp_eq, qw_iload_n3, qw_invokevirtual3, qw_ireturn, mm_rf_c, mm_rt_v, mm_rt_i, mm_rt_r, mm_alc_n, mm_alc_c, mm_rc_n, mm_rc_c, mm_wd_n, mm_wd_i, mm_wd_l, mm_wd_r, reduceCtorEq, false_implies, implies_true, true_implies, true_or, or_true, false_or, or_false, not_false_eq_true, mm_nl_n, mm_nl_i, mm_nl_r, mm_args_n, mm_args_i, mm_args_l, mm_args_r, mm_pad_0, mm_pad_n, mm_pad_c, List.length_cons, List.length_nil, List.nil_append, List.cons_append, Nat.zero_le, Nat.sub_zero, true_and, and_true, Nat.reduceAdd, Nat.reduceLeDiff, Nat.reduceLT, Nat.reduceSub, Nat.lt_irrefl, Nat.zero_add, Nat.add_zero, Nat.le_refl, k_20, k_10, k_01, ↓mm_if_T, ↓mm_if_F, ↓if10, ↓if00, not_true_eq_false, tf_01, ↓mm_if_tf, ↓mm_if_tn, ↓mm_if_nn, j_1, j_2, j_3, j_4, v320 hL, ci_, s0, w1, w2]
  refine C70 37 hI hI2 (xs (i + 1)) (xs (i + 2)) (fun M1 hI1 hI21 hF1 => ?_)
  have FC1 := hF1
  have hu := SC_C FC1 hs
  have u0 := hu.1
  have u1 : mm_I M1 11 0 (i + 1) = xs (i + 1) := hu.2 (i + 1) (by omega)
  have u2 : mm_I M1 11 0 (i + 2) = xs (i + 2) := hu.2 (i + 2) (by omega)
  simp (disch := omega) only [pw_iconst, qw_aload_n0, qw_aload_n1, qw_aload_n2, qw_iadd, qw_iaload, qw_if_icmp_eq, qw_iload_n3, qw_invokevirtual3, qw_ireturn, mm_rf_c, mm_rt_v, mm_rt_i, mm_rt_r, mm_alc_n, mm_alc_c, mm_rc_n, mm_rc_c, mm_wd_n, mm_wd_i, mm_wd_l, mm_wd_r, reduceCtorEq, false_implies, implies_true, true_implies, true_or, or_true, false_or, or_false, not_false_eq_true, mm_nl_n, mm_nl_i, mm_nl_r, mm_args_n, mm_args_i, mm_args_l, mm_args_r, mm_pad_0, mm_pad_n, mm_pad_c, List.length_cons, List.length_nil, List.nil_append, List.cons_append, Nat.zero_le, Nat.sub_zero, true_and, and_true, Nat.reduceAdd, Nat.reduceLeDiff, Nat.reduceLT, Nat.reduceSub, Nat.lt_irrefl, Nat.zero_add, Nat.add_zero, Nat.le_refl, k_20, k_10, k_01, ↓mm_if_T, ↓mm_if_F, ↓if10, ↓if00, not_true_eq_false, tf_01, ↓mm_if_tf, ↓mm_if_tn, ↓mm_if_nn, j_1, j_2, j_3, j_4, v320 hL, ci_, u0, u1, u2]
  refine r_154 38 (J1_C FC1 hn hJ).1 (J2_C FC1 hJ2) hq ht (xs (i + 1)) (xs (i + 2)) (fun M2 hJ22 hF2 => ?_)
  have FN2 := FN_6 hF2
  have hI2' := I1_N FN2 hI1
  have hI22 := I2_N FN2 hI21
  have hs2 := SC_N FN2 hu
  have hJ1 := J1_6 (J1_C FC1 hn hJ) hn ha hb hF2
  simp (disch := omega) only [pw_iconst, qw_aload_n0, qw_aload_n1, qw_aload_n2, qw_iadd, qw_iaload, qw_if_icmp_eq, qw_iload_n3, qw_invokevirtual3, qw_ireturn, mm_rf_c, mm_rt_v, mm_rt_i, mm_rt_r, mm_alc_n, mm_alc_c, mm_rc_n, mm_rc_c, mm_wd_n, mm_wd_i, mm_wd_l, mm_wd_r, reduceCtorEq, false_implies, implies_true, true_implies, true_or, or_true, false_or, or_false, not_false_eq_true, mm_nl_n, mm_nl_i, mm_nl_r, mm_args_n, mm_args_i, mm_args_l, mm_args_r, mm_pad_0, mm_pad_n, mm_pad_c, List.length_cons, List.length_nil, List.nil_append, List.cons_append, Nat.zero_le, Nat.sub_zero, true_and, and_true, Nat.reduceAdd, Nat.reduceLeDiff, Nat.reduceLT, Nat.reduceSub, Nat.lt_irrefl, Nat.zero_add, Nat.add_zero, Nat.le_refl, k_20, k_10, k_01, ↓mm_if_T, ↓mm_if_F, ↓if10, ↓if00, not_true_eq_false, tf_01, ↓mm_if_tf, ↓mm_if_tn, ↓mm_if_nn, ↓if_rf]
  exact nxt M2 n X a P b K (T70 q nx nl (xs (i + 1)) (xs (i + 2))).2.1 (T70 q nx nl (xs (i + 1)) (xs (i + 2))).2.2.1 (T70 q nx nl (xs (i + 1)) (xs (i + 2))).2.2.2 t lt ⟨hI2', hI22, hJ1, hJ22, h1n, T70_nx _ _ hnx, hs2⟩

set_option maxHeartbeats 2000000 in
theorem b_24 {L : Nat} {xs : Nat → Int32} (hL : L ≤ 320) {i : Nat} (hi : i + 5 ≤ L) {post : mm_Post} (nxt : NX L xs post i) {M : mm_M} {n : Nat} {X : Sx} {a : Nat} {P : Nat → Sx} {b : Nat} {K : Nat → Sx} {q : Nat} {nx nl : Nat → Int32} {t : Nat} {lt : Nat → Int32} (h : LI L xs M n X a P b K q nx nl t lt) : pK 40 166 post 24 [some (.inr (.inr (11, 0))), some (.inr (.inr (5, 0))), some (.inr (.inr (6, 0))), some (.inl (nI i))] [] M (0, 0) := by
  obtain ⟨hI, hI2, hJ, hJ2, h1n, hnx, hs⟩ := h
  obtain ⟨ps, hC, hn, hR, hW, ha, -, -, hb, -, -⟩ := id hI
  have hq := hI2.1
  have ht := hI2.2.2.2.1
  have s0 := hs.1
  rw [eK_166_24]
  simp (disch := omega) only [pw_iconst, qw_aload_n1, qw_aload_n2, qw_if_icmp_eq, qw_invokevirtual1, qw_ireturn, mm_rf_c, mm_rt_v, mm_rt_i, mm_rt_r, mm_alc_n, mm_alc_c, mm_rc_n, mm_rc_c, mm_wd_n, mm_wd_i, mm_wd_l, mm_wd_r, reduceCtorEq, false_implies, implies_true, true_implies, true_or, or_true, false_or, or_false, not_false_eq_true, mm_nl_n, mm_nl_i, mm_nl_r, mm_args_n, mm_args_i, mm_args_l, mm_args_r, mm_pad_0, mm_pad_n, mm_pad_c, List.length_cons, List.length_nil, List.nil_append, List.cons_append, Nat.zero_le, Nat.sub_zero, true_and, and_true, Nat.reduceAdd, Nat.reduceLeDiff, Nat.reduceLT, Nat.reduceSub, Nat.lt_irrefl, Nat.zero_add, Nat.add_zero, Nat.le_refl, k_20, k_10, k_01, ↓mm_if_T, ↓mm_if_F, ↓if10, ↓if00, not_true_eq_false, tf_01, ↓mm_if_tf, ↓mm_if_tn, ↓mm_if_nn, j_1, j_2, j_3, j_4, v320 hL, ci_, s0]
  refine C71 38 hI hI2 (fun M1 hI1 hI21 hF1 => ?_)
  have FC1 := hF1
  have hu := SC_C FC1 hs
  have u0 := hu.1
  simp (disch := omega) only [pw_iconst, qw_aload_n1, qw_aload_n2, qw_if_icmp_eq, qw_invokevirtual1, qw_ireturn, mm_rf_c, mm_rt_v, mm_rt_i, mm_rt_r, mm_alc_n, mm_alc_c, mm_rc_n, mm_rc_c, mm_wd_n, mm_wd_i, mm_wd_l, mm_wd_r, reduceCtorEq, false_implies, implies_true, true_implies, true_or, or_true, false_or, or_false, not_false_eq_true, mm_nl_n, mm_nl_i, mm_nl_r, mm_args_n, mm_args_i, mm_args_l, mm_args_r, mm_pad_0, mm_pad_n, mm_pad_c, List.length_cons, List.length_nil, List.nil_append, List.cons_append, Nat.zero_le, Nat.sub_zero, true_and, and_true, Nat.reduceAdd, Nat.reduceLeDiff, Nat.reduceLT, Nat.reduceSub, Nat.lt_irrefl, Nat.zero_add, Nat.add_zero, Nat.le_refl, k_20, k_10, k_01, ↓mm_if_T, ↓mm_if_F, ↓if10, ↓if00, not_true_eq_false, tf_01, ↓mm_if_tf, ↓mm_if_tn, ↓mm_if_nn, j_1, j_2, j_3, j_4, v320 hL, ci_, u0]
  refine r_155 39 (J1_C FC1 hn hJ).1 (J2_C FC1 hJ2) hq ht (fun M2 hJ22 hF2 => ?_)
  have FN2 := FN_6 hF2
  have hI2' := I1_N FN2 hI1
  have hI22 := I2_N FN2 hI21
  have hs2 := SC_N FN2 hu
  have hJ1 := J1_6 (J1_C FC1 hn hJ) hn ha hb hF2
  simp (disch := omega) only [pw_iconst, qw_aload_n1, qw_aload_n2, qw_if_icmp_eq, qw_invokevirtual1, qw_ireturn, mm_rf_c, mm_rt_v, mm_rt_i, mm_rt_r, mm_alc_n, mm_alc_c, mm_rc_n, mm_rc_c, mm_wd_n, mm_wd_i, mm_wd_l, mm_wd_r, reduceCtorEq, false_implies, implies_true, true_implies, true_or, or_true, false_or, or_false, not_false_eq_true, mm_nl_n, mm_nl_i, mm_nl_r, mm_args_n, mm_args_i, mm_args_l, mm_args_r, mm_pad_0, mm_pad_n, mm_pad_c, List.length_cons, List.length_nil, List.nil_append, List.cons_append, Nat.zero_le, Nat.sub_zero, true_and, and_true, Nat.reduceAdd, Nat.reduceLeDiff, Nat.reduceLT, Nat.reduceSub, Nat.lt_irrefl, Nat.zero_add, Nat.add_zero, Nat.le_refl, k_20, k_10, k_01, ↓mm_if_T, ↓mm_if_F, ↓if10, ↓if00, not_true_eq_false, tf_01, ↓mm_if_tf, ↓mm_if_tn, ↓mm_if_nn, ↓if_rf]
  exact nxt M2 n X a P b K 0 nx nl t lt ⟨hI2', hI22, hJ1, hJ22, h1n, fun i hi => absurd hi (Nat.not_lt_zero i), hs2⟩

set_option maxHeartbeats 2000000 in
theorem b_25 {L : Nat} {xs : Nat → Int32} (hL : L ≤ 320) {i : Nat} (hi : i + 5 ≤ L) {post : mm_Post} (nxt : NX L xs post i) {M : mm_M} {n : Nat} {X : Sx} {a : Nat} {P : Nat → Sx} {b : Nat} {K : Nat → Sx} {q : Nat} {nx nl : Nat → Int32} {t : Nat} {lt : Nat → Int32} (h : LI L xs M n X a P b K q nx nl t lt) : pK 40 166 post 25 [some (.inr (.inr (11, 0))), some (.inr (.inr (5, 0))), some (.inr (.inr (6, 0))), some (.inl (nI i))] [] M (0, 0) := by
  obtain ⟨hI, hI2, hJ, hJ2, h1n, hnx, hs⟩ := h
  obtain ⟨ps, hC, hn, hR, hW, ha, -, -, hb, -, -⟩ := id hI
  have hq := hI2.1
  have ht := hI2.2.2.2.1
  have s0 := hs.1
  have ec : ∀ post, pC 40 72 [.inr (.inr (5, 0))] M post = post (some (.inl (G72 n X.1.1 q nx nl))) M := fun post => e_72 36 hI hI2
  have er : ∀ post, pC 40 156 [.inr (.inr (6, 0))] M post = post (some (.inl (G72 n X.1.1 q nx nl))) M := fun post => r_156 37 hJ.1 hn hJ.2.1 hJ.2.2.1 hW hJ2.1 hJ2.2.1 hq hnx
  rw [eK_166_25]
  simp (disch := omega) only [pw_iconst, qw_aload_n1, qw_aload_n2, qw_if_icmp_eq, qw_invokevirtual1, qw_ireturn, mm_rf_c, mm_rt_v, mm_rt_i, mm_rt_r, mm_alc_n, mm_alc_c, mm_rc_n, mm_rc_c, mm_wd_n, mm_wd_i, mm_wd_l, mm_wd_r, reduceCtorEq, false_implies, implies_true, true_implies, true_or, or_true, false_or, or_false, not_false_eq_true, mm_nl_n, mm_nl_i, mm_nl_r, mm_args_n, mm_args_i, mm_args_l, mm_args_r, mm_pad_0, mm_pad_n, mm_pad_c, List.length_cons, List.length_nil, List.nil_append, List.cons_append, Nat.zero_le, Nat.sub_zero, true_and, and_true, Nat.reduceAdd, Nat.reduceLeDiff, Nat.reduceLT, Nat.reduceSub, Nat.lt_irrefl, Nat.zero_add, Nat.add_zero, Nat.le_refl, k_20, k_10, k_01, ↓mm_if_T, ↓mm_if_F, ↓if10, ↓if00, not_true_eq_false, tf_01, ↓mm_if_tf, ↓mm_if_tn, ↓mm_if_nn, j_1, j_2, j_3, j_4, v320 hL, ci_, s0, ec, er, ↓if_rf]
  exact nxt M n X a P b K q nx nl t lt ⟨hI, hI2, hJ, hJ2, h1n, hnx, hs⟩

set_option maxHeartbeats 2000000 in
theorem b_26 {L : Nat} {xs : Nat → Int32} (hL : L ≤ 320) {i : Nat} (hi : i + 5 ≤ L) {post : mm_Post} (nxt : NX L xs post i) {M : mm_M} {n : Nat} {X : Sx} {a : Nat} {P : Nat → Sx} {b : Nat} {K : Nat → Sx} {q : Nat} {nx nl : Nat → Int32} {t : Nat} {lt : Nat → Int32} (h : LI L xs M n X a P b K q nx nl t lt) : pK 40 166 post 26 [some (.inr (.inr (11, 0))), some (.inr (.inr (5, 0))), some (.inr (.inr (6, 0))), some (.inl (nI i))] [] M (0, 0) := by
  obtain ⟨hI, hI2, hJ, hJ2, h1n, hnx, hs⟩ := h
  obtain ⟨ps, hC, hn, hR, hW, ha, -, -, hb, -, -⟩ := id hI
  have hq := hI2.1
  have ht := hI2.2.2.2.1
  have s0 := hs.1
  have w1 : mm_I M 11 0 (i + 1) = xs (i + 1) := hs.2 (i + 1) (by omega)
  have w2 : mm_I M 11 0 (i + 2) = xs (i + 2) := hs.2 (i + 2) (by omega)
  have ec : ∀ post, pC 40 73 [.inr (.inr (5, 0)), .inl (xs (i + 1)), .inl (xs (i + 2))] M post = post (some (.inl (G73 (xs (i + 1)) (xs (i + 2))))) M := fun post => e_73 37 (xs (i + 1)) (xs (i + 2))
  have er : ∀ post, pC 40 157 [.inr (.inr (6, 0)), .inl (xs (i + 1)), .inl (xs (i + 2))] M post = post (some (.inl (G73 (xs (i + 1)) (xs (i + 2))))) M := fun post => r_157 38 (xs (i + 1)) (xs (i + 2))
  rw [eK_166_26]
  simp (disch := omega) only [pw_iconst, qw_aload_n0, qw_aload_n1, qw_aload_n2, qw_iadd, qw_iaload, qw_if_icmp_eq, qw_iload_n3, qw_invokevirtual3, qw_ireturn, mm_rf_c, mm_rt_v, mm_rt_i, mm_rt_r, mm_alc_n, mm_alc_c, mm_rc_n, mm_rc_c, mm_wd_n, mm_wd_i, mm_wd_l, mm_wd_r, reduceCtorEq, false_implies, implies_true, true_implies, true_or, or_true, false_or, or_false, not_false_eq_true, mm_nl_n, mm_nl_i, mm_nl_r, mm_args_n, mm_args_i, mm_args_l, mm_args_r, mm_pad_0, mm_pad_n, mm_pad_c, List.length_cons, List.length_nil, List.nil_append, List.cons_append, Nat.zero_le, Nat.sub_zero, true_and, and_true, Nat.reduceAdd, Nat.reduceLeDiff, Nat.reduceLT, Nat.reduceSub, Nat.lt_irrefl, Nat.zero_add, Nat.add_zero, Nat.le_refl, k_20, k_10, k_01, ↓mm_if_T, ↓mm_if_F, ↓if10, ↓if00, not_true_eq_false, tf_01, ↓mm_if_tf, ↓mm_if_tn, ↓mm_if_nn, j_1, j_2, j_3, j_4, v320 hL, ci_, s0, ec, er, ↓if_rf, w1, w2]
  exact nxt M n X a P b K q nx nl t lt ⟨hI, hI2, hJ, hJ2, h1n, hnx, hs⟩

set_option maxHeartbeats 2000000 in
theorem b_27 {L : Nat} {xs : Nat → Int32} (hL : L ≤ 320) {i : Nat} (hi : i + 5 ≤ L) {post : mm_Post} (nxt : NX L xs post i) {M : mm_M} {n : Nat} {X : Sx} {a : Nat} {P : Nat → Sx} {b : Nat} {K : Nat → Sx} {q : Nat} {nx nl : Nat → Int32} {t : Nat} {lt : Nat → Int32} (h : LI L xs M n X a P b K q nx nl t lt) : pK 40 166 post 27 [some (.inr (.inr (11, 0))), some (.inr (.inr (5, 0))), some (.inr (.inr (6, 0))), some (.inl (nI i))] [] M (0, 0) := by
  obtain ⟨hI, hI2, hJ, hJ2, h1n, hnx, hs⟩ := h
  obtain ⟨ps, hC, hn, hR, hW, ha, -, -, hb, -, -⟩ := id hI
  have hq := hI2.1
  have ht := hI2.2.2.2.1
  have s0 := hs.1
  have w1 : mm_I M 11 0 (i + 1) = xs (i + 1) := hs.2 (i + 1) (by omega)
  have w2 : mm_I M 11 0 (i + 2) = xs (i + 2) := hs.2 (i + 2) (by omega)
  have w3 : mm_I M 11 0 (i + 3) = xs (i + 3) := hs.2 (i + 3) (by omega)
  have w4 : mm_I M 11 0 (i + 4) = xs (i + 4) := hs.2 (i + 4) (by omega)
  rw [eK_166_27]
  simp (disch := omega) only [pw_iconst, qw_aload_n0, qw_aload_n1, qw_aload_n2, qw_iadd, qw_iaload, qw_if_icmp_eq, qw_iload_n3, qw_invokevirtual5, qw_ireturn, mm_rf_c, mm_rt_v, mm_rt_i, mm_rt_r, mm_alc_n, mm_alc_c, mm_rc_n, mm_rc_c, mm_wd_n, mm_wd_i, mm_wd_l, mm_wd_r, reduceCtorEq, false_implies, implies_true, true_implies, true_or, or_true, false_or, or_false, not_false_eq_true, mm_nl_n, mm_nl_i, mm_nl_r, mm_args_n, mm_args_i, mm_args_l, mm_args_r, mm_pad_0, mm_pad_n, mm_pad_c, List.length_cons, List.length_nil, List.nil_append, List.cons_append, Nat.zero_le, Nat.sub_zero, true_and, and_true, Nat.reduceAdd, Nat.reduceLeDiff, Nat.reduceLT, Nat.reduceSub, Nat.lt_irrefl, Nat.zero_add, Nat.add_zero, Nat.le_refl, k_20, k_10, k_01, ↓mm_if_T, ↓mm_if_F, ↓if10, ↓if00, not_true_eq_false, tf_01, ↓mm_if_tf, ↓mm_if_tn, ↓mm_if_nn, j_1, j_2, j_3, j_4, v320 hL, ci_, s0, w1, w2, w3, w4]
  refine C74 20 hI (xs (i + 1)) (xs (i + 2)) (xs (i + 3)) (xs (i + 4)) (fun M1 hI1 hF1 => ?_)
  have FC1 := FX_C hF1
  have hI21 := I2_X hF1 hI2
  have hu := SC_C FC1 hs
  have u0 := hu.1
  have u1 : mm_I M1 11 0 (i + 1) = xs (i + 1) := hu.2 (i + 1) (by omega)
  have u2 : mm_I M1 11 0 (i + 2) = xs (i + 2) := hu.2 (i + 2) (by omega)
  have u3 : mm_I M1 11 0 (i + 3) = xs (i + 3) := hu.2 (i + 3) (by omega)
  have u4 : mm_I M1 11 0 (i + 4) = xs (i + 4) := hu.2 (i + 4) (by omega)
  simp (disch := omega) only [pw_iconst, qw_aload_n0, qw_aload_n1, qw_aload_n2, qw_iadd, qw_iaload, qw_if_icmp_eq, qw_iload_n3, qw_invokevirtual5, qw_ireturn, mm_rf_c, mm_rt_v, mm_rt_i, mm_rt_r, mm_alc_n, mm_alc_c, mm_rc_n, mm_rc_c, mm_wd_n, mm_wd_i, mm_wd_l, mm_wd_r, reduceCtorEq, false_implies, implies_true, true_implies, true_or, or_true, false_or, or_false, not_false_eq_true, mm_nl_n, mm_nl_i, mm_nl_r, mm_args_n, mm_args_i, mm_args_l, mm_args_r, mm_pad_0, mm_pad_n, mm_pad_c, List.length_cons, List.length_nil, List.nil_append, List.cons_append, Nat.zero_le, Nat.sub_zero, true_and, and_true, Nat.reduceAdd, Nat.reduceLeDiff, Nat.reduceLT, Nat.reduceSub, Nat.lt_irrefl, Nat.zero_add, Nat.add_zero, Nat.le_refl, k_20, k_10, k_01, ↓mm_if_T, ↓mm_if_F, ↓if10, ↓if00, not_true_eq_false, tf_01, ↓mm_if_tf, ↓mm_if_tn, ↓mm_if_nn, j_1, j_2, j_3, j_4, v320 hL, ci_, u0, u1, u2, u3, u4]
  refine r_158 34 (J1_C FC1 hn hJ) hn ha hb hW (xs (i + 1)) (xs (i + 2)) (xs (i + 3)) (xs (i + 4)) (fun M2 hJ1 hF2 => ?_)
  have FN2 := FN_Y hF2
  have hI2' := I1_N FN2 hI1
  have hI22 := I2_N FN2 hI21
  have hs2 := SC_N FN2 hu
  have hJ22 := J2_Y hF2 (J2_C FC1 hJ2)
  simp (disch := omega) only [pw_iconst, qw_aload_n0, qw_aload_n1, qw_aload_n2, qw_iadd, qw_iaload, qw_if_icmp_eq, qw_iload_n3, qw_invokevirtual5, qw_ireturn, mm_rf_c, mm_rt_v, mm_rt_i, mm_rt_r, mm_alc_n, mm_alc_c, mm_rc_n, mm_rc_c, mm_wd_n, mm_wd_i, mm_wd_l, mm_wd_r, reduceCtorEq, false_implies, implies_true, true_implies, true_or, or_true, false_or, or_false, not_false_eq_true, mm_nl_n, mm_nl_i, mm_nl_r, mm_args_n, mm_args_i, mm_args_l, mm_args_r, mm_pad_0, mm_pad_n, mm_pad_c, List.length_cons, List.length_nil, List.nil_append, List.cons_append, Nat.zero_le, Nat.sub_zero, true_and, and_true, Nat.reduceAdd, Nat.reduceLeDiff, Nat.reduceLT, Nat.reduceSub, Nat.lt_irrefl, Nat.zero_add, Nat.add_zero, Nat.le_refl, k_20, k_10, k_01, ↓mm_if_T, ↓mm_if_F, ↓if10, ↓if00, not_true_eq_false, tf_01, ↓mm_if_tf, ↓mm_if_tn, ↓mm_if_nn, ↓if_rf]
  exact nxt M2 n X a P b K q nx nl t lt ⟨hI2', hI22, hJ1, hJ22, h1n, hnx, hs2⟩

set_option maxHeartbeats 2000000 in
theorem b_28 {L : Nat} {xs : Nat → Int32} (hL : L ≤ 320) {i : Nat} (hi : i + 5 ≤ L) {post : mm_Post} (nxt : NX L xs post i) {M : mm_M} {n : Nat} {X : Sx} {a : Nat} {P : Nat → Sx} {b : Nat} {K : Nat → Sx} {q : Nat} {nx nl : Nat → Int32} {t : Nat} {lt : Nat → Int32} (h : LI L xs M n X a P b K q nx nl t lt) : pK 40 166 post 28 [some (.inr (.inr (11, 0))), some (.inr (.inr (5, 0))), some (.inr (.inr (6, 0))), some (.inl (nI i))] [] M (0, 0) := by
  obtain ⟨hI, hI2, hJ, hJ2, h1n, hnx, hs⟩ := h
  obtain ⟨ps, hC, hn, hR, hW, ha, -, -, hb, -, -⟩ := id hI
  have hq := hI2.1
  have ht := hI2.2.2.2.1
  have s0 := hs.1
  have w1 : mm_I M 11 0 (i + 1) = xs (i + 1) := hs.2 (i + 1) (by omega)
  have w2 : mm_I M 11 0 (i + 2) = xs (i + 2) := hs.2 (i + 2) (by omega)
  have w3 : mm_I M 11 0 (i + 3) = xs (i + 3) := hs.2 (i + 3) (by omega)
  rw [eK_166_28]
  simp (disch := omega) only [pw_iconst, qw_aload_n0, qw_aload_n1, qw_aload_n2, qw_iadd, qw_iaload, qw_if_icmp_eq, qw_iload_n3, qw_invokevirtual4, qw_ireturn, mm_rf_c, mm_rt_v, mm_rt_i, mm_rt_r, mm_alc_n, mm_alc_c, mm_rc_n, mm_rc_c, mm_wd_n, mm_wd_i, mm_wd_l, mm_wd_r, reduceCtorEq, false_implies, implies_true, true_implies, true_or, or_true, false_or, or_false, not_false_eq_true, mm_nl_n, mm_nl_i, mm_nl_r, mm_args_n, mm_args_i, mm_args_l, mm_args_r, mm_pad_0, mm_pad_n, mm_pad_c, List.length_cons, List.length_nil, List.nil_append, List.cons_append, Nat.zero_le, Nat.sub_zero, true_and, and_true, Nat.reduceAdd, Nat.reduceLeDiff, Nat.reduceLT, Nat.reduceSub, Nat.lt_irrefl, Nat.zero_add, Nat.add_zero, Nat.le_refl, k_20, k_10, k_01, ↓mm_if_T, ↓mm_if_F, ↓if10, ↓if00, not_true_eq_false, tf_01, ↓mm_if_tf, ↓mm_if_tn, ↓mm_if_nn, j_1, j_2, j_3, j_4, v320 hL, ci_, s0, w1, w2, w3]
  refine C75 34 hI h1n (xs (i + 1)) (xs (i + 2)) (xs (i + 3)) (fun M1 hI1 hF1 => ?_)
  have FC1 := FX_C hF1
  have hI21 := I2_X hF1 hI2
  have hu := SC_C FC1 hs
  have u0 := hu.1
  have u1 : mm_I M1 11 0 (i + 1) = xs (i + 1) := hu.2 (i + 1) (by omega)
  have u2 : mm_I M1 11 0 (i + 2) = xs (i + 2) := hu.2 (i + 2) (by omega)
  have u3 : mm_I M1 11 0 (i + 3) = xs (i + 3) := hu.2 (i + 3) (by omega)
  simp (disch := omega) only [pw_iconst, qw_aload_n0, qw_aload_n1, qw_aload_n2, qw_iadd, qw_iaload, qw_if_icmp_eq, qw_iload_n3, qw_invokevirtual4, qw_ireturn, mm_rf_c, mm_rt_v, mm_rt_i, mm_rt_r, mm_alc_n, mm_alc_c, mm_rc_n, mm_rc_c, mm_wd_n, mm_wd_i, mm_wd_l, mm_wd_r, reduceCtorEq, false_implies, implies_true, true_implies, true_or, or_true, false_or, or_false, not_false_eq_true, mm_nl_n, mm_nl_i, mm_nl_r, mm_args_n, mm_args_i, mm_args_l, mm_args_r, mm_pad_0, mm_pad_n, mm_pad_c, List.length_cons, List.length_nil, List.nil_append, List.cons_append, Nat.zero_le, Nat.sub_zero, true_and, and_true, Nat.reduceAdd, Nat.reduceLeDiff, Nat.reduceLT, Nat.reduceSub, Nat.lt_irrefl, Nat.zero_add, Nat.add_zero, Nat.le_refl, k_20, k_10, k_01, ↓mm_if_T, ↓mm_if_F, ↓if10, ↓if00, not_true_eq_false, tf_01, ↓mm_if_tf, ↓mm_if_tn, ↓mm_if_nn, j_1, j_2, j_3, j_4, v320 hL, ci_, u0, u1, u2, u3]
  refine r_160 34 (J1_C FC1 hn hJ) hn ha hb hW h1n (xs (i + 1)) (xs (i + 2)) (xs (i + 3)) (fun M2 hJ1 hF2 => ?_)
  have FN2 := FN_Y hF2
  have hI2' := I1_N FN2 hI1
  have hI22 := I2_N FN2 hI21
  have hs2 := SC_N FN2 hu
  have hJ22 := J2_Y hF2 (J2_C FC1 hJ2)
  simp (disch := omega) only [pw_iconst, qw_aload_n0, qw_aload_n1, qw_aload_n2, qw_iadd, qw_iaload, qw_if_icmp_eq, qw_iload_n3, qw_invokevirtual4, qw_ireturn, mm_rf_c, mm_rt_v, mm_rt_i, mm_rt_r, mm_alc_n, mm_alc_c, mm_rc_n, mm_rc_c, mm_wd_n, mm_wd_i, mm_wd_l, mm_wd_r, reduceCtorEq, false_implies, implies_true, true_implies, true_or, or_true, false_or, or_false, not_false_eq_true, mm_nl_n, mm_nl_i, mm_nl_r, mm_args_n, mm_args_i, mm_args_l, mm_args_r, mm_pad_0, mm_pad_n, mm_pad_c, List.length_cons, List.length_nil, List.nil_append, List.cons_append, Nat.zero_le, Nat.sub_zero, true_and, and_true, Nat.reduceAdd, Nat.reduceLeDiff, Nat.reduceLT, Nat.reduceSub, Nat.lt_irrefl, Nat.zero_add, Nat.add_zero, Nat.le_refl, k_20, k_10, k_01, ↓mm_if_T, ↓mm_if_F, ↓if10, ↓if00, not_true_eq_false, tf_01, ↓mm_if_tf, ↓mm_if_tn, ↓mm_if_nn, ↓if_rf]
  exact nxt M2 n X a P b K q nx nl t lt ⟨hI2', hI22, hJ1, hJ22, h1n, hnx, hs2⟩

set_option maxHeartbeats 2000000 in
theorem b_29 {L : Nat} {xs : Nat → Int32} (hL : L ≤ 320) {i : Nat} (hi : i + 5 ≤ L) {post : mm_Post} (nxt : NX L xs post i) {M : mm_M} {n : Nat} {X : Sx} {a : Nat} {P : Nat → Sx} {b : Nat} {K : Nat → Sx} {q : Nat} {nx nl : Nat → Int32} {t : Nat} {lt : Nat → Int32} (h : LI L xs M n X a P b K q nx nl t lt) : pK 40 166 post 29 [some (.inr (.inr (11, 0))), some (.inr (.inr (5, 0))), some (.inr (.inr (6, 0))), some (.inl (nI i))] [] M (0, 0) := by
  obtain ⟨hI, hI2, hJ, hJ2, h1n, hnx, hs⟩ := h
  obtain ⟨ps, hC, hn, hR, hW, ha, -, -, hb, -, -⟩ := id hI
  have hq := hI2.1
  have ht := hI2.2.2.2.1
  have s0 := hs.1
  rw [eK_166_29]
  simp (disch := omega) only [pw_iconst, qw_aload_n1, qw_aload_n2, qw_if_icmp_eq, qw_invokevirtual1, qw_ireturn, mm_rf_c, mm_rt_v, mm_rt_i, mm_rt_r, mm_alc_n, mm_alc_c, mm_rc_n, mm_rc_c, mm_wd_n, mm_wd_i, mm_wd_l, mm_wd_r, reduceCtorEq, false_implies, implies_true, true_implies, true_or, or_true, false_or, or_false, not_false_eq_true, mm_nl_n, mm_nl_i, mm_nl_r, mm_args_n, mm_args_i, mm_args_l, mm_args_r, mm_pad_0, mm_pad_n, mm_pad_c, List.length_cons, List.length_nil, List.nil_append, List.cons_append, Nat.zero_le, Nat.sub_zero, true_and, and_true, Nat.reduceAdd, Nat.reduceLeDiff, Nat.reduceLT, Nat.reduceSub, Nat.lt_irrefl, Nat.zero_add, Nat.add_zero, Nat.le_refl, k_20, k_10, k_01, ↓mm_if_T, ↓mm_if_F, ↓if10, ↓if00, not_true_eq_false, tf_01, ↓mm_if_tf, ↓mm_if_tn, ↓mm_if_nn, j_1, j_2, j_3, j_4, v320 hL, ci_, s0]
  refine C76 37 hI (fun M1 hI1 hF1 => ?_)
  have FC1 := FX_C hF1
  have hI21 := I2_X hF1 hI2
  have hu := SC_C FC1 hs
  have u0 := hu.1
  simp (disch := omega) only [pw_iconst, qw_aload_n1, qw_aload_n2, qw_if_icmp_eq, qw_invokevirtual1, qw_ireturn, mm_rf_c, mm_rt_v, mm_rt_i, mm_rt_r, mm_alc_n, mm_alc_c, mm_rc_n, mm_rc_c, mm_wd_n, mm_wd_i, mm_wd_l, mm_wd_r, reduceCtorEq, false_implies, implies_true, true_implies, true_or, or_true, false_or, or_false, not_false_eq_true, mm_nl_n, mm_nl_i, mm_nl_r, mm_args_n, mm_args_i, mm_args_l, mm_args_r, mm_pad_0, mm_pad_n, mm_pad_c, List.length_cons, List.length_nil, List.nil_append, List.cons_append, Nat.zero_le, Nat.sub_zero, true_and, and_true, Nat.reduceAdd, Nat.reduceLeDiff, Nat.reduceLT, Nat.reduceSub, Nat.lt_irrefl, Nat.zero_add, Nat.add_zero, Nat.le_refl, k_20, k_10, k_01, ↓mm_if_T, ↓mm_if_F, ↓if10, ↓if00, not_true_eq_false, tf_01, ↓mm_if_tf, ↓mm_if_tn, ↓mm_if_nn, j_1, j_2, j_3, j_4, v320 hL, ci_, u0]
  refine r_161 38 (J1_C FC1 hn hJ) hn ha hb (fun M2 hJ1 hF2 => ?_)
  have FN2 := FN_Y hF2
  have hI2' := I1_N FN2 hI1
  have hI22 := I2_N FN2 hI21
  have hs2 := SC_N FN2 hu
  have hJ22 := J2_Y hF2 (J2_C FC1 hJ2)
  simp (disch := omega) only [pw_iconst, qw_aload_n1, qw_aload_n2, qw_if_icmp_eq, qw_invokevirtual1, qw_ireturn, mm_rf_c, mm_rt_v, mm_rt_i, mm_rt_r, mm_alc_n, mm_alc_c, mm_rc_n, mm_rc_c, mm_wd_n, mm_wd_i, mm_wd_l, mm_wd_r, reduceCtorEq, false_implies, implies_true, true_implies, true_or, or_true, false_or, or_false, not_false_eq_true, mm_nl_n, mm_nl_i, mm_nl_r, mm_args_n, mm_args_i, mm_args_l, mm_args_r, mm_pad_0, mm_pad_n, mm_pad_c, List.length_cons, List.length_nil, List.nil_append, List.cons_append, Nat.zero_le, Nat.sub_zero, true_and, and_true, Nat.reduceAdd, Nat.reduceLeDiff, Nat.reduceLT, Nat.reduceSub, Nat.lt_irrefl, Nat.zero_add, Nat.add_zero, Nat.le_refl, k_20, k_10, k_01, ↓mm_if_T, ↓mm_if_F, ↓if10, ↓if00, not_true_eq_false, tf_01, ↓mm_if_tf, ↓mm_if_tn, ↓mm_if_nn, ↓if_rf]
  exact nxt M2 n X a P (T76 X b K).2.1 (T76 X b K).2.2 q nx nl t lt ⟨hI2', hI22, hJ1, hJ22, h1n, hnx, hs2⟩

set_option maxHeartbeats 2000000 in
theorem b_30 {L : Nat} {xs : Nat → Int32} (hL : L ≤ 320) {i : Nat} (hi : i + 5 ≤ L) {post : mm_Post} (nxt : NX L xs post i) {M : mm_M} {n : Nat} {X : Sx} {a : Nat} {P : Nat → Sx} {b : Nat} {K : Nat → Sx} {q : Nat} {nx nl : Nat → Int32} {t : Nat} {lt : Nat → Int32} (h : LI L xs M n X a P b K q nx nl t lt) : pK 40 166 post 30 [some (.inr (.inr (11, 0))), some (.inr (.inr (5, 0))), some (.inr (.inr (6, 0))), some (.inl (nI i))] [] M (0, 0) := by
  obtain ⟨hI, hI2, hJ, hJ2, h1n, hnx, hs⟩ := h
  obtain ⟨ps, hC, hn, hR, hW, ha, -, -, hb, -, -⟩ := id hI
  have hq := hI2.1
  have ht := hI2.2.2.2.1
  have s0 := hs.1
  rw [eK_166_30]
  simp (disch := omega) only [pw_iconst, qw_aload_n1, qw_aload_n2, qw_if_icmp_eq, qw_invokevirtual1, qw_ireturn, mm_rf_c, mm_rt_v, mm_rt_i, mm_rt_r, mm_alc_n, mm_alc_c, mm_rc_n, mm_rc_c, mm_wd_n, mm_wd_i, mm_wd_l, mm_wd_r, reduceCtorEq, false_implies, implies_true, true_implies, true_or, or_true, false_or, or_false, not_false_eq_true, mm_nl_n, mm_nl_i, mm_nl_r, mm_args_n, mm_args_i, mm_args_l, mm_args_r, mm_pad_0, mm_pad_n, mm_pad_c, List.length_cons, List.length_nil, List.nil_append, List.cons_append, Nat.zero_le, Nat.sub_zero, true_and, and_true, Nat.reduceAdd, Nat.reduceLeDiff, Nat.reduceLT, Nat.reduceSub, Nat.lt_irrefl, Nat.zero_add, Nat.add_zero, Nat.le_refl, k_20, k_10, k_01, ↓mm_if_T, ↓mm_if_F, ↓if10, ↓if00, not_true_eq_false, tf_01, ↓mm_if_tf, ↓mm_if_tn, ↓mm_if_nn, j_1, j_2, j_3, j_4, v320 hL, ci_, s0]
  refine C77 37 hI (fun M1 hI1 hF1 => ?_)
  have FC1 := FX_C hF1
  have hI21 := I2_X hF1 hI2
  have hu := SC_C FC1 hs
  have u0 := hu.1
  simp (disch := omega) only [pw_iconst, qw_aload_n1, qw_aload_n2, qw_if_icmp_eq, qw_invokevirtual1, qw_ireturn, mm_rf_c, mm_rt_v, mm_rt_i, mm_rt_r, mm_alc_n, mm_alc_c, mm_rc_n, mm_rc_c, mm_wd_n, mm_wd_i, mm_wd_l, mm_wd_r, reduceCtorEq, false_implies, implies_true, true_implies, true_or, or_true, false_or, or_false, not_false_eq_true, mm_nl_n, mm_nl_i, mm_nl_r, mm_args_n, mm_args_i, mm_args_l, mm_args_r, mm_pad_0, mm_pad_n, mm_pad_c, List.length_cons, List.length_nil, List.nil_append, List.cons_append, Nat.zero_le, Nat.sub_zero, true_and, and_true, Nat.reduceAdd, Nat.reduceLeDiff, Nat.reduceLT, Nat.reduceSub, Nat.lt_irrefl, Nat.zero_add, Nat.add_zero, Nat.le_refl, k_20, k_10, k_01, ↓mm_if_T, ↓mm_if_F, ↓if10, ↓if00, not_true_eq_false, tf_01, ↓mm_if_tf, ↓mm_if_tn, ↓mm_if_nn, j_1, j_2, j_3, j_4, v320 hL, ci_, u0]
  refine r_162 38 (J1_C FC1 hn hJ) hn ha hb (fun M2 hJ1 hF2 => ?_)
  have FN2 := FN_Y hF2
  have hI2' := I1_N FN2 hI1
  have hI22 := I2_N FN2 hI21
  have hs2 := SC_N FN2 hu
  have hJ22 := J2_Y hF2 (J2_C FC1 hJ2)
  simp (disch := omega) only [pw_iconst, qw_aload_n1, qw_aload_n2, qw_if_icmp_eq, qw_invokevirtual1, qw_ireturn, mm_rf_c, mm_rt_v, mm_rt_i, mm_rt_r, mm_alc_n, mm_alc_c, mm_rc_n, mm_rc_c, mm_wd_n, mm_wd_i, mm_wd_l, mm_wd_r, reduceCtorEq, false_implies, implies_true, true_implies, true_or, or_true, false_or, or_false, not_false_eq_true, mm_nl_n, mm_nl_i, mm_nl_r, mm_args_n, mm_args_i, mm_args_l, mm_args_r, mm_pad_0, mm_pad_n, mm_pad_c, List.length_cons, List.length_nil, List.nil_append, List.cons_append, Nat.zero_le, Nat.sub_zero, true_and, and_true, Nat.reduceAdd, Nat.reduceLeDiff, Nat.reduceLT, Nat.reduceSub, Nat.lt_irrefl, Nat.zero_add, Nat.add_zero, Nat.le_refl, k_20, k_10, k_01, ↓mm_if_T, ↓mm_if_F, ↓if10, ↓if00, not_true_eq_false, tf_01, ↓mm_if_tf, ↓mm_if_tn, ↓mm_if_nn, ↓if_rf]
  exact nxt M2 n (T77 X a b K).2.1 (T77 X a b K).2.2.1 P (T77 X a b K).2.2.2 K q nx nl t lt ⟨hI2', hI22, hJ1, hJ22, h1n, hnx, hs2⟩

set_option maxHeartbeats 2000000 in
theorem b_31 {L : Nat} {xs : Nat → Int32} (hL : L ≤ 320) {i : Nat} (hi : i + 5 ≤ L) {post : mm_Post} (nxt : NX L xs post i) {M : mm_M} {n : Nat} {X : Sx} {a : Nat} {P : Nat → Sx} {b : Nat} {K : Nat → Sx} {q : Nat} {nx nl : Nat → Int32} {t : Nat} {lt : Nat → Int32} (h : LI L xs M n X a P b K q nx nl t lt) : pK 40 166 post 31 [some (.inr (.inr (11, 0))), some (.inr (.inr (5, 0))), some (.inr (.inr (6, 0))), some (.inl (nI i))] [] M (0, 0) := by
  obtain ⟨hI, hI2, hJ, hJ2, h1n, hnx, hs⟩ := h
  obtain ⟨ps, hC, hn, hR, hW, ha, -, -, hb, -, -⟩ := id hI
  have hq := hI2.1
  have ht := hI2.2.2.2.1
  have s0 := hs.1
  have w1 : mm_I M 11 0 (i + 1) = xs (i + 1) := hs.2 (i + 1) (by omega)
  have ec : ∀ post, pC 40 78 [.inr (.inr (5, 0)), .inl (xs (i + 1))] M post = post (some (.inl (G78 n X q a b t (xs (i + 1))))) M := fun post => e_78 35 hI hI2 (xs (i + 1))
  have er : ∀ post, pC 40 164 [.inr (.inr (6, 0)), .inl (xs (i + 1))] M post = post (some (.inl (G78 n X q a b t (xs (i + 1))))) M := fun post => r_164 34 hJ hn ha hb hW hJ2 (xs (i + 1))
  rw [eK_166_31]
  simp (disch := omega) only [pw_iconst, qw_aload_n0, qw_aload_n1, qw_aload_n2, qw_iadd, qw_iaload, qw_if_icmp_eq, qw_iload_n3, qw_invokevirtual2, qw_ireturn, mm_rf_c, mm_rt_v, mm_rt_i, mm_rt_r, mm_alc_n, mm_alc_c, mm_rc_n, mm_rc_c, mm_wd_n, mm_wd_i, mm_wd_l, mm_wd_r, reduceCtorEq, false_implies, implies_true, true_implies, true_or, or_true, false_or, or_false, not_false_eq_true, mm_nl_n, mm_nl_i, mm_nl_r, mm_args_n, mm_args_i, mm_args_l, mm_args_r, mm_pad_0, mm_pad_n, mm_pad_c, List.length_cons, List.length_nil, List.nil_append, List.cons_append, Nat.zero_le, Nat.sub_zero, true_and, and_true, Nat.reduceAdd, Nat.reduceLeDiff, Nat.reduceLT, Nat.reduceSub, Nat.lt_irrefl, Nat.zero_add, Nat.add_zero, Nat.le_refl, k_20, k_10, k_01, ↓mm_if_T, ↓mm_if_F, ↓if10, ↓if00, not_true_eq_false, tf_01, ↓mm_if_tf, ↓mm_if_tn, ↓mm_if_nn, j_1, j_2, j_3, j_4, v320 hL, ci_, s0, ec, er, ↓if_rf, w1]
  exact nxt M n X a P b K q nx nl t lt ⟨hI, hI2, hJ, hJ2, h1n, hnx, hs⟩

set_option maxHeartbeats 2000000 in
theorem b_5 {L : Nat} {xs : Nat → Int32} (hL : L ≤ 320) {i : Nat} (hi : i + 5 ≤ L) {post : mm_Post} (nxt : NX L xs post i) {M : mm_M} {n : Nat} {X : Sx} {a : Nat} {P : Nat → Sx} {b : Nat} {K : Nat → Sx} {q : Nat} {nx nl : Nat → Int32} {t : Nat} {lt : Nat → Int32} (h : LI L xs M n X a P b K q nx nl t lt) : pK 40 166 post 5 [some (.inr (.inr (11, 0))), some (.inr (.inr (5, 0))), some (.inr (.inr (6, 0))), some (.inl (nI i))] [] M (0, 0) := by
  obtain ⟨hI, hI2, hJ, hJ2, h1n, hnx, hs⟩ := h
  obtain ⟨ps, hC, hn, hR, hW, ha, -, -, hb, -, -⟩ := id hI
  have hq := hI2.1
  have ht := hI2.2.2.2.1
  have s0 := hs.1
  rw [eK_166_5]
  simp (disch := omega) only [pw_iconst, qw_aload_n1, qw_aload_n2, qw_if_icmp_eq, qw_invokevirtual1, qw_ireturn, mm_rf_c, mm_rt_v, mm_rt_i, mm_rt_r, mm_alc_n, mm_alc_c, mm_rc_n, mm_rc_c, mm_wd_n, mm_wd_i, mm_wd_l, mm_wd_r, reduceCtorEq, false_implies, implies_true, true_implies, true_or, or_true, false_or, or_false, not_false_eq_true, mm_nl_n, mm_nl_i, mm_nl_r, mm_args_n, mm_args_i, mm_args_l, mm_args_r, mm_pad_0, mm_pad_n, mm_pad_c, List.length_cons, List.length_nil, List.nil_append, List.cons_append, Nat.zero_le, Nat.sub_zero, true_and, and_true, Nat.reduceAdd, Nat.reduceLeDiff, Nat.reduceLT, Nat.reduceSub, Nat.lt_irrefl, Nat.zero_add, Nat.add_zero, Nat.le_refl, k_20, k_10, k_01, ↓mm_if_T, ↓mm_if_F, ↓if10, ↓if00, not_true_eq_false, tf_01, ↓mm_if_tf, ↓mm_if_tn, ↓mm_if_nn]
  refine C52 33 hI hI2 (fun M1 hz hI1 hI21 FC1 => ?_) (fun M1 A' Z e z1 z7 hE hI1 hI21 FC1 => ?_)
  · have hu := SC_C FC1 hs
    simp (disch := omega) only [pw_iconst, qw_aload_n1, qw_aload_n2, qw_if_icmp_eq, qw_invokevirtual1, qw_ireturn, mm_rf_c, mm_rt_v, mm_rt_i, mm_rt_r, mm_alc_n, mm_alc_c, mm_rc_n, mm_rc_c, mm_wd_n, mm_wd_i, mm_wd_l, mm_wd_r, reduceCtorEq, false_implies, implies_true, true_implies, true_or, or_true, false_or, or_false, not_false_eq_true, mm_nl_n, mm_nl_i, mm_nl_r, mm_args_n, mm_args_i, mm_args_l, mm_args_r, mm_pad_0, mm_pad_n, mm_pad_c, List.length_cons, List.length_nil, List.nil_append, List.cons_append, Nat.zero_le, Nat.sub_zero, true_and, and_true, Nat.reduceAdd, Nat.reduceLeDiff, Nat.reduceLT, Nat.reduceSub, Nat.lt_irrefl, Nat.zero_add, Nat.add_zero, Nat.le_refl, k_20, k_10, k_01, ↓mm_if_T, ↓mm_if_F, ↓if10, ↓if00, not_true_eq_false, tf_01, ↓mm_if_tf, ↓mm_if_tn, ↓mm_if_nn]
    refine r_117 33 (J1_C FC1 hn hJ) hn ha hb (J2_C FC1 hJ2) ht (fun M2 _ hJ1 hJ22 FN2 => ?_) (fun M2 Z e z1 _ _ _ _ => absurd (hz Z e) (by omega))
    simp (disch := omega) only [pw_iconst, qw_aload_n1, qw_aload_n2, qw_if_icmp_eq, qw_invokevirtual1, qw_ireturn, mm_rf_c, mm_rt_v, mm_rt_i, mm_rt_r, mm_alc_n, mm_alc_c, mm_rc_n, mm_rc_c, mm_wd_n, mm_wd_i, mm_wd_l, mm_wd_r, reduceCtorEq, false_implies, implies_true, true_implies, true_or, or_true, false_or, or_false, not_false_eq_true, mm_nl_n, mm_nl_i, mm_nl_r, mm_args_n, mm_args_i, mm_args_l, mm_args_r, mm_pad_0, mm_pad_n, mm_pad_c, List.length_cons, List.length_nil, List.nil_append, List.cons_append, Nat.zero_le, Nat.sub_zero, true_and, and_true, Nat.reduceAdd, Nat.reduceLeDiff, Nat.reduceLT, Nat.reduceSub, Nat.lt_irrefl, Nat.zero_add, Nat.add_zero, Nat.le_refl, k_20, k_10, k_01, ↓mm_if_T, ↓mm_if_F, ↓if10, ↓if00, not_true_eq_false, tf_01, ↓mm_if_tf, ↓mm_if_tn, ↓mm_if_nn, ↓if_rf]
    exact nxt M2 n X a P b K q nx nl t lt ⟨I1_N FN2 hI1, I2_N FN2 hI21, hJ1, hJ22, h1n, hnx, SC_N FN2 hu⟩
  · have hu := SC_C FC1 hs
    simp (disch := omega) only [pw_iconst, qw_aload_n1, qw_aload_n2, qw_if_icmp_eq, qw_invokevirtual1, qw_ireturn, mm_rf_c, mm_rt_v, mm_rt_i, mm_rt_r, mm_alc_n, mm_alc_c, mm_rc_n, mm_rc_c, mm_wd_n, mm_wd_i, mm_wd_l, mm_wd_r, reduceCtorEq, false_implies, implies_true, true_implies, true_or, or_true, false_or, or_false, not_false_eq_true, mm_nl_n, mm_nl_i, mm_nl_r, mm_args_n, mm_args_i, mm_args_l, mm_args_r, mm_pad_0, mm_pad_n, mm_pad_c, List.length_cons, List.length_nil, List.nil_append, List.cons_append, Nat.zero_le, Nat.sub_zero, true_and, and_true, Nat.reduceAdd, Nat.reduceLeDiff, Nat.reduceLT, Nat.reduceSub, Nat.lt_irrefl, Nat.zero_add, Nat.add_zero, Nat.le_refl, k_20, k_10, k_01, ↓mm_if_T, ↓mm_if_F, ↓if10, ↓if00, not_true_eq_false, tf_01, ↓mm_if_tf, ↓mm_if_tn, ↓mm_if_nn]
    refine r_117 33 (J1_C FC1 hn hJ) hn ha hb (J2_C FC1 hJ2) ht (fun M2 hz _ _ _ => absurd (hz Z e) (by omega)) (fun M2 Z' e' _ _ hJ1 hJ22 FN2 => ?_)
    rw [e] at e'
    have ez := Sum.inl.inj e'
    subst ez
    have hJ3 : J1 M2 Z.1 ((A', Z.2.2), 0) 0 P 0 K := by
      obtain ⟨k1, k2, k3, k4, _, k6, _⟩ := hJ1
      exact ⟨k1, RM_c k2 (fun w hw k hk => (hE w hw).1 k (by omega)), RB_E k3 hE, k4, fun i hi => absurd hi (Nat.not_lt_zero i), k6, fun i hi => absurd hi (Nat.not_lt_zero i)⟩
    simp (disch := omega) only [pw_iconst, qw_aload_n1, qw_aload_n2, qw_if_icmp_eq, qw_invokevirtual1, qw_ireturn, mm_rf_c, mm_rt_v, mm_rt_i, mm_rt_r, mm_alc_n, mm_alc_c, mm_rc_n, mm_rc_c, mm_wd_n, mm_wd_i, mm_wd_l, mm_wd_r, reduceCtorEq, false_implies, implies_true, true_implies, true_or, or_true, false_or, or_false, not_false_eq_true, mm_nl_n, mm_nl_i, mm_nl_r, mm_args_n, mm_args_i, mm_args_l, mm_args_r, mm_pad_0, mm_pad_n, mm_pad_c, List.length_cons, List.length_nil, List.nil_append, List.cons_append, Nat.zero_le, Nat.sub_zero, true_and, and_true, Nat.reduceAdd, Nat.reduceLeDiff, Nat.reduceLT, Nat.reduceSub, Nat.lt_irrefl, Nat.zero_add, Nat.add_zero, Nat.le_refl, k_20, k_10, k_01, ↓mm_if_T, ↓mm_if_F, ↓if10, ↓if00, not_true_eq_false, tf_01, ↓mm_if_tf, ↓mm_if_tn, ↓mm_if_nn, ↓if_rf]
    exact nxt M2 Z.1 ((A', Z.2.2), 0) 0 P 0 K 0 nx nl t lt ⟨I1_N FN2 hI1, I2_N FN2 hI21, hJ3, hJ22, z1, fun i hi => absurd hi (Nat.not_lt_zero i), SC_N FN2 hu⟩

theorem C68b (d : Nat) {M : mm_M} {post : mm_Post} {n : Nat} {ps : Nat → Nat} (hC : LyC M ps) (hz : mm_I M 2 0 1 = nI n) (x : Int32) (c : ¬ x = -1) (c1 : ¬ isw n x) : pC (d + 3) 68 [.inr (.inr (5, 0)), .inl x] M post = post (some (.inl (-1))) M := by
  simp (disch := omega) only [eC_68, eK_68_0, eK_68_1, pw_goto, pw_iconst, qw_aload_n0, qw_gf_b, qw_gf_i, qw_gf_r, qw_if_icmp_eq, qw_if_icmp_ne, qw_if_ne, qw_iload_n1, qw_iload_n2, qw_invokevirtual2, qw_ireturn, qw_istore_n2, mm_rf_c, mm_rt_v, mm_rt_i, mm_rt_r, mm_alc_n, mm_alc_c, mm_rc_n, mm_rc_c, mm_wd_n, mm_wd_i, mm_wd_l, mm_wd_r, reduceCtorEq, false_implies, implies_true, true_implies, true_or, or_true, false_or, or_false, not_false_eq_true, mm_nl_n, mm_nl_i, mm_nl_r, mm_args_n, mm_args_i, mm_args_l, mm_args_r, mm_pad_0, mm_pad_n, mm_pad_c, List.length_cons, List.length_nil, List.nil_append, List.cons_append, Nat.zero_le, Nat.sub_zero, true_and, and_true, Nat.reduceAdd, Nat.reduceLeDiff, Nat.reduceLT, Nat.reduceSub, Nat.lt_irrefl, Nat.zero_add, Nat.add_zero, Nat.le_refl, k_20, k_10, k_01, ↓mm_if_T, ↓mm_if_F, ↓if10, ↓if00, not_true_eq_false, tf_01, ↓mm_if_tf, ↓mm_if_tn, ↓mm_if_nn, e_79 d hC hz x, ↓mm_if_f c, ↓mm_if_f c1]
theorem r_152b (d : Nat) {M : mm_M} {post : mm_Post} {n : Nat} (hn : n ≤ 7) (hm : mm_I M 6 0 0 = nI n) (x : Int32) (c : ¬ x = -1) (c1 : ¬ isw n x) : pC (d + 2) 152 [.inr (.inr (6, 0)), .inl x] M post = post (some (.inl (-1))) M := by
  have z1 : (-1 : Int32).toInt = -1 := by decide
  have z0 : (0 : Int32).toInt = 0 := by decide
  have cx : ¬ ((-1 : Int32) ≤ x ∧ x ≤ nI n - 1) := by
    intro y
    refine c1 ⟨?_, y.2⟩
    have y1 := y.1
    rw [i_le, z1] at y1
    rw [i_le, z0]
    have : ¬ x.toInt = -1 := fun q => c (Int32.toInt_inj.mp (by rw [q, z1]))
    omega
  simp (disch := omega) only [eC_152, eK_152_0, eK_152_1, pw_iconst, pw_ldc2_w, pw_nop0, qw_aload_n0, qw_gf_b, qw_gf_i, qw_gf_r, qw_i2l, qw_if_ne, qw_iload_n1, qw_invokestatic3, qw_ireturn, qw_istore_n2, qw_isub, mm_rf_c, mm_rt_v, mm_rt_i, mm_rt_r, mm_alc_n, mm_alc_c, mm_rc_n, mm_rc_c, mm_wd_n, mm_wd_i, mm_wd_l, mm_wd_r, reduceCtorEq, false_implies, implies_true, true_implies, true_or, or_true, false_or, or_false, not_false_eq_true, mm_nl_n, mm_nl_i, mm_nl_r, mm_args_n, mm_args_i, mm_args_l, mm_args_r, mm_pad_0, mm_pad_n, mm_pad_c, List.length_cons, List.length_nil, List.nil_append, List.cons_append, Nat.zero_le, Nat.sub_zero, true_and, and_true, Nat.reduceAdd, Nat.reduceLeDiff, Nat.reduceLT, Nat.reduceSub, Nat.lt_irrefl, Nat.zero_add, Nat.add_zero, Nat.le_refl, k_20, k_10, k_01, ↓mm_if_T, ↓mm_if_F, ↓if10, ↓if00, not_true_eq_false, tf_01, ↓mm_if_tf, ↓mm_if_tn, ↓mm_if_nn, hm, r_97 d x (-1) (nI n - 1), ↓mm_if_f cx]

set_option maxHeartbeats 2000000 in
theorem b_21 {L : Nat} {xs : Nat → Int32} (hL : L ≤ 320) {i : Nat} (hi : i + 5 ≤ L) {post : mm_Post} (nxt : NX L xs post i) {M : mm_M} {n : Nat} {X : Sx} {a : Nat} {P : Nat → Sx} {b : Nat} {K : Nat → Sx} {q : Nat} {nx nl : Nat → Int32} {t : Nat} {lt : Nat → Int32} (h : LI L xs M n X a P b K q nx nl t lt) : pK 40 166 post 21 [some (.inr (.inr (11, 0))), some (.inr (.inr (5, 0))), some (.inr (.inr (6, 0))), some (.inl (nI i))] [] M (0, 0) := by
  obtain ⟨hI, hI2, hJ, hJ2, h1n, hnx, hs⟩ := h
  obtain ⟨ps, hC, hn, hR, hW, ha, -, -, hb, -, -⟩ := id hI
  have hq := hI2.1
  have ht := hI2.2.2.2.1
  have s0 := hs.1
  have w1 : mm_I M 11 0 (i + 1) = xs (i + 1) := hs.2 (i + 1) (by omega)
  by_cases cv : xs (i + 1) = -1 ∨ isw n (xs (i + 1))
  · rw [eK_166_21]
    simp (disch := omega) only [pw_iconst, qw_aload_n0, qw_aload_n1, qw_aload_n2, qw_iadd, qw_iaload, qw_if_icmp_eq, qw_iload_n3, qw_invokevirtual2, qw_ireturn, mm_rf_c, mm_rt_v, mm_rt_i, mm_rt_r, mm_alc_n, mm_alc_c, mm_rc_n, mm_rc_c, mm_wd_n, mm_wd_i, mm_wd_l, mm_wd_r, reduceCtorEq, false_implies, implies_true, true_implies, true_or, or_true, false_or, or_false, not_false_eq_true, mm_nl_n, mm_nl_i, mm_nl_r, mm_args_n, mm_args_i, mm_args_l, mm_args_r, mm_pad_0, mm_pad_n, mm_pad_c, List.length_cons, List.length_nil, List.nil_append, List.cons_append, Nat.zero_le, Nat.sub_zero, true_and, and_true, Nat.reduceAdd, Nat.reduceLeDiff, Nat.reduceLT, Nat.reduceSub, Nat.lt_irrefl, Nat.zero_add, Nat.add_zero, Nat.le_refl, k_20, k_10, k_01, ↓mm_if_T, ↓mm_if_F, ↓if10, ↓if00, not_true_eq_false, tf_01, ↓mm_if_tf, ↓mm_if_tn, ↓mm_if_nn, j_1, j_2, j_3, j_4, v320 hL, ci_, s0, w1]
    refine pC_d (show 33 - n + n + 7 = 40 by omega) (C68 (33 - n) hI hI2 (xs (i + 1)) (fun M1 m f hI1 hI21 FC1 hbe => ?_) (fun n1 nw => (cv.elim n1 nw).elim))
    have hu := SC_C FC1 hs
    have u0 := hu.1
    have u1 : mm_I M1 11 0 (i + 1) = xs (i + 1) := hu.2 (i + 1) (by omega)
    simp (disch := omega) only [pw_iconst, qw_aload_n0, qw_aload_n1, qw_aload_n2, qw_iadd, qw_iaload, qw_if_icmp_eq, qw_iload_n3, qw_invokevirtual2, qw_ireturn, mm_rf_c, mm_rt_v, mm_rt_i, mm_rt_r, mm_alc_n, mm_alc_c, mm_rc_n, mm_rc_c, mm_wd_n, mm_wd_i, mm_wd_l, mm_wd_r, reduceCtorEq, false_implies, implies_true, true_implies, true_or, or_true, false_or, or_false, not_false_eq_true, mm_nl_n, mm_nl_i, mm_nl_r, mm_args_n, mm_args_i, mm_args_l, mm_args_r, mm_pad_0, mm_pad_n, mm_pad_c, List.length_cons, List.length_nil, List.nil_append, List.cons_append, Nat.zero_le, Nat.sub_zero, true_and, and_true, Nat.reduceAdd, Nat.reduceLeDiff, Nat.reduceLT, Nat.reduceSub, Nat.lt_irrefl, Nat.zero_add, Nat.add_zero, Nat.le_refl, k_20, k_10, k_01, ↓mm_if_T, ↓mm_if_F, ↓if10, ↓if00, not_true_eq_false, tf_01, ↓mm_if_tf, ↓mm_if_tn, ↓mm_if_nn, j_1, j_2, j_3, j_4, v320 hL, ci_, u0, u1]
    refine r_152 35 (J1_C FC1 hn hJ) hn ha hb hW (xs (i + 1)) (fun M2 m' f' hJ1 hF2 hbe' => ?_) (fun n1 nw => (cv.elim n1 nw).elim)
    have FN2 := FN_Y hF2
    obtain ⟨em, ef⟩ := h_be_1 hbe hbe'
    have ev : (if xs (i + 1) = -1 then nI m' else if X.1.1 (xs (i + 1)).toNatClampNeg 5 = 2 then nI (f' (xs (i + 1)).toNatClampNeg) else -4) = (if xs (i + 1) = -1 then nI m else if X.1.1 (xs (i + 1)).toNatClampNeg 5 = 2 then nI (f (xs (i + 1)).toNatClampNeg) else -4) := by
      rw [em]
      by_cases c : xs (i + 1) = -1
      · rw [if_pos c, if_pos c]
      · rw [if_neg c, if_neg c]
        obtain ⟨w, hw, e⟩ := isw_of hn (cv.resolve_left c)
        rw [e, nI_clamp (by omega)]
        by_cases c2 : X.1.1 w 5 = 2
        · rw [if_pos c2, if_pos c2, ef w hw c2]
        · rw [if_neg c2, if_neg c2]
    rw [ev]
    simp (disch := omega) only [pw_iconst, qw_aload_n0, qw_aload_n1, qw_aload_n2, qw_iadd, qw_iaload, qw_if_icmp_eq, qw_iload_n3, qw_invokevirtual2, qw_ireturn, mm_rf_c, mm_rt_v, mm_rt_i, mm_rt_r, mm_alc_n, mm_alc_c, mm_rc_n, mm_rc_c, mm_wd_n, mm_wd_i, mm_wd_l, mm_wd_r, reduceCtorEq, false_implies, implies_true, true_implies, true_or, or_true, false_or, or_false, not_false_eq_true, mm_nl_n, mm_nl_i, mm_nl_r, mm_args_n, mm_args_i, mm_args_l, mm_args_r, mm_pad_0, mm_pad_n, mm_pad_c, List.length_cons, List.length_nil, List.nil_append, List.cons_append, Nat.zero_le, Nat.sub_zero, true_and, and_true, Nat.reduceAdd, Nat.reduceLeDiff, Nat.reduceLT, Nat.reduceSub, Nat.lt_irrefl, Nat.zero_add, Nat.add_zero, Nat.le_refl, k_20, k_10, k_01, ↓mm_if_T, ↓mm_if_F, ↓if10, ↓if00, not_true_eq_false, tf_01, ↓mm_if_tf, ↓mm_if_tn, ↓mm_if_nn, ↓if_rf]
    exact nxt M2 n X a P b K q nx nl t lt ⟨I1_N FN2 hI1, I2_N FN2 hI21, hJ1, J2_Y hF2 (J2_C FC1 hJ2), h1n, hnx, SC_N FN2 hu⟩
  · have c1 : ¬ xs (i + 1) = -1 := fun z => cv (Or.inl z)
    have c2 : ¬ isw n (xs (i + 1)) := fun z => cv (Or.inr z)
    have ec : ∀ post, pC 40 68 [.inr (.inr (5, 0)), .inl (xs (i + 1))] M post = post (some (.inl (-1))) M := fun post => C68b 37 hC hR.1 _ c1 c2
    have er : ∀ post, pC 40 152 [.inr (.inr (6, 0)), .inl (xs (i + 1))] M post = post (some (.inl (-1))) M := fun post => r_152b 38 hn hJ.2.1.1 _ c1 c2
    rw [eK_166_21]
    simp (disch := omega) only [pw_iconst, qw_aload_n0, qw_aload_n1, qw_aload_n2, qw_iadd, qw_iaload, qw_if_icmp_eq, qw_iload_n3, qw_invokevirtual2, qw_ireturn, mm_rf_c, mm_rt_v, mm_rt_i, mm_rt_r, mm_alc_n, mm_alc_c, mm_rc_n, mm_rc_c, mm_wd_n, mm_wd_i, mm_wd_l, mm_wd_r, reduceCtorEq, false_implies, implies_true, true_implies, true_or, or_true, false_or, or_false, not_false_eq_true, mm_nl_n, mm_nl_i, mm_nl_r, mm_args_n, mm_args_i, mm_args_l, mm_args_r, mm_pad_0, mm_pad_n, mm_pad_c, List.length_cons, List.length_nil, List.nil_append, List.cons_append, Nat.zero_le, Nat.sub_zero, true_and, and_true, Nat.reduceAdd, Nat.reduceLeDiff, Nat.reduceLT, Nat.reduceSub, Nat.lt_irrefl, Nat.zero_add, Nat.add_zero, Nat.le_refl, k_20, k_10, k_01, ↓mm_if_T, ↓mm_if_F, ↓if10, ↓if00, not_true_eq_false, tf_01, ↓mm_if_tf, ↓mm_if_tn, ↓mm_if_nn, j_1, j_2, j_3, j_4, v320 hL, ci_, s0, w1, ec, er, ↓if_rf]
    exact nxt M n X a P b K q nx nl t lt ⟨hI, hI2, hJ, hJ2, h1n, hnx, hs⟩

