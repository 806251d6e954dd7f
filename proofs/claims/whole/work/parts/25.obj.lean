/-! THE CLASS: its object, what is kept of streets -/
abbrev Sx : Type := St × Int32
def RX (M : mm_M) (s n : Nat) (X : Sx) : Prop := RS M s n X.1.1 X.2 X.1.2.1 X.1.2.2
/-- a street as it can be -/
def WF (n : Nat) (A : Nat → Nat → Int32) : Prop := ∀ w, w < n → (0 ≤ A w 0 ∧ A w 0 ≤ 3) ∧ (0 ≤ A w 1 ∧ A w 1 ≤ 40) ∧ (A w 4 = 0 ∨ A w 4 = 1) ∧ (A w 5 = 0 ∨ A w 5 = 1 ∨ A w 5 = 2) ∧ (¬ A w 5 = 0 → (1 ≤ A w 6 ∧ A w 6 ≤ 30) ∧ (0 ≤ A w 7 ∧ A w 7 ≤ 30) ∧ A w 8 = f_lo (A w 6) (A w 7)) ∧ (A w 5 = 2 → (0 ≤ A w 9 ∧ A w 9 ≤ 40) ∧ (0 ≤ A w 10 ∧ A w 10 ≤ 23))
/-- how the class's objects refer to each other; ps: the streets of what can be undone -/
def LyC (M : mm_M) (ps : Nat → Nat) : Prop := LyS M ∧ mm_R M 5 0 0 = some 0 ∧ mm_R M 5 0 1 = some 0 ∧ mm_R M 5 0 2 = some 0 ∧ mm_R M 5 0 3 = some 0 ∧ mm_R M 5 0 4 = some 0 ∧ mm_R M 5 0 5 = some 1 ∧ mm_R M 5 0 6 = some 2 ∧
  mm_L M 9 0 = 8 ∧ mm_L M 9 1 = 2 ∧ mm_L M 9 2 = 9 ∧ (∀ i, i < 2 → mm_R M 9 1 i = some (9 + i)) ∧ (∀ i, i < 9 → mm_R M 9 2 i = some (11 + i)) ∧
  (mm_R M 3 0 0 = some 0 ∧ mm_R M 3 0 1 = some 1 ∧ mm_L M 7 0 = 200 ∧ mm_L M 7 1 = 5) ∧ (mm_R M 1 0 0 = some 2 ∧ mm_R M 1 0 1 = some 3 ∧ mm_L M 7 2 = 6 ∧ mm_L M 7 3 = 6) ∧ (mm_R M 0 0 0 = some 4 ∧ mm_L M 7 4 = 7) ∧
  (∀ i, i < 8 → mm_R M 9 0 i = some (ps i) ∧ 1 ≤ ps i ∧ ps i ≤ 8) ∧ (∀ i j, i < 8 → j < 8 → ps i = ps j → i = j)
/-- numbers alone have changed -/
theorem LyC_2 {M M' : mm_M} {ps : Nat → Nat} (h : M'.2 = M.2) (hC : LyC M ps) : LyC M' ps := by
  obtain ⟨hS, hr⟩ := hC
  refine ⟨LyS_2 h hS, ?_⟩
  unfold mm_R mm_L at *
  rw [h]
  exact hr
theorem nI_m1 {n : Nat} (h : 0 < n) : nI n - 1 = nI (n - 1) := by
  obtain ⟨m, rfl⟩ : ∃ m, n = m + 1 := ⟨n - 1, by omega⟩
  rw [nI_pred]
  rfl
/-- is one of n -/
abbrev isw (n : Nat) (x : Int32) : Prop := 0 ≤ x ∧ x ≤ nI n - 1
theorem isw_of {n : Nat} {x : Int32} (hn : n ≤ 7) (h : isw n x) : ∃ w, w < n ∧ x = nI w := by
  obtain ⟨h1, h2⟩ := h
  obtain ⟨j, hj, rfl⟩ := nI_of (Int32.not_lt.mpr h1)
  refine ⟨j, ?_, rfl⟩
  by_cases h0 : n = 0
  · subst h0
    exfalso
    have e : nI 0 - 1 = -1 := by decide
    rw [e] at h2
    have h3 : (0 : Int32) ≤ -1 := Int32.le_trans h1 h2
    exact absurd h3 (by decide)
  · rw [nI_m1 (by omega)] at h2
    have := (nI_leI hj (show n - 1 < 2 ^ 31 by omega)).mp h2
    omega
theorem isw_nI {n w : Nat} (hn : n ≤ 7) (h : w < n) : isw n (nI w) := ⟨nI_pos' (by omega), by rw [nI_m1 (by omega)]; exact nI_le (by omega) (by omega)⟩

set_option maxHeartbeats 2000000 in
theorem e_79 (d : Nat) {n : Nat} {ps : Nat → Nat} {M : mm_M} {post : mm_Post} (hC : LyC M ps) (hz : mm_I M 2 0 1 = nI n) (x : Int32) : pC (d + 2) 79 [.inr (.inr (5, 0)), .inl x] M post = post (some (.inl (tf (0 ≤ x ∧ x ≤ nI n - 1)))) M := by
  obtain ⟨hS, c0, c1, c2, c3, c4, c5, c6, m0, m1, m2, k1, k2, ct, cn, cp0, hps, hpi⟩ := id hC
  simp only [eC_79, eK_79_0, pw_aload_n, pw_getfield, pw_iconst, pw_iload_n, pw_invokestatic, pw_ireturn, pw_isub, mm_pI_c, mm_pL_c, mm_pA_c, mm_pR_c, mm_p1_i, mm_p1_r, mm_pN_0, mm_pN_s, mm_lI_c, mm_lL_c, mm_lA_c, mm_wd_n, mm_wd_i, mm_wd_l, mm_wd_r, mm_gf_i, mm_gf_b, mm_gf_r, mm_rf_c, mm_pf_i, mm_pf_b, mm_pf_r, mm_rt_v, mm_rt_i, mm_rt_r, mm_c_eq, mm_c_ne, mm_c_lt, mm_c_ge, mm_c_gt, mm_c_le, mm_sw_n, mm_sw_c, mm_alc_n, mm_alc_c, mm_rc_n, mm_rc_c, reduceCtorEq, false_implies, implies_true, true_implies, true_or, or_true, false_or, or_false, not_false_eq_true, mm_at_0, mm_at_s, mm_set_0, mm_set_s, mm_nl_n, mm_nl_i, mm_nl_r, mm_args_n, mm_args_i, mm_args_l, mm_args_r, mm_pad_0, mm_pad_n, mm_pad_c, List.length_cons, List.length_nil, List.nil_append, List.cons_append, Nat.zero_le, Nat.sub_zero, true_and, and_true, Nat.reduceAdd, Nat.reduceLeDiff, Nat.reduceLT, Nat.reduceSub, Nat.lt_irrefl, Nat.zero_add, Nat.add_zero, k_20, k_10, k_01, mm_if_T, mm_if_F, not_true_eq_false, not_false_eq_true, c3, hz, t_82, tf_01]
/-- what a class's call leaves as it was: the reference, the script -/
def FC (M M' : mm_M) : Prop := (∀ c i k, (6 ≤ c ∧ ¬ (c = 7 ∧ i < 5)) → mm_I M' c i k = mm_I M c i k) ∧ (∀ c i k, ¬ c = 9 → mm_R M' c i k = mm_R M c i k) ∧ M'.2.2 = M.2.2
theorem FC_rf (M : mm_M) : FC M M := ⟨fun _ _ _ _ => rfl, fun _ _ _ _ => rfl, rfl⟩
theorem FC_tr {M M1 M2 : mm_M} (h : FC M M1) (h' : FC M1 M2) : FC M M2 := ⟨fun c i k q => (h'.1 c i k q).trans (h.1 c i k q), fun c i k q => (h'.2.1 c i k q).trans (h.2.1 c i k q), h'.2.2.trans h.2.2⟩
theorem FC_S {M M' : mm_M} {s : Nat} (h : FS M M' s) : FC M M' := ⟨fun c i k q => h.2 c i k (fun z => by omega) (fun z => by omega), fun c i k _ => by unfold mm_R; rw [h.1], by rw [h.1]⟩
theorem FC_I {M M' : mm_M} {c i k : Nat} {v : Int32} (h : FC M M') (hc : c < 6 ∨ (c = 7 ∧ i < 5)) : FC M (mm_sI M' c i k v) := ⟨fun c' i' k' q => by rw [mm_I_sI, if_neg (fun z => by omega)]; exact h.1 c' i' k' q, h.2.1, h.2.2⟩
theorem FC_R {M M' : mm_M} {i k : Nat} {v : Option Nat} (h : FC M M') : FC M (mm_sR M' 9 i k v) := ⟨h.1, fun c' i' k' q => by rw [mm_R_sR, if_neg (fun z => q z.1)]; exact h.2.1 c' i' k' q, h.2.2⟩

set_option maxHeartbeats 2000000 in
theorem t_86 (d : Nat) {n : Nat} {ps : Nat → Nat} {M : mm_M} {post : mm_Post} {X : Sx} (hn : n ≤ 7) (hC : LyC M ps) (hR : RX M 0 n X) (hW : WF n X.1.1) (h : ∀ M', RX M' 11 n X → FS M M' 11 → post (some (.inr (.inr (2, 11)))) M') : pC (d + 3) 86 [.inr (.inr (5, 0))] M post := by
  obtain ⟨hS, c0, c1, c2, c3, c4, c5, c6, m0, m1, m2, k1, k2, ct, cn, cp0, hps, hpi⟩ := id hC
  have k20 := k2 0 (by omega)
  have v9 : vp_in 0 9 := vp_in_nI (n := 0) (by omega) (by omega)
  simp only [eC_86, eK_86_0, pw_aaload, pw_aload_n, pw_areturn, pw_getfield, pw_iconst, pw_invokevirtual, mm_pI_c, mm_pL_c, mm_pA_c, mm_pR_c, mm_p1_i, mm_p1_r, mm_pN_0, mm_pN_s, mm_lI_c, mm_lL_c, mm_lA_c, mm_wd_n, mm_wd_i, mm_wd_l, mm_wd_r, mm_gf_i, mm_gf_b, mm_gf_r, mm_rf_c, mm_pf_i, mm_pf_b, mm_pf_r, mm_rt_v, mm_rt_i, mm_rt_r, mm_c_eq, mm_c_ne, mm_c_lt, mm_c_ge, mm_c_gt, mm_c_le, mm_sw_n, mm_sw_c, mm_alc_n, mm_alc_c, mm_rc_n, mm_rc_c, reduceCtorEq, false_implies, implies_true, true_implies, true_or, or_true, false_or, or_false, not_false_eq_true, mm_at_0, mm_at_s, mm_set_0, mm_set_s, mm_nl_n, mm_nl_i, mm_nl_r, mm_args_n, mm_args_i, mm_args_l, mm_args_r, mm_pad_0, mm_pad_n, mm_pad_c, List.length_cons, List.length_nil, List.nil_append, List.cons_append, Nat.zero_le, Nat.sub_zero, true_and, and_true, Nat.reduceAdd, Nat.reduceLeDiff, Nat.reduceLT, Nat.reduceSub, Nat.lt_irrefl, Nat.zero_add, Nat.add_zero, k_20, k_10, k_01, mm_if_T, mm_if_F, not_true_eq_false, not_false_eq_true, c3, c6, m2, v9, sb_cl0, k20]
  refine t_10 (d := d) (s := 11) (s' := 0) (by omega) (by omega) (by omega) hn hS hR (fun w hw => (hW w hw).2.2.1) (fun M' hR' hF' => ?_)
  have c6' : mm_R M' 5 0 6 = some 2 := by unfold mm_R; rw [hF'.1]; exact c6
  have m2' : mm_L M' 9 2 = 9 := by unfold mm_L; rw [hF'.1]; exact m2
  have k20' : mm_R M' 9 2 0 = some 11 := by unfold mm_R; rw [hF'.1]; exact k20
  simp only [eC_86, eK_86_0, pw_aaload, pw_aload_n, pw_areturn, pw_getfield, pw_iconst, pw_invokevirtual, mm_pI_c, mm_pL_c, mm_pA_c, mm_pR_c, mm_p1_i, mm_p1_r, mm_pN_0, mm_pN_s, mm_lI_c, mm_lL_c, mm_lA_c, mm_wd_n, mm_wd_i, mm_wd_l, mm_wd_r, mm_gf_i, mm_gf_b, mm_gf_r, mm_rf_c, mm_pf_i, mm_pf_b, mm_pf_r, mm_rt_v, mm_rt_i, mm_rt_r, mm_c_eq, mm_c_ne, mm_c_lt, mm_c_ge, mm_c_gt, mm_c_le, mm_sw_n, mm_sw_c, mm_alc_n, mm_alc_c, mm_rc_n, mm_rc_c, reduceCtorEq, false_implies, implies_true, true_implies, true_or, or_true, false_or, or_false, not_false_eq_true, mm_at_0, mm_at_s, mm_set_0, mm_set_s, mm_nl_n, mm_nl_i, mm_nl_r, mm_args_n, mm_args_i, mm_args_l, mm_args_r, mm_pad_0, mm_pad_n, mm_pad_c, List.length_cons, List.length_nil, List.nil_append, List.cons_append, Nat.zero_le, Nat.sub_zero, true_and, and_true, Nat.reduceAdd, Nat.reduceLeDiff, Nat.reduceLT, Nat.reduceSub, Nat.lt_irrefl, Nat.zero_add, Nat.add_zero, k_20, k_10, k_01, mm_if_T, mm_if_F, not_true_eq_false, not_false_eq_true, c6', m2', v9, sb_cl0, k20']
  exact h M' hR' hF'

