/-! THE CLASS: what can be undone -/
/-- of references only those of what can be undone have changed -/
def FP (M M' : mm_M) : Prop := M'.1 = M.1 ∧ M'.2.2 = M.2.2 ∧ ∀ c i k, ¬ (c = 9 ∧ i = 0) → mm_R M' c i k = mm_R M c i k
theorem FP_I {M M' : mm_M} (h : FP M M') (c i k : Nat) : mm_I M' c i k = mm_I M c i k := by unfold mm_I; rw [h.1]
theorem FP_L {M M' : mm_M} (h : FP M M') (c i : Nat) : mm_L M' c i = mm_L M c i := by unfold mm_L; rw [h.2.1]
theorem FP_C {M M' : mm_M} (h : FP M M') : FC M M' := ⟨fun c i k _ => FP_I h c i k, fun c i k q => h.2.2 c i k (fun z => q z.1), h.2.1⟩
theorem FP_RX {M M' : mm_M} (h : FP M M') {s n : Nat} {X : Sx} (hR : RX M s n X) : RX M' s n X := by
  unfold RX RS at *
  simp only [FP_I h]
  exact hR
theorem LyC_P {M M' : mm_M} (h : FP M M') {ps ps' : Nat → Nat} (hC : LyC M ps) (hp : ∀ i, i < 8 → mm_R M' 9 0 i = some (ps' i) ∧ 1 ≤ ps' i ∧ ps' i ≤ 8) (hi : ∀ i j, i < 8 → j < 8 → ps' i = ps' j → i = j) : LyC M' ps' := by
  obtain ⟨hS, c0, c1, c2, c3, c4, c5, c6, m0, m1, m2, k1, k2, ct, cn, cp0, -, -⟩ := hC
  have hR : ∀ c i k, ¬ (c = 9 ∧ i = 0) → mm_R M' c i k = mm_R M c i k := h.2.2
  refine ⟨fun s hs => ?_, ?_, ?_, ?_, ?_, ?_, ?_, ?_, ?_, ?_, ?_, fun i hi => ?_, fun i hi => ?_, ?_, ?_, ?_, hp, hi⟩
  · obtain ⟨h1, h2, h3⟩ := hS s hs
    exact ⟨by rw [hR 2 s 0 (by omega)]; exact h1, by rw [FP_L h]; exact h2, fun w hw => by rw [hR 10 s w (by omega)]; exact h3 w hw⟩
  · rw [hR 5 0 0 (by omega)]; exact c0
  · rw [hR 5 0 1 (by omega)]; exact c1
  · rw [hR 5 0 2 (by omega)]; exact c2
  · rw [hR 5 0 3 (by omega)]; exact c3
  · rw [hR 5 0 4 (by omega)]; exact c4
  · rw [hR 5 0 5 (by omega)]; exact c5
  · rw [hR 5 0 6 (by omega)]; exact c6
  · rw [FP_L h]; exact m0
  · rw [FP_L h]; exact m1
  · rw [FP_L h]; exact m2
  · rw [hR 9 1 i (by omega)]; exact k1 i hi
  · rw [hR 9 2 i (by omega)]; exact k2 i hi
  · rw [hR 3 0 0 (by omega), hR 3 0 1 (by omega), FP_L h, FP_L h]; exact ct
  · rw [hR 1 0 0 (by omega), hR 1 0 1 (by omega), FP_L h, FP_L h]; exact cn
  · rw [hR 0 0 0 (by omega), FP_L h]; exact cp0
/-- the oldest goes to the end -/
def rot (ps : Nat → Nat) : Nat → Nat := fun i => if i < 7 then ps (i + 1) else ps 0
def rotj (ps : Nat → Nat) (j : Nat) : Nat → Nat := fun i => if i + 1 < j then ps (i + 1) else ps i

set_option maxHeartbeats 4000000 in
theorem l_88 (d : Nat) {ps : Nat → Nat} {M : mm_M} {post : mm_Post} (hC : LyC M ps) (h : ∀ M', FP M M' → (∀ i, i < 8 → mm_R M' 9 0 i = some (rot ps i)) → post none (mm_sI M' 5 0 7 7)) : ∀ (m i : Nat) (M1 : mm_M), i + m = 8 → 1 ≤ i → FP M M1 → (∀ k, k < 8 → mm_R M1 9 0 k = some (rotj ps i k)) → pK d 88 post 1 [some (.inr (.inr (5, 0))), some (.inr (.inr (2, ps 0))), some (.inl (nI i))] [] M1 (0, 0) := by
  have hC0 := hC
  obtain ⟨hS, c0, c1, c2, c3, c4, c5, c6, m0, m1, m2, k1, k2, ct, cn, cp0, hps, hpi⟩ := id hC
  intro m
  induction m with
  | zero =>
    intro i M1 hi h1 hF hr
    have e : i = 8 := by omega
    subst e
    have c4' : mm_R M1 5 0 4 = some 0 := by rw [hF.2.2 5 0 4 (by omega)]; exact c4
    have m0' : mm_L M1 9 0 = 8 := by rw [FP_L hF]; exact m0
    have v7 : vp_in 7 8 := vp_in_nI (n := 7) (by omega) (by omega)
    have n7 : (7 : Int32).toNatClampNeg = 7 := by decide
    have hge : (8 : Int32) ≤ nI 8 := by decide
    rw [eK_88_1]
    simp only [eK_88_0, eK_88_2, pw_aaload, pw_aastore, pw_aload_n, pw_astore_n, pw_bipush, pw_getfield, pw_goto, pw_iconst, pw_if_icmp, pw_iinc, pw_iload_n, pw_istore_n, pw_isub, pw_nop0, pw_putfield, pw_return_, mm_pI_c, mm_pL_c, mm_pA_c, mm_pR_c, mm_p1_i, mm_p1_r, mm_pN_0, mm_pN_s, mm_lI_c, mm_lL_c, mm_lA_c, mm_wd_n, mm_wd_i, mm_wd_l, mm_wd_r, mm_gf_i, mm_gf_b, mm_gf_r, mm_rf_c, mm_pf_i, mm_pf_b, mm_pf_r, mm_rt_v, mm_rt_i, mm_rt_r, mm_c_eq, mm_c_ne, mm_c_lt, mm_c_ge, mm_c_gt, mm_c_le, mm_sw_n, mm_sw_c, mm_alc_n, mm_alc_c, mm_rc_n, mm_rc_c, reduceCtorEq, false_implies, implies_true, true_implies, true_or, or_true, false_or, or_false, not_false_eq_true, mm_at_0, mm_at_s, mm_set_0, mm_set_s, mm_nl_n, mm_nl_i, mm_nl_r, mm_args_n, mm_args_i, mm_args_l, mm_args_r, mm_pad_0, mm_pad_n, mm_pad_c, List.length_cons, List.length_nil, List.nil_append, List.cons_append, Nat.zero_le, Nat.sub_zero, true_and, and_true, Nat.reduceAdd, Nat.reduceLeDiff, Nat.reduceLT, Nat.reduceSub, Nat.lt_irrefl, Nat.zero_add, Nat.add_zero, k_20, k_10, k_01, mm_if_T, mm_if_F, not_true_eq_false, not_false_eq_true, c4', m0', v7, n7, mm_if_t hge, mm_R_sR, mm_I_sR]
    refine h _ ⟨hF.1, hF.2.1, fun c i k q => ?_⟩ (fun k hk => ?_)
    · rw [mm_R_sR, if_neg (fun z => q ⟨z.1, z.2.1⟩)]
      exact hF.2.2 c i k q
    · rw [mm_R_sR]
      by_cases e : k = 7
      · subst e
        rw [if_pos ⟨rfl, rfl, rfl⟩]
        rfl
      · rw [if_neg (fun z => e z.2.2), hr k hk]
        unfold rotj rot
        rw [if_pos (by omega), if_pos (by omega)]
  | succ m ih =>
    intro i M1 hi h1 hF hr
    have c4' : mm_R M1 5 0 4 = some 0 := by rw [hF.2.2 5 0 4 (by omega)]; exact c4
    have m0' : mm_L M1 9 0 = 8 := by rw [FP_L hF]; exact m0
    have vi : vp_in (nI i) 8 := vp_in_nI (by omega) (by omega)
    have ni : (nI i).toNatClampNeg = i := nI_clamp (by omega)
    have e1 : nI i - 1 = nI (i - 1) := nI_m1 (by omega)
    have vj : vp_in (nI (i - 1)) 8 := vp_in_nI (by omega) (by omega)
    have nj : (nI (i - 1)).toNatClampNeg = i - 1 := nI_clamp (by omega)
    have hlt : ¬ (8 : Int32) ≤ nI i := nI_ge (b := 8) (by omega) (by omega)
    have hri : mm_R M1 9 0 i = some (ps i) := by rw [hr i (by omega)]; unfold rotj; rw [if_neg (by omega)]
    rw [eK_88_1]
    simp only [eK_88_0, eK_88_2, pw_aaload, pw_aastore, pw_aload_n, pw_astore_n, pw_bipush, pw_getfield, pw_goto, pw_iconst, pw_if_icmp, pw_iinc, pw_iload_n, pw_istore_n, pw_isub, pw_nop0, pw_putfield, pw_return_, mm_pI_c, mm_pL_c, mm_pA_c, mm_pR_c, mm_p1_i, mm_p1_r, mm_pN_0, mm_pN_s, mm_lI_c, mm_lL_c, mm_lA_c, mm_wd_n, mm_wd_i, mm_wd_l, mm_wd_r, mm_gf_i, mm_gf_b, mm_gf_r, mm_rf_c, mm_pf_i, mm_pf_b, mm_pf_r, mm_rt_v, mm_rt_i, mm_rt_r, mm_c_eq, mm_c_ne, mm_c_lt, mm_c_ge, mm_c_gt, mm_c_le, mm_sw_n, mm_sw_c, mm_alc_n, mm_alc_c, mm_rc_n, mm_rc_c, reduceCtorEq, false_implies, implies_true, true_implies, true_or, or_true, false_or, or_false, not_false_eq_true, mm_at_0, mm_at_s, mm_set_0, mm_set_s, mm_nl_n, mm_nl_i, mm_nl_r, mm_args_n, mm_args_i, mm_args_l, mm_args_r, mm_pad_0, mm_pad_n, mm_pad_c, List.length_cons, List.length_nil, List.nil_append, List.cons_append, Nat.zero_le, Nat.sub_zero, true_and, and_true, Nat.reduceAdd, Nat.reduceLeDiff, Nat.reduceLT, Nat.reduceSub, Nat.lt_irrefl, Nat.zero_add, Nat.add_zero, k_20, k_10, k_01, mm_if_T, mm_if_F, not_true_eq_false, not_false_eq_true, c4', m0', vi, ni, e1, vj, nj, mm_if_f hlt, hri, nI_1]
    refine ih (i + 1) _ (by omega) (by omega) ⟨hF.1, hF.2.1, fun c i' k q => ?_⟩ (fun k hk => ?_)
    · rw [mm_R_sR, if_neg (fun z => q ⟨z.1, z.2.1⟩)]
      exact hF.2.2 c i' k q
    · rw [mm_R_sR]
      unfold rotj
      by_cases e : k = i - 1
      · rw [if_pos ⟨rfl, rfl, e⟩, if_pos (by omega)]
        rw [show k + 1 = i by omega]
      · rw [if_neg (fun z => e z.2.2), hr k hk]
        unfold rotj
        by_cases e2 : k + 1 < i
        · rw [if_pos e2, if_pos (by omega)]
        · rw [if_neg e2, if_neg (by omega)]

set_option maxHeartbeats 4000000 in
theorem t_88 (d : Nat) {ps : Nat → Nat} {M : mm_M} {post : mm_Post} (hC : LyC M ps) (h : ∀ M', FP M M' → LyC M' (rot ps) → post none (mm_sI M' 5 0 7 7)) : pC (d + 1) 88 [.inr (.inr (5, 0))] M post := by
  have hC0 := hC
  obtain ⟨hS, c0, c1, c2, c3, c4, c5, c6, m0, m1, m2, k1, k2, ct, cn, cp0, hps, hpi⟩ := id hC
  have h0 := (hps 0 (by omega)).1
  have v0 : vp_in 0 8 := vp_in_nI (n := 0) (by omega) (by omega)
  have key := l_88 d (post := post) hC0 (fun M' hF hr => h M' hF (LyC_P hF hC0 (fun i hi => ⟨hr i hi, ?_⟩) (fun i j hi hj e => ?_))) 7 1 M (by omega) (by omega) ⟨rfl, rfl, fun _ _ _ _ => rfl⟩ (fun k hk => by rw [(hps k hk).1]; unfold rotj; rw [if_neg (by omega)])
  · simp only [eC_88, eK_88_0, eK_88_2, pw_aaload, pw_aastore, pw_aload_n, pw_astore_n, pw_bipush, pw_getfield, pw_goto, pw_iconst, pw_if_icmp, pw_iinc, pw_iload_n, pw_istore_n, pw_isub, pw_nop0, pw_putfield, pw_return_, mm_pI_c, mm_pL_c, mm_pA_c, mm_pR_c, mm_p1_i, mm_p1_r, mm_pN_0, mm_pN_s, mm_lI_c, mm_lL_c, mm_lA_c, mm_wd_n, mm_wd_i, mm_wd_l, mm_wd_r, mm_gf_i, mm_gf_b, mm_gf_r, mm_rf_c, mm_pf_i, mm_pf_b, mm_pf_r, mm_rt_v, mm_rt_i, mm_rt_r, mm_c_eq, mm_c_ne, mm_c_lt, mm_c_ge, mm_c_gt, mm_c_le, mm_sw_n, mm_sw_c, mm_alc_n, mm_alc_c, mm_rc_n, mm_rc_c, reduceCtorEq, false_implies, implies_true, true_implies, true_or, or_true, false_or, or_false, not_false_eq_true, mm_at_0, mm_at_s, mm_set_0, mm_set_s, mm_nl_n, mm_nl_i, mm_nl_r, mm_args_n, mm_args_i, mm_args_l, mm_args_r, mm_pad_0, mm_pad_n, mm_pad_c, List.length_cons, List.length_nil, List.nil_append, List.cons_append, Nat.zero_le, Nat.sub_zero, true_and, and_true, Nat.reduceAdd, Nat.reduceLeDiff, Nat.reduceLT, Nat.reduceSub, Nat.lt_irrefl, Nat.zero_add, Nat.add_zero, k_20, k_10, k_01, mm_if_T, mm_if_F, not_true_eq_false, not_false_eq_true, c4, m0, v0, sb_cl0, h0]
    exact key
  · unfold rot
    split
    · exact (hps (i + 1) (by omega)).2
    · exact (hps 0 (by omega)).2
  · unfold rot at e
    split at e <;> split at e
    · have := hpi (i + 1) (j + 1) (by omega) (by omega) e; omega
    · have := hpi (i + 1) 0 (by omega) (by omega) e; omega
    · have := hpi 0 (j + 1) (by omega) (by omega) e; omega
    · omega

