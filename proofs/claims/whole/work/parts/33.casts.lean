/-! THE CLASS: casts; draws; a year -/
def cs_in (l : Int32) (c : Nat) (z : Int32 × Int32) : Nat → Int32 × Int32
  | 0 => z
  | t + 1 => if f_lo (nI c) (nI t) = l then ((cs_in l c z t).1 + 1, if (cs_in l c z t).1 + 1 = 1 then 100 * nI c + nI t else (cs_in l c z t).2) else cs_in l c z t
def cs_out (l : Int32) : Nat → Int32 × Int32
  | 0 => (0, -4)
  | c + 1 => cs_in l (c + 1) (cs_out l c) 31
def G73 (l y : Int32) : Int32 := if (0 ≤ l ∧ l ≤ 99) ∧ (0 ≤ y ∧ y ≤ 1) then (if y = 0 then (cs_out l 30).1 else (cs_out l 30).2) else -1

set_option maxHeartbeats 4000000 in
theorem l_73i (d : Nat) {M : mm_M} {post : mm_Post} (l y : Int32) (c : Nat) (hc : c ≤ 30) (z : Int32 × Int32) (h : ∀ t, pK (d + 2) 73 post 3 [some (.inr (.inr (5, 0))), some (.inl l), some (.inl y), some (.inl (cs_in l c z 31).1), some (.inl (cs_in l c z 31).2), some (.inl (nI (c + 1))), t] [] M (0, 0)) : ∀ (m t : Nat), t + m = 31 → pK (d + 2) 73 post 4 [some (.inr (.inr (5, 0))), some (.inl l), some (.inl y), some (.inl (cs_in l c z t).1), some (.inl (cs_in l c z t).2), some (.inl (nI (c))), some (.inl (nI t))] [] M (0, 0) := by
  intro m
  induction m with
  | zero =>
    intro t ht
    have e : t = 31 := by omega
    subst e
    have hq : (30 : Int32) < nI 31 := by decide
    rw [eK_73_4]
    simp only [eK_73_0, eK_73_1, eK_73_2, eK_73_5, eK_73_6, eK_73_7, eK_73_8, eK_73_9, eK_73_10, eK_73_11, pw_bipush, pw_goto, pw_iadd, pw_iconst, pw_ifCond, pw_if_icmp, pw_iinc, pw_iload, pw_iload_n, pw_imul, pw_invokestatic, pw_ireturn, pw_istore, pw_istore_n, pw_nop0, mm_pI_c, mm_pL_c, mm_pA_c, mm_pR_c, mm_p1_i, mm_p1_r, mm_pN_0, mm_pN_s, mm_lI_c, mm_lL_c, mm_lA_c, mm_wd_n, mm_wd_i, mm_wd_l, mm_wd_r, mm_gf_i, mm_gf_b, mm_gf_r, mm_rf_c, mm_pf_i, mm_pf_b, mm_pf_r, mm_rt_v, mm_rt_i, mm_rt_r, mm_c_eq, mm_c_ne, mm_c_lt, mm_c_ge, mm_c_gt, mm_c_le, mm_sw_n, mm_sw_c, mm_alc_n, mm_alc_c, mm_rc_n, mm_rc_c, reduceCtorEq, false_implies, implies_true, true_implies, true_or, or_true, false_or, or_false, not_false_eq_true, mm_at_0, mm_at_s, mm_set_0, mm_set_s, mm_nl_n, mm_nl_i, mm_nl_r, mm_args_n, mm_args_i, mm_args_l, mm_args_r, mm_pad_0, mm_pad_n, mm_pad_c, List.length_cons, List.length_nil, List.nil_append, List.cons_append, Nat.zero_le, Nat.sub_zero, true_and, and_true, Nat.reduceAdd, Nat.reduceLeDiff, Nat.reduceLT, Nat.reduceSub, Nat.lt_irrefl, Nat.zero_add, Nat.add_zero, k_20, k_10, k_01, mm_if_T, mm_if_F, not_true_eq_false, not_false_eq_true, mm_if_t hq, nI_1]
    exact h _
  | succ m ih =>
    intro t ht
    have hq : ¬ (30 : Int32) < nI t := nI_nlt (b := t) (a := 30) (by omega) (by omega)
    have key := ih (t + 1) (by omega)
    rw [eK_73_4]
    simp only [eK_73_0, eK_73_1, eK_73_2, eK_73_5, eK_73_6, eK_73_7, eK_73_8, eK_73_9, eK_73_10, eK_73_11, pw_bipush, pw_goto, pw_iadd, pw_iconst, pw_ifCond, pw_if_icmp, pw_iinc, pw_iload, pw_iload_n, pw_imul, pw_invokestatic, pw_ireturn, pw_istore, pw_istore_n, pw_nop0, mm_pI_c, mm_pL_c, mm_pA_c, mm_pR_c, mm_p1_i, mm_p1_r, mm_pN_0, mm_pN_s, mm_lI_c, mm_lL_c, mm_lA_c, mm_wd_n, mm_wd_i, mm_wd_l, mm_wd_r, mm_gf_i, mm_gf_b, mm_gf_r, mm_rf_c, mm_pf_i, mm_pf_b, mm_pf_r, mm_rt_v, mm_rt_i, mm_rt_r, mm_c_eq, mm_c_ne, mm_c_lt, mm_c_ge, mm_c_gt, mm_c_le, mm_sw_n, mm_sw_c, mm_alc_n, mm_alc_c, mm_rc_n, mm_rc_c, reduceCtorEq, false_implies, implies_true, true_implies, true_or, or_true, false_or, or_false, not_false_eq_true, mm_at_0, mm_at_s, mm_set_0, mm_set_s, mm_nl_n, mm_nl_i, mm_nl_r, mm_args_n, mm_args_i, mm_args_l, mm_args_r, mm_pad_0, mm_pad_n, mm_pad_c, List.length_cons, List.length_nil, List.nil_append, List.cons_append, Nat.zero_le, Nat.sub_zero, true_and, and_true, Nat.reduceAdd, Nat.reduceLeDiff, Nat.reduceLT, Nat.reduceSub, Nat.lt_irrefl, Nat.zero_add, Nat.add_zero, k_20, k_10, k_01, mm_if_T, mm_if_F, not_true_eq_false, not_false_eq_true, mm_if_f hq, nI_1, t_84]
    simp only [mm_if]
    unfold cs_in at key
    grind

set_option maxHeartbeats 4000000 in
theorem l_73 (d : Nat) {M : mm_M} {post : mm_Post} (l y : Int32) (h : post (some (.inl (if y = 0 then (cs_out l 30).1 else (cs_out l 30).2))) M) : ∀ (m c : Nat) (t : Option mm_V), c + m = 30 → pK (d + 2) 73 post 3 [some (.inr (.inr (5, 0))), some (.inl l), some (.inl y), some (.inl (cs_out l c).1), some (.inl (cs_out l c).2), some (.inl (nI (c + 1))), t] [] M (0, 0) := by
  intro m
  induction m with
  | zero =>
    intro c t hc
    have e : c = 30 := by omega
    subst e
    have hq : (30 : Int32) < nI (30 + 1) := by decide
    rw [eK_73_3]
    simp only [eK_73_0, eK_73_1, eK_73_2, eK_73_5, eK_73_6, eK_73_7, eK_73_8, eK_73_9, eK_73_10, eK_73_11, pw_bipush, pw_goto, pw_iadd, pw_iconst, pw_ifCond, pw_if_icmp, pw_iinc, pw_iload, pw_iload_n, pw_imul, pw_invokestatic, pw_ireturn, pw_istore, pw_istore_n, pw_nop0, mm_pI_c, mm_pL_c, mm_pA_c, mm_pR_c, mm_p1_i, mm_p1_r, mm_pN_0, mm_pN_s, mm_lI_c, mm_lL_c, mm_lA_c, mm_wd_n, mm_wd_i, mm_wd_l, mm_wd_r, mm_gf_i, mm_gf_b, mm_gf_r, mm_rf_c, mm_pf_i, mm_pf_b, mm_pf_r, mm_rt_v, mm_rt_i, mm_rt_r, mm_c_eq, mm_c_ne, mm_c_lt, mm_c_ge, mm_c_gt, mm_c_le, mm_sw_n, mm_sw_c, mm_alc_n, mm_alc_c, mm_rc_n, mm_rc_c, reduceCtorEq, false_implies, implies_true, true_implies, true_or, or_true, false_or, or_false, not_false_eq_true, mm_at_0, mm_at_s, mm_set_0, mm_set_s, mm_nl_n, mm_nl_i, mm_nl_r, mm_args_n, mm_args_i, mm_args_l, mm_args_r, mm_pad_0, mm_pad_n, mm_pad_c, List.length_cons, List.length_nil, List.nil_append, List.cons_append, Nat.zero_le, Nat.sub_zero, true_and, and_true, Nat.reduceAdd, Nat.reduceLeDiff, Nat.reduceLT, Nat.reduceSub, Nat.lt_irrefl, Nat.zero_add, Nat.add_zero, k_20, k_10, k_01, mm_if_T, mm_if_F, not_true_eq_false, not_false_eq_true, mm_if_t hq, mm_if_v, ite_not]
    exact h
  | succ m ih =>
    intro c t hc
    have hq : ¬ (30 : Int32) < nI (c + 1) := nI_nlt (b := c + 1) (a := 30) (by omega) (by omega)
    have key := l_73i d (M := M) (post := post) l y (c + 1) (by omega) (cs_out l c) (fun t => ih (c + 1) t (by omega)) 31 0 (by omega)
    rw [eK_73_3]
    simp only [eK_73_0, eK_73_1, eK_73_2, eK_73_5, eK_73_6, eK_73_7, eK_73_8, eK_73_9, eK_73_10, eK_73_11, pw_bipush, pw_goto, pw_iadd, pw_iconst, pw_ifCond, pw_if_icmp, pw_iinc, pw_iload, pw_iload_n, pw_imul, pw_invokestatic, pw_ireturn, pw_istore, pw_istore_n, pw_nop0, mm_pI_c, mm_pL_c, mm_pA_c, mm_pR_c, mm_p1_i, mm_p1_r, mm_pN_0, mm_pN_s, mm_lI_c, mm_lL_c, mm_lA_c, mm_wd_n, mm_wd_i, mm_wd_l, mm_wd_r, mm_gf_i, mm_gf_b, mm_gf_r, mm_rf_c, mm_pf_i, mm_pf_b, mm_pf_r, mm_rt_v, mm_rt_i, mm_rt_r, mm_c_eq, mm_c_ne, mm_c_lt, mm_c_ge, mm_c_gt, mm_c_le, mm_sw_n, mm_sw_c, mm_alc_n, mm_alc_c, mm_rc_n, mm_rc_c, reduceCtorEq, false_implies, implies_true, true_implies, true_or, or_true, false_or, or_false, not_false_eq_true, mm_at_0, mm_at_s, mm_set_0, mm_set_s, mm_nl_n, mm_nl_i, mm_nl_r, mm_args_n, mm_args_i, mm_args_l, mm_args_r, mm_pad_0, mm_pad_n, mm_pad_c, List.length_cons, List.length_nil, List.nil_append, List.cons_append, Nat.zero_le, Nat.sub_zero, true_and, and_true, Nat.reduceAdd, Nat.reduceLeDiff, Nat.reduceLT, Nat.reduceSub, Nat.lt_irrefl, Nat.zero_add, Nat.add_zero, k_20, k_10, k_01, mm_if_T, mm_if_F, not_true_eq_false, not_false_eq_true, mm_if_f hq]
    exact key
theorem e_73 (d : Nat) {M : mm_M} {post : mm_Post} (l y : Int32) : pC (d + 3) 73 [.inr (.inr (5, 0)), .inl l, .inl y] M post = post (some (.inl (G73 l y))) M := by
  by_cases hv : (0 ≤ l ∧ l ≤ 99) ∧ (0 ≤ y ∧ y ≤ 1)
  · refine pC_one (fun post h => ?_) post
    have e : G73 l y = if y = 0 then (cs_out l 30).1 else (cs_out l 30).2 := if_pos hv
    rw [e] at h
    have key := l_73 d l y h 30 0 none (by omega)
    simp only [eC_73, eK_73_0, eK_73_1, eK_73_2, eK_73_5, eK_73_6, eK_73_7, eK_73_8, eK_73_9, eK_73_10, eK_73_11, pw_bipush, pw_goto, pw_iadd, pw_iconst, pw_ifCond, pw_if_icmp, pw_iinc, pw_iload, pw_iload_n, pw_imul, pw_invokestatic, pw_ireturn, pw_istore, pw_istore_n, pw_nop0, mm_pI_c, mm_pL_c, mm_pA_c, mm_pR_c, mm_p1_i, mm_p1_r, mm_pN_0, mm_pN_s, mm_lI_c, mm_lL_c, mm_lA_c, mm_wd_n, mm_wd_i, mm_wd_l, mm_wd_r, mm_gf_i, mm_gf_b, mm_gf_r, mm_rf_c, mm_pf_i, mm_pf_b, mm_pf_r, mm_rt_v, mm_rt_i, mm_rt_r, mm_c_eq, mm_c_ne, mm_c_lt, mm_c_ge, mm_c_gt, mm_c_le, mm_sw_n, mm_sw_c, mm_alc_n, mm_alc_c, mm_rc_n, mm_rc_c, reduceCtorEq, false_implies, implies_true, true_implies, true_or, or_true, false_or, or_false, not_false_eq_true, mm_at_0, mm_at_s, mm_set_0, mm_set_s, mm_nl_n, mm_nl_i, mm_nl_r, mm_args_n, mm_args_i, mm_args_l, mm_args_r, mm_pad_0, mm_pad_n, mm_pad_c, List.length_cons, List.length_nil, List.nil_append, List.cons_append, Nat.zero_le, Nat.sub_zero, true_and, and_true, Nat.reduceAdd, Nat.reduceLeDiff, Nat.reduceLT, Nat.reduceSub, Nat.lt_irrefl, Nat.zero_add, Nat.add_zero, k_20, k_10, k_01, mm_if_T, mm_if_F, not_true_eq_false, not_false_eq_true, t_82, tf_0, hv]
    exact key
  · have e : G73 l y = -1 := if_neg hv
    rw [e]
    simp only [eC_73, eK_73_0, eK_73_1, eK_73_2, eK_73_5, eK_73_6, eK_73_7, eK_73_8, eK_73_9, eK_73_10, eK_73_11, pw_bipush, pw_goto, pw_iadd, pw_iconst, pw_ifCond, pw_if_icmp, pw_iinc, pw_iload, pw_iload_n, pw_imul, pw_invokestatic, pw_ireturn, pw_istore, pw_istore_n, pw_nop0, mm_pI_c, mm_pL_c, mm_pA_c, mm_pR_c, mm_p1_i, mm_p1_r, mm_pN_0, mm_pN_s, mm_lI_c, mm_lL_c, mm_lA_c, mm_wd_n, mm_wd_i, mm_wd_l, mm_wd_r, mm_gf_i, mm_gf_b, mm_gf_r, mm_rf_c, mm_pf_i, mm_pf_b, mm_pf_r, mm_rt_v, mm_rt_i, mm_rt_r, mm_c_eq, mm_c_ne, mm_c_lt, mm_c_ge, mm_c_gt, mm_c_le, mm_sw_n, mm_sw_c, mm_alc_n, mm_alc_c, mm_rc_n, mm_rc_c, reduceCtorEq, false_implies, implies_true, true_implies, true_or, or_true, false_or, or_false, not_false_eq_true, mm_at_0, mm_at_s, mm_set_0, mm_set_s, mm_nl_n, mm_nl_i, mm_nl_r, mm_args_n, mm_args_i, mm_args_l, mm_args_r, mm_pad_0, mm_pad_n, mm_pad_c, List.length_cons, List.length_nil, List.nil_append, List.cons_append, Nat.zero_le, Nat.sub_zero, true_and, and_true, Nat.reduceAdd, Nat.reduceLeDiff, Nat.reduceLT, Nat.reduceSub, Nat.lt_irrefl, Nat.zero_add, Nat.add_zero, k_20, k_10, k_01, mm_if_T, mm_if_F, not_true_eq_false, not_false_eq_true, t_82, tf_0]
    simp only [mm_if]
    grind

def g_dw (z k : Int32) : Int32 := ((Int32.toInt64 7919 * z.toInt64 + Int32.toInt64 6151 * k.toInt64 + Int32.toInt64 1) * (Int32.toInt64 7919 * z.toInt64 + Int32.toInt64 6151 * k.toInt64 + Int32.toInt64 1) - (Int32.toInt64 7919 * z.toInt64 + Int32.toInt64 6151 * k.toInt64 + Int32.toInt64 1) * (Int32.toInt64 7919 * z.toInt64 + Int32.toInt64 6151 * k.toInt64 + Int32.toInt64 1) / Int32.toInt64 65521 * Int32.toInt64 65521).toInt32
set_option maxHeartbeats 4000000 in
theorem e_94 (d : Nat) {M : mm_M} {post : mm_Post} (z k : Int32) : pC (d + 1) 94 [.inl z, .inl k] M post = post (some (.inl (g_dw z k))) M := by
  have e : ¬ Int32.toInt64 65521 = 0 := by decide
  simp only [eC_94, eK_94_0, pw_i2l, pw_iload_n, pw_ireturn, pw_l2i, pw_ladd, pw_lconst, pw_ldc2_w, pw_lload_n, pw_lmul, pw_lrem, pw_lstore_n, mm_pI_c, mm_pL_c, mm_pA_c, mm_pR_c, mm_p1_i, mm_p1_r, mm_pN_0, mm_pN_s, mm_lI_c, mm_lL_c, mm_lA_c, mm_wd_n, mm_wd_i, mm_wd_l, mm_wd_r, mm_gf_i, mm_gf_b, mm_gf_r, mm_rf_c, mm_pf_i, mm_pf_b, mm_pf_r, mm_rt_v, mm_rt_i, mm_rt_r, mm_c_eq, mm_c_ne, mm_c_lt, mm_c_ge, mm_c_gt, mm_c_le, mm_sw_n, mm_sw_c, mm_alc_n, mm_alc_c, mm_rc_n, mm_rc_c, reduceCtorEq, false_implies, implies_true, true_implies, true_or, or_true, false_or, or_false, not_false_eq_true, mm_at_0, mm_at_s, mm_set_0, mm_set_s, mm_nl_n, mm_nl_i, mm_nl_r, mm_args_n, mm_args_i, mm_args_l, mm_args_r, mm_pad_0, mm_pad_n, mm_pad_c, List.length_cons, List.length_nil, List.nil_append, List.cons_append, Nat.zero_le, Nat.sub_zero, true_and, and_true, Nat.reduceAdd, Nat.reduceLeDiff, Nat.reduceLT, Nat.reduceSub, Nat.lt_irrefl, Nat.zero_add, Nat.add_zero, k_20, k_10, k_01, mm_if_T, mm_if_F, not_true_eq_false, not_false_eq_true, e]
  rfl
def dwN (z k : Nat) : Nat := (7919 * z + 6151 * k + 1) * (7919 * z + 6151 * k + 1) % 65521
theorem g_dwN {z k : Nat} (hz : z ≤ 9999) (hk : k ≤ 60) : g_dw (nI z) (nI k) = nI (dwN z k) := by
  unfold g_dw dwN
  have e1 : Int32.toInt64 7919 = lN 7919 := by decide
  have e2 : Int32.toInt64 6151 = lN 6151 := by decide
  have e3 : Int32.toInt64 1 = lN 1 := by decide
  have e4 : Int32.toInt64 65521 = lN 65521 := by decide
  rw [e1, e2, e3, e4, nI_l (show z < 2 ^ 31 by omega), nI_l (show k < 2 ^ 31 by omega)]
  have hb : (7919 * z + 6151 * k + 1) ≤ 80000000 := by omega
  have hb2 : (7919 * z + 6151 * k + 1) * (7919 * z + 6151 * k + 1) ≤ 80000000 * 80000000 := Nat.mul_le_mul hb hb
  have ex : lN 7919 * lN z + lN 6151 * lN k + lN 1 = lN (7919 * z + 6151 * k + 1) := by rw [lN_mul, lN_mul, lN_add, lN_add]
  rw [ex, lN_mul, pk_lRem (by omega) (by omega) (by omega), lN_i]
theorem dwN_lt (z k : Nat) : dwN z k < 65521 := Nat.mod_lt _ (by decide)
/-- ahead of a day, by draw D -/
def g_ac (n : Nat) (X : St) (D : Nat) : St :=
  if D % 8 = 0 ∨ D % 8 = 1 then (if ¬ 1 ≤ X.1 (D / 8 % n) 5 ∧ X.1 (D / 8 % n) 4 = 0 ∧ nI (D / 64 % 9 + 1) ≤ X.2.1 ∧ nI (D / 512 % 5) ≤ X.2.2 then g_ca X (D / 8 % n) (nI (D / 64 % 9 + 1)) (nI (D / 512 % 5)) else X)
  else if D % 8 = 2 ∨ D % 8 = 3 then (if 1 ≤ X.1 (D / 8 % n) 5 then (g_ha X.1 (D / 8 % n) (nI (D / 64 % 41)) (nI (D / 512 % 24)), X.2) else X)
  else if D % 8 = 4 then (if 1 ≤ X.1 (D / 8 % n) 5 then g_me X (D / 8 % n) else X) else X

set_option maxHeartbeats 4000000 in
theorem t_95 (d : Nat) {s n : Nat} {X : Sx} {M : mm_M} {post : mm_Post} (hs : s < 20) (hn : n ≤ 7) (h1n : 1 ≤ n) (hL : LyS M) (hR : RX M s n X) (D : Nat) (hD : D < 65521) (h : ∀ M', RX M' s n (g_ac n X.1 D, X.2) → FS M M' s → post none M') : pC (d + 5) 95 [.inr (.inr (2, s)), .inl (nI D)] M post := by
  obtain ⟨h1, h2, h3⟩ := hL s hs
  obtain ⟨s1, s2, s3, s4, s5⟩ := id hR
  have hw : D / 8 % n < n := Nat.mod_lt _ h1n
  obtain ⟨q1, q2, q3⟩ := nI_v7 hw hn
  have q4 := h3 (D / 8 % n) (by omega)
  have r5 := s5 _ hw 5 (by omega)
  have hsz : ¬ nI n < (1 : Int32) := nI_nlt (b := 1) (by omega) (by omega)
  have hn0 : ¬ nI n = 0 := nI_ne0 (by omega) (by omega)
  have d8 : nI D / 8 = nI (D / 8) := pk_div (d := 8) (by omega) (by omega) (by omega)
  have d64 : nI D / 64 = nI (D / 64) := pk_div (d := 64) (by omega) (by omega) (by omega)
  have d512 : nI D / 512 = nI (D / 512) := pk_div (d := 512) (by omega) (by omega) (by omega)
  have m8 : nI D - nI (D / 8) * 8 = nI (D % 8) := by rw [← d8]; exact pk_rem (d := 8) (by omega) (by omega) (by omega)
  have mn : nI (D / 8) - nI (D / 8) / nI n * nI n = nI (D / 8 % n) := pk_rem (by omega) (by omega) (by omega)
  have m9 : nI (D / 64) - nI (D / 64) / 9 * 9 = nI (D / 64 % 9) := pk_rem (d := 9) (by omega) (by omega) (by omega)
  have m41 : nI (D / 64) - nI (D / 64) / 41 * 41 = nI (D / 64 % 41) := pk_rem (d := 41) (by omega) (by omega) (by omega)
  have m5 : nI (D / 512) - nI (D / 512) / 5 * 5 = nI (D / 512 % 5) := pk_rem (d := 5) (by omega) (by omega) (by omega)
  have m24 : nI (D / 512) - nI (D / 512) / 24 * 24 = nI (D / 512 % 24) := pk_rem (d := 24) (by omega) (by omega) (by omega)
  have hk8 : D % 8 < 8 := Nat.mod_lt _ (by decide)
  have nz8 : ¬ (8 : Int32) = 0 := by decide
  have nz64 : ¬ (64 : Int32) = 0 := by decide
  have nz512 : ¬ (512 : Int32) = 0 := by decide
  have nz9 : ¬ (9 : Int32) = 0 := by decide
  have nz41 : ¬ (41 : Int32) = 0 := by decide
  have nz5 : ¬ (5 : Int32) = 0 := by decide
  have nz24 : ¬ (24 : Int32) = 0 := by decide
  have sw : ∀ j : Nat, j < 8 → (nI (D % 8) = nI j) = (D % 8 = j) := fun j hj => propext (nI_eq (by omega) (by omega))
  have sw0 : (nI (D % 8) = 0) = (D % 8 = 0) := sw 0 (by omega)
  have sw1 : (nI (D % 8) = 1) = (D % 8 = 1) := sw 1 (by omega)
  have sw2 : (nI (D % 8) = 2) = (D % 8 = 2) := sw 2 (by omega)
  have sw3 : (nI (D % 8) = 3) = (D % 8 = 3) := sw 3 (by omega)
  have sw4 : (nI (D % 8) = 4) = (D % 8 = 4) := sw 4 (by omega)
  simp only [eC_95, eK_95_0, eK_95_1, eK_95_2, eK_95_3, eK_95_4, eK_95_5, pw_aaload, pw_aload_n, pw_astore_n, pw_bipush, pw_getfield, pw_goto, pw_iadd, pw_iconst, pw_idiv, pw_ifCond, pw_if_icmp, pw_iload, pw_iload_n, pw_invokevirtual, pw_irem, pw_istore, pw_istore_n, pw_return_, pw_sipush, pw_tableswitch, mm_pI_c, mm_pL_c, mm_pA_c, mm_pR_c, mm_p1_i, mm_p1_r, mm_pN_0, mm_pN_s, mm_lI_c, mm_lL_c, mm_lA_c, mm_wd_n, mm_wd_i, mm_wd_l, mm_wd_r, mm_gf_i, mm_gf_b, mm_gf_r, mm_rf_c, mm_pf_i, mm_pf_b, mm_pf_r, mm_rt_v, mm_rt_i, mm_rt_r, mm_c_eq, mm_c_ne, mm_c_lt, mm_c_ge, mm_c_gt, mm_c_le, mm_sw_n, mm_sw_c, mm_alc_n, mm_alc_c, mm_rc_n, mm_rc_c, reduceCtorEq, false_implies, implies_true, true_implies, true_or, or_true, false_or, or_false, not_false_eq_true, mm_at_0, mm_at_s, mm_set_0, mm_set_s, mm_nl_n, mm_nl_i, mm_nl_r, mm_args_n, mm_args_i, mm_args_l, mm_args_r, mm_pad_0, mm_pad_n, mm_pad_c, List.length_cons, List.length_nil, List.nil_append, List.cons_append, Nat.zero_le, Nat.sub_zero, true_and, and_true, Nat.reduceAdd, Nat.reduceLeDiff, Nat.reduceLT, Nat.reduceSub, Nat.lt_irrefl, Nat.zero_add, Nat.add_zero, k_20, k_10, k_01, mm_if_T, mm_if_F, not_true_eq_false, not_false_eq_true, s1, h1, h2, mm_if_f hsz, hn0, d8, d64, d512, m8, mn, m9, m41, m5, m24, nz8, nz64, nz512, nz9, nz41, nz5, nz24, q1, q2, q4, sw0, sw1, sw2, sw3, sw4, nI_1, e_12 (d + 2) hs hn hL hR hw, t_40, r5, tf_0, t_43]
  have hge : (1 : Int32) ≤ nI n := nI_le (a := 1) h1n (by omega)
  have p0 : g_ac n X.1 D = X.1 → post none M := fun e => h M (by rw [e]; exact hR) (FS_rf _ _)
  have k13 : g_ac n X.1 D = g_ca X.1 (D / 8 % n) (nI (D / 64 % 9 + 1)) (nI (D / 512 % 5)) → pC (d + 4) 13 [.inr (.inr (2, s)), .inl (nI (D / 8 % n)), .inl (nI (D / 64 % 9 + 1)), .inl (nI (D / 512 % 5))] M (fun r M' => mm_rt none r fun vs => vs ++ [] = [] ∧ post none M') := fun e => t_13 d hs hn hL hR hw _ _ (fun M' hR' hF' => ⟨rfl, h _ (by rw [e]; exact hR') hF'⟩)
  have k14 : g_ac n X.1 D = g_me X.1 (D / 8 % n) → pC (d + 4) 14 [.inr (.inr (2, s)), .inl (nI (D / 8 % n))] M (fun r M' => mm_rt none r fun vs => vs ++ [] = [] ∧ post none M') := fun e => t_14 (d + 3) hs hn hL hR hw (fun M' hR' hF' => ⟨rfl, h _ (by rw [e]; exact hR') hF'⟩)
  have k43 : g_ac n X.1 D = (g_ha X.1.1 (D / 8 % n) (nI (D / 64 % 41)) (nI (D / 512 % 24)), X.1.2) → post none (mm_sI (mm_sI (mm_sI M 4 (7 * s + D / 8 % n) 9 (nI (D / 64 % 41))) 4 (7 * s + D / 8 % n) 10 (nI (D / 512 % 24))) 4 (7 * s + D / 8 % n) 5 2) := fun e => h _ (by rw [e]; exact RS_w (RS_w (RS_w hR _ 9 _) _ 10 _) _ 5 2) (FS_4 (FS_4 (FS_4 (FS_rf _ _) (by omega)) (by omega)) (by omega))
  clear h hR
  simp only [mm_if]
  refine ⟨fun _ => ?_, fun z => absurd hge z⟩
  unfold g_ac at p0 k13 k14 k43
  grind

