/-! THE REFERENCE: the text read, fault, lay -/
theorem c429 (w : Nat) : 429 + nI w = nI (429 + w) := nI_add 429 w
set_option maxHeartbeats 2000000 in
theorem k_101a (d : Nat) {M : mm_M} {post : mm_Post} (h : ∀ M', FB M M' 429 → (∀ k, k < 39 → mm_I M' 7 11 (429 + k) = 0) → pK d 101 post 3 [some (.inr (.inr (6, 0))), some (.inl 0)] [] M' (0, 0)) : ∀ (m v : Nat) (M1 : mm_M), v + m = 39 → LyM M1 → FB M M1 429 → (∀ k, k < v → mm_I M1 7 11 (429 + k) = 0) → pK d 101 post 1 [some (.inr (.inr (6, 0))), some (.inl (nI v))] [] M1 (0, 0) := by
  intro m
  induction m with
  | zero =>
    intro v M1 hv hL hF hk
    have e : v = 39 := by omega
    subst e
    rw [eK_101_1]
    simp (disch := omega) only [eK_101_2, pw_bipush, pw_goto, pw_iconst, pw_nop0, pw_sipush, qw_aload_n0, qw_gf_b, qw_gf_i, qw_gf_r, qw_iadd, qw_iastore, qw_if_icmp_ge, qw_iinc1, qw_iload_n1, qw_istore_n1, mm_rf_c, mm_rt_v, mm_rt_i, mm_rt_r, mm_alc_n, mm_alc_c, mm_rc_n, mm_rc_c, mm_wd_n, mm_wd_i, mm_wd_l, mm_wd_r, reduceCtorEq, false_implies, implies_true, true_implies, true_or, or_true, false_or, or_false, not_false_eq_true, mm_nl_n, mm_nl_i, mm_nl_r, mm_args_n, mm_args_i, mm_args_l, mm_args_r, mm_pad_0, mm_pad_n, mm_pad_c, List.length_cons, List.length_nil, List.nil_append, List.cons_append, Nat.zero_le, Nat.sub_zero, true_and, and_true, Nat.reduceAdd, Nat.reduceLeDiff, Nat.reduceLT, Nat.reduceSub, Nat.lt_irrefl, Nat.zero_add, Nat.add_zero, Nat.le_refl, k_20, k_10, k_01, ↓mm_if_T, ↓mm_if_F, ↓if10, ↓if00, not_true_eq_false, tf_01, ↓mm_if_tf, ↓mm_if_tn, ↓mm_if_nn, ↓mm_if_t (show (39 : Int32) ≤ nI 39 by decide)]
    exact h M1 hF hk
  | succ m ih =>
    intro v M1 hv hL hF hk
    have l1 := hL.1.2.2.2.2.2.2.1
    have l2 : mm_L M1 7 11 = 468 := hL.2.2.2.2.2.2.2.1
    have hlt : ¬ (39 : Int32) ≤ nI v := nI_ge (b := 39) (by omega) (by omega)
    rw [eK_101_1]
    simp (disch := omega) only [pw_bipush, pw_goto, pw_iconst, pw_sipush, qw_aload_n0, qw_gf_b, qw_gf_i, qw_gf_r, qw_iadd, qw_iastore, qw_if_icmp_ge, qw_iinc1, qw_iload_n1, mm_rf_c, mm_rt_v, mm_rt_i, mm_rt_r, mm_alc_n, mm_alc_c, mm_rc_n, mm_rc_c, mm_wd_n, mm_wd_i, mm_wd_l, mm_wd_r, reduceCtorEq, false_implies, implies_true, true_implies, true_or, or_true, false_or, or_false, not_false_eq_true, mm_nl_n, mm_nl_i, mm_nl_r, mm_args_n, mm_args_i, mm_args_l, mm_args_r, mm_pad_0, mm_pad_n, mm_pad_c, List.length_cons, List.length_nil, List.nil_append, List.cons_append, Nat.zero_le, Nat.sub_zero, true_and, and_true, Nat.reduceAdd, Nat.reduceLeDiff, Nat.reduceLT, Nat.reduceSub, Nat.lt_irrefl, Nat.zero_add, Nat.add_zero, Nat.le_refl, k_20, k_10, k_01, ↓mm_if_T, ↓mm_if_F, ↓if10, ↓if00, not_true_eq_false, tf_01, ↓mm_if_tf, ↓mm_if_tn, ↓mm_if_nn, ↓mm_if_f hlt, l1, l2, c429, vi_, ci_, nI_1]
    refine ih (v + 1) _ (by omega) (LyM_2 rfl hL) (FB_s hF (by omega)) (fun k hk2 => ?_)
    by_cases e : k = v
    · subst e; exact mm_I_s
    · rw [mm_I_k (by omega)]; exact hk k (by omega)
set_option maxHeartbeats 2000000 in
theorem k_101b (d : Nat) {M : mm_M} {post : mm_Post} (hz : ∀ k, k < 39 → mm_I M 7 11 (429 + k) = 0) (h : ∀ M', FB M M' 429 → (∀ k, k < 39 → mm_I M' 7 11 (429 + k) = if 22 ≤ k ∧ k < 29 then -1 else 0) → LyM M' → pK d 101 post 4 [some (.inr (.inr (6, 0))), some (.inl (nI 7))] [] M' (0, 0)) : ∀ (m v : Nat) (M1 : mm_M), v + m = 7 → LyM M1 → FB M M1 429 → (∀ k, k < 39 → mm_I M1 7 11 (429 + k) = if 22 ≤ k ∧ k < 22 + v then -1 else 0) → pK d 101 post 3 [some (.inr (.inr (6, 0))), some (.inl (nI v))] [] M1 (0, 0) := by
  intro m
  induction m with
  | zero =>
    intro v M1 hv hL hF hk
    have e : v = 7 := by omega
    subst e
    rw [eK_101_3]
    simp (disch := omega) only [pw_bipush, pw_goto, pw_iconst, pw_sipush, qw_aload_n0, qw_gf_b, qw_gf_i, qw_gf_r, qw_iadd, qw_iastore, qw_if_icmp_ge, qw_iinc1, qw_iload_n1, mm_rf_c, mm_rt_v, mm_rt_i, mm_rt_r, mm_alc_n, mm_alc_c, mm_rc_n, mm_rc_c, mm_wd_n, mm_wd_i, mm_wd_l, mm_wd_r, reduceCtorEq, false_implies, implies_true, true_implies, true_or, or_true, false_or, or_false, not_false_eq_true, mm_nl_n, mm_nl_i, mm_nl_r, mm_args_n, mm_args_i, mm_args_l, mm_args_r, mm_pad_0, mm_pad_n, mm_pad_c, List.length_cons, List.length_nil, List.nil_append, List.cons_append, Nat.zero_le, Nat.sub_zero, true_and, and_true, Nat.reduceAdd, Nat.reduceLeDiff, Nat.reduceLT, Nat.reduceSub, Nat.lt_irrefl, Nat.zero_add, Nat.add_zero, Nat.le_refl, k_20, k_10, k_01, ↓mm_if_T, ↓mm_if_F, ↓if10, ↓if00, not_true_eq_false, tf_01, ↓mm_if_tf, ↓mm_if_tn, ↓mm_if_nn, ↓mm_if_t (show (7 : Int32) ≤ nI 7 by decide)]
    exact h M1 hF hk hL
  | succ m ih =>
    intro v M1 hv hL hF hk
    have l1 := hL.1.2.2.2.2.2.2.1
    have l2 : mm_L M1 7 11 = 468 := hL.2.2.2.2.2.2.2.1
    have hlt : ¬ (7 : Int32) ≤ nI v := nI_ge (b := 7) (by omega) (by omega)
    rw [eK_101_3]
    simp (disch := omega) only [pw_bipush, pw_goto, pw_iconst, pw_sipush, qw_aload_n0, qw_gf_b, qw_gf_i, qw_gf_r, qw_iadd, qw_iastore, qw_if_icmp_ge, qw_iinc1, qw_iload_n1, mm_rf_c, mm_rt_v, mm_rt_i, mm_rt_r, mm_alc_n, mm_alc_c, mm_rc_n, mm_rc_c, mm_wd_n, mm_wd_i, mm_wd_l, mm_wd_r, reduceCtorEq, false_implies, implies_true, true_implies, true_or, or_true, false_or, or_false, not_false_eq_true, mm_nl_n, mm_nl_i, mm_nl_r, mm_args_n, mm_args_i, mm_args_l, mm_args_r, mm_pad_0, mm_pad_n, mm_pad_c, List.length_cons, List.length_nil, List.nil_append, List.cons_append, Nat.zero_le, Nat.sub_zero, true_and, and_true, Nat.reduceAdd, Nat.reduceLeDiff, Nat.reduceLT, Nat.reduceSub, Nat.lt_irrefl, Nat.zero_add, Nat.add_zero, Nat.le_refl, k_20, k_10, k_01, ↓mm_if_T, ↓mm_if_F, ↓if10, ↓if00, not_true_eq_false, tf_01, ↓mm_if_tf, ↓mm_if_tn, ↓mm_if_nn, ↓mm_if_f hlt, l1, l2, c451, vi_, ci_, nI_1]
    refine ih (v + 1) _ (by omega) (LyM_2 rfl hL) (FB_s hF (by omega)) (fun k hk2 => ?_)
    by_cases e : k = 22 + v
    · rw [e, show 429 + (22 + v) = 429 + 22 + v by omega, mm_I_s, if_pos (by omega)]
    · rw [mm_I_k (by omega), hk k hk2]
      by_cases c : 22 ≤ k ∧ k < 22 + v
      · rw [if_pos c, if_pos (by omega)]
      · rw [if_neg c, if_neg (by omega)]
theorem r_101 (d : Nat) {M : mm_M} {post : mm_Post} (hL : LyM M) (h : ∀ M', FW M M' → PR M' Z0 → (∀ k, mm_I M' 6 0 13 = mm_I M 6 0 13 ∧ mm_I M' 6 0 15 = mm_I M 6 0 15 ∧ mm_I M' 6 0 k = if k = 4 then 0 else mm_I M 6 0 k) → post none M') : pC (d + 1) 101 [.inr (.inr (6, 0))] M post := by
  have fin := k_101a d (M := mm_sI M 6 0 4 0) (post := post) (fun M1 F1 z1 => k_101b d (M := M1) (post := post) z1 (fun M2 F2 z2 hL2 => by
    have l1 := hL2.1.2.2.2.2.2.2.1
    have l2 : mm_L M2 7 11 = 468 := hL2.2.2.2.2.2.2.2.1
    have F12 := FB_tr F1 F2
    have e6 : ∀ k, mm_I M2 6 0 k = if k = 4 then 0 else mm_I M 6 0 k := fun k => by
      rw [F12.2 6 0 k (by omega), mm_I_sI]
      by_cases c : k = 4
      · rw [if_pos ⟨rfl, rfl, c⟩, if_pos c]
      · rw [if_neg (fun z => c z.2.2), if_neg c]
    rw [eK_101_4]
    simp (disch := omega) only [pw_bipush, pw_return_, pw_sipush, qw_aload_n0, qw_gf_b, qw_gf_i, qw_gf_r, qw_iastore, mm_rf_c, mm_rt_v, mm_rt_i, mm_rt_r, mm_alc_n, mm_alc_c, mm_rc_n, mm_rc_c, mm_wd_n, mm_wd_i, mm_wd_l, mm_wd_r, reduceCtorEq, false_implies, implies_true, true_implies, true_or, or_true, false_or, or_false, not_false_eq_true, mm_nl_n, mm_nl_i, mm_nl_r, mm_args_n, mm_args_i, mm_args_l, mm_args_r, mm_pad_0, mm_pad_n, mm_pad_c, List.length_cons, List.length_nil, List.nil_append, List.cons_append, Nat.zero_le, Nat.sub_zero, true_and, and_true, Nat.reduceAdd, Nat.reduceLeDiff, Nat.reduceLT, Nat.reduceSub, Nat.lt_irrefl, Nat.zero_add, Nat.add_zero, Nat.le_refl, k_20, k_10, k_01, ↓mm_if_T, ↓mm_if_F, ↓if10, ↓if00, not_true_eq_false, tf_01, ↓mm_if_tf, ↓mm_if_tn, ↓mm_if_nn, l1, l2, i465, j465, i466, j466, mm_L_s, mm_R_s]
    refine h _ (FW_s (FW_s ⟨F12.1, fun c i k a b e => by rw [F12.2 c i k (by omega), mm_I_sI, if_neg (by omega)]⟩ (by omega)) (by omega)) ⟨by show 0 ≤ 7; omega, ⟨?_, fun w hw => absurd hw (Nat.not_lt_zero w)⟩, ⟨fun w hw => ?_, ?_, ?_, ?_, ?_⟩, fun w hw => absurd hw (Nat.not_lt_zero w), fun w => ⟨rfl, rfl⟩, fun w _ => rfl⟩ (fun k => ?_)
    · rw [mm_I_c (by omega), mm_I_c (by omega), e6 4, if_pos rfl]; rfl
    · simp (disch := omega) only [mm_I_k]
      have y0 := z2 w (by omega)
      have y1 := z2 (8 + w) (by omega)
      have y2 := z2 (15 + w) (by omega)
      have y3 := z2 (22 + w) (by omega)
      rw [if_neg (by omega)] at y0 y1 y2
      rw [if_pos (by omega)] at y3
      rw [← Nat.add_assoc] at y1 y2 y3
      exact ⟨y0, y1, y2, y3, fun z => absurd (show (0 : Int32) = 2 from z) (by decide)⟩
    · simp (disch := omega) only [mm_I_k]
      rw [z2 7 (by omega), if_neg (by omega)]; rfl
    · simp (disch := omega) only [mm_I_k, mm_I_s]; rfl
    · simp (disch := omega) only [mm_I_s]; rfl
    · simp (disch := omega) only [mm_I_k]
      rw [z2 38 (by omega), if_neg (by omega)]
    · simp (disch := omega) only [mm_I_c]
      refine ⟨?_, ?_, e6 k⟩
      · rw [e6 13, if_neg (by omega)]
      · rw [e6 15, if_neg (by omega)]) 7 0 M1 (by omega) (LyM_2 (M := M) F1.1 hL) (FB_rf M1 429) (fun k hk => by rw [z1 k hk, if_neg (by omega)])) 39 0 (mm_sI M 6 0 4 0) (by omega) (LyM_2 (M := M) rfl hL) (FB_rf _ _) (fun k hk => by omega)
  simp (disch := omega) only [eC_101, eK_101_0, pw_iconst, pw_nop0, qw_aload_n0, qw_istore_n1, qw_pf_b, qw_pf_i, qw_pf_r, mm_rf_c, mm_rt_v, mm_rt_i, mm_rt_r, mm_alc_n, mm_alc_c, mm_rc_n, mm_rc_c, mm_wd_n, mm_wd_i, mm_wd_l, mm_wd_r, reduceCtorEq, false_implies, implies_true, true_implies, true_or, or_true, false_or, or_false, not_false_eq_true, mm_nl_n, mm_nl_i, mm_nl_r, mm_args_n, mm_args_i, mm_args_l, mm_args_r, mm_pad_0, mm_pad_n, mm_pad_c, List.length_cons, List.length_nil, List.nil_append, List.cons_append, Nat.zero_le, Nat.sub_zero, true_and, and_true, Nat.reduceAdd, Nat.reduceLeDiff, Nat.reduceLT, Nat.reduceSub, Nat.lt_irrefl, Nat.zero_add, Nat.add_zero, Nat.le_refl, k_20, k_10, k_01, ↓mm_if_T, ↓mm_if_F, ↓if10, ↓if00, not_true_eq_false, tf_01, ↓mm_if_tf, ↓mm_if_tn, ↓mm_if_nn]
  exact fin

theorem rN_ge {L : Nat → Int32} {p : Nat} {lo hi : Int32} : p ≤ (rN L p lo hi).2.1 := by
  unfold rN
  by_cases d0 : dg (L p)
  · rw [if_pos d0]
    by_cases d1 : dg (L (p + 1))
    · rw [if_pos d1]
      by_cases d2 : dg (L (p + 2))
      · rw [if_pos d2]; show p ≤ p + 3; omega
      · rw [if_neg d2]
        by_cases c : lo ≤ 10 * (L p - 48) + L (p + 1) - 48 ∧ 10 * (L p - 48) + L (p + 1) - 48 ≤ hi
        · rw [if_pos c]; show p ≤ p + 2; omega
        · rw [if_neg c]; show p ≤ p + 2; omega
    · rw [if_neg d1]
      by_cases c : lo ≤ L p - 48 ∧ L p - 48 ≤ hi
      · rw [if_pos c]; show p ≤ p + 1; omega
      · rw [if_neg c]; show p ≤ p + 1; omega
  · rw [if_neg d0]; exact Nat.le_refl p
theorem nx_ge {L : Nat → Int32} {r : R3} {lo hi : Int32} : r.2.1 ≤ (nx_ L r lo hi).2.1 := by
  unfold nx_ rM
  by_cases c : r.2.2 = true
  · rw [if_pos c]; show r.2.1 ≤ r.2.1 + 1; omega
  · rw [if_neg c]
    by_cases c2 : L r.2.1 = 44
    · rw [if_pos c2]; have := rN_ge (L := L) (p := r.2.1 + 1) (lo := lo) (hi := hi); omega
    · rw [if_neg c2]; show r.2.1 ≤ r.2.1 + 1; omega
theorem ii_b {L : Nat → Int32} {l : Int32} {p : Nat} {Z : Nat × St} : p ≤ (ii L l p Z).1 ∧ (ii L l p Z).1 ≤ p + 19 := by
  unfold ii
  by_cases c1 : l = 119
  · rw [if_pos c1]
    unfold wi w2_ w3_ w4_
    dsimp only
    have g1 : p ≤ (w1_ L p Z).2.1 ∧ (w1_ L p Z).2.1 ≤ p + 3 := by
      unfold w1_
      by_cases c : Z.1 = 7
      · rw [if_pos c]; exact ⟨Nat.le_refl p, by show p ≤ p + 3; omega⟩
      · rw [if_neg c]; exact ⟨rN_ge, rN_q⟩
    have g2 := nx_ge (L := L) (r := w1_ L p Z) (lo := 0) (hi := 40)
    have h2 := nx_q (L := L) (r := w1_ L p Z) (lo := 0) (hi := 40)
    have g3 := nx_ge (L := L) (r := nx_ L (w1_ L p Z) 0 40) (lo := 1) (hi := 20)
    have h3 := nx_q (L := L) (r := nx_ L (w1_ L p Z) 0 40) (lo := 1) (hi := 20)
    omega
  rw [if_neg c1]
  by_cases c2 : l = 98
  · rw [if_pos c2]
    unfold bi b1_ b2_ b3_ b4_ b5_
    dsimp only
    have g1 := rN_ge (L := L) (p := p) (lo := 0) (hi := nI Z.1 - 1)
    have h1 := rN_q (L := L) (p := p) (lo := 0) (hi := nI Z.1 - 1)
    generalize rN L p 0 (nI Z.1 - 1) = r1 at *
    have g2 := nx_ge (L := L) (r := r1) (lo := 1) (hi := 30)
    have h2 := nx_q (L := L) (r := r1) (lo := 1) (hi := 30)
    generalize nx_ L r1 1 30 = r2 at *
    have g3 := nx_ge (L := L) (r := r2) (lo := 0) (hi := 30)
    have h3 := nx_q (L := L) (r := r2) (lo := 0) (hi := 30)
    generalize nx_ L r2 0 30 = r3 at *
    have g4 := nx_ge (L := L) (r := r3) (lo := 0) (hi := 40)
    have h4 := nx_q (L := L) (r := r3) (lo := 0) (hi := 40)
    generalize nx_ L r3 0 40 = r4 at *
    have g5 := nx_ge (L := L) (r := r4) (lo := 0) (hi := 23)
    have h5 := nx_q (L := L) (r := r4) (lo := 0) (hi := 23)
    omega
  rw [if_neg c2]
  by_cases c3 : l = 109
  · rw [if_pos c3]
    unfold mi m1_ m2_
    dsimp only
    have g1 := rN_ge (L := L) (p := p) (lo := 0) (hi := 99)
    have h1 := rN_q (L := L) (p := p) (lo := 0) (hi := 99)
    generalize rN L p 0 99 = r1 at *
    have g2 := nx_ge (L := L) (r := r1) (lo := 0) (hi := 99)
    have h2 := nx_q (L := L) (r := r1) (lo := 0) (hi := 99)
    omega
  · rw [if_neg c3]; exact ⟨Nat.le_refl p, by show p ≤ p + 19; omega⟩
theorem lL_59 {t : Nat} {lt : Nat → Int32} {q : Nat} (h : lL t lt q = 59) : q < t := by
  unfold lL at h
  by_cases c : q < t
  · exact c
  · rw [if_neg c] at h; exact absurd h (by decide)
def FV (M M' : mm_M) : Prop := M'.2 = M.2 ∧ ∀ c i k, ¬ (c = 6 ∧ (k = 4 ∨ k = 13 ∨ k = 14 ∨ k = 15)) → ¬ (c = 7 ∧ 8 ≤ i ∧ i ≤ 10) → ¬ (c = 7 ∧ i = 11 ∧ 429 ≤ k) → mm_I M' c i k = mm_I M c i k
theorem FV_tr {M M1 M2 : mm_M} (h : FV M M1) (h' : FV M1 M2) : FV M M2 := ⟨h'.1.trans h.1, fun c i k a b e => (h'.2 c i k a b e).trans (h.2 c i k a b e)⟩
theorem FV_W {M M' : mm_M} (h : FW M M') : FV M M' := ⟨h.1, fun c i k a b e => h.2 c i k (by omega) b e⟩
theorem FV_s {M M' : mm_M} {k : Nat} {v : Int32} (h : FV M M') (hc : k = 13 ∨ k = 14 ∨ k = 15) : FV M (mm_sI M' 6 0 k v) := ⟨h.1, fun c' i' k' a b e => by rw [mm_I_sI, if_neg (by omega)]; exact h.2 c' i' k' a b e⟩

set_option maxHeartbeats 4000000 in
theorem k_115x (d : Nat) {M : mm_M} {post : mm_Post} {t : Nat} {lt : Nat → Int32} {q : Nat} (hT : TM M t lt q true) (u : Option mm_V) (h : post (some (.inl 0)) M) : pK d 115 post 1 [some (.inr (.inr (6, 0))), u] [] M (0, 0) := by
  have h2 := hT.2.1
  have h4 := hT.2.2.2.1
  have h5 : mm_I M 6 0 15 = 1 := hT.2.2.2.2
  by_cases c : nI t ≤ nI q
  · rw [eK_115_1]
    simp (disch := omega) only [eK_115_5, eK_115_6, eK_115_7, pw_bipush, pw_goto, pw_iconst, pw_nop0, qw_aload_n0, qw_dup_i, qw_dup_r, qw_gf_b, qw_gf_i, qw_gf_r, qw_iadd, qw_if_icmp_eq, qw_if_icmp_ge, qw_if_ne, qw_iload_n1, qw_invokevirtual1, qw_invokevirtual2, qw_ireturn, qw_istore_n1, qw_pf_b, qw_pf_i, qw_pf_r, mm_rf_c, mm_rt_v, mm_rt_i, mm_rt_r, mm_alc_n, mm_alc_c, mm_rc_n, mm_rc_c, mm_wd_n, mm_wd_i, mm_wd_l, mm_wd_r, reduceCtorEq, false_implies, implies_true, true_implies, true_or, or_true, false_or, or_false, not_false_eq_true, mm_nl_n, mm_nl_i, mm_nl_r, mm_args_n, mm_args_i, mm_args_l, mm_args_r, mm_pad_0, mm_pad_n, mm_pad_c, List.length_cons, List.length_nil, List.nil_append, List.cons_append, Nat.zero_le, Nat.sub_zero, true_and, and_true, Nat.reduceAdd, Nat.reduceLeDiff, Nat.reduceLT, Nat.reduceSub, Nat.lt_irrefl, Nat.zero_add, Nat.add_zero, Nat.le_refl, k_20, k_10, k_01, ↓mm_if_T, ↓mm_if_F, ↓if10, ↓if00, not_true_eq_false, tf_01, ↓mm_if_tf, ↓mm_if_tn, ↓mm_if_nn, h2, h4, h5, ↓mm_if_t c]
    exact h
  · rw [eK_115_1]
    simp (disch := omega) only [eK_115_5, eK_115_6, eK_115_7, pw_bipush, pw_goto, pw_iconst, pw_nop0, qw_aload_n0, qw_dup_i, qw_dup_r, qw_gf_b, qw_gf_i, qw_gf_r, qw_iadd, qw_if_icmp_eq, qw_if_icmp_ge, qw_if_ne, qw_iload_n1, qw_invokevirtual1, qw_invokevirtual2, qw_ireturn, qw_istore_n1, qw_pf_b, qw_pf_i, qw_pf_r, mm_rf_c, mm_rt_v, mm_rt_i, mm_rt_r, mm_alc_n, mm_alc_c, mm_rc_n, mm_rc_c, mm_wd_n, mm_wd_i, mm_wd_l, mm_wd_r, reduceCtorEq, false_implies, implies_true, true_implies, true_or, or_true, false_or, or_false, not_false_eq_true, mm_nl_n, mm_nl_i, mm_nl_r, mm_args_n, mm_args_i, mm_args_l, mm_args_r, mm_pad_0, mm_pad_n, mm_pad_c, List.length_cons, List.length_nil, List.nil_append, List.cons_append, Nat.zero_le, Nat.sub_zero, true_and, and_true, Nat.reduceAdd, Nat.reduceLeDiff, Nat.reduceLT, Nat.reduceSub, Nat.lt_irrefl, Nat.zero_add, Nat.add_zero, Nat.le_refl, k_20, k_10, k_01, ↓mm_if_T, ↓mm_if_F, ↓if10, ↓if00, not_true_eq_false, tf_01, ↓mm_if_tf, ↓mm_if_tn, ↓mm_if_nn, h2, h4, h5, ↓mm_if_f c]
    exact h
set_option maxHeartbeats 4000000 in
theorem k_115 (d : Nat) {M : mm_M} {post : mm_Post} {t : Nat} {lt : Nat → Int32} {R : (Nat × St) ⊕ Nat} (hok : ∀ M' Z, R = .inl Z → FV M M' → PR M' Z → post (some (.inl 1)) M') (hno : ∀ M' p, R = .inr p → FV M M' → mm_I M' 6 0 14 = nI p → post (some (.inl 0)) M') : ∀ (m j p : Nat) (Z : Nat × St) (u : Option mm_V) (M1 : mm_M), j + m = 200 → j ≤ p → p ≤ t → LyM M1 → PR M1 Z → TM M1 t lt p false → FV M M1 → R = p_rd (lL t lt) t m p Z → pK (d + 5) 115 post 1 [some (.inr (.inr (6, 0))), u] [] M1 (0, 0) := by
  intro m
  induction m with
  | zero =>
    intro j p Z u M1 hj hjp hpt hL hP hT hF e
    have h2 := hT.2.1
    have h4 := hT.2.2.2.1
    have h5 : mm_I M1 6 0 15 = 0 := hT.2.2.2.2
    have ht := hT.1
    have c : nI t ≤ nI p := nI_le (by omega) (by omega)
    have hh := hok M1 Z e hF hP
    rw [eK_115_1]
    simp (disch := omega) only [eK_115_5, eK_115_6, eK_115_7, pw_bipush, pw_goto, pw_iconst, pw_nop0, qw_aload_n0, qw_dup_i, qw_dup_r, qw_gf_b, qw_gf_i, qw_gf_r, qw_iadd, qw_if_icmp_eq, qw_if_icmp_ge, qw_if_ne, qw_iload_n1, qw_invokevirtual1, qw_invokevirtual2, qw_ireturn, qw_istore_n1, qw_pf_b, qw_pf_i, qw_pf_r, mm_rf_c, mm_rt_v, mm_rt_i, mm_rt_r, mm_alc_n, mm_alc_c, mm_rc_n, mm_rc_c, mm_wd_n, mm_wd_i, mm_wd_l, mm_wd_r, reduceCtorEq, false_implies, implies_true, true_implies, true_or, or_true, false_or, or_false, not_false_eq_true, mm_nl_n, mm_nl_i, mm_nl_r, mm_args_n, mm_args_i, mm_args_l, mm_args_r, mm_pad_0, mm_pad_n, mm_pad_c, List.length_cons, List.length_nil, List.nil_append, List.cons_append, Nat.zero_le, Nat.sub_zero, true_and, and_true, Nat.reduceAdd, Nat.reduceLeDiff, Nat.reduceLT, Nat.reduceSub, Nat.lt_irrefl, Nat.zero_add, Nat.add_zero, Nat.le_refl, k_20, k_10, k_01, ↓mm_if_T, ↓mm_if_F, ↓if10, ↓if00, not_true_eq_false, tf_01, ↓mm_if_tf, ↓mm_if_tn, ↓mm_if_nn, h2, h4, h5, ↓mm_if_t c]
    exact hh
  | succ m ih =>
    intro j p Z u M1 hj hjp hpt hL hP hT hF e
    have h2 := hT.2.1
    have h4 := hT.2.2.2.1
    have h5 : mm_I M1 6 0 15 = 0 := hT.2.2.2.2
    have ht := hT.1
    by_cases cp : p < t
    · have c : ¬ nI t ≤ nI p := nI_ge cp (by omega)
      have er : p_rd (lL t lt) t (m + 1) p Z = match p_it (lL t lt) p Z with
        | none => .inr p
        | some (Z', q) => p_rd (lL t lt) t m q Z' := if_pos cp
      have ei := ii_eq (L := lL t lt) (p := p) (Z := Z) hP.1
      have eb := ii_b (L := lL t lt) (l := lL t lt p) (p := p + 1) (Z := Z)
      have T2 : TM (mm_sI M1 6 0 14 (nI p)) t lt p false := ⟨ht, by rw [mm_I_k (by omega)]; exact h2, fun i hi => by rw [mm_I_c (by omega)]; exact hT.2.2.1 i hi, by rw [mm_I_k (by omega)]; exact h4, by rw [mm_I_k (by omega)]; exact h5⟩
      have hL2 : LyM (mm_sI M1 6 0 14 (nI p)) := LyM_2 (M := M1) rfl hL
      have F3 : FA (mm_sI M1 6 0 14 (nI p)) (mm_sI (mm_sI M1 6 0 14 (nI p)) 6 0 13 (nI (p + 1))) := FA_s (FA_rf _) (by omega)
      have T3 : TM (mm_sI (mm_sI M1 6 0 14 (nI p)) 6 0 13 (nI (p + 1))) t lt (p + 1) false := TM_F T2 F3 mm_I_s (by rw [mm_I_k (by omega)]; exact T2.2.2.2.2)
      have hL3 : LyM (mm_sI (mm_sI M1 6 0 14 (nI p)) 6 0 13 (nI (p + 1))) := LyM_2 (M := M1) rfl hL
      have P3 : PR (mm_sI (mm_sI M1 6 0 14 (nI p)) 6 0 13 (nI (p + 1))) Z := PR_e hP (fun c i k q => by rw [mm_I_sI, if_neg (by omega), mm_I_sI, if_neg (by omega)])
      have FV3 : FV M (mm_sI (mm_sI M1 6 0 14 (nI p)) 6 0 13 (nI (p + 1))) := FV_s (FV_s hF (by omega)) (by omega)
      have el := lR_t (lt := lt) cp
      rw [eK_115_1]
      simp (disch := omega) only [pw_bipush, pw_iconst, pw_nop0, qw_aload_n0, qw_dup_i, qw_dup_r, qw_gf_b, qw_gf_i, qw_gf_r, qw_iadd, qw_if_icmp_eq, qw_if_icmp_ge, qw_if_ne, qw_iload_n1, qw_invokevirtual1, qw_invokevirtual2, qw_istore_n1, qw_pf_b, qw_pf_i, qw_pf_r, mm_rf_c, mm_rt_v, mm_rt_i, mm_rt_r, mm_alc_n, mm_alc_c, mm_rc_n, mm_rc_c, mm_wd_n, mm_wd_i, mm_wd_l, mm_wd_r, reduceCtorEq, false_implies, implies_true, true_implies, true_or, or_true, false_or, or_false, not_false_eq_true, mm_nl_n, mm_nl_i, mm_nl_r, mm_args_n, mm_args_i, mm_args_l, mm_args_r, mm_pad_0, mm_pad_n, mm_pad_c, List.length_cons, List.length_nil, List.nil_append, List.cons_append, Nat.zero_le, Nat.sub_zero, true_and, and_true, Nat.reduceAdd, Nat.reduceLeDiff, Nat.reduceLT, Nat.reduceSub, Nat.lt_irrefl, Nat.zero_add, Nat.add_zero, Nat.le_refl, k_20, k_10, k_01, ↓mm_if_T, ↓mm_if_F, ↓if10, ↓if00, not_true_eq_false, tf_01, ↓mm_if_tf, ↓mm_if_tn, ↓mm_if_nn, h2, h4, h5, ↓mm_if_f c, r_109 (d + 4) hL2 T2 (show p < 100000 by omega), el, mm_I_k, nI_1, mm_nl_r]
      refine r_114 d hL3 T3 P3 (by omega) (lL t lt p) (fun M4 F4 T4 P4 => ?_)
      have b14 : mm_I M4 6 0 14 = nI p := by rw [F4.2 6 0 14 (by omega) (by omega) (by omega), mm_I_k (by omega), mm_I_s]
      generalize ii (lL t lt) (lL t lt p) (p + 1) Z = r at *
      have hL4 := LyM_2 F4.1 hL3
      have g4 := T4.2.2.2.1
      have g5 := T4.2.2.2.2
      have FV4 := FV_tr FV3 (FV_W F4)
      have TE : ∀ b, TM (mm_sI (mm_sI M4 6 0 15 (bo b)) 6 0 13 (nI (r.1 + 1))) t lt (r.1 + 1) b := fun b => TM_F T4 (FA_s (FA_s (FA_rf M4) (by omega)) (by omega)) mm_I_s (by rw [mm_I_k (by omega), mm_I_s])
      have FE : ∀ b, FV M (mm_sI (mm_sI M4 6 0 15 (bo b)) 6 0 13 (nI (r.1 + 1))) := fun b => FV_s (FV_s FV4 (by omega)) (by omega)
      have BE : ∀ b, mm_I (mm_sI (mm_sI M4 6 0 15 (bo b)) 6 0 13 (nI (r.1 + 1))) 6 0 14 = nI p := fun b => by rw [mm_I_k (by omega), mm_I_k (by omega)]; exact b14
      cases ee : r.2.1 with
      | true =>
        have g5 : mm_I M4 6 0 15 = 1 := by rw [g5, ee]; rfl
        rw [if_neg (fun z => absurd (ee.symm.trans z.1) (by simp))] at ei
        rw [er, ei] at e
        have hh := fun u => k_115x (d + 5) (post := post) (TE true) u (hno _ p e (FE true) (BE true))
        simp (disch := omega) only [eK_115_2, eK_115_3, eK_115_4, pw_bipush, pw_goto, pw_iconst, pw_nop0, qw_aload_n0, qw_dup_i, qw_dup_r, qw_gf_b, qw_gf_i, qw_gf_r, qw_iadd, qw_if_icmp_eq, qw_if_icmp_ge, qw_if_ne, qw_iload_n1, qw_invokevirtual1, qw_invokevirtual2, qw_istore_n1, qw_pf_b, qw_pf_i, qw_pf_r, mm_rf_c, mm_rt_v, mm_rt_i, mm_rt_r, mm_alc_n, mm_alc_c, mm_rc_n, mm_rc_c, mm_wd_n, mm_wd_i, mm_wd_l, mm_wd_r, reduceCtorEq, false_implies, implies_true, true_implies, true_or, or_true, false_or, or_false, not_false_eq_true, mm_nl_n, mm_nl_i, mm_nl_r, mm_args_n, mm_args_i, mm_args_l, mm_args_r, mm_pad_0, mm_pad_n, mm_pad_c, List.length_cons, List.length_nil, List.nil_append, List.cons_append, Nat.zero_le, Nat.sub_zero, true_and, and_true, Nat.reduceAdd, Nat.reduceLeDiff, Nat.reduceLT, Nat.reduceSub, Nat.lt_irrefl, Nat.zero_add, Nat.add_zero, Nat.le_refl, k_20, k_10, k_01, ↓mm_if_T, ↓mm_if_F, ↓if10, ↓if00, not_true_eq_false, tf_01, ↓mm_if_tf, ↓mm_if_tn, ↓mm_if_nn, g4, g5, nI_1, mm_I_k, mm_I_s]
        exact hh _
      | false =>
        have g5 : mm_I M4 6 0 15 = 0 := by rw [g5, ee]; rfl
        by_cases c9 : lL t lt r.1 = 59
        · have c9' : lR t lt r.1 = 59 := (lR_eq (by decide) (by decide)).mpr c9
          have hrt := lL_59 c9
          rw [if_pos ⟨ee, c9⟩] at ei
          rw [er, ei] at e
          have PE : PR (mm_sI (mm_sI M4 6 0 15 (bo false)) 6 0 13 (nI (r.1 + 1))) r.2.2 := PR_e (P4 ee) (fun c i k q => by rw [mm_I_sI, if_neg (by omega), mm_I_sI, if_neg (by omega)])
          have hh := fun u => ih (j + 1) (r.1 + 1) r.2.2 u (mm_sI (mm_sI M4 6 0 15 (bo false)) 6 0 13 (nI (r.1 + 1))) (by omega) (by omega) (by omega) (LyM_2 (M := M4) rfl hL4) PE (TE false) (FE false) e
          simp (disch := omega) only [eK_115_2, eK_115_3, eK_115_4, pw_bipush, pw_goto, pw_iconst, pw_nop0, qw_aload_n0, qw_dup_i, qw_dup_r, qw_gf_b, qw_gf_i, qw_gf_r, qw_iadd, qw_if_icmp_eq, qw_if_icmp_ge, qw_if_ne, qw_iload_n1, qw_invokevirtual1, qw_invokevirtual2, qw_istore_n1, qw_pf_b, qw_pf_i, qw_pf_r, mm_rf_c, mm_rt_v, mm_rt_i, mm_rt_r, mm_alc_n, mm_alc_c, mm_rc_n, mm_rc_c, mm_wd_n, mm_wd_i, mm_wd_l, mm_wd_r, reduceCtorEq, false_implies, implies_true, true_implies, true_or, or_true, false_or, or_false, not_false_eq_true, mm_nl_n, mm_nl_i, mm_nl_r, mm_args_n, mm_args_i, mm_args_l, mm_args_r, mm_pad_0, mm_pad_n, mm_pad_c, List.length_cons, List.length_nil, List.nil_append, List.cons_append, Nat.zero_le, Nat.sub_zero, true_and, and_true, Nat.reduceAdd, Nat.reduceLeDiff, Nat.reduceLT, Nat.reduceSub, Nat.lt_irrefl, Nat.zero_add, Nat.add_zero, Nat.le_refl, k_20, k_10, k_01, ↓mm_if_T, ↓mm_if_F, ↓if10, ↓if00, not_true_eq_false, tf_01, ↓mm_if_tf, ↓mm_if_tn, ↓mm_if_nn, g4, g5, nI_1, mm_I_k, mm_I_s, r_109 (d + 4) hL4 T4 (show r.1 < 100000 by omega), ↓mm_if_t c9']
          exact hh _
        · have c9' : ¬ lR t lt r.1 = 59 := fun z => c9 ((lR_eq (by decide) (by decide)).mp z)
          rw [if_neg (fun z => c9 z.2)] at ei
          rw [er, ei] at e
          have hh := fun u => k_115x (d + 5) (post := post) (TE true) u (hno _ p e (FE true) (BE true))
          simp (disch := omega) only [eK_115_2, eK_115_3, eK_115_4, pw_bipush, pw_goto, pw_iconst, pw_nop0, qw_aload_n0, qw_dup_i, qw_dup_r, qw_gf_b, qw_gf_i, qw_gf_r, qw_iadd, qw_if_icmp_eq, qw_if_icmp_ge, qw_if_ne, qw_iload_n1, qw_invokevirtual1, qw_invokevirtual2, qw_istore_n1, qw_pf_b, qw_pf_i, qw_pf_r, mm_rf_c, mm_rt_v, mm_rt_i, mm_rt_r, mm_alc_n, mm_alc_c, mm_rc_n, mm_rc_c, mm_wd_n, mm_wd_i, mm_wd_l, mm_wd_r, reduceCtorEq, false_implies, implies_true, true_implies, true_or, or_true, false_or, or_false, not_false_eq_true, mm_nl_n, mm_nl_i, mm_nl_r, mm_args_n, mm_args_i, mm_args_l, mm_args_r, mm_pad_0, mm_pad_n, mm_pad_c, List.length_cons, List.length_nil, List.nil_append, List.cons_append, Nat.zero_le, Nat.sub_zero, true_and, and_true, Nat.reduceAdd, Nat.reduceLeDiff, Nat.reduceLT, Nat.reduceSub, Nat.lt_irrefl, Nat.zero_add, Nat.add_zero, Nat.le_refl, k_20, k_10, k_01, ↓mm_if_T, ↓mm_if_F, ↓if10, ↓if00, not_true_eq_false, tf_01, ↓mm_if_tf, ↓mm_if_tn, ↓mm_if_nn, g4, g5, nI_1, mm_I_k, mm_I_s, r_109 (d + 4) hL4 T4 (show r.1 < 100000 by omega), ↓mm_if_f c9']
          exact hh _
    · have c : nI t ≤ nI p := nI_le (by omega) (by omega)
      have er : p_rd (lL t lt) t (m + 1) p Z = .inl Z := if_neg cp
      rw [er] at e
      have hh := hok M1 Z e hF hP
      rw [eK_115_1]
      simp (disch := omega) only [eK_115_5, eK_115_6, eK_115_7, pw_bipush, pw_goto, pw_iconst, pw_nop0, qw_aload_n0, qw_dup_i, qw_dup_r, qw_gf_b, qw_gf_i, qw_gf_r, qw_iadd, qw_if_icmp_eq, qw_if_icmp_ge, qw_if_ne, qw_iload_n1, qw_invokevirtual1, qw_invokevirtual2, qw_ireturn, qw_istore_n1, qw_pf_b, qw_pf_i, qw_pf_r, mm_rf_c, mm_rt_v, mm_rt_i, mm_rt_r, mm_alc_n, mm_alc_c, mm_rc_n, mm_rc_c, mm_wd_n, mm_wd_i, mm_wd_l, mm_wd_r, reduceCtorEq, false_implies, implies_true, true_implies, true_or, or_true, false_or, or_false, not_false_eq_true, mm_nl_n, mm_nl_i, mm_nl_r, mm_args_n, mm_args_i, mm_args_l, mm_args_r, mm_pad_0, mm_pad_n, mm_pad_c, List.length_cons, List.length_nil, List.nil_append, List.cons_append, Nat.zero_le, Nat.sub_zero, true_and, and_true, Nat.reduceAdd, Nat.reduceLeDiff, Nat.reduceLT, Nat.reduceSub, Nat.lt_irrefl, Nat.zero_add, Nat.add_zero, Nat.le_refl, k_20, k_10, k_01, ↓mm_if_T, ↓mm_if_F, ↓if10, ↓if00, not_true_eq_false, tf_01, ↓mm_if_tf, ↓mm_if_tn, ↓mm_if_nn, h2, h4, h5, ↓mm_if_t c]
      exact hh

set_option maxHeartbeats 2000000 in
theorem r_115 (d : Nat) {M : mm_M} {post : mm_Post} {q : Nat} {nx nl : Nat → Int32} {t : Nat} {lt : Nat → Int32} (hL : LyM M) (hJ : J2 M q nx nl t lt) (ht : t ≤ 200) (hok : ∀ M' Z, p_rd (lL t lt) t 200 0 Z0 = .inl Z → FV M M' → PR M' Z → post (some (.inl 1)) M') (hno : ∀ M' p, p_rd (lL t lt) t 200 0 Z0 = .inr p → FV M M' → mm_I M' 6 0 14 = nI p → post (some (.inl 0)) M') : pC (d + 6) 115 [.inr (.inr (6, 0))] M post := by
  obtain ⟨j1, j2, j3, j4⟩ := hJ
  simp (disch := omega) only [eC_115, eK_115_0, pw_iconst, pw_nop0, qw_aload_n0, qw_invokevirtual1, qw_pf_b, qw_pf_i, qw_pf_r, mm_rf_c, mm_rt_v, mm_rt_i, mm_rt_r, mm_alc_n, mm_alc_c, mm_rc_n, mm_rc_c, mm_wd_n, mm_wd_i, mm_wd_l, mm_wd_r, reduceCtorEq, false_implies, implies_true, true_implies, true_or, or_true, false_or, or_false, not_false_eq_true, mm_nl_n, mm_nl_i, mm_nl_r, mm_args_n, mm_args_i, mm_args_l, mm_args_r, mm_pad_0, mm_pad_n, mm_pad_c, List.length_cons, List.length_nil, List.nil_append, List.cons_append, Nat.zero_le, Nat.sub_zero, true_and, and_true, Nat.reduceAdd, Nat.reduceLeDiff, Nat.reduceLT, Nat.reduceSub, Nat.lt_irrefl, Nat.zero_add, Nat.add_zero, Nat.le_refl, k_20, k_10, k_01, ↓mm_if_T, ↓mm_if_F, ↓if10, ↓if00, not_true_eq_false, tf_01, ↓mm_if_tf, ↓mm_if_tn, ↓mm_if_nn]
  refine r_101 (d + 4) hL (fun M1 F1 P1 _ => ?_)
  have F2 : FV M (mm_sI (mm_sI M1 6 0 13 0) 6 0 15 0) := FV_s (FV_s (FV_W F1) (by omega)) (by omega)
  have fin := k_115 d (M := M) (post := post) hok hno 200 0 0 Z0 none (mm_sI (mm_sI M1 6 0 13 0) 6 0 15 0) (by omega) (by omega) (by omega) (LyM_2 (M := M) F1.1 hL) (PR_e P1 (fun c i k q => by rw [mm_I_sI, if_neg (by omega), mm_I_sI, if_neg (by omega)])) ⟨ht, by rw [F2.2 6 0 11 (by omega) (by omega) (by omega)]; exact j3, fun i hi => by rw [F2.2 8 0 i (by omega) (by omega) (by omega)]; exact j4 i hi, by rw [mm_I_k (by omega)]; exact mm_I_s, mm_I_s⟩ F2 rfl
  simp (disch := omega) only [pw_iconst, pw_nop0, qw_aload_n0, qw_invokevirtual1, qw_pf_b, qw_pf_i, qw_pf_r, mm_rf_c, mm_rt_v, mm_rt_i, mm_rt_r, mm_alc_n, mm_alc_c, mm_rc_n, mm_rc_c, mm_wd_n, mm_wd_i, mm_wd_l, mm_wd_r, reduceCtorEq, false_implies, implies_true, true_implies, true_or, or_true, false_or, or_false, not_false_eq_true, mm_nl_n, mm_nl_i, mm_nl_r, mm_args_n, mm_args_i, mm_args_l, mm_args_r, mm_pad_0, mm_pad_n, mm_pad_c, List.length_cons, List.length_nil, List.nil_append, List.cons_append, Nat.zero_le, Nat.sub_zero, true_and, and_true, Nat.reduceAdd, Nat.reduceLeDiff, Nat.reduceLT, Nat.reduceSub, Nat.lt_irrefl, Nat.zero_add, Nat.add_zero, Nat.le_refl, k_20, k_10, k_01, ↓mm_if_T, ↓mm_if_F, ↓if10, ↓if00, not_true_eq_false, tf_01, ↓mm_if_tf, ↓mm_if_tn, ↓mm_if_nn]
  exact fin
theorem J1_V {M M' : mm_M} {n : Nat} {X : Sx} {a : Nat} {P : Nat → Sx} {b : Nat} {K : Nat → Sx} (h : J1 M n X a P b K) (hn : n ≤ 7) (ha : a ≤ 8) (hb : b ≤ 2) (hF : FV M M') : J1 M' n X a P b K := J1_f h hn ha hb hF.1 (fun c i k q => hF.2 c i k (by omega) (by omega) (by omega))
theorem J2_V {M M' : mm_M} (hF : FV M M') {q : Nat} {nx nl : Nat → Int32} {t : Nat} {lt : Nat → Int32} (h : J2 M q nx nl t lt) : J2 M' q nx nl t lt := by
  obtain ⟨h1, h2, h3, h4⟩ := h
  refine ⟨by rw [hF.2 6 0 16 (by omega) (by omega) (by omega)]; exact h1, fun i hi => ?_, by rw [hF.2 6 0 11 (by omega) (by omega) (by omega)]; exact h3, fun i hi => by rw [hF.2 8 0 i (by omega) (by omega) (by omega)]; exact h4 i hi⟩
  rw [hF.2 7 12 i (by omega) (by omega) (by omega), hF.2 7 13 i (by omega) (by omega) (by omega)]
  exact h2 i hi
/-- what the reference may change -/
def FN (M M' : mm_M) : Prop := M'.2 = M.2 ∧ ∀ c i k, ¬ c = 6 → ¬ (c = 7 ∧ 5 ≤ i) → ¬ c = 8 → mm_I M' c i k = mm_I M c i k
theorem FN_tr {M M1 M2 : mm_M} (h : FN M M1) (h' : FN M1 M2) : FN M M2 := ⟨h'.1.trans h.1, fun c i k a b e => (h'.2 c i k a b e).trans (h.2 c i k a b e)⟩
theorem FN_V {M M' : mm_M} (h : FV M M') : FN M M' := ⟨h.1, fun c i k a b e => h.2 c i k (by omega) (by omega) (by omega)⟩
theorem FN_Y {M M' : mm_M} (h : FY M M') : FN M M' := ⟨h.1, fun c i k a b e => h.2 c i k (by omega) (by omega)⟩
theorem FN_6 {M M' : mm_M} (h : FZ6 M M') : FN M M' := ⟨h.1, fun c i k a b e => h.2 c i k (by omega) (by omega) e⟩
theorem FN_s {M M' : mm_M} {c i k : Nat} {v : Int32} (h : FN M M') (hc : c = 6 ∨ (c = 7 ∧ 5 ≤ i) ∨ c = 8) : FN M (mm_sI M' c i k v) := ⟨h.1, fun c' i' k' a b e => by rw [mm_I_sI, if_neg (by omega)]; exact h.2 c' i' k' a b e⟩
theorem r_116 (d : Nat) {M : mm_M} {post : mm_Post} {n : Nat} {X : Sx} {a : Nat} {P : Nat → Sx} {b : Nat} {K : Nat → Sx} (hJ : J1 M n X a P b K) (hn : n ≤ 7) (ha : a ≤ 8) (hb : b ≤ 2) {q : Nat} {nx nl : Nat → Int32} {t : Nat} {lt : Nat → Int32} (hN : J2 M q nx nl t lt) (ht : t ≤ 200) (h : ∀ M', J1 M' n X a P b K → J2 M' q nx nl t lt → FN M M' → post (some (.inl (G51 t lt))) M') : pC (d + 7) 116 [.inr (.inr (6, 0))] M post := by
  unfold G51 at h
  simp (disch := omega) only [eC_116, eK_116_0, eK_116_1, eK_116_2, pw_bipush, pw_goto, pw_nop0, qw_aload_n0, qw_gf_b, qw_gf_i, qw_gf_r, qw_if_eq, qw_invokevirtual1, qw_ireturn, mm_rf_c, mm_rt_v, mm_rt_i, mm_rt_r, mm_alc_n, mm_alc_c, mm_rc_n, mm_rc_c, mm_wd_n, mm_wd_i, mm_wd_l, mm_wd_r, reduceCtorEq, false_implies, implies_true, true_implies, true_or, or_true, false_or, or_false, not_false_eq_true, mm_nl_n, mm_nl_i, mm_nl_r, mm_args_n, mm_args_i, mm_args_l, mm_args_r, mm_pad_0, mm_pad_n, mm_pad_c, List.length_cons, List.length_nil, List.nil_append, List.cons_append, Nat.zero_le, Nat.sub_zero, true_and, and_true, Nat.reduceAdd, Nat.reduceLeDiff, Nat.reduceLT, Nat.reduceSub, Nat.lt_irrefl, Nat.zero_add, Nat.add_zero, Nat.le_refl, k_20, k_10, k_01, ↓mm_if_T, ↓mm_if_F, ↓if10, ↓if00, not_true_eq_false, tf_01, ↓mm_if_tf, ↓mm_if_tn, ↓mm_if_nn]
  refine r_115 d hJ.1 hN ht (fun M' Z e F PZ => ?_) (fun M' p e F g => ?_)
  · have hh := h M' (J1_V hJ hn ha hb F) (J2_V F hN) (FN_V F)
    rw [e] at hh
    simp (disch := omega) only [eC_116, eK_116_0, eK_116_1, eK_116_2, pw_bipush, pw_goto, pw_nop0, qw_aload_n0, qw_gf_b, qw_gf_i, qw_gf_r, qw_if_eq, qw_invokevirtual1, qw_ireturn, mm_rf_c, mm_rt_v, mm_rt_i, mm_rt_r, mm_alc_n, mm_alc_c, mm_rc_n, mm_rc_c, mm_wd_n, mm_wd_i, mm_wd_l, mm_wd_r, reduceCtorEq, false_implies, implies_true, true_implies, true_or, or_true, false_or, or_false, not_false_eq_true, mm_nl_n, mm_nl_i, mm_nl_r, mm_args_n, mm_args_i, mm_args_l, mm_args_r, mm_pad_0, mm_pad_n, mm_pad_c, List.length_cons, List.length_nil, List.nil_append, List.cons_append, Nat.zero_le, Nat.sub_zero, true_and, and_true, Nat.reduceAdd, Nat.reduceLeDiff, Nat.reduceLT, Nat.reduceSub, Nat.lt_irrefl, Nat.zero_add, Nat.add_zero, Nat.le_refl, k_20, k_10, k_01, ↓mm_if_T, ↓mm_if_F, ↓if10, ↓if00, not_true_eq_false, tf_01, ↓mm_if_tf, ↓mm_if_tn, ↓mm_if_nn]
    exact hh
  · have hh := h M' (J1_V hJ hn ha hb F) (J2_V F hN) (FN_V F)
    rw [e] at hh
    simp (disch := omega) only [eC_116, eK_116_0, eK_116_1, eK_116_2, pw_bipush, pw_goto, pw_nop0, qw_aload_n0, qw_gf_b, qw_gf_i, qw_gf_r, qw_if_eq, qw_invokevirtual1, qw_ireturn, mm_rf_c, mm_rt_v, mm_rt_i, mm_rt_r, mm_alc_n, mm_alc_c, mm_rc_n, mm_rc_c, mm_wd_n, mm_wd_i, mm_wd_l, mm_wd_r, reduceCtorEq, false_implies, implies_true, true_implies, true_or, or_true, false_or, or_false, not_false_eq_true, mm_nl_n, mm_nl_i, mm_nl_r, mm_args_n, mm_args_i, mm_args_l, mm_args_r, mm_pad_0, mm_pad_n, mm_pad_c, List.length_cons, List.length_nil, List.nil_append, List.cons_append, Nat.zero_le, Nat.sub_zero, true_and, and_true, Nat.reduceAdd, Nat.reduceLeDiff, Nat.reduceLT, Nat.reduceSub, Nat.lt_irrefl, Nat.zero_add, Nat.add_zero, Nat.le_refl, k_20, k_10, k_01, ↓mm_if_T, ↓mm_if_F, ↓if10, ↓if00, not_true_eq_false, tf_01, ↓mm_if_tf, ↓mm_if_tn, ↓mm_if_nn, g]
    exact hh

