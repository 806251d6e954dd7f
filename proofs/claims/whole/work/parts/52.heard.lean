/-! THE REFERENCE: places of a slot; bits; who is heard -/
theorem vi_ {k N : Nat} (h : k < N) (hN : N < 1000) : vp_in (nI k) N = True := eq_true (vp_in_nI h (by omega))
theorem ci_ {k : Nat} (h : k < 2147483648) : (nI k).toNatClampNeg = k := nI_clamp (by omega)

theorem nI_c7 (B : Nat) : nI B + 7 = nI (B + 7) := nI_add B 7
theorem nI_c8 (B : Nat) : nI B + 8 = nI (B + 8) := nI_add B 8
theorem nI_c15 (B : Nat) : nI B + 15 = nI (B + 15) := nI_add B 15
theorem nI_c22 (B : Nat) : nI B + 22 = nI (B + 22) := nI_add B 22
theorem nI_c29 (B : Nat) : nI B + 29 = nI (B + 29) := nI_add B 29
theorem nI_c36 (B : Nat) : nI B + 36 = nI (B + 36) := nI_add B 36
theorem nI_c38 (B : Nat) : nI B + 38 = nI (B + 38) := nI_add B 38
theorem nI_c361 (B : Nat) : nI (B + 36) + 1 = nI (B + 37) := nI_add (B + 36) 1
theorem up_w {A : Nat → Nat → Int32} {w k w' k' : Nat} {v : Int32} (h : ¬ w' = w) : up A w k v w' k' = A w' k' := if_neg (fun z => h z.1)
theorem up_k {A : Nat → Nat → Int32} {w k w' k' : Nat} {v : Int32} (h : ¬ k' = k) : up A w k v w' k' = A w' k' := if_neg (fun z => h z.2)
theorem up_s {A : Nat → Nat → Int32} {w k : Nat} {v : Int32} : up A w k v w k = v := if_pos ⟨rfl, rfl⟩
theorem i_le (x y : Int32) : x ≤ y ↔ x.toInt ≤ y.toInt := Int32.le_iff_toInt_le
theorem i_lt (x y : Int32) : x < y ↔ x.toInt < y.toInt := Int32.lt_iff_toInt_lt
theorem g_dr_0 {A : Nat → Nat → Int32} {v w : Nat} : g_dr A v w = 0 ↔ (g_at A v w < 1 ∨ g_at A v w < g_at A w w) := by
  unfold g_dr
  rw [tf_0]
  by_cases c : 1 < g_at A w w
  · rw [if_pos c, i_le]
    rw [i_lt] at c
    rw [i_lt, i_lt]
    omega
  · rw [if_neg c, i_le]
    rw [i_lt] at c
    rw [i_lt, i_lt]
    omega
theorem bI_c {f g : Nat → Int32} : ∀ n, (∀ w, w < n → f w = g w) → bI f n = bI g n
  | 0, _ => rfl
  | n + 1, h => by
    have e := bI_c n (fun w hw => h w (by omega))
    have e2 := h n (by omega)
    unfold bI
    rw [e, e2]
theorem bm_0 (f : Nat → Int32) : ∀ n, bm f n = 0 ↔ ∀ w, w < n → f w = 0
  | 0 => ⟨fun _ w hw => by omega, fun _ => rfl⟩
  | n + 1 => by
    have e := bm_0 f n
    unfold bm
    have hp : 0 < 2 ^ n := Nat.two_pow_pos n
    by_cases c : f n = 0
    · rw [if_neg (fun z => z c), e]
      refine ⟨fun h w hw => ?_, fun h w hw => h w (by omega)⟩
      by_cases e2 : w = n
      · rw [e2]; exact c
      · exact h w (by omega)
    · rw [if_pos c]
      exact ⟨fun h => by omega, fun h => absurd (h n (by omega)) c⟩
theorem bI_0 {f : Nat → Int32} {n : Nat} (hn : n ≤ 7) : bI f n = 0 ↔ ∀ w, w < n → f w = 0 := by
  have e := (bI_bm f n hn).1
  have l := bm_lt f n
  have p := b7_pw n hn
  rw [e, ← bm_0, show (0 : Int32) = nI 0 from rfl, nI_eq (by omega) (by omega)]
theorem b7_sh : ∀ m, m < 128 → ∀ w, w < 7 → (nI m >>> (nI w &&& 31)) &&& 1 = nI (m / 2 ^ w % 2) := by decide +kernel
theorem b7_hi : ∀ n, n < 7 → ∀ w, w < n → ∀ m, m < 128 → (m + 2 ^ n) / 2 ^ w % 2 = m / 2 ^ w % 2 := by decide +kernel
theorem bm_bit (f : Nat → Int32) : ∀ n, n ≤ 7 → ∀ w, w < n → bm f n / 2 ^ w % 2 = if f w = 0 then 0 else 1
  | 0, _, w, hw => by omega
  | n + 1, hn, w, hw => by
    have l := bm_lt f n
    have p := b7_pw n (by omega)
    have hp : 0 < 2 ^ n := Nat.two_pow_pos n
    unfold bm
    by_cases e : w = n
    · subst e
      by_cases c : f w = 0
      · rw [if_neg (fun z => z c), if_pos c, Nat.div_eq_of_lt l]
      · rw [if_pos c, if_neg c, Nat.add_div_right _ hp, Nat.div_eq_of_lt l]
    · have ih := bm_bit f n (by omega) w (by omega)
      by_cases c : f n = 0
      · rw [if_neg (fun z => z c)]; exact ih
      · rw [if_pos c, b7_hi n (by omega) w (by omega) _ (by omega)]; exact ih
theorem bI_bit {f : Nat → Int32} {n w : Nat} (hn : n ≤ 7) (hw : w < n) : (bI f n >>> (nI w &&& 31)) &&& 1 = tf (¬ f w = 0) := by
  have l := bm_lt f n
  have p := b7_pw n hn
  rw [(bI_bm f n hn).1, b7_sh _ (by omega) w (by omega), bm_bit f n hn w hw]
  by_cases c : f w = 0
  · rw [if_pos c, tf_f (fun z => z c)]; rfl
  · rw [if_neg c, tf_t c]; rfl
theorem g_cv_bI (A : Nat → Nat → Int32) (w : Nat) : ∀ v, g_cv A w v = bI (fun v => tf (¬ v = w ∧ A v 5 = 2 ∧ A v 10 = A w 10 ∧ ¬ g_dr A v w = 0)) v
  | 0 => rfl
  | v + 1 => by
    unfold g_cv bI
    rw [g_cv_bI A w v]
    simp only [tf_0]
    by_cases c : ¬ v = w ∧ A v 5 = 2 ∧ A v 10 = A w 10 ∧ ¬ g_dr A v w = 0
    · rw [if_pos c, if_pos (fun z => z c)]
    · rw [if_neg c, if_neg (fun z => z c)]
theorem lo_le {A : Nat → Nat → Int32} {w : Nat} {hr x : Int32} (hx : 0 < x) : ∀ n, g_lo A w hr n < x ↔ ∀ v, v < n → ¬ v = w → A v 5 = 2 → A v 10 = hr → g_at A v w < x
  | 0 => ⟨fun _ v hv => by omega, fun _ => hx⟩
  | n + 1 => by
    have ih := lo_le (A := A) (w := w) (hr := hr) hx n
    unfold g_lo
    by_cases c : ¬ n = w ∧ A n 5 = 2 ∧ A n 10 = hr
    · rw [if_pos c]
      show (if g_lo A w hr n < g_at A n w then g_at A n w else g_lo A w hr n) < x ↔ _
      refine ⟨fun h v hv h1 h2 h3 => ?_, fun h => ?_⟩
      · by_cases c2 : g_lo A w hr n < g_at A n w
        · rw [if_pos c2] at h
          by_cases e : v = n
          · rw [e]; exact h
          · exact ih.mp (by rw [i_lt] at *; omega) v (by omega) h1 h2 h3
        · rw [if_neg c2] at h
          by_cases e : v = n
          · rw [e]; rw [i_lt] at *; omega
          · exact ih.mp h v (by omega) h1 h2 h3
      · have h1 := ih.mpr (fun v hv => h v (by omega))
        have h2 := h n (by omega) c.1 c.2.1 c.2.2
        by_cases c2 : g_lo A w hr n < g_at A n w
        · rw [if_pos c2]; exact h2
        · rw [if_neg c2]; exact h1
    · rw [if_neg c, ih]
      refine ⟨fun h v hv h1 h2 h3 => ?_, fun h v hv => h v (by omega)⟩
      by_cases e : v = n
      · subst e; exact absurd ⟨h1, h2, h3⟩ c
      · exact h v (by omega) h1 h2 h3
theorem cv_lo {A : Nat → Nat → Int32} {w n : Nat} (hn : n ≤ 7) (h1 : 1 ≤ g_at A w w) : g_cv A w n = 0 ↔ g_lo A w (A w 10) n < g_at A w w := by
  rw [g_cv_bI, bI_0 hn, lo_le (by rw [i_le] at h1; rw [i_lt]; exact Int.lt_of_lt_of_le (by decide) h1)]
  refine ⟨fun h v hv a b c => ?_, fun h v hv => ?_⟩
  · have := h v hv
    rw [tf_0] at this
    have e : g_dr A v w = 0 := Classical.byContradiction fun z => this ⟨a, b, c, z⟩
    rcases g_dr_0.mp e with z | z
    · rw [i_lt] at *; rw [i_le] at h1; omega
    · exact z
  · rw [tf_0]
    intro z
    exact z.2.2.2 (g_dr_0.mpr (Or.inr (h v hv z.1 z.2.1 z.2.2.1)))

set_option maxHeartbeats 4000000 in
theorem r_123 (d : Nat) {M : mm_M} {post : mm_Post} {B n : Nat} {X : Sx} (hL : LyM M) (hB : B ≤ 429) (hn : n ≤ 7) (hM : RM M n X.1.1) (hR : RB M B n X) (hW : WF n X.1.1) {w : Nat} (hw : w < n) (ev : Int32) : pC (d + 3) 123 [.inr (.inr (6, 0)), .inl (nI B), .inl (nI w), .inl ev] M post = post (some (.inl (tf (X.1.1 w 5 = 2 ∧ ¬ f_rbi (X.1.1 w 0) (g_at X.1.1 w w) (X.1.1 w 7) ev = 0)))) M := by
  have l1 := hL.1.2.2.2.2.2.2.1
  have l2 : mm_L M 7 11 = 468 := hL.2.2.2.2.2.2.2.1
  have a1 := hL.1.1
  have a2 := hL.1.2.1
  have a3 : mm_L M 7 5 = 7 := hL.2.1
  have a4 : mm_L M 7 6 = 7 := hL.2.2.1
  have e151 : nI B + 15 + nI w = nI (B + 15 + w) := by rw [show nI B + 15 = nI (B + 15) from nI_add B 15, nI_add]
  have e152 : vp_in (nI (B + 15 + w)) 468 := vp_in_nI (by omega) (by omega)
  have e153 : (nI (B + 15 + w)).toNatClampNeg = B + 15 + w := nI_clamp (by omega)
  obtain ⟨q1, q2, q3⟩ := nI_v7 hw hn
  obtain ⟨_, b1, b2, b3, _⟩ := hR.1 w hw
  obtain ⟨h0, h1, h2⟩ := hM.2 w hw
  have hx := (hW w hw).2.1
  by_cases hh : X.1.1 w 5 = 2
  · have hne : ¬ X.1.1 w 5 = 0 := by rw [hh]; decide
    rw [if_neg hne] at b2
    simp only [eC_123, eK_123_0, eK_123_1, eK_123_2, eK_123_3, eK_123_4, eK_123_5, eK_123_6, eK_123_7, pw_aload_n, pw_bipush, pw_getfield, pw_goto, pw_iadd, pw_iaload, pw_iconst, pw_ifCond, pw_if_icmp, pw_iload, pw_iload_n, pw_invokevirtual, pw_ireturn, pw_istore, pw_nop0, mm_pI_c, mm_pL_c, mm_pA_c, mm_pR_c, mm_p1_i, mm_p1_r, mm_pN_0, mm_pN_s, mm_lI_c, mm_lL_c, mm_lA_c, mm_wd_n, mm_wd_i, mm_wd_l, mm_wd_r, mm_gf_i, mm_gf_b, mm_gf_r, mm_rf_c, mm_pf_i, mm_pf_b, mm_pf_r, mm_rt_v, mm_rt_i, mm_rt_r, mm_c_eq, mm_c_ne, mm_c_lt, mm_c_ge, mm_c_gt, mm_c_le, mm_sw_n, mm_sw_c, mm_alc_n, mm_alc_c, mm_rc_n, mm_rc_c, reduceCtorEq, false_implies, implies_true, true_implies, true_or, or_true, false_or, or_false, not_false_eq_true, mm_at_0, mm_at_s, mm_set_0, mm_set_s, mm_nl_n, mm_nl_i, mm_nl_r, mm_args_n, mm_args_i, mm_args_l, mm_args_r, mm_pad_0, mm_pad_n, mm_pad_c, List.length_cons, List.length_nil, List.nil_append, List.cons_append, Nat.zero_le, Nat.sub_zero, true_and, and_true, Nat.reduceAdd, Nat.reduceLeDiff, Nat.reduceLT, Nat.reduceSub, Nat.lt_irrefl, Nat.zero_add, Nat.add_zero, k_20, k_10, k_01, mm_if_T, mm_if_F, not_true_eq_false, not_false_eq_true, l1, l2, a1, a2, a3, a4, q1, q2, e151, e152, e153, b2, h0, h1, r_120 (d + 1) hL hB hn hR hw hW, hh, r_122 d hL hB hn hR hw hW hh _ hx, tf_0, mm_if_v]
    unfold f_rbi g_at tf
    clear hR hM hL hW b1 b3 e151 e152 e153
    grind
  · have e : tf (X.1.1 w 5 = 2 ∧ ¬ f_rbi (X.1.1 w 0) (g_at X.1.1 w w) (X.1.1 w 7) ev = 0) = 0 := by unfold tf; exact if_neg (fun z => hh z.1)
    rw [e]
    simp only [eC_123, eK_123_0, eK_123_1, eK_123_2, eK_123_3, eK_123_4, eK_123_5, eK_123_6, eK_123_7, pw_aload_n, pw_bipush, pw_getfield, pw_goto, pw_iadd, pw_iaload, pw_iconst, pw_ifCond, pw_if_icmp, pw_iload, pw_iload_n, pw_invokevirtual, pw_ireturn, pw_istore, pw_nop0, mm_pI_c, mm_pL_c, mm_pA_c, mm_pR_c, mm_p1_i, mm_p1_r, mm_pN_0, mm_pN_s, mm_lI_c, mm_lL_c, mm_lA_c, mm_wd_n, mm_wd_i, mm_wd_l, mm_wd_r, mm_gf_i, mm_gf_b, mm_gf_r, mm_rf_c, mm_pf_i, mm_pf_b, mm_pf_r, mm_rt_v, mm_rt_i, mm_rt_r, mm_c_eq, mm_c_ne, mm_c_lt, mm_c_ge, mm_c_gt, mm_c_le, mm_sw_n, mm_sw_c, mm_alc_n, mm_alc_c, mm_rc_n, mm_rc_c, reduceCtorEq, false_implies, implies_true, true_implies, true_or, or_true, false_or, or_false, not_false_eq_true, mm_at_0, mm_at_s, mm_set_0, mm_set_s, mm_nl_n, mm_nl_i, mm_nl_r, mm_args_n, mm_args_i, mm_args_l, mm_args_r, mm_pad_0, mm_pad_n, mm_pad_c, List.length_cons, List.length_nil, List.nil_append, List.cons_append, Nat.zero_le, Nat.sub_zero, true_and, and_true, Nat.reduceAdd, Nat.reduceLeDiff, Nat.reduceLT, Nat.reduceSub, Nat.lt_irrefl, Nat.zero_add, Nat.add_zero, k_20, k_10, k_01, mm_if_T, mm_if_F, not_true_eq_false, not_false_eq_true, r_120 (d + 1) hL hB hn hR hw hW, hh, tf_0, mm_if_v]

set_option maxHeartbeats 4000000 in
set_option maxRecDepth 20000 in
theorem k_124 (d : Nat) {M : mm_M} {post : mm_Post} {B n : Nat} {X : Sx} (hL : LyM M) (hB : B ≤ 429) (hn : n ≤ 7) (hM : RM M n X.1.1) (hR : RB M B n X) (hW : WF n X.1.1) {w : Nat} (hw : w < n) (hh : X.1.1 w 5 = 2) (h : post (some (.inl (g_cv X.1.1 w n))) M) : ∀ (m v : Nat) (u z : Option mm_V), v + m = n → pK (d + 2) 124 post 1 [some (.inr (.inr (6, 0))), some (.inl (nI B)), some (.inl (nI w)), some (.inl (g_cv X.1.1 w v)), some (.inl (nI v)), u, z] [] M (0, 0) := by
  have l1 := hL.1.2.2.2.2.2.2.1
  have l2 : mm_L M 7 11 = 468 := hL.2.2.2.2.2.2.2.1
  have a1 := hL.1.1
  have a2 := hL.1.2.1
  have a5 := hL.1.2.2.1
  have a3 : mm_L M 7 5 = 7 := hL.2.1
  have a4 : mm_L M 7 6 = 7 := hL.2.2.1
  have a6 : mm_L M 7 7 = 7 := hL.2.2.2.1
  obtain ⟨q1, q2, q3⟩ := nI_v7 hw hn
  obtain ⟨_, _, _, _, c4⟩ := hR.1 w hw
  have c5 := c4 hh
  obtain ⟨h0, h1, h2⟩ := hM.2 w hw
  have hm := hM.1
  have hx := (hW w hw).2.1
  intro m
  induction m with
  | zero =>
    intro v u z hv
    have e : v = n := by omega
    subst e
    rw [eK_124_1]
    simp (disch := omega) only [eK_124_0, eK_124_2, eK_124_3, eK_124_4, eK_124_5, eK_124_6, eK_124_7, eK_124_8, pw_bipush, pw_goto, pw_iconst, pw_nop0, qw_aload_n0, qw_gf_b, qw_gf_i, qw_gf_r, qw_iadd, qw_iaload, qw_if_eq, qw_if_icmp_eq, qw_if_icmp_ge, qw_if_icmp_lt, qw_if_icmp_ne, qw_iinc4, qw_iload4, qw_iload5, qw_iload6, qw_iload_n1, qw_iload_n2, qw_iload_n3, qw_invokevirtual3, qw_invokevirtual4, qw_ior, qw_ireturn, qw_ishl, qw_istore4, qw_istore5, qw_istore6, qw_istore_n3, mm_rf_c, mm_rt_v, mm_rt_i, mm_rt_r, mm_alc_n, mm_alc_c, mm_rc_n, mm_rc_c, mm_wd_n, mm_wd_i, mm_wd_l, mm_wd_r, reduceCtorEq, false_implies, implies_true, true_implies, true_or, or_true, false_or, or_false, not_false_eq_true, mm_nl_n, mm_nl_i, mm_nl_r, mm_args_n, mm_args_i, mm_args_l, mm_args_r, mm_pad_0, mm_pad_n, mm_pad_c, List.length_cons, List.length_nil, List.nil_append, List.cons_append, Nat.zero_le, Nat.sub_zero, true_and, and_true, Nat.reduceAdd, Nat.reduceLeDiff, Nat.reduceLT, Nat.reduceSub, Nat.lt_irrefl, Nat.zero_add, Nat.add_zero, Nat.le_refl, k_20, k_10, k_01, ↓mm_if_T, ↓mm_if_F, ↓if10, ↓if00, not_true_eq_false, tf_01, ↓mm_if_tf, ↓mm_if_tn, ↓mm_if_nn, hm, ↓mm_if_t (nI_le (Nat.le_refl v) (show v < 2 ^ 31 by omega))]
    exact h
  | succ m ih =>
    intro v u z hv
    have hvn : v < n := by omega
    obtain ⟨v1, v2, v3⟩ := nI_v7 hvn hn
    obtain ⟨_, b1, b2, b3, b4⟩ := hR.1 v hvn
    have q5 := nI_e7 (show v < 8 by omega) (show w < 8 by omega)
    have key := fun u z => ih (v + 1) u z (by omega)
    have hun : g_cv X.1.1 w (v + 1) = if ¬ v = w ∧ X.1.1 v 5 = 2 ∧ X.1.1 v 10 = X.1.1 w 10 ∧ ¬ (g_at X.1.1 v w < 1 ∨ g_at X.1.1 v w < g_at X.1.1 w w) then g_cv X.1.1 w v ||| (1 <<< (nI v &&& 31)) else g_cv X.1.1 w v := by simp only [← g_dr_0]; rfl
    rw [hun] at key
    have f1 : f_lf (X.1.1 v 8) (X.1.1 v 9) (X.1.1 w 1) = g_at X.1.1 v w := rfl
    have f2 : f_lf (X.1.1 w 8) (X.1.1 w 9) (X.1.1 w 1) = g_at X.1.1 w w := rfl
    by_cases c1 : v = w
    · rw [if_neg (fun z => z.1 c1)] at key
      have c1' : nI v = nI w := by rw [c1]
      rw [eK_124_1]
      simp (disch := omega) only [eK_124_0, eK_124_2, eK_124_3, eK_124_4, eK_124_5, eK_124_6, eK_124_7, eK_124_8, pw_bipush, pw_goto, pw_iconst, pw_nop0, qw_aload_n0, qw_gf_b, qw_gf_i, qw_gf_r, qw_iadd, qw_iaload, qw_if_eq, qw_if_icmp_eq, qw_if_icmp_ge, qw_if_icmp_lt, qw_if_icmp_ne, qw_iinc4, qw_iload4, qw_iload5, qw_iload6, qw_iload_n1, qw_iload_n2, qw_iload_n3, qw_invokevirtual3, qw_invokevirtual4, qw_ior, qw_ireturn, qw_ishl, qw_istore4, qw_istore5, qw_istore6, qw_istore_n3, mm_rf_c, mm_rt_v, mm_rt_i, mm_rt_r, mm_alc_n, mm_alc_c, mm_rc_n, mm_rc_c, mm_wd_n, mm_wd_i, mm_wd_l, mm_wd_r, reduceCtorEq, false_implies, implies_true, true_implies, true_or, or_true, false_or, or_false, not_false_eq_true, mm_nl_n, mm_nl_i, mm_nl_r, mm_args_n, mm_args_i, mm_args_l, mm_args_r, mm_pad_0, mm_pad_n, mm_pad_c, List.length_cons, List.length_nil, List.nil_append, List.cons_append, Nat.zero_le, Nat.sub_zero, true_and, and_true, Nat.reduceAdd, Nat.reduceLeDiff, Nat.reduceLT, Nat.reduceSub, Nat.lt_irrefl, Nat.zero_add, Nat.add_zero, Nat.le_refl, k_20, k_10, k_01, ↓mm_if_T, ↓mm_if_F, ↓if10, ↓if00, not_true_eq_false, tf_01, ↓mm_if_tf, ↓mm_if_tn, ↓mm_if_nn, l1, l2, a1, a2, a3, a4, a5, a6, nI_c7, nI_c8, nI_c15, nI_c22, nI_c29, nI_c36, nI_c361, nI_c38, nI_add, vi_, ci_, mm_L_s, mm_R_s, mm_I_c, mm_I_i, mm_I_k, mm_I_s, hm, ↓mm_if_f v3, q1, q2, h1, r_120 (d + 1) hL hB hn hR hvn hW, f1, f2, nI_1, Int32.or_zero, ↓mm_if_t c1']
      exact key _ _
    have c1' : ¬ nI v = nI w := by rw [q5]; exact c1
    by_cases hv5 : X.1.1 v 5 = 2
    · have b5 := b4 hv5
      by_cases c2 : X.1.1 v 10 = X.1.1 w 10
      · by_cases c3 : g_at X.1.1 v w < 1
        · rw [if_neg (fun z => z.2.2.2 (Or.inl c3))] at key
          rw [eK_124_1]
          simp (disch := omega) only [eK_124_0, eK_124_2, eK_124_3, eK_124_4, eK_124_5, eK_124_6, eK_124_7, eK_124_8, pw_bipush, pw_goto, pw_iconst, pw_nop0, qw_aload_n0, qw_gf_b, qw_gf_i, qw_gf_r, qw_iadd, qw_iaload, qw_if_eq, qw_if_icmp_eq, qw_if_icmp_ge, qw_if_icmp_lt, qw_if_icmp_ne, qw_iinc4, qw_iload4, qw_iload5, qw_iload6, qw_iload_n1, qw_iload_n2, qw_iload_n3, qw_invokevirtual3, qw_invokevirtual4, qw_ior, qw_ireturn, qw_ishl, qw_istore4, qw_istore5, qw_istore6, qw_istore_n3, mm_rf_c, mm_rt_v, mm_rt_i, mm_rt_r, mm_alc_n, mm_alc_c, mm_rc_n, mm_rc_c, mm_wd_n, mm_wd_i, mm_wd_l, mm_wd_r, reduceCtorEq, false_implies, implies_true, true_implies, true_or, or_true, false_or, or_false, not_false_eq_true, mm_nl_n, mm_nl_i, mm_nl_r, mm_args_n, mm_args_i, mm_args_l, mm_args_r, mm_pad_0, mm_pad_n, mm_pad_c, List.length_cons, List.length_nil, List.nil_append, List.cons_append, Nat.zero_le, Nat.sub_zero, true_and, and_true, Nat.reduceAdd, Nat.reduceLeDiff, Nat.reduceLT, Nat.reduceSub, Nat.lt_irrefl, Nat.zero_add, Nat.add_zero, Nat.le_refl, k_20, k_10, k_01, ↓mm_if_T, ↓mm_if_F, ↓if10, ↓if00, not_true_eq_false, tf_01, ↓mm_if_tf, ↓mm_if_tn, ↓mm_if_nn, l1, l2, a1, a2, a3, a4, a5, a6, nI_c7, nI_c8, nI_c15, nI_c22, nI_c29, nI_c36, nI_c361, nI_c38, nI_add, vi_, ci_, mm_L_s, mm_R_s, mm_I_c, mm_I_i, mm_I_k, mm_I_s, hm, ↓mm_if_f v3, q1, q2, h1, r_120 (d + 1) hL hB hn hR hvn hW, f1, f2, nI_1, Int32.or_zero, ↓mm_if_f c1', b5, c5, r_122 d hL hB hn hR hvn hW hv5 _ hx, r_122 d hL hB hn hR hw hW hh _ hx, ↓mm_if_t hv5, ↓mm_if_t c2, ↓mm_if_t c3]
          exact key _ _
        · by_cases c6 : g_at X.1.1 v w < g_at X.1.1 w w
          · rw [if_neg (fun z => z.2.2.2 (Or.inr c6))] at key
            rw [eK_124_1]
            simp (disch := omega) only [eK_124_0, eK_124_2, eK_124_3, eK_124_4, eK_124_5, eK_124_6, eK_124_7, eK_124_8, pw_bipush, pw_goto, pw_iconst, pw_nop0, qw_aload_n0, qw_gf_b, qw_gf_i, qw_gf_r, qw_iadd, qw_iaload, qw_if_eq, qw_if_icmp_eq, qw_if_icmp_ge, qw_if_icmp_lt, qw_if_icmp_ne, qw_iinc4, qw_iload4, qw_iload5, qw_iload6, qw_iload_n1, qw_iload_n2, qw_iload_n3, qw_invokevirtual3, qw_invokevirtual4, qw_ior, qw_ireturn, qw_ishl, qw_istore4, qw_istore5, qw_istore6, qw_istore_n3, mm_rf_c, mm_rt_v, mm_rt_i, mm_rt_r, mm_alc_n, mm_alc_c, mm_rc_n, mm_rc_c, mm_wd_n, mm_wd_i, mm_wd_l, mm_wd_r, reduceCtorEq, false_implies, implies_true, true_implies, true_or, or_true, false_or, or_false, not_false_eq_true, mm_nl_n, mm_nl_i, mm_nl_r, mm_args_n, mm_args_i, mm_args_l, mm_args_r, mm_pad_0, mm_pad_n, mm_pad_c, List.length_cons, List.length_nil, List.nil_append, List.cons_append, Nat.zero_le, Nat.sub_zero, true_and, and_true, Nat.reduceAdd, Nat.reduceLeDiff, Nat.reduceLT, Nat.reduceSub, Nat.lt_irrefl, Nat.zero_add, Nat.add_zero, Nat.le_refl, k_20, k_10, k_01, ↓mm_if_T, ↓mm_if_F, ↓if10, ↓if00, not_true_eq_false, tf_01, ↓mm_if_tf, ↓mm_if_tn, ↓mm_if_nn, l1, l2, a1, a2, a3, a4, a5, a6, nI_c7, nI_c8, nI_c15, nI_c22, nI_c29, nI_c36, nI_c361, nI_c38, nI_add, vi_, ci_, mm_L_s, mm_R_s, mm_I_c, mm_I_i, mm_I_k, mm_I_s, hm, ↓mm_if_f v3, q1, q2, h1, r_120 (d + 1) hL hB hn hR hvn hW, f1, f2, nI_1, Int32.or_zero, ↓mm_if_f c1', b5, c5, r_122 d hL hB hn hR hvn hW hv5 _ hx, r_122 d hL hB hn hR hw hW hh _ hx, ↓mm_if_t hv5, ↓mm_if_t c2, ↓mm_if_f c3, ↓mm_if_t c6]
            exact key _ _
          · rw [if_pos ⟨c1, hv5, c2, fun z => z.elim c3 c6⟩] at key
            rw [eK_124_1]
            simp (disch := omega) only [eK_124_0, eK_124_2, eK_124_3, eK_124_4, eK_124_5, eK_124_6, eK_124_7, eK_124_8, pw_bipush, pw_goto, pw_iconst, pw_nop0, qw_aload_n0, qw_gf_b, qw_gf_i, qw_gf_r, qw_iadd, qw_iaload, qw_if_eq, qw_if_icmp_eq, qw_if_icmp_ge, qw_if_icmp_lt, qw_if_icmp_ne, qw_iinc4, qw_iload4, qw_iload5, qw_iload6, qw_iload_n1, qw_iload_n2, qw_iload_n3, qw_invokevirtual3, qw_invokevirtual4, qw_ior, qw_ireturn, qw_ishl, qw_istore4, qw_istore5, qw_istore6, qw_istore_n3, mm_rf_c, mm_rt_v, mm_rt_i, mm_rt_r, mm_alc_n, mm_alc_c, mm_rc_n, mm_rc_c, mm_wd_n, mm_wd_i, mm_wd_l, mm_wd_r, reduceCtorEq, false_implies, implies_true, true_implies, true_or, or_true, false_or, or_false, not_false_eq_true, mm_nl_n, mm_nl_i, mm_nl_r, mm_args_n, mm_args_i, mm_args_l, mm_args_r, mm_pad_0, mm_pad_n, mm_pad_c, List.length_cons, List.length_nil, List.nil_append, List.cons_append, Nat.zero_le, Nat.sub_zero, true_and, and_true, Nat.reduceAdd, Nat.reduceLeDiff, Nat.reduceLT, Nat.reduceSub, Nat.lt_irrefl, Nat.zero_add, Nat.add_zero, Nat.le_refl, k_20, k_10, k_01, ↓mm_if_T, ↓mm_if_F, ↓if10, ↓if00, not_true_eq_false, tf_01, ↓mm_if_tf, ↓mm_if_tn, ↓mm_if_nn, l1, l2, a1, a2, a3, a4, a5, a6, nI_c7, nI_c8, nI_c15, nI_c22, nI_c29, nI_c36, nI_c361, nI_c38, nI_add, vi_, ci_, mm_L_s, mm_R_s, mm_I_c, mm_I_i, mm_I_k, mm_I_s, hm, ↓mm_if_f v3, q1, q2, h1, r_120 (d + 1) hL hB hn hR hvn hW, f1, f2, nI_1, Int32.or_zero, ↓mm_if_f c1', b5, c5, r_122 d hL hB hn hR hvn hW hv5 _ hx, r_122 d hL hB hn hR hw hW hh _ hx, ↓mm_if_t hv5, ↓mm_if_t c2, ↓mm_if_f c3, ↓mm_if_f c6]
            exact key _ _
      · rw [if_neg (fun z => c2 z.2.2.1)] at key
        rw [eK_124_1]
        simp (disch := omega) only [eK_124_0, eK_124_2, eK_124_3, eK_124_4, eK_124_5, eK_124_6, eK_124_7, eK_124_8, pw_bipush, pw_goto, pw_iconst, pw_nop0, qw_aload_n0, qw_gf_b, qw_gf_i, qw_gf_r, qw_iadd, qw_iaload, qw_if_eq, qw_if_icmp_eq, qw_if_icmp_ge, qw_if_icmp_lt, qw_if_icmp_ne, qw_iinc4, qw_iload4, qw_iload5, qw_iload6, qw_iload_n1, qw_iload_n2, qw_iload_n3, qw_invokevirtual3, qw_invokevirtual4, qw_ior, qw_ireturn, qw_ishl, qw_istore4, qw_istore5, qw_istore6, qw_istore_n3, mm_rf_c, mm_rt_v, mm_rt_i, mm_rt_r, mm_alc_n, mm_alc_c, mm_rc_n, mm_rc_c, mm_wd_n, mm_wd_i, mm_wd_l, mm_wd_r, reduceCtorEq, false_implies, implies_true, true_implies, true_or, or_true, false_or, or_false, not_false_eq_true, mm_nl_n, mm_nl_i, mm_nl_r, mm_args_n, mm_args_i, mm_args_l, mm_args_r, mm_pad_0, mm_pad_n, mm_pad_c, List.length_cons, List.length_nil, List.nil_append, List.cons_append, Nat.zero_le, Nat.sub_zero, true_and, and_true, Nat.reduceAdd, Nat.reduceLeDiff, Nat.reduceLT, Nat.reduceSub, Nat.lt_irrefl, Nat.zero_add, Nat.add_zero, Nat.le_refl, k_20, k_10, k_01, ↓mm_if_T, ↓mm_if_F, ↓if10, ↓if00, not_true_eq_false, tf_01, ↓mm_if_tf, ↓mm_if_tn, ↓mm_if_nn, l1, l2, a1, a2, a3, a4, a5, a6, nI_c7, nI_c8, nI_c15, nI_c22, nI_c29, nI_c36, nI_c361, nI_c38, nI_add, vi_, ci_, mm_L_s, mm_R_s, mm_I_c, mm_I_i, mm_I_k, mm_I_s, hm, ↓mm_if_f v3, q1, q2, h1, r_120 (d + 1) hL hB hn hR hvn hW, f1, f2, nI_1, Int32.or_zero, ↓mm_if_f c1', b5, c5, r_122 d hL hB hn hR hvn hW hv5 _ hx, r_122 d hL hB hn hR hw hW hh _ hx, ↓mm_if_t hv5, ↓mm_if_f c2]
        exact key _ _
    · rw [if_neg (fun z => hv5 z.2.1)] at key
      rw [eK_124_1]
      simp (disch := omega) only [eK_124_0, eK_124_2, eK_124_3, eK_124_4, eK_124_5, eK_124_6, eK_124_7, eK_124_8, pw_bipush, pw_goto, pw_iconst, pw_nop0, qw_aload_n0, qw_gf_b, qw_gf_i, qw_gf_r, qw_iadd, qw_iaload, qw_if_eq, qw_if_icmp_eq, qw_if_icmp_ge, qw_if_icmp_lt, qw_if_icmp_ne, qw_iinc4, qw_iload4, qw_iload5, qw_iload6, qw_iload_n1, qw_iload_n2, qw_iload_n3, qw_invokevirtual3, qw_invokevirtual4, qw_ior, qw_ireturn, qw_ishl, qw_istore4, qw_istore5, qw_istore6, qw_istore_n3, mm_rf_c, mm_rt_v, mm_rt_i, mm_rt_r, mm_alc_n, mm_alc_c, mm_rc_n, mm_rc_c, mm_wd_n, mm_wd_i, mm_wd_l, mm_wd_r, reduceCtorEq, false_implies, implies_true, true_implies, true_or, or_true, false_or, or_false, not_false_eq_true, mm_nl_n, mm_nl_i, mm_nl_r, mm_args_n, mm_args_i, mm_args_l, mm_args_r, mm_pad_0, mm_pad_n, mm_pad_c, List.length_cons, List.length_nil, List.nil_append, List.cons_append, Nat.zero_le, Nat.sub_zero, true_and, and_true, Nat.reduceAdd, Nat.reduceLeDiff, Nat.reduceLT, Nat.reduceSub, Nat.lt_irrefl, Nat.zero_add, Nat.add_zero, Nat.le_refl, k_20, k_10, k_01, ↓mm_if_T, ↓mm_if_F, ↓if10, ↓if00, not_true_eq_false, tf_01, ↓mm_if_tf, ↓mm_if_tn, ↓mm_if_nn, l1, l2, a1, a2, a3, a4, a5, a6, nI_c7, nI_c8, nI_c15, nI_c22, nI_c29, nI_c36, nI_c361, nI_c38, nI_add, vi_, ci_, mm_L_s, mm_R_s, mm_I_c, mm_I_i, mm_I_k, mm_I_s, hm, ↓mm_if_f v3, q1, q2, h1, r_120 (d + 1) hL hB hn hR hvn hW, f1, f2, nI_1, Int32.or_zero, ↓mm_if_f c1', ↓mm_if_f hv5]
      exact key _ _

theorem r_124 (d : Nat) {M : mm_M} {post : mm_Post} {B n : Nat} {X : Sx} (hL : LyM M) (hB : B ≤ 429) (hn : n ≤ 7) (hM : RM M n X.1.1) (hR : RB M B n X) (hW : WF n X.1.1) {w : Nat} (hw : w < n) (hh : X.1.1 w 5 = 2) : pC (d + 3) 124 [.inr (.inr (6, 0)), .inl (nI B), .inl (nI w)] M post = post (some (.inl (g_cv X.1.1 w n))) M := by
  refine pC_one (fun post h => ?_) post
  have := k_124 d hL hB hn hM hR hW hw hh h n 0 none none (by omega)
  simp (disch := omega) only [eC_124, eK_124_0, pw_iconst, pw_nop0, qw_istore4, qw_istore_n3, mm_rf_c, mm_rt_v, mm_rt_i, mm_rt_r, mm_alc_n, mm_alc_c, mm_rc_n, mm_rc_c, mm_wd_n, mm_wd_i, mm_wd_l, mm_wd_r, reduceCtorEq, false_implies, implies_true, true_implies, true_or, or_true, false_or, or_false, not_false_eq_true, mm_nl_n, mm_nl_i, mm_nl_r, mm_args_n, mm_args_i, mm_args_l, mm_args_r, mm_pad_0, mm_pad_n, mm_pad_c, List.length_cons, List.length_nil, List.nil_append, List.cons_append, Nat.zero_le, Nat.sub_zero, true_and, and_true, Nat.reduceAdd, Nat.reduceLeDiff, Nat.reduceLT, Nat.reduceSub, Nat.lt_irrefl, Nat.zero_add, Nat.add_zero, Nat.le_refl, k_20, k_10, k_01, ↓mm_if_T, ↓mm_if_F, ↓if10, ↓if00, not_true_eq_false, tf_01, ↓mm_if_tf, ↓mm_if_tn, ↓mm_if_nn]
  exact this

theorem f_rbi_1 {k l t ev : Int32} (h : ¬ f_rbi k l t ev = 0) : 1 ≤ l := by
  unfold f_rbi at h
  by_cases c1 : k = 1
  · rw [if_pos c1, tf_0] at h
    have := Classical.not_not.mp h
    rw [i_le] at *
    exact Int.le_trans (by decide) this
  rw [if_neg c1] at h
  by_cases c2 : k = 2
  · rw [if_pos c2, tf_0] at h; exact (Classical.not_not.mp h).1
  rw [if_neg c2] at h
  by_cases c3 : k = 3
  · rw [if_pos c3, tf_0] at h; exact (Classical.not_not.mp h).1
  rw [if_neg c3, tf_0] at h
  exact Classical.not_not.mp h
theorem r_125 (d : Nat) {M : mm_M} {post : mm_Post} {B n : Nat} {X : Sx} (hL : LyM M) (hB : B ≤ 429) (hn : n ≤ 7) (hM : RM M n X.1.1) (hR : RB M B n X) (hW : WF n X.1.1) {w : Nat} (hw : w < n) (ev : Int32) : pC (d + 4) 125 [.inr (.inr (6, 0)), .inl (nI B), .inl (nI w), .inl ev] M post = post (some (.inl (g_hd X.1.1 n w ev))) M := by
  unfold g_hd
  by_cases c : X.1.1 w 5 = 2 ∧ ¬ f_rbi (X.1.1 w 0) (g_at X.1.1 w w) (X.1.1 w 7) ev = 0
  · have c2 := cv_lo hn (f_rbi_1 c.2)
    have e : tf (X.1.1 w 5 = 2 ∧ ¬ f_rbi (X.1.1 w 0) (g_at X.1.1 w w) (X.1.1 w 7) ev = 0 ∧ g_lo X.1.1 w (X.1.1 w 10) n < g_at X.1.1 w w) = if g_cv X.1.1 w n = 0 then 1 else 0 := by
      unfold tf
      by_cases z : g_cv X.1.1 w n = 0
      · rw [if_pos z, if_pos ⟨c.1, c.2, c2.mp z⟩]
      · rw [if_neg z, if_neg (fun y => z (c2.mpr y.2.2))]
    rw [e]
    by_cases z : g_cv X.1.1 w n = 0
    · rw [if_pos z]
      simp (disch := omega) only [eC_125, eK_125_0, eK_125_1, eK_125_2, pw_goto, pw_iconst, pw_nop0, qw_aload_n0, qw_if_eq, qw_if_ne, qw_iload_n1, qw_iload_n2, qw_iload_n3, qw_invokevirtual3, qw_invokevirtual4, qw_ireturn, mm_rf_c, mm_rt_v, mm_rt_i, mm_rt_r, mm_alc_n, mm_alc_c, mm_rc_n, mm_rc_c, mm_wd_n, mm_wd_i, mm_wd_l, mm_wd_r, reduceCtorEq, false_implies, implies_true, true_implies, true_or, or_true, false_or, or_false, not_false_eq_true, mm_nl_n, mm_nl_i, mm_nl_r, mm_args_n, mm_args_i, mm_args_l, mm_args_r, mm_pad_0, mm_pad_n, mm_pad_c, List.length_cons, List.length_nil, List.nil_append, List.cons_append, Nat.zero_le, Nat.sub_zero, true_and, and_true, Nat.reduceAdd, Nat.reduceLeDiff, Nat.reduceLT, Nat.reduceSub, Nat.lt_irrefl, Nat.zero_add, Nat.add_zero, Nat.le_refl, k_20, k_10, k_01, ↓mm_if_T, ↓mm_if_F, ↓if10, ↓if00, not_true_eq_false, tf_01, ↓mm_if_tf, ↓mm_if_tn, ↓mm_if_nn, r_123 d hL hB hn hM hR hW hw ev, ↓mm_if_t c, r_124 d hL hB hn hM hR hW hw c.1, ↓mm_if_t z]
    · rw [if_neg z]
      simp (disch := omega) only [eC_125, eK_125_0, eK_125_1, eK_125_2, pw_goto, pw_iconst, pw_nop0, qw_aload_n0, qw_if_eq, qw_if_ne, qw_iload_n1, qw_iload_n2, qw_iload_n3, qw_invokevirtual3, qw_invokevirtual4, qw_ireturn, mm_rf_c, mm_rt_v, mm_rt_i, mm_rt_r, mm_alc_n, mm_alc_c, mm_rc_n, mm_rc_c, mm_wd_n, mm_wd_i, mm_wd_l, mm_wd_r, reduceCtorEq, false_implies, implies_true, true_implies, true_or, or_true, false_or, or_false, not_false_eq_true, mm_nl_n, mm_nl_i, mm_nl_r, mm_args_n, mm_args_i, mm_args_l, mm_args_r, mm_pad_0, mm_pad_n, mm_pad_c, List.length_cons, List.length_nil, List.nil_append, List.cons_append, Nat.zero_le, Nat.sub_zero, true_and, and_true, Nat.reduceAdd, Nat.reduceLeDiff, Nat.reduceLT, Nat.reduceSub, Nat.lt_irrefl, Nat.zero_add, Nat.add_zero, Nat.le_refl, k_20, k_10, k_01, ↓mm_if_T, ↓mm_if_F, ↓if10, ↓if00, not_true_eq_false, tf_01, ↓mm_if_tf, ↓mm_if_tn, ↓mm_if_nn, r_123 d hL hB hn hM hR hW hw ev, ↓mm_if_t c, r_124 d hL hB hn hM hR hW hw c.1, ↓mm_if_f z]
  · rw [tf_f (fun z => c ⟨z.1, z.2.1⟩)]
    simp (disch := omega) only [eC_125, eK_125_0, eK_125_1, eK_125_2, pw_goto, pw_iconst, pw_nop0, qw_aload_n0, qw_if_eq, qw_if_ne, qw_iload_n1, qw_iload_n2, qw_iload_n3, qw_invokevirtual3, qw_invokevirtual4, qw_ireturn, mm_rf_c, mm_rt_v, mm_rt_i, mm_rt_r, mm_alc_n, mm_alc_c, mm_rc_n, mm_rc_c, mm_wd_n, mm_wd_i, mm_wd_l, mm_wd_r, reduceCtorEq, false_implies, implies_true, true_implies, true_or, or_true, false_or, or_false, not_false_eq_true, mm_nl_n, mm_nl_i, mm_nl_r, mm_args_n, mm_args_i, mm_args_l, mm_args_r, mm_pad_0, mm_pad_n, mm_pad_c, List.length_cons, List.length_nil, List.nil_append, List.cons_append, Nat.zero_le, Nat.sub_zero, true_and, and_true, Nat.reduceAdd, Nat.reduceLeDiff, Nat.reduceLT, Nat.reduceSub, Nat.lt_irrefl, Nat.zero_add, Nat.add_zero, Nat.le_refl, k_20, k_10, k_01, ↓mm_if_T, ↓mm_if_F, ↓if10, ↓if00, not_true_eq_false, tf_01, ↓mm_if_tf, ↓mm_if_tn, ↓mm_if_nn, r_123 d hL hB hn hM hR hW hw ev, ↓mm_if_f c]
theorem r_126 (d : Nat) {M : mm_M} {post : mm_Post} {B n : Nat} {X : Sx} (hL : LyM M) (hB : B ≤ 429) (hn : n ≤ 7) (hM : RM M n X.1.1) (hR : RB M B n X) (hW : WF n X.1.1) : pC (d + 1) 126 [.inr (.inr (6, 0)), .inl (nI B)] M post = post (some (.inl (g_ev X.2))) M := by
  have l1 := hL.1.2.2.2.2.2.2.1
  have l2 : mm_L M 7 11 = 468 := hL.2.2.2.2.2.2.2.1
  have a1 := hL.1.1
  have a2 := hL.1.2.1
  have a5 := hL.1.2.2.1
  have a3 : mm_L M 7 5 = 7 := hL.2.1
  have a4 : mm_L M 7 6 = 7 := hL.2.2.1
  have a6 : mm_L M 7 7 = 7 := hL.2.2.2.1
  have h8 := hR.2.2.2.2
  unfold g_ev tf
  by_cases c : X.2 - X.2 / 2 * 2 = 0
  · rw [if_pos c]
    simp (disch := omega) only [eC_126, eK_126_0, eK_126_1, eK_126_2, pw_bipush, pw_goto, pw_iconst, pw_nop0, qw_aload_n0, qw_gf_b, qw_gf_i, qw_gf_r, qw_iadd, qw_iaload, qw_if_ne, qw_iload_n1, qw_irem, qw_ireturn, mm_rf_c, mm_rt_v, mm_rt_i, mm_rt_r, mm_alc_n, mm_alc_c, mm_rc_n, mm_rc_c, mm_wd_n, mm_wd_i, mm_wd_l, mm_wd_r, reduceCtorEq, false_implies, implies_true, true_implies, true_or, or_true, false_or, or_false, not_false_eq_true, mm_nl_n, mm_nl_i, mm_nl_r, mm_args_n, mm_args_i, mm_args_l, mm_args_r, mm_pad_0, mm_pad_n, mm_pad_c, List.length_cons, List.length_nil, List.nil_append, List.cons_append, Nat.zero_le, Nat.sub_zero, true_and, and_true, Nat.reduceAdd, Nat.reduceLeDiff, Nat.reduceLT, Nat.reduceSub, Nat.lt_irrefl, Nat.zero_add, Nat.add_zero, Nat.le_refl, k_20, k_10, k_01, ↓mm_if_T, ↓mm_if_F, ↓if10, ↓if00, not_true_eq_false, tf_01, ↓mm_if_tf, ↓mm_if_tn, ↓mm_if_nn, l1, l2, a1, a2, a3, a4, a5, a6, nI_c7, nI_c8, nI_c15, nI_c22, nI_c29, nI_c36, nI_c361, nI_c38, nI_add, vi_, ci_, mm_L_s, mm_R_s, mm_I_c, mm_I_i, mm_I_k, mm_I_s, h8, ↓mm_if_t c]
  · rw [if_neg c]
    simp (disch := omega) only [eC_126, eK_126_0, eK_126_1, eK_126_2, pw_bipush, pw_goto, pw_iconst, pw_nop0, qw_aload_n0, qw_gf_b, qw_gf_i, qw_gf_r, qw_iadd, qw_iaload, qw_if_ne, qw_iload_n1, qw_irem, qw_ireturn, mm_rf_c, mm_rt_v, mm_rt_i, mm_rt_r, mm_alc_n, mm_alc_c, mm_rc_n, mm_rc_c, mm_wd_n, mm_wd_i, mm_wd_l, mm_wd_r, reduceCtorEq, false_implies, implies_true, true_implies, true_or, or_true, false_or, or_false, not_false_eq_true, mm_nl_n, mm_nl_i, mm_nl_r, mm_args_n, mm_args_i, mm_args_l, mm_args_r, mm_pad_0, mm_pad_n, mm_pad_c, List.length_cons, List.length_nil, List.nil_append, List.cons_append, Nat.zero_le, Nat.sub_zero, true_and, and_true, Nat.reduceAdd, Nat.reduceLeDiff, Nat.reduceLT, Nat.reduceSub, Nat.lt_irrefl, Nat.zero_add, Nat.add_zero, Nat.le_refl, k_20, k_10, k_01, ↓mm_if_T, ↓mm_if_F, ↓if10, ↓if00, not_true_eq_false, tf_01, ↓mm_if_tf, ↓mm_if_tn, ↓mm_if_nn, l1, l2, a1, a2, a3, a4, a5, a6, nI_c7, nI_c8, nI_c15, nI_c22, nI_c29, nI_c36, nI_c361, nI_c38, nI_add, vi_, ci_, mm_L_s, mm_R_s, mm_I_c, mm_I_i, mm_I_k, mm_I_s, h8, ↓mm_if_f c]

