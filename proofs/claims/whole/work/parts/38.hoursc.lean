/-! THE CLASS: hours, the call -/
def h_rk (A : Nat → Nat → Int32) : Nat → Nat
  | 0 => 0
  | w + 1 => if A w 5 = 2 then h_rk A w + 1 else h_rk A w
theorem h_rk_us (A : Nat → Nat → Int32) : ∀ w, h_us A (h_rk A) w = h_rk A w
  | 0 => rfl
  | w + 1 => by
    unfold h_us
    rw [h_rk_us A w, if_pos (Nat.le_refl _)]
    rfl
theorem h_rk_m (A : Nat → Nat → Int32) (v : Nat) : ∀ k, h_rk A v ≤ h_rk A (v + k)
  | 0 => Nat.le_refl _
  | k + 1 => Nat.le_trans (h_rk_m A v k) (by show h_rk A (v + k) ≤ (if A (v + k) 5 = 2 then h_rk A (v + k) + 1 else h_rk A (v + k)); split <;> omega)
theorem h_rk_n (A : Nat → Nat → Int32) : ∀ w, h_rk A w ≤ w
  | 0 => Nat.le_refl _
  | w + 1 => by have := h_rk_n A w; show (if A w 5 = 2 then h_rk A w + 1 else h_rk A w) ≤ w + 1; split <;> omega
theorem h_rk_ok (A : Nat → Nat → Int32) (w : Nat) : h_ok A (h_rk A) w := by
  intro c
  refine ⟨by rw [h_rk_us]; exact Nat.le_refl _, fun v hv a e => ?_⟩
  exfalso
  have h1 : h_rk A (v + 1) = h_rk A v + 1 := if_pos a
  have h2 := h_rk_m A (v + 1) (w - (v + 1))
  rw [show v + 1 + (w - (v + 1)) = w by omega] at h2
  omega
theorem h_ex_0 {A : Nat → Nat → Int32} {n m : Nat} {f g : Nat → Nat} : h_ex A n m 0 f g ↔ (∀ w, w < n → h_ok A g w) ∧ h_us A g n ≤ m := by
  rw [h_us_m]
  exact ⟨fun h => ⟨fun w hw => (h.2 w (by omega) hw).1, fun w hw => (h.2 w (by omega) hw).2⟩, fun h => ⟨fun v hv => by omega, fun v _ hv => ⟨h.1 v hv, h.2 v hv⟩⟩⟩
theorem FH_C {M M' : mm_M} {w : Nat} (h : FH M M' w) : FC M M' := ⟨fun c i k q => h.2.1 c i k (fun z => by omega), fun c i k _ => by unfold mm_R; rw [h.1], by rw [h.1]⟩
theorem RX_H {M M' : mm_M} {w s n : Nat} {X : Sx} (hF : FH M M' w) (h : RX M s n X) : RX M' s n X := by
  obtain ⟨s1, s2, s3, s4, s5⟩ := h
  refine ⟨?_, ?_, ?_, ?_, ?_⟩
  · rw [hF.2.1 _ _ _ (by omega)]; exact s1
  · rw [hF.2.1 _ _ _ (by omega)]; exact s2
  · rw [hF.2.1 _ _ _ (by omega)]; exact s3
  · rw [hF.2.1 _ _ _ (by omega)]; exact s4
  · intro v hv k hk; rw [hF.2.1 _ _ _ (by omega)]; exact s5 v hv k hk
theorem I1_H {M M' : mm_M} {w n : Nat} {X : Sx} {a : Nat} {P : Nat → Sx} {b : Nat} {K : Nat → Sx} (hF : FH M M' w) (h : I1 M n X a P b K) : I1 M' n X a P b K := by
  obtain ⟨ps, hC, hn, hR0, hW0, ha, ha2, hP, hb, hb2, hK⟩ := h
  exact ⟨ps, LyC_2 hF.1 hC, hn, RX_H hF hR0, hW0, ha, by rw [hF.2.1 _ _ _ (by omega)]; exact ha2, fun i hi => ⟨RX_H hF (hP i hi).1, (hP i hi).2⟩, hb, by rw [hF.2.1 _ _ _ (by omega)]; exact hb2, fun i hi => ⟨RX_H hF (hK i hi).1, (hK i hi).2⟩⟩
theorem I2_H {M M' : mm_M} {w : Nat} (hF : FH M M' w) {q : Nat} {nx nl : Nat → Int32} {t : Nat} {lt : Nat → Int32} (h : I2 M q nx nl t lt) : I2 M' q nx nl t lt := by
  obtain ⟨h1, h2, h3, h4, h5, h6⟩ := h
  exact ⟨h1, by rw [hF.2.1 _ _ _ (by omega)]; exact h2, fun i hi => ⟨by rw [hF.2.1 _ _ _ (by omega)]; exact (h3 i hi).1, by rw [hF.2.1 _ _ _ (by omega)]; exact (h3 i hi).2⟩, h4, by rw [hF.2.1 _ _ _ (by omega)]; exact h5, fun i hi => by rw [hF.2.1 _ _ _ (by omega)]; exact h6 i hi⟩

set_option maxHeartbeats 4000000 in
theorem l_1 (d : Nat) {A : Nat → Nat → Int32} {n : Nat} (hn : n ≤ 7) {M : mm_M} {post : mm_Post} (hB : HB M A n 0 (fun _ => 0)) (h : ∀ M' m f, FH M M' 0 → HC M' A n f → h_be A n m f → m ≤ 7 → post (some (.inl (nI m))) M') : ∀ (k m : Nat) (M1 : mm_M), m + k = 8 → FH M M1 0 → (∀ g, (∀ w, w < n → h_ok A g w) → m ≤ h_us A g n) → pK (d + n + 5) 1 post 1 [some (.inr (.inr (0, 0))), some (.inr (.inr (2, 0))), some (.inl (nI m))] [] M1 (0, 0) := by
  intro k
  induction k with
  | zero =>
    intro m M1 hm hF hi
    exfalso
    have := hi (h_rk A) (fun w _ => h_rk_ok A w)
    rw [h_rk_us] at this
    have := h_rk_n A n
    omega
  | succ k ih =>
    intro m M1 hm hF hi
    have hq : ¬ (7 : Int32) < nI m := nI_nlt (b := m) (a := 7) (by omega) (by omega)
    rw [eK_1_1]
    simp only [eK_1_0, eK_1_2, eK_1_3, pw_aload_n, pw_bipush, pw_goto, pw_iconst, pw_ifCond, pw_if_icmp, pw_iinc, pw_iload_n, pw_invokevirtual, pw_ireturn, pw_istore_n, pw_nop0, mm_pI_c, mm_pL_c, mm_pA_c, mm_pR_c, mm_p1_i, mm_p1_r, mm_pN_0, mm_pN_s, mm_lI_c, mm_lL_c, mm_lA_c, mm_wd_n, mm_wd_i, mm_wd_l, mm_wd_r, mm_gf_i, mm_gf_b, mm_gf_r, mm_rf_c, mm_pf_i, mm_pf_b, mm_pf_r, mm_rt_v, mm_rt_i, mm_rt_r, mm_c_eq, mm_c_ne, mm_c_lt, mm_c_ge, mm_c_gt, mm_c_le, mm_sw_n, mm_sw_c, mm_alc_n, mm_alc_c, mm_rc_n, mm_rc_c, reduceCtorEq, false_implies, implies_true, true_implies, true_or, or_true, false_or, or_false, not_false_eq_true, mm_at_0, mm_at_s, mm_set_0, mm_set_s, mm_nl_n, mm_nl_i, mm_nl_r, mm_args_n, mm_args_i, mm_args_l, mm_args_r, mm_pad_0, mm_pad_n, mm_pad_c, List.length_cons, List.length_nil, List.nil_append, List.cons_append, Nat.zero_le, Nat.sub_zero, true_and, and_true, Nat.reduceAdd, Nat.reduceLeDiff, Nat.reduceLT, Nat.reduceSub, Nat.lt_irrefl, Nat.zero_add, Nat.add_zero, k_20, k_10, k_01, mm_if_T, mm_if_F, not_true_eq_false, not_false_eq_true, mm_if_f hq]
    refine t_2 d hn (show m ≤ 7 by omega) n 0 (by omega) (fun _ => 0) M1 _ (HB_F hB hF) (fun M' g hF' hC' he hl => ?_) (fun M' hF' hno => ?_)
    · have he0 := h_ex_0.mp he
      have hp := h M' m g (FH_tr hF hF' (by omega)) hC' ⟨he0.1, Nat.le_antisymm he0.2 (hi g he0.1), hi, fun g' hg' e => hl g' (h_ex_0.mpr ⟨hg', by omega⟩)⟩ (by omega)
      simp only [eK_1_0, eK_1_2, eK_1_3, pw_aload_n, pw_bipush, pw_goto, pw_iconst, pw_ifCond, pw_if_icmp, pw_iinc, pw_iload_n, pw_invokevirtual, pw_ireturn, pw_istore_n, pw_nop0, mm_pI_c, mm_pL_c, mm_pA_c, mm_pR_c, mm_p1_i, mm_p1_r, mm_pN_0, mm_pN_s, mm_lI_c, mm_lL_c, mm_lA_c, mm_wd_n, mm_wd_i, mm_wd_l, mm_wd_r, mm_gf_i, mm_gf_b, mm_gf_r, mm_rf_c, mm_pf_i, mm_pf_b, mm_pf_r, mm_rt_v, mm_rt_i, mm_rt_r, mm_c_eq, mm_c_ne, mm_c_lt, mm_c_ge, mm_c_gt, mm_c_le, mm_sw_n, mm_sw_c, mm_alc_n, mm_alc_c, mm_rc_n, mm_rc_c, reduceCtorEq, false_implies, implies_true, true_implies, true_or, or_true, false_or, or_false, not_false_eq_true, mm_at_0, mm_at_s, mm_set_0, mm_set_s, mm_nl_n, mm_nl_i, mm_nl_r, mm_args_n, mm_args_i, mm_args_l, mm_args_r, mm_pad_0, mm_pad_n, mm_pad_c, List.length_cons, List.length_nil, List.nil_append, List.cons_append, Nat.zero_le, Nat.sub_zero, true_and, and_true, Nat.reduceAdd, Nat.reduceLeDiff, Nat.reduceLT, Nat.reduceSub, Nat.lt_irrefl, Nat.zero_add, Nat.add_zero, k_20, k_10, k_01, mm_if_T, mm_if_F, not_true_eq_false, not_false_eq_true]
      exact hp
    · have key := ih (m + 1) M' (by omega) (FH_tr hF hF' (by omega)) (fun g hg => by
        have z1 := hi g hg
        have z2 : ¬ h_us A g n ≤ m := fun z => hno g (h_ex_0.mpr ⟨hg, z⟩)
        omega)
      simp only [eK_1_0, eK_1_2, eK_1_3, pw_aload_n, pw_bipush, pw_goto, pw_iconst, pw_ifCond, pw_if_icmp, pw_iinc, pw_iload_n, pw_invokevirtual, pw_ireturn, pw_istore_n, pw_nop0, mm_pI_c, mm_pL_c, mm_pA_c, mm_pR_c, mm_p1_i, mm_p1_r, mm_pN_0, mm_pN_s, mm_lI_c, mm_lL_c, mm_lA_c, mm_wd_n, mm_wd_i, mm_wd_l, mm_wd_r, mm_gf_i, mm_gf_b, mm_gf_r, mm_rf_c, mm_pf_i, mm_pf_b, mm_pf_r, mm_rt_v, mm_rt_i, mm_rt_r, mm_c_eq, mm_c_ne, mm_c_lt, mm_c_ge, mm_c_gt, mm_c_le, mm_sw_n, mm_sw_c, mm_alc_n, mm_alc_c, mm_rc_n, mm_rc_c, reduceCtorEq, false_implies, implies_true, true_implies, true_or, or_true, false_or, or_false, not_false_eq_true, mm_at_0, mm_at_s, mm_set_0, mm_set_s, mm_nl_n, mm_nl_i, mm_nl_r, mm_args_n, mm_args_i, mm_args_l, mm_args_r, mm_pad_0, mm_pad_n, mm_pad_c, List.length_cons, List.length_nil, List.nil_append, List.cons_append, Nat.zero_le, Nat.sub_zero, true_and, and_true, Nat.reduceAdd, Nat.reduceLeDiff, Nat.reduceLT, Nat.reduceSub, Nat.lt_irrefl, Nat.zero_add, Nat.add_zero, k_20, k_10, k_01, mm_if_T, mm_if_F, not_true_eq_false, not_false_eq_true, nI_1]
      exact key
theorem t_1 (d : Nat) {A : Nat → Nat → Int32} {n : Nat} (hn : n ≤ 7) {M : mm_M} {post : mm_Post} (hB : HB M A n 0 (fun _ => 0)) (h : ∀ M' m f, FH M M' 0 → HC M' A n f → h_be A n m f → m ≤ 7 → post (some (.inl (nI m))) M') : pC (d + n + 6) 1 [.inr (.inr (0, 0)), .inr (.inr (2, 0))] M post := by
  have key := l_1 d hn hB h 8 0 M (by omega) (FH_rf M 0) (fun _ _ => Nat.zero_le _)
  simp only [eC_1, eK_1_0, eK_1_2, eK_1_3, pw_aload_n, pw_bipush, pw_goto, pw_iconst, pw_ifCond, pw_if_icmp, pw_iinc, pw_iload_n, pw_invokevirtual, pw_ireturn, pw_istore_n, pw_nop0, mm_pI_c, mm_pL_c, mm_pA_c, mm_pR_c, mm_p1_i, mm_p1_r, mm_pN_0, mm_pN_s, mm_lI_c, mm_lL_c, mm_lA_c, mm_wd_n, mm_wd_i, mm_wd_l, mm_wd_r, mm_gf_i, mm_gf_b, mm_gf_r, mm_rf_c, mm_pf_i, mm_pf_b, mm_pf_r, mm_rt_v, mm_rt_i, mm_rt_r, mm_c_eq, mm_c_ne, mm_c_lt, mm_c_ge, mm_c_gt, mm_c_le, mm_sw_n, mm_sw_c, mm_alc_n, mm_alc_c, mm_rc_n, mm_rc_c, reduceCtorEq, false_implies, implies_true, true_implies, true_or, or_true, false_or, or_false, not_false_eq_true, mm_at_0, mm_at_s, mm_set_0, mm_set_s, mm_nl_n, mm_nl_i, mm_nl_r, mm_args_n, mm_args_i, mm_args_l, mm_args_r, mm_pad_0, mm_pad_n, mm_pad_c, List.length_cons, List.length_nil, List.nil_append, List.cons_append, Nat.zero_le, Nat.sub_zero, true_and, and_true, Nat.reduceAdd, Nat.reduceLeDiff, Nat.reduceLT, Nat.reduceSub, Nat.lt_irrefl, Nat.zero_add, Nat.add_zero, k_20, k_10, k_01, mm_if_T, mm_if_F, not_true_eq_false, not_false_eq_true]
  exact key

set_option maxHeartbeats 4000000 in
theorem C68 (d : Nat) {n : Nat} {X : Sx} {a : Nat} {P : Nat → Sx} {b : Nat} {K : Nat → Sx} {M : mm_M} {post : mm_Post} (hI : I1 M n X a P b K) {q : Nat} {nx nl : Nat → Int32} {t : Nat} {lt : Nat → Int32} (hJ : I2 M q nx nl t lt) (x : Int32) (h : ∀ M' m f, I1 M' n X a P b K → I2 M' q nx nl t lt → FC M M' → h_be X.1.1 n m f → post (some (.inl (if x = -1 then nI m else if X.1.1 x.toNatClampNeg 5 = 2 then nI (f x.toNatClampNeg) else -4))) M') (hbad : ¬ x = -1 → ¬ isw n x → post (some (.inl (-1))) M) : pC (d + n + 7) 68 [.inr (.inr (5, 0)), .inl x] M post := by
  obtain ⟨ps, hC, hn, hR, hW, ha, ha2, hP, hb, hb2, hK⟩ := id hI
  obtain ⟨hS, c0, c1, c2, c3, c4, c5, c6, m0, m1, m2, k1, k2, ct, cn, cp0, hps, hpi⟩ := id hC
  have hB : HB M X.1.1 n 0 (fun _ => 0) := ⟨hS, ⟨_, _, _, hR⟩, cp0.1, cp0.2, fun v hv => by omega, Nat.le_refl _, fun v hv => by omega⟩
  by_cases hx : x = -1
  · subst hx
    simp only [eC_68, eK_68_0, eK_68_1, eK_68_2, eK_68_3, pw_aload_n, pw_getfield, pw_goto, pw_iaload, pw_iconst, pw_ifCond, pw_if_icmp, pw_iload_n, pw_invokevirtual, pw_ireturn, pw_istore_n, pw_nop0, mm_pI_c, mm_pL_c, mm_pA_c, mm_pR_c, mm_p1_i, mm_p1_r, mm_pN_0, mm_pN_s, mm_lI_c, mm_lL_c, mm_lA_c, mm_wd_n, mm_wd_i, mm_wd_l, mm_wd_r, mm_gf_i, mm_gf_b, mm_gf_r, mm_rf_c, mm_pf_i, mm_pf_b, mm_pf_r, mm_rt_v, mm_rt_i, mm_rt_r, mm_c_eq, mm_c_ne, mm_c_lt, mm_c_ge, mm_c_gt, mm_c_le, mm_sw_n, mm_sw_c, mm_alc_n, mm_alc_c, mm_rc_n, mm_rc_c, reduceCtorEq, false_implies, implies_true, true_implies, true_or, or_true, false_or, or_false, not_false_eq_true, mm_at_0, mm_at_s, mm_set_0, mm_set_s, mm_nl_n, mm_nl_i, mm_nl_r, mm_args_n, mm_args_i, mm_args_l, mm_args_r, mm_pad_0, mm_pad_n, mm_pad_c, List.length_cons, List.length_nil, List.nil_append, List.cons_append, Nat.zero_le, Nat.sub_zero, true_and, and_true, Nat.reduceAdd, Nat.reduceLeDiff, Nat.reduceLT, Nat.reduceSub, Nat.lt_irrefl, Nat.zero_add, Nat.add_zero, k_20, k_10, k_01, mm_if_T, mm_if_F, not_true_eq_false, not_false_eq_true, c2, c3]
    refine t_1 d hn hB (fun M' m f hF hHC hbe hm => ?_)
    have hp := h M' m f (I1_H hF hI) (I2_H hF hJ) (FH_C hF) hbe
    rw [if_pos rfl] at hp
    simp only [eC_68, eK_68_0, eK_68_1, eK_68_2, eK_68_3, pw_aload_n, pw_getfield, pw_goto, pw_iaload, pw_iconst, pw_ifCond, pw_if_icmp, pw_iload_n, pw_invokevirtual, pw_ireturn, pw_istore_n, pw_nop0, mm_pI_c, mm_pL_c, mm_pA_c, mm_pR_c, mm_p1_i, mm_p1_r, mm_pN_0, mm_pN_s, mm_lI_c, mm_lL_c, mm_lA_c, mm_wd_n, mm_wd_i, mm_wd_l, mm_wd_r, mm_gf_i, mm_gf_b, mm_gf_r, mm_rf_c, mm_pf_i, mm_pf_b, mm_pf_r, mm_rt_v, mm_rt_i, mm_rt_r, mm_c_eq, mm_c_ne, mm_c_lt, mm_c_ge, mm_c_gt, mm_c_le, mm_sw_n, mm_sw_c, mm_alc_n, mm_alc_c, mm_rc_n, mm_rc_c, reduceCtorEq, false_implies, implies_true, true_implies, true_or, or_true, false_or, or_false, not_false_eq_true, mm_at_0, mm_at_s, mm_set_0, mm_set_s, mm_nl_n, mm_nl_i, mm_nl_r, mm_args_n, mm_args_i, mm_args_l, mm_args_r, mm_pad_0, mm_pad_n, mm_pad_c, List.length_cons, List.length_nil, List.nil_append, List.cons_append, Nat.zero_le, Nat.sub_zero, true_and, and_true, Nat.reduceAdd, Nat.reduceLeDiff, Nat.reduceLT, Nat.reduceSub, Nat.lt_irrefl, Nat.zero_add, Nat.add_zero, k_20, k_10, k_01, mm_if_T, mm_if_F, not_true_eq_false, not_false_eq_true]
    exact hp
  · by_cases hi : isw n x
    · obtain ⟨w, hw, rfl⟩ := isw_of hn hi
      obtain ⟨q1, q2, q3⟩ := nI_v7 hw hn
      simp only [eC_68, eK_68_0, eK_68_1, eK_68_2, eK_68_3, pw_aload_n, pw_getfield, pw_goto, pw_iaload, pw_iconst, pw_ifCond, pw_if_icmp, pw_iload_n, pw_invokevirtual, pw_ireturn, pw_istore_n, pw_nop0, mm_pI_c, mm_pL_c, mm_pA_c, mm_pR_c, mm_p1_i, mm_p1_r, mm_pN_0, mm_pN_s, mm_lI_c, mm_lL_c, mm_lA_c, mm_wd_n, mm_wd_i, mm_wd_l, mm_wd_r, mm_gf_i, mm_gf_b, mm_gf_r, mm_rf_c, mm_pf_i, mm_pf_b, mm_pf_r, mm_rt_v, mm_rt_i, mm_rt_r, mm_c_eq, mm_c_ne, mm_c_lt, mm_c_ge, mm_c_gt, mm_c_le, mm_sw_n, mm_sw_c, mm_alc_n, mm_alc_c, mm_rc_n, mm_rc_c, reduceCtorEq, false_implies, implies_true, true_implies, true_or, or_true, false_or, or_false, not_false_eq_true, mm_at_0, mm_at_s, mm_set_0, mm_set_s, mm_nl_n, mm_nl_i, mm_nl_r, mm_args_n, mm_args_i, mm_args_l, mm_args_r, mm_pad_0, mm_pad_n, mm_pad_c, List.length_cons, List.length_nil, List.nil_append, List.cons_append, Nat.zero_le, Nat.sub_zero, true_and, and_true, Nat.reduceAdd, Nat.reduceLeDiff, Nat.reduceLT, Nat.reduceSub, Nat.lt_irrefl, Nat.zero_add, Nat.add_zero, k_20, k_10, k_01, mm_if_T, mm_if_F, not_true_eq_false, not_false_eq_true, c2, c3, hx, e_79 (d + n + 4) hC hR.1, hi, tf_0]
      refine t_1 d hn hB (fun M' m f hF hHC hbe hm => ?_)
      have hp := h M' m f (I1_H hF hI) (I2_H hF hJ) (FH_C hF) hbe
      rw [if_neg hx, q2] at hp
      have hv := hHC w hw
      have g1 : mm_R M' 5 0 2 = some 0 := by unfold mm_R; rw [hF.1]; exact c2
      have g2 : mm_R M' 0 0 0 = some 4 := by unfold mm_R; rw [hF.1]; exact cp0.1
      have g3 : mm_L M' 7 4 = 7 := by unfold mm_L; rw [hF.1]; exact cp0.2
      simp only [eC_68, eK_68_0, eK_68_1, eK_68_2, eK_68_3, pw_aload_n, pw_getfield, pw_goto, pw_iaload, pw_iconst, pw_ifCond, pw_if_icmp, pw_iload_n, pw_invokevirtual, pw_ireturn, pw_istore_n, pw_nop0, mm_pI_c, mm_pL_c, mm_pA_c, mm_pR_c, mm_p1_i, mm_p1_r, mm_pN_0, mm_pN_s, mm_lI_c, mm_lL_c, mm_lA_c, mm_wd_n, mm_wd_i, mm_wd_l, mm_wd_r, mm_gf_i, mm_gf_b, mm_gf_r, mm_rf_c, mm_pf_i, mm_pf_b, mm_pf_r, mm_rt_v, mm_rt_i, mm_rt_r, mm_c_eq, mm_c_ne, mm_c_lt, mm_c_ge, mm_c_gt, mm_c_le, mm_sw_n, mm_sw_c, mm_alc_n, mm_alc_c, mm_rc_n, mm_rc_c, reduceCtorEq, false_implies, implies_true, true_implies, true_or, or_true, false_or, or_false, not_false_eq_true, mm_at_0, mm_at_s, mm_set_0, mm_set_s, mm_nl_n, mm_nl_i, mm_nl_r, mm_args_n, mm_args_i, mm_args_l, mm_args_r, mm_pad_0, mm_pad_n, mm_pad_c, List.length_cons, List.length_nil, List.nil_append, List.cons_append, Nat.zero_le, Nat.sub_zero, true_and, and_true, Nat.reduceAdd, Nat.reduceLeDiff, Nat.reduceLT, Nat.reduceSub, Nat.lt_irrefl, Nat.zero_add, Nat.add_zero, k_20, k_10, k_01, mm_if_T, mm_if_F, not_true_eq_false, not_false_eq_true, hx, g1, g2, g3, q1, q2, hv]
      exact hp
    · have hM := hbad hx hi
      simp only [eC_68, eK_68_0, eK_68_1, eK_68_2, eK_68_3, pw_aload_n, pw_getfield, pw_goto, pw_iaload, pw_iconst, pw_ifCond, pw_if_icmp, pw_iload_n, pw_invokevirtual, pw_ireturn, pw_istore_n, pw_nop0, mm_pI_c, mm_pL_c, mm_pA_c, mm_pR_c, mm_p1_i, mm_p1_r, mm_pN_0, mm_pN_s, mm_lI_c, mm_lL_c, mm_lA_c, mm_wd_n, mm_wd_i, mm_wd_l, mm_wd_r, mm_gf_i, mm_gf_b, mm_gf_r, mm_rf_c, mm_pf_i, mm_pf_b, mm_pf_r, mm_rt_v, mm_rt_i, mm_rt_r, mm_c_eq, mm_c_ne, mm_c_lt, mm_c_ge, mm_c_gt, mm_c_le, mm_sw_n, mm_sw_c, mm_alc_n, mm_alc_c, mm_rc_n, mm_rc_c, reduceCtorEq, false_implies, implies_true, true_implies, true_or, or_true, false_or, or_false, not_false_eq_true, mm_at_0, mm_at_s, mm_set_0, mm_set_s, mm_nl_n, mm_nl_i, mm_nl_r, mm_args_n, mm_args_i, mm_args_l, mm_args_r, mm_pad_0, mm_pad_n, mm_pad_c, List.length_cons, List.length_nil, List.nil_append, List.cons_append, Nat.zero_le, Nat.sub_zero, true_and, and_true, Nat.reduceAdd, Nat.reduceLeDiff, Nat.reduceLT, Nat.reduceSub, Nat.lt_irrefl, Nat.zero_add, Nat.add_zero, k_20, k_10, k_01, mm_if_T, mm_if_F, not_true_eq_false, not_false_eq_true, hx, e_79 (d + n + 4) hC hR.1, hi, tf_0]
      exact hM

