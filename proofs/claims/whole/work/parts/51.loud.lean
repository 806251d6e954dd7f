/-! THE REFERENCE: how loud -/
theorem f_lo_99 {c t : Int32} (hc : 1 ≤ c ∧ c ≤ 30) (ht : 0 ≤ t ∧ t ≤ 30) : 0 ≤ f_lo c t ∧ f_lo c t ≤ 99 := by
  obtain ⟨C, hC, rfl⟩ := nI_of2 (M := 30) (n := 30) (by decide) (Int32.not_lt.mpr (Int32.le_trans (by decide) hc.1)) hc.2
  obtain ⟨T, hT, rfl⟩ := nI_of2 (M := 30) (n := 30) (by decide) (Int32.not_lt.mpr ht.1) ht.2
  have key : ∀ C, C < 31 → ∀ T, T < 31 → 0 ≤ f_lo (nI C) (nI T) ∧ f_lo (nI C) (nI T) ≤ 99 := by decide +kernel
  exact key C (by omega) T (by omega)

theorem f_lf_r (l a x : Int32) (hl : 0 ≤ l ∧ l ≤ 99) (ha : 0 ≤ a ∧ a ≤ 40) (hx : 0 ≤ x ∧ x ≤ 40) : (if (0 : Int32) < l - (if a < x then x - a else a - x) then l - (if a < x then x - a else a - x) else 0) = f_lf l a x := by
  obtain ⟨L, hL, rfl⟩ := nI_of2 (M := 99) (n := 99) (by decide) (Int32.not_lt.mpr hl.1) hl.2
  obtain ⟨a', ha', rfl⟩ := nI_of2 (M := 40) (n := 40) (by decide) (Int32.not_lt.mpr ha.1) ha.2
  obtain ⟨x', hx', rfl⟩ := nI_of2 (M := 40) (n := 40) (by decide) (Int32.not_lt.mpr hx.1) hx.2
  have key : ∀ D : Nat, D ≤ 40 → (if (0 : Int32) < nI L - nI D then nI L - nI D else 0) = if nI D < nI L then nI L - nI D else 0 := by
    intro D hD
    by_cases c : D < L
    · rw [pk_sub (by omega), if_pos (show (0 : Int32) < nI (L - D) from nI_lt (a := 0) (by omega) (by omega)), if_pos (nI_lt c (by omega))]
    · rw [if_neg (nI_nlt (by omega) (by omega))]
      by_cases e : D = L
      · subst e; rw [Int32.sub_self]; rfl
      · rw [if_neg (fun z => Int32.lt_irrefl (Int32.lt_trans z (pk_sneg (by omega) (by omega))))]
  unfold f_lf f_far
  rcases Nat.lt_trichotomy a' x' with c | c | c
  · rw [if_pos (nI_lt c (by omega)), pk_sub (by omega), if_neg (nI_nlt (by omega) (by omega)), key _ (by omega)]
  · subst c; rw [if_neg Int32.lt_irrefl, Int32.sub_self]; exact key 0 (by omega)
  · rw [if_neg (nI_nlt (by omega) (by omega)), pk_sub (by omega), if_pos (nI_lt c (by omega)), key _ (by omega)]

set_option maxHeartbeats 2000000 in
theorem r_122 (d : Nat) {M : mm_M} {post : mm_Post} {B n w : Nat} {X : Sx} (hL : LyM M) (hB : B ≤ 429) (hn : n ≤ 7) (hR : RB M B n X) (hw : w < n) (hW : WF n X.1.1) (hh : X.1.1 w 5 = 2) (x : Int32) (hx : 0 ≤ x ∧ x ≤ 40) : pC (d + 2) 122 [.inr (.inr (6, 0)), .inl (nI B), .inl (nI w), .inl x] M post = post (some (.inl (f_lf (X.1.1 w 8) (X.1.1 w 9) x))) M := by
  have l1 := hL.1.2.2.2.2.2.2.1
  have l2 : mm_L M 7 11 = 468 := hL.2.2.2.2.2.2.2.1
  have e81 : nI B + 8 + nI w = nI (B + 8 + w) := by rw [show nI B + 8 = nI (B + 8) from nI_add B 8, nI_add]
  have e82 : vp_in (nI (B + 8 + w)) 468 := vp_in_nI (by omega) (by omega)
  have e83 : (nI (B + 8 + w)).toNatClampNeg = B + 8 + w := nI_clamp (by omega)
  have e151 : nI B + 15 + nI w = nI (B + 15 + w) := by rw [show nI B + 15 = nI (B + 15) from nI_add B 15, nI_add]
  have e152 : vp_in (nI (B + 15 + w)) 468 := vp_in_nI (by omega) (by omega)
  have e153 : (nI (B + 15 + w)).toNatClampNeg = B + 15 + w := nI_clamp (by omega)
  have e221 : nI B + 22 + nI w = nI (B + 22 + w) := by rw [show nI B + 22 = nI (B + 22) from nI_add B 22, nI_add]
  have e222 : vp_in (nI (B + 22 + w)) 468 := vp_in_nI (by omega) (by omega)
  have e223 : (nI (B + 22 + w)).toNatClampNeg = B + 22 + w := nI_clamp (by omega)
  obtain ⟨_, b1, b2, b3, _⟩ := hR.1 w hw
  have hne : ¬ X.1.1 w 5 = 0 := by rw [hh]; decide
  rw [if_neg hne] at b1 b2
  rw [if_pos hh] at b3
  obtain ⟨g1, g2, g3⟩ := (hW w hw).2.2.2.2.1 hne
  have g4 := ((hW w hw).2.2.2.2.2 hh).1
  simp only [eC_122, eK_122_0, pw_aload_n, pw_bipush, pw_getfield, pw_iadd, pw_iaload, pw_iconst, pw_iload_n, pw_invokestatic, pw_ireturn, pw_isub, mm_pI_c, mm_pL_c, mm_pA_c, mm_pR_c, mm_p1_i, mm_p1_r, mm_pN_0, mm_pN_s, mm_lI_c, mm_lL_c, mm_lA_c, mm_wd_n, mm_wd_i, mm_wd_l, mm_wd_r, mm_gf_i, mm_gf_b, mm_gf_r, mm_rf_c, mm_pf_i, mm_pf_b, mm_pf_r, mm_rt_v, mm_rt_i, mm_rt_r, mm_c_eq, mm_c_ne, mm_c_lt, mm_c_ge, mm_c_gt, mm_c_le, mm_sw_n, mm_sw_c, mm_alc_n, mm_alc_c, mm_rc_n, mm_rc_c, reduceCtorEq, false_implies, implies_true, true_implies, true_or, or_true, false_or, or_false, not_false_eq_true, mm_at_0, mm_at_s, mm_set_0, mm_set_s, mm_nl_n, mm_nl_i, mm_nl_r, mm_args_n, mm_args_i, mm_args_l, mm_args_r, mm_pad_0, mm_pad_n, mm_pad_c, List.length_cons, List.length_nil, List.nil_append, List.cons_append, Nat.zero_le, Nat.sub_zero, true_and, and_true, Nat.reduceAdd, Nat.reduceLeDiff, Nat.reduceLT, Nat.reduceSub, Nat.lt_irrefl, Nat.zero_add, Nat.add_zero, k_20, k_10, k_01, mm_if_T, mm_if_F, not_true_eq_false, not_false_eq_true, l1, l2, e81, e82, e83, e151, e152, e153, e221, e222, e223, b1, b2, b3, r_118, r_119, r_99]
  rw [← g3, f_lf_r _ _ _ (by rw [g3]; exact f_lo_99 g1 g2) g4 hx]

