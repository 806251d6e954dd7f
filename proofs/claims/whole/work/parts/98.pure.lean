/-! THE LAW: it answers 1 -/
theorem FK_n6 (M : mm_M) : FK M (mm_nw M 6 0) := ⟨fun c i k a _ _ => by rw [mm_I_nw, if_neg (fun z => a z.1)], fun c i k a _ _ => by rw [mm_R_nw, if_neg (fun z => a z.1)], fun c i a _ _ => by rw [mm_L_nw, if_neg (fun z => a z.1)]⟩
theorem zr_11_6 : zr_11.1 = 6 := by decide
theorem zr_11_s : zr_11.2.2 = (25, 12) := rfl
set_option maxHeartbeats 4000000 in
theorem pure_law {L : Nat} {xs : Nat → Int32} (hL : L ≤ 320) : pK 40 166 (fun r _ => r = some (.inl 1)) 0 [some (.inr (.inr (11, 0))), none, none, none] [] (m0 L xs) (205, 2800) := by
  have n5 : mm_N (m0 L xs) 5 = 0 := rfl
  have main : ∀ post : mm_Post, (∀ M, post (some (.inl 1)) M) → pK 40 166 post 0 [some (.inr (.inr (11, 0))), none, none, none] [] (m0 L xs) (205, 2800) := by
    intro post hp
    simp (disch := omega) only [eK_166_0, pw_iconst, pw_new, pw_nop0, qw_astore_n1, qw_astore_n2, qw_dup_i, qw_dup_r, qw_invokespecial1, qw_istore_n3, mm_rf_c, mm_rt_v, mm_rt_i, mm_rt_r, mm_alc_n, mm_alc_c, mm_rc_n, mm_rc_c, mm_wd_n, mm_wd_i, mm_wd_l, mm_wd_r, reduceCtorEq, false_implies, implies_true, true_implies, true_or, or_true, false_or, or_false, not_false_eq_true, mm_nl_n, mm_nl_i, mm_nl_r, mm_args_n, mm_args_i, mm_args_l, mm_args_r, mm_pad_0, mm_pad_n, mm_pad_c, List.length_cons, List.length_nil, List.nil_append, List.cons_append, Nat.zero_le, Nat.sub_zero, true_and, and_true, Nat.reduceAdd, Nat.reduceLeDiff, Nat.reduceLT, Nat.reduceSub, Nat.lt_irrefl, Nat.zero_add, Nat.add_zero, Nat.le_refl, k_20, k_10, k_01, ↓mm_if_T, ↓mm_if_F, ↓if10, ↓if00, not_true_eq_false, tf_01, ↓mm_if_tf, ↓mm_if_tn, ↓mm_if_nn, n5]
    refine t_48 (M := mm_nw (m0 L xs) 5 0) (L := L) (xs := xs) (fun c hc h5 => ?_) ?_ ?_ ?_ ⟨?_, fun k hk => ?_⟩ (fun M1 A' Z P K nx nl lt e hE hI hI2 hs n6 n7 n8 => ?_)
    · rw [mm_N_nw, if_neg h5]
      show (if c = 11 ∨ c = 12 then 1 else 0) = 0
      rw [if_neg (by omega)]
    · rfl
    · rw [mm_I_nw, if_pos ⟨rfl, rfl⟩]
    · rw [mm_I_nw, if_pos ⟨rfl, rfl⟩]
    · rw [mm_L_nw, if_neg (fun z => absurd z.1 (by decide))]; rfl
    · rw [mm_I_nw, if_neg (fun z => absurd z.1 (by decide))]; rfl
    simp (disch := omega) only [pw_iconst, pw_new, pw_nop0, qw_astore_n1, qw_astore_n2, qw_dup_i, qw_dup_r, qw_invokespecial1, qw_istore_n3, mm_rf_c, mm_rt_v, mm_rt_i, mm_rt_r, mm_alc_n, mm_alc_c, mm_rc_n, mm_rc_c, mm_wd_n, mm_wd_i, mm_wd_l, mm_wd_r, reduceCtorEq, false_implies, implies_true, true_implies, true_or, or_true, false_or, or_false, not_false_eq_true, mm_nl_n, mm_nl_i, mm_nl_r, mm_args_n, mm_args_i, mm_args_l, mm_args_r, mm_pad_0, mm_pad_n, mm_pad_c, List.length_cons, List.length_nil, List.nil_append, List.cons_append, Nat.zero_le, Nat.sub_zero, true_and, and_true, Nat.reduceAdd, Nat.reduceLeDiff, Nat.reduceLT, Nat.reduceSub, Nat.lt_irrefl, Nat.zero_add, Nat.add_zero, Nat.le_refl, k_20, k_10, k_01, ↓mm_if_T, ↓mm_if_F, ↓if10, ↓if00, not_true_eq_false, tf_01, ↓mm_if_tf, ↓mm_if_tn, ↓mm_if_nn, n6]
    have zI : ∀ k, mm_I (mm_nw M1 6 0) 6 0 k = 0 := fun k => by rw [mm_I_nw, if_pos ⟨rfl, n6.symm⟩]
    refine t_96 (M := mm_nw M1 6 0) (by rw [mm_N_nw, if_neg (by decide)]; exact n7) (by rw [mm_N_nw, if_neg (by decide)]; exact n8) (zI 9) (zI 10) (zI 11) (zI 16) (fun M2 hLy hRM hRB i9 i10 i11 i16 hFK => ?_)
    have FK2 := FK_tr (FK_n6 M1) hFK
    obtain ⟨z6, zs, ze⟩ := zr_eq e
    rw [zr_11_6] at hRM hRB
    have hE2 : Eqv 6 A' zr_11.2.1 := fun w hw => by
      obtain ⟨q1, q2⟩ := hE w (by omega)
      exact ⟨fun k hk => (q1 k hk).trans (ze w hw k (by omega)), fun hb k hk => (q2 hb k hk).trans (ze w hw k hk)⟩
    have hJ : J1 M2 Z.1 ((A', Z.2.2), 0) 0 P 0 K := by
      rw [z6, zs]
      exact ⟨hLy, RM_c hRM (fun w hw k hk => (hE2 w hw).1 k (by omega)), RB_E (A := zr_11.2.1) (s := (25, 12)) hRB hE2, i9, fun i hi => absurd hi (Nat.not_lt_zero i), i10, fun i hi => absurd hi (Nat.not_lt_zero i)⟩
    have hJ2 : J2 M2 0 nx nl 0 lt := ⟨i16, fun i hi => absurd hi (Nat.not_lt_zero i), i11, fun i hi => absurd hi (Nat.not_lt_zero i)⟩
    have fin := k_166 hL hp L 0 (by omega) (by omega) M2 Z.1 ((A', Z.2.2), 0) 0 P 0 K 0 nx nl 0 lt ⟨I1_K FK2 hI, I2_K FK2 hI2, hJ, hJ2, by omega, fun i hi => absurd hi (Nat.not_lt_zero i), SC_K FK2 hs⟩
    simp (disch := omega) only [pw_iconst, pw_new, pw_nop0, qw_astore_n1, qw_astore_n2, qw_dup_i, qw_dup_r, qw_invokespecial1, qw_istore_n3, mm_rf_c, mm_rt_v, mm_rt_i, mm_rt_r, mm_alc_n, mm_alc_c, mm_rc_n, mm_rc_c, mm_wd_n, mm_wd_i, mm_wd_l, mm_wd_r, reduceCtorEq, false_implies, implies_true, true_implies, true_or, or_true, false_or, or_false, not_false_eq_true, mm_nl_n, mm_nl_i, mm_nl_r, mm_args_n, mm_args_i, mm_args_l, mm_args_r, mm_pad_0, mm_pad_n, mm_pad_c, List.length_cons, List.length_nil, List.nil_append, List.cons_append, Nat.zero_le, Nat.sub_zero, true_and, and_true, Nat.reduceAdd, Nat.reduceLeDiff, Nat.reduceLT, Nat.reduceSub, Nat.lt_irrefl, Nat.zero_add, Nat.add_zero, Nat.le_refl, k_20, k_10, k_01, ↓mm_if_T, ↓mm_if_F, ↓if10, ↓if00, not_true_eq_false, tf_01, ↓mm_if_tf, ↓mm_if_tn, ↓mm_if_nn]
    exact fin
  exact main _ (fun _ => rfl)

