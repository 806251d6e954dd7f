/-! THE CLASS: an item read -/
def F2 (M M' : mm_M) (s : Nat) : Prop := M'.2 = M.2 ∧ ∀ c i k, ¬ (c = 3 ∧ i = 0 ∧ k = 2) → ¬ (c = 7 ∧ i = 1) → ¬ (c = 2 ∧ i = s) → ¬ (c = 4 ∧ 7 * s ≤ i ∧ i < 7 * s + 7) → mm_I M' c i k = mm_I M c i k
theorem F2_rf (M : mm_M) (s : Nat) : F2 M M s := ⟨rfl, fun _ _ _ _ _ _ _ => rfl⟩
theorem F2_tr {M M1 M2 : mm_M} {s : Nat} (h : F2 M M1 s) (h' : F2 M1 M2 s) : F2 M M2 s := ⟨h'.1.trans h.1, fun c i k a b e f => (h'.2 c i k a b e f).trans (h.2 c i k a b e f)⟩
theorem F2_Z {M M' : mm_M} {s : Nat} (h : FZ M M') : F2 M M' s := ⟨h.1, fun c i k a b _ _ => h.2 c i k a b⟩
theorem F2_S {M M' : mm_M} {s : Nat} (h : FS M M' s) : F2 M M' s := ⟨h.1, fun c i k _ _ e f => h.2 c i k e f⟩
theorem RS_Z {M M' : mm_M} {s n : Nat} {A : Nat → Nat → Int32} {dy cp tn : Int32} (h : RS M s n A dy cp tn) (hF : FZ M M') : RS M' s n A dy cp tn := by
  obtain ⟨s1, s2, s3, s4, s5⟩ := h
  refine ⟨?_, ?_, ?_, ?_, ?_⟩
  · rw [hF.2 _ _ _ (by omega) (by omega)]; exact s1
  · rw [hF.2 _ _ _ (by omega) (by omega)]; exact s2
  · rw [hF.2 _ _ _ (by omega) (by omega)]; exact s3
  · rw [hF.2 _ _ _ (by omega) (by omega)]; exact s4
  · intro v hv k hk; rw [hF.2 _ _ _ (by omega) (by omega)]; exact s5 v hv k hk
theorem TX_S {M M' : mm_M} {t : Nat} {lt : Nat → Int32} {p s : Nat} (h : TX M t lt p) (hF : FS M M' s) : TX M' t lt p := by
  obtain ⟨⟨a1, a2, a3, a4⟩, b, c, d, e⟩ := h
  refine ⟨⟨?_, ?_, ?_, ?_⟩, b, ?_, ?_, ?_⟩
  · unfold mm_R; rw [hF.1]; exact a1
  · unfold mm_R; rw [hF.1]; exact a2
  · unfold mm_L; rw [hF.1]; exact a3
  · unfold mm_L; rw [hF.1]; exact a4
  · rw [hF.2 _ _ _ (by omega) (by omega)]; exact c
  · intro i hi; rw [hF.2 _ _ _ (by omega) (by omega)]; exact d i hi
  · rw [hF.2 _ _ _ (by omega) (by omega)]; exact e
theorem Eqv_w {n : Nat} {A B A' : Nat → Nat → Int32} {a : Nat → Int32} (h : Eqv n A B) (h1 : ∀ w, w < n → ∀ k, k < 11 → A' w k = A w k) (a0 : A' n 0 = a 0) (a1 : A' n 1 = a 1) (a2 : A' n 2 = a 2) (a3 : A' n 3 = 0) (a4 : A' n 4 = 0) (a5 : A' n 5 = 0) : Eqv (n + 1) A' (a_w B n a) := by
  intro w hw
  by_cases e : w = n
  · subst e
    refine ⟨fun k hk => ?_, fun z => absurd a5 z⟩
    rcases (show k = 0 ∨ k = 1 ∨ k = 2 ∨ k = 3 ∨ k = 4 ∨ k = 5 by omega) with z | z | z | z | z | z <;> subst z <;> simp [a_w, up, *]
  · have hB : ∀ k, a_w B n a w k = B w k := fun k => by simp [a_w, up, e]
    have g := h1 w (by omega)
    have q := h w (by omega)
    refine ⟨fun k hk => ?_, fun z k hk => ?_⟩
    · rw [hB, g k (by omega)]; exact q.1 k hk
    · rw [hB, g k hk]; rw [g 5 (by omega)] at z; exact q.2 z k hk
theorem Eqv_b {n : Nat} {A B : Nat → Nat → Int32} {a : Nat → Int32} {x : Nat} (h : Eqv n A B) : Eqv n (a_b A x a) (a_b B x a) := by
  intro w hw
  have q := h w hw
  by_cases e : w = x
  · subst e
    have hk : ∀ k, k < 11 → a_b A w a w k = a_b B w a w k := fun k hk => by
      have := q.1 k
      simp only [a_b, up]
      split
      · rfl
      · split
        · rfl
        · split
          · rfl
          · split
            · rfl
            · split
              · rfl
              · split
                · rfl
                · exact this (by simp only [true_and] at *; omega)
    exact ⟨fun k h6 => hk k (by omega), fun _ => hk⟩
  · have hA : ∀ k, a_b A x a w k = A w k := fun k => by simp [a_b, up, e]
    have hB : ∀ k, a_b B x a w k = B w k := fun k => by simp [a_b, up, e]
    refine ⟨fun k hk => ?_, fun z k hk => ?_⟩
    · rw [hA, hB]; exact q.1 k hk
    · rw [hA, hB]; rw [hA] at z; exact q.2 z k hk

set_option maxHeartbeats 8000000 in
set_option maxRecDepth 4000 in
theorem t_29 (d : Nat) {s n : Nat} {A A0 : Nat → Nat → Int32} {dy cp tn : Int32} {M : mm_M} {post : mm_Post} {t : Nat} {lt : Nat → Int32} {p : Nat} (hs : s < 20) (hn : n ≤ 7) (hL : LyS M) (hR : RS M s n A dy cp tn) (hE : Eqv n A A0) (hT : TX M t lt p) (hp : p ≤ 200) (hok : ∀ M' A' Z q, p_it (lL t lt) p (n, (A0, (cp, tn))) = some (Z, q) → Z.1 ≤ 7 → RS M' s Z.1 A' dy Z.2.2.1 Z.2.2.2 → Eqv Z.1 A' Z.2.1 → TX M' t lt q → p < q → q ≤ t → F2 M M' s → post (some (.inl 1)) M') (hno : ∀ M', p_it (lL t lt) p (n, (A0, (cp, tn))) = none → F2 M M' s → post (some (.inl 0)) M') : pC (d + 5) 29 [.inr (.inr (3, 0)), .inr (.inr (2, s))] M post := by
  have T1 := TX_3 hT (p + 1)
  have F1 : FZ M (mm_sI M 3 0 2 (nI (p + 1))) := FZ_3 (FZ_rf M)
  have hL1 : LyS (mm_sI M 3 0 2 (nI (p + 1))) := LyS_2 (M := M) rfl hL
  have hR1 := RS_Z hR F1
  have hz : ∀ i : Nat, ∃ k, k ≤ 99 ∧ (fun _ : Nat => (0 : Int32)) i = nI k := fun _ => ⟨0, by omega, rfl⟩
  by_cases w1 : lL t lt p = 119
  · have hun : p_it (lL t lt) p (n, (A0, (cp, tn))) = match p_ns (lL t lt) 3 3 (fun _ => 0) (p + 1) with
      | none => none
      | some (a, q) => if (0 ≤ a 0 ∧ a 0 ≤ 3) ∧ (0 ≤ a 1 ∧ a 1 ≤ 40) ∧ (1 ≤ a 2 ∧ a 2 ≤ 20) ∧ n < 7 then some ((n + 1, (a_w A0 n a, (cp, tn))), q) else none := by unfold p_it; rw [if_pos w1]; cases p_ns (lL t lt) 3 3 (fun _ => 0) (p + 1) <;> rfl
    have n1 : ¬ (119 : Int32) = 98 := by decide
    have n2 : ¬ (119 : Int32) = 109 := by decide
    simp only [eC_29, eK_29_0, eK_29_1, eK_29_2, eK_29_3, eK_29_4, eK_29_5, eK_29_6, eK_29_7, eK_29_8, eK_29_9, eK_29_10, pw_aload_n, pw_goto, pw_iconst, pw_ifCond, pw_iload_n, pw_invokevirtual, pw_ireturn, pw_istore_n, pw_lookupswitch, pw_nop0, mm_pI_c, mm_pL_c, mm_pA_c, mm_pR_c, mm_p1_i, mm_p1_r, mm_pN_0, mm_pN_s, mm_lI_c, mm_lL_c, mm_lA_c, mm_wd_n, mm_wd_i, mm_wd_l, mm_wd_r, mm_gf_i, mm_gf_b, mm_gf_r, mm_rf_c, mm_pf_i, mm_pf_b, mm_pf_r, mm_rt_v, mm_rt_i, mm_rt_r, mm_c_eq, mm_c_ne, mm_c_lt, mm_c_ge, mm_c_gt, mm_c_le, mm_sw_n, mm_sw_c, mm_alc_n, mm_alc_c, mm_rc_n, mm_rc_c, reduceCtorEq, false_implies, implies_true, true_implies, true_or, or_true, false_or, or_false, not_false_eq_true, mm_at_0, mm_at_s, mm_set_0, mm_set_s, mm_nl_n, mm_nl_i, mm_nl_r, mm_args_n, mm_args_i, mm_args_l, mm_args_r, mm_pad_0, mm_pad_n, mm_pad_c, List.length_cons, List.length_nil, List.nil_append, List.cons_append, Nat.zero_le, Nat.sub_zero, true_and, and_true, Nat.reduceAdd, Nat.reduceLeDiff, Nat.reduceLT, Nat.reduceSub, Nat.lt_irrefl, Nat.zero_add, Nat.add_zero, k_20, k_10, k_01, mm_if_T, mm_if_F, not_true_eq_false, not_false_eq_true, e_32 (d + 2) hT (show p < 2 ^ 31 by omega), w1, n1, n2, mm_if_v]
    refine t_30 (d + 1) (many := 3) (by omega) T1 (by omega) (fun M2 a q hq hF2 hat hq2 hc => ?_) (fun M2 hq hF2 => ?_)
    · rw [hq] at hun
      dsimp only at hun
      obtain ⟨b1, b2, b3⟩ := p_ns_v 3 _ _ _ _ hq hz
      have T2 := TX_F T1 hF2 hat
      simp only [eK_29_1, eK_29_2, eK_29_3, eK_29_4, eK_29_5, eK_29_6, eK_29_7, eK_29_8, eK_29_9, eK_29_10, pw_aload_n, pw_goto, pw_iconst, pw_ifCond, pw_iload_n, pw_invokevirtual, pw_ireturn, pw_istore_n, pw_lookupswitch, pw_nop0, mm_pI_c, mm_pL_c, mm_pA_c, mm_pR_c, mm_p1_i, mm_p1_r, mm_pN_0, mm_pN_s, mm_lI_c, mm_lL_c, mm_lA_c, mm_wd_n, mm_wd_i, mm_wd_l, mm_wd_r, mm_gf_i, mm_gf_b, mm_gf_r, mm_rf_c, mm_pf_i, mm_pf_b, mm_pf_r, mm_rt_v, mm_rt_i, mm_rt_r, mm_c_eq, mm_c_ne, mm_c_lt, mm_c_ge, mm_c_gt, mm_c_le, mm_sw_n, mm_sw_c, mm_alc_n, mm_alc_c, mm_rc_n, mm_rc_c, reduceCtorEq, false_implies, implies_true, true_implies, true_or, or_true, false_or, or_false, not_false_eq_true, mm_at_0, mm_at_s, mm_set_0, mm_set_s, mm_nl_n, mm_nl_i, mm_nl_r, mm_args_n, mm_args_i, mm_args_l, mm_args_r, mm_pad_0, mm_pad_n, mm_pad_c, List.length_cons, List.length_nil, List.nil_append, List.cons_append, Nat.zero_le, Nat.sub_zero, true_and, and_true, Nat.reduceAdd, Nat.reduceLeDiff, Nat.reduceLT, Nat.reduceSub, Nat.lt_irrefl, Nat.zero_add, Nat.add_zero, k_20, k_10, k_01, mm_if_T, mm_if_F, not_true_eq_false, not_false_eq_true]
      refine t_34 (d + 1) hs hn (LyS_2 hF2.1 hL1) (RS_Z hR1 hF2) ⟨T2.1.2.1, T2.1.2.2.2⟩ hc rfl (fun hv => ?_) (fun hv M3 A3 r1 r2 r3 r4 r5 r6 r7 r8 r9 => ?_)
      · have hp := hno M2 (by rw [hun, if_neg hv]) (F2_Z (FZ_tr F1 hF2))
        simp only [eK_29_1, eK_29_2, eK_29_3, eK_29_4, eK_29_5, eK_29_6, eK_29_7, eK_29_8, eK_29_9, eK_29_10, pw_aload_n, pw_goto, pw_iconst, pw_ifCond, pw_iload_n, pw_invokevirtual, pw_ireturn, pw_istore_n, pw_lookupswitch, pw_nop0, mm_pI_c, mm_pL_c, mm_pA_c, mm_pR_c, mm_p1_i, mm_p1_r, mm_pN_0, mm_pN_s, mm_lI_c, mm_lL_c, mm_lA_c, mm_wd_n, mm_wd_i, mm_wd_l, mm_wd_r, mm_gf_i, mm_gf_b, mm_gf_r, mm_rf_c, mm_pf_i, mm_pf_b, mm_pf_r, mm_rt_v, mm_rt_i, mm_rt_r, mm_c_eq, mm_c_ne, mm_c_lt, mm_c_ge, mm_c_gt, mm_c_le, mm_sw_n, mm_sw_c, mm_alc_n, mm_alc_c, mm_rc_n, mm_rc_c, reduceCtorEq, false_implies, implies_true, true_implies, true_or, or_true, false_or, or_false, not_false_eq_true, mm_at_0, mm_at_s, mm_set_0, mm_set_s, mm_nl_n, mm_nl_i, mm_nl_r, mm_args_n, mm_args_i, mm_args_l, mm_args_r, mm_pad_0, mm_pad_n, mm_pad_c, List.length_cons, List.length_nil, List.nil_append, List.cons_append, Nat.zero_le, Nat.sub_zero, true_and, and_true, Nat.reduceAdd, Nat.reduceLeDiff, Nat.reduceLT, Nat.reduceSub, Nat.lt_irrefl, Nat.zero_add, Nat.add_zero, k_20, k_10, k_01, mm_if_T, mm_if_F, not_true_eq_false, not_false_eq_true]
        exact hp
      · have hp := hok M3 A3 _ q (by rw [hun, if_pos hv]) (by have := hv.2.2.2; show n + 1 ≤ 7; omega) r1 (Eqv_w hE r2 r3 r4 r5 r6 r7 r8) (TX_S T2 r9) (by omega) (b3 (by omega)) (F2_tr (F2_Z (FZ_tr F1 hF2)) (F2_S r9))
        simp only [eK_29_1, eK_29_2, eK_29_3, eK_29_4, eK_29_5, eK_29_6, eK_29_7, eK_29_8, eK_29_9, eK_29_10, pw_aload_n, pw_goto, pw_iconst, pw_ifCond, pw_iload_n, pw_invokevirtual, pw_ireturn, pw_istore_n, pw_lookupswitch, pw_nop0, mm_pI_c, mm_pL_c, mm_pA_c, mm_pR_c, mm_p1_i, mm_p1_r, mm_pN_0, mm_pN_s, mm_lI_c, mm_lL_c, mm_lA_c, mm_wd_n, mm_wd_i, mm_wd_l, mm_wd_r, mm_gf_i, mm_gf_b, mm_gf_r, mm_rf_c, mm_pf_i, mm_pf_b, mm_pf_r, mm_rt_v, mm_rt_i, mm_rt_r, mm_c_eq, mm_c_ne, mm_c_lt, mm_c_ge, mm_c_gt, mm_c_le, mm_sw_n, mm_sw_c, mm_alc_n, mm_alc_c, mm_rc_n, mm_rc_c, reduceCtorEq, false_implies, implies_true, true_implies, true_or, or_true, false_or, or_false, not_false_eq_true, mm_at_0, mm_at_s, mm_set_0, mm_set_s, mm_nl_n, mm_nl_i, mm_nl_r, mm_args_n, mm_args_i, mm_args_l, mm_args_r, mm_pad_0, mm_pad_n, mm_pad_c, List.length_cons, List.length_nil, List.nil_append, List.cons_append, Nat.zero_le, Nat.sub_zero, true_and, and_true, Nat.reduceAdd, Nat.reduceLeDiff, Nat.reduceLT, Nat.reduceSub, Nat.lt_irrefl, Nat.zero_add, Nat.add_zero, k_20, k_10, k_01, mm_if_T, mm_if_F, not_true_eq_false, not_false_eq_true]
        exact hp
    · rw [hq] at hun
      have hp := hno M2 hun (F2_Z (FZ_tr F1 hF2))
      simp only [eK_29_1, eK_29_2, eK_29_3, eK_29_4, eK_29_5, eK_29_6, eK_29_7, eK_29_8, eK_29_9, eK_29_10, pw_aload_n, pw_goto, pw_iconst, pw_ifCond, pw_iload_n, pw_invokevirtual, pw_ireturn, pw_istore_n, pw_lookupswitch, pw_nop0, mm_pI_c, mm_pL_c, mm_pA_c, mm_pR_c, mm_p1_i, mm_p1_r, mm_pN_0, mm_pN_s, mm_lI_c, mm_lL_c, mm_lA_c, mm_wd_n, mm_wd_i, mm_wd_l, mm_wd_r, mm_gf_i, mm_gf_b, mm_gf_r, mm_rf_c, mm_pf_i, mm_pf_b, mm_pf_r, mm_rt_v, mm_rt_i, mm_rt_r, mm_c_eq, mm_c_ne, mm_c_lt, mm_c_ge, mm_c_gt, mm_c_le, mm_sw_n, mm_sw_c, mm_alc_n, mm_alc_c, mm_rc_n, mm_rc_c, reduceCtorEq, false_implies, implies_true, true_implies, true_or, or_true, false_or, or_false, not_false_eq_true, mm_at_0, mm_at_s, mm_set_0, mm_set_s, mm_nl_n, mm_nl_i, mm_nl_r, mm_args_n, mm_args_i, mm_args_l, mm_args_r, mm_pad_0, mm_pad_n, mm_pad_c, List.length_cons, List.length_nil, List.nil_append, List.cons_append, Nat.zero_le, Nat.sub_zero, true_and, and_true, Nat.reduceAdd, Nat.reduceLeDiff, Nat.reduceLT, Nat.reduceSub, Nat.lt_irrefl, Nat.zero_add, Nat.add_zero, k_20, k_10, k_01, mm_if_T, mm_if_F, not_true_eq_false, not_false_eq_true]
      exact hp
  · by_cases w2 : lL t lt p = 109
    · have hun : p_it (lL t lt) p (n, (A0, (cp, tn))) = match p_ns (lL t lt) 2 2 (fun _ => 0) (p + 1) with
        | none => none
        | some (a, q) => some ((n, (A0, (a 0, a 1))), q) := by unfold p_it; rw [if_neg w1, if_pos w2]; cases p_ns (lL t lt) 2 2 (fun _ => 0) (p + 1) <;> rfl
      have n1 : ¬ (109 : Int32) = 98 := by decide
      simp only [eC_29, eK_29_0, eK_29_1, eK_29_2, eK_29_3, eK_29_4, eK_29_5, eK_29_6, eK_29_7, eK_29_8, eK_29_9, eK_29_10, pw_aload_n, pw_goto, pw_iconst, pw_ifCond, pw_iload_n, pw_invokevirtual, pw_ireturn, pw_istore_n, pw_lookupswitch, pw_nop0, mm_pI_c, mm_pL_c, mm_pA_c, mm_pR_c, mm_p1_i, mm_p1_r, mm_pN_0, mm_pN_s, mm_lI_c, mm_lL_c, mm_lA_c, mm_wd_n, mm_wd_i, mm_wd_l, mm_wd_r, mm_gf_i, mm_gf_b, mm_gf_r, mm_rf_c, mm_pf_i, mm_pf_b, mm_pf_r, mm_rt_v, mm_rt_i, mm_rt_r, mm_c_eq, mm_c_ne, mm_c_lt, mm_c_ge, mm_c_gt, mm_c_le, mm_sw_n, mm_sw_c, mm_alc_n, mm_alc_c, mm_rc_n, mm_rc_c, reduceCtorEq, false_implies, implies_true, true_implies, true_or, or_true, false_or, or_false, not_false_eq_true, mm_at_0, mm_at_s, mm_set_0, mm_set_s, mm_nl_n, mm_nl_i, mm_nl_r, mm_args_n, mm_args_i, mm_args_l, mm_args_r, mm_pad_0, mm_pad_n, mm_pad_c, List.length_cons, List.length_nil, List.nil_append, List.cons_append, Nat.zero_le, Nat.sub_zero, true_and, and_true, Nat.reduceAdd, Nat.reduceLeDiff, Nat.reduceLT, Nat.reduceSub, Nat.lt_irrefl, Nat.zero_add, Nat.add_zero, k_20, k_10, k_01, mm_if_T, mm_if_F, not_true_eq_false, not_false_eq_true, e_32 (d + 2) hT (show p < 2 ^ 31 by omega), w2, n1, mm_if_v]
      refine t_30 (d + 1) (many := 2) (by omega) T1 (by omega) (fun M2 a q hq hF2 hat hq2 hc => ?_) (fun M2 hq hF2 => ?_)
      · rw [hq] at hun
        dsimp only at hun
        obtain ⟨b1, b2, b3⟩ := p_ns_v 2 _ _ _ _ hq hz
        have T2 := TX_F T1 hF2 hat
        simp only [eK_29_1, eK_29_2, eK_29_3, eK_29_4, eK_29_5, eK_29_6, eK_29_7, eK_29_8, eK_29_9, eK_29_10, pw_aload_n, pw_goto, pw_iconst, pw_ifCond, pw_iload_n, pw_invokevirtual, pw_ireturn, pw_istore_n, pw_lookupswitch, pw_nop0, mm_pI_c, mm_pL_c, mm_pA_c, mm_pR_c, mm_p1_i, mm_p1_r, mm_pN_0, mm_pN_s, mm_lI_c, mm_lL_c, mm_lA_c, mm_wd_n, mm_wd_i, mm_wd_l, mm_wd_r, mm_gf_i, mm_gf_b, mm_gf_r, mm_rf_c, mm_pf_i, mm_pf_b, mm_pf_r, mm_rt_v, mm_rt_i, mm_rt_r, mm_c_eq, mm_c_ne, mm_c_lt, mm_c_ge, mm_c_gt, mm_c_le, mm_sw_n, mm_sw_c, mm_alc_n, mm_alc_c, mm_rc_n, mm_rc_c, reduceCtorEq, false_implies, implies_true, true_implies, true_or, or_true, false_or, or_false, not_false_eq_true, mm_at_0, mm_at_s, mm_set_0, mm_set_s, mm_nl_n, mm_nl_i, mm_nl_r, mm_args_n, mm_args_i, mm_args_l, mm_args_r, mm_pad_0, mm_pad_n, mm_pad_c, List.length_cons, List.length_nil, List.nil_append, List.cons_append, Nat.zero_le, Nat.sub_zero, true_and, and_true, Nat.reduceAdd, Nat.reduceLeDiff, Nat.reduceLT, Nat.reduceSub, Nat.lt_irrefl, Nat.zero_add, Nat.add_zero, k_20, k_10, k_01, mm_if_T, mm_if_F, not_true_eq_false, not_false_eq_true]
        refine t_35 (d + 3) hs hn (LyS_2 hF2.1 hL1) (RS_Z hR1 hF2) ⟨T2.1.2.1, T2.1.2.2.2⟩ hc rfl (fun M3 r1 r9 => ?_)
        have hp := hok M3 A _ q hun hn r1 hE (TX_S T2 r9) (by omega) (b3 (by omega)) (F2_tr (F2_Z (FZ_tr F1 hF2)) (F2_S r9))
        simp only [eK_29_1, eK_29_2, eK_29_3, eK_29_4, eK_29_5, eK_29_6, eK_29_7, eK_29_8, eK_29_9, eK_29_10, pw_aload_n, pw_goto, pw_iconst, pw_ifCond, pw_iload_n, pw_invokevirtual, pw_ireturn, pw_istore_n, pw_lookupswitch, pw_nop0, mm_pI_c, mm_pL_c, mm_pA_c, mm_pR_c, mm_p1_i, mm_p1_r, mm_pN_0, mm_pN_s, mm_lI_c, mm_lL_c, mm_lA_c, mm_wd_n, mm_wd_i, mm_wd_l, mm_wd_r, mm_gf_i, mm_gf_b, mm_gf_r, mm_rf_c, mm_pf_i, mm_pf_b, mm_pf_r, mm_rt_v, mm_rt_i, mm_rt_r, mm_c_eq, mm_c_ne, mm_c_lt, mm_c_ge, mm_c_gt, mm_c_le, mm_sw_n, mm_sw_c, mm_alc_n, mm_alc_c, mm_rc_n, mm_rc_c, reduceCtorEq, false_implies, implies_true, true_implies, true_or, or_true, false_or, or_false, not_false_eq_true, mm_at_0, mm_at_s, mm_set_0, mm_set_s, mm_nl_n, mm_nl_i, mm_nl_r, mm_args_n, mm_args_i, mm_args_l, mm_args_r, mm_pad_0, mm_pad_n, mm_pad_c, List.length_cons, List.length_nil, List.nil_append, List.cons_append, Nat.zero_le, Nat.sub_zero, true_and, and_true, Nat.reduceAdd, Nat.reduceLeDiff, Nat.reduceLT, Nat.reduceSub, Nat.lt_irrefl, Nat.zero_add, Nat.add_zero, k_20, k_10, k_01, mm_if_T, mm_if_F, not_true_eq_false, not_false_eq_true]
        exact hp
      · rw [hq] at hun
        have hp := hno M2 hun (F2_Z (FZ_tr F1 hF2))
        simp only [eK_29_1, eK_29_2, eK_29_3, eK_29_4, eK_29_5, eK_29_6, eK_29_7, eK_29_8, eK_29_9, eK_29_10, pw_aload_n, pw_goto, pw_iconst, pw_ifCond, pw_iload_n, pw_invokevirtual, pw_ireturn, pw_istore_n, pw_lookupswitch, pw_nop0, mm_pI_c, mm_pL_c, mm_pA_c, mm_pR_c, mm_p1_i, mm_p1_r, mm_pN_0, mm_pN_s, mm_lI_c, mm_lL_c, mm_lA_c, mm_wd_n, mm_wd_i, mm_wd_l, mm_wd_r, mm_gf_i, mm_gf_b, mm_gf_r, mm_rf_c, mm_pf_i, mm_pf_b, mm_pf_r, mm_rt_v, mm_rt_i, mm_rt_r, mm_c_eq, mm_c_ne, mm_c_lt, mm_c_ge, mm_c_gt, mm_c_le, mm_sw_n, mm_sw_c, mm_alc_n, mm_alc_c, mm_rc_n, mm_rc_c, reduceCtorEq, false_implies, implies_true, true_implies, true_or, or_true, false_or, or_false, not_false_eq_true, mm_at_0, mm_at_s, mm_set_0, mm_set_s, mm_nl_n, mm_nl_i, mm_nl_r, mm_args_n, mm_args_i, mm_args_l, mm_args_r, mm_pad_0, mm_pad_n, mm_pad_c, List.length_cons, List.length_nil, List.nil_append, List.cons_append, Nat.zero_le, Nat.sub_zero, true_and, and_true, Nat.reduceAdd, Nat.reduceLeDiff, Nat.reduceLT, Nat.reduceSub, Nat.lt_irrefl, Nat.zero_add, Nat.add_zero, k_20, k_10, k_01, mm_if_T, mm_if_F, not_true_eq_false, not_false_eq_true]
        exact hp
    · by_cases w3 : lL t lt p = 98
      · have hun : p_it (lL t lt) p (n, (A0, (cp, tn))) = match p_ns (lL t lt) 5 5 (fun _ => 0) (p + 1) with
          | none => none
          | some (a, q) => if (isw n (a 0) ∧ ¬ 1 ≤ A0 (a 0).toNatClampNeg 5) ∧ (1 ≤ a 1 ∧ a 1 ≤ 30) ∧ (0 ≤ a 2 ∧ a 2 ≤ 30) ∧ (0 ≤ a 3 ∧ a 3 ≤ 40) ∧ (0 ≤ a 4 ∧ a 4 ≤ 23) then some ((n, (a_b A0 (a 0).toNatClampNeg a, (cp, tn))), q) else none := by unfold p_it; rw [if_neg w1, if_neg w2, if_pos w3]; cases p_ns (lL t lt) 5 5 (fun _ => 0) (p + 1) <;> rfl
        simp only [eC_29, eK_29_0, eK_29_1, eK_29_2, eK_29_3, eK_29_4, eK_29_5, eK_29_6, eK_29_7, eK_29_8, eK_29_9, eK_29_10, pw_aload_n, pw_goto, pw_iconst, pw_ifCond, pw_iload_n, pw_invokevirtual, pw_ireturn, pw_istore_n, pw_lookupswitch, pw_nop0, mm_pI_c, mm_pL_c, mm_pA_c, mm_pR_c, mm_p1_i, mm_p1_r, mm_pN_0, mm_pN_s, mm_lI_c, mm_lL_c, mm_lA_c, mm_wd_n, mm_wd_i, mm_wd_l, mm_wd_r, mm_gf_i, mm_gf_b, mm_gf_r, mm_rf_c, mm_pf_i, mm_pf_b, mm_pf_r, mm_rt_v, mm_rt_i, mm_rt_r, mm_c_eq, mm_c_ne, mm_c_lt, mm_c_ge, mm_c_gt, mm_c_le, mm_sw_n, mm_sw_c, mm_alc_n, mm_alc_c, mm_rc_n, mm_rc_c, reduceCtorEq, false_implies, implies_true, true_implies, true_or, or_true, false_or, or_false, not_false_eq_true, mm_at_0, mm_at_s, mm_set_0, mm_set_s, mm_nl_n, mm_nl_i, mm_nl_r, mm_args_n, mm_args_i, mm_args_l, mm_args_r, mm_pad_0, mm_pad_n, mm_pad_c, List.length_cons, List.length_nil, List.nil_append, List.cons_append, Nat.zero_le, Nat.sub_zero, true_and, and_true, Nat.reduceAdd, Nat.reduceLeDiff, Nat.reduceLT, Nat.reduceSub, Nat.lt_irrefl, Nat.zero_add, Nat.add_zero, k_20, k_10, k_01, mm_if_T, mm_if_F, not_true_eq_false, not_false_eq_true, e_32 (d + 2) hT (show p < 2 ^ 31 by omega), w3, mm_if_v]
        refine t_30 (d + 1) (many := 5) (by omega) T1 (by omega) (fun M2 a q hq hF2 hat hq2 hc => ?_) (fun M2 hq hF2 => ?_)
        · rw [hq] at hun
          dsimp only at hun
          obtain ⟨b1, b2, b3⟩ := p_ns_v 5 _ _ _ _ hq hz
          have T2 := TX_F T1 hF2 hat
          have eA : isw n (a 0) → A (a 0).toNatClampNeg 5 = A0 (a 0).toNatClampNeg 5 := fun hi => by
            obtain ⟨w, hw, e⟩ := isw_of hn hi
            rw [e, (nI_v7 hw hn).2.1]
            exact (hE w hw).1 5 (by omega)
          simp only [eK_29_1, eK_29_2, eK_29_3, eK_29_4, eK_29_5, eK_29_6, eK_29_7, eK_29_8, eK_29_9, eK_29_10, pw_aload_n, pw_goto, pw_iconst, pw_ifCond, pw_iload_n, pw_invokevirtual, pw_ireturn, pw_istore_n, pw_lookupswitch, pw_nop0, mm_pI_c, mm_pL_c, mm_pA_c, mm_pR_c, mm_p1_i, mm_p1_r, mm_pN_0, mm_pN_s, mm_lI_c, mm_lL_c, mm_lA_c, mm_wd_n, mm_wd_i, mm_wd_l, mm_wd_r, mm_gf_i, mm_gf_b, mm_gf_r, mm_rf_c, mm_pf_i, mm_pf_b, mm_pf_r, mm_rt_v, mm_rt_i, mm_rt_r, mm_c_eq, mm_c_ne, mm_c_lt, mm_c_ge, mm_c_gt, mm_c_le, mm_sw_n, mm_sw_c, mm_alc_n, mm_alc_c, mm_rc_n, mm_rc_c, reduceCtorEq, false_implies, implies_true, true_implies, true_or, or_true, false_or, or_false, not_false_eq_true, mm_at_0, mm_at_s, mm_set_0, mm_set_s, mm_nl_n, mm_nl_i, mm_nl_r, mm_args_n, mm_args_i, mm_args_l, mm_args_r, mm_pad_0, mm_pad_n, mm_pad_c, List.length_cons, List.length_nil, List.nil_append, List.cons_append, Nat.zero_le, Nat.sub_zero, true_and, and_true, Nat.reduceAdd, Nat.reduceLeDiff, Nat.reduceLT, Nat.reduceSub, Nat.lt_irrefl, Nat.zero_add, Nat.add_zero, k_20, k_10, k_01, mm_if_T, mm_if_F, not_true_eq_false, not_false_eq_true]
          refine t_36 d hs hn (LyS_2 hF2.1 hL1) (RS_Z hR1 hF2) ⟨T2.1.2.1, T2.1.2.2.2⟩ hc rfl (b1 0) (fun hv => ?_) (fun hv M3 r1 r9 => ?_)
          · have hp := hno M2 (by rw [hun, if_neg (fun z => hv (by rw [eA z.1.1]; exact z))]) (F2_Z (FZ_tr F1 hF2))
            simp only [eK_29_1, eK_29_2, eK_29_3, eK_29_4, eK_29_5, eK_29_6, eK_29_7, eK_29_8, eK_29_9, eK_29_10, pw_aload_n, pw_goto, pw_iconst, pw_ifCond, pw_iload_n, pw_invokevirtual, pw_ireturn, pw_istore_n, pw_lookupswitch, pw_nop0, mm_pI_c, mm_pL_c, mm_pA_c, mm_pR_c, mm_p1_i, mm_p1_r, mm_pN_0, mm_pN_s, mm_lI_c, mm_lL_c, mm_lA_c, mm_wd_n, mm_wd_i, mm_wd_l, mm_wd_r, mm_gf_i, mm_gf_b, mm_gf_r, mm_rf_c, mm_pf_i, mm_pf_b, mm_pf_r, mm_rt_v, mm_rt_i, mm_rt_r, mm_c_eq, mm_c_ne, mm_c_lt, mm_c_ge, mm_c_gt, mm_c_le, mm_sw_n, mm_sw_c, mm_alc_n, mm_alc_c, mm_rc_n, mm_rc_c, reduceCtorEq, false_implies, implies_true, true_implies, true_or, or_true, false_or, or_false, not_false_eq_true, mm_at_0, mm_at_s, mm_set_0, mm_set_s, mm_nl_n, mm_nl_i, mm_nl_r, mm_args_n, mm_args_i, mm_args_l, mm_args_r, mm_pad_0, mm_pad_n, mm_pad_c, List.length_cons, List.length_nil, List.nil_append, List.cons_append, Nat.zero_le, Nat.sub_zero, true_and, and_true, Nat.reduceAdd, Nat.reduceLeDiff, Nat.reduceLT, Nat.reduceSub, Nat.lt_irrefl, Nat.zero_add, Nat.add_zero, k_20, k_10, k_01, mm_if_T, mm_if_F, not_true_eq_false, not_false_eq_true]
            exact hp
          · have hp := hok M3 _ _ q (by rw [hun, if_pos (by rw [eA hv.1.1] at hv; exact hv)]) hn r1 (Eqv_b hE) (TX_S T2 r9) (by omega) (b3 (by omega)) (F2_tr (F2_Z (FZ_tr F1 hF2)) (F2_S r9))
            simp only [eK_29_1, eK_29_2, eK_29_3, eK_29_4, eK_29_5, eK_29_6, eK_29_7, eK_29_8, eK_29_9, eK_29_10, pw_aload_n, pw_goto, pw_iconst, pw_ifCond, pw_iload_n, pw_invokevirtual, pw_ireturn, pw_istore_n, pw_lookupswitch, pw_nop0, mm_pI_c, mm_pL_c, mm_pA_c, mm_pR_c, mm_p1_i, mm_p1_r, mm_pN_0, mm_pN_s, mm_lI_c, mm_lL_c, mm_lA_c, mm_wd_n, mm_wd_i, mm_wd_l, mm_wd_r, mm_gf_i, mm_gf_b, mm_gf_r, mm_rf_c, mm_pf_i, mm_pf_b, mm_pf_r, mm_rt_v, mm_rt_i, mm_rt_r, mm_c_eq, mm_c_ne, mm_c_lt, mm_c_ge, mm_c_gt, mm_c_le, mm_sw_n, mm_sw_c, mm_alc_n, mm_alc_c, mm_rc_n, mm_rc_c, reduceCtorEq, false_implies, implies_true, true_implies, true_or, or_true, false_or, or_false, not_false_eq_true, mm_at_0, mm_at_s, mm_set_0, mm_set_s, mm_nl_n, mm_nl_i, mm_nl_r, mm_args_n, mm_args_i, mm_args_l, mm_args_r, mm_pad_0, mm_pad_n, mm_pad_c, List.length_cons, List.length_nil, List.nil_append, List.cons_append, Nat.zero_le, Nat.sub_zero, true_and, and_true, Nat.reduceAdd, Nat.reduceLeDiff, Nat.reduceLT, Nat.reduceSub, Nat.lt_irrefl, Nat.zero_add, Nat.add_zero, k_20, k_10, k_01, mm_if_T, mm_if_F, not_true_eq_false, not_false_eq_true]
            exact hp
        · rw [hq] at hun
          have hp := hno M2 hun (F2_Z (FZ_tr F1 hF2))
          simp only [eK_29_1, eK_29_2, eK_29_3, eK_29_4, eK_29_5, eK_29_6, eK_29_7, eK_29_8, eK_29_9, eK_29_10, pw_aload_n, pw_goto, pw_iconst, pw_ifCond, pw_iload_n, pw_invokevirtual, pw_ireturn, pw_istore_n, pw_lookupswitch, pw_nop0, mm_pI_c, mm_pL_c, mm_pA_c, mm_pR_c, mm_p1_i, mm_p1_r, mm_pN_0, mm_pN_s, mm_lI_c, mm_lL_c, mm_lA_c, mm_wd_n, mm_wd_i, mm_wd_l, mm_wd_r, mm_gf_i, mm_gf_b, mm_gf_r, mm_rf_c, mm_pf_i, mm_pf_b, mm_pf_r, mm_rt_v, mm_rt_i, mm_rt_r, mm_c_eq, mm_c_ne, mm_c_lt, mm_c_ge, mm_c_gt, mm_c_le, mm_sw_n, mm_sw_c, mm_alc_n, mm_alc_c, mm_rc_n, mm_rc_c, reduceCtorEq, false_implies, implies_true, true_implies, true_or, or_true, false_or, or_false, not_false_eq_true, mm_at_0, mm_at_s, mm_set_0, mm_set_s, mm_nl_n, mm_nl_i, mm_nl_r, mm_args_n, mm_args_i, mm_args_l, mm_args_r, mm_pad_0, mm_pad_n, mm_pad_c, List.length_cons, List.length_nil, List.nil_append, List.cons_append, Nat.zero_le, Nat.sub_zero, true_and, and_true, Nat.reduceAdd, Nat.reduceLeDiff, Nat.reduceLT, Nat.reduceSub, Nat.lt_irrefl, Nat.zero_add, Nat.add_zero, k_20, k_10, k_01, mm_if_T, mm_if_F, not_true_eq_false, not_false_eq_true]
          exact hp
      · have hp := hno _ (by unfold p_it; rw [if_neg w1, if_neg w2, if_neg w3]) (F2_Z F1)
        simp only [eC_29, eK_29_0, eK_29_1, eK_29_2, eK_29_3, eK_29_4, eK_29_5, eK_29_6, eK_29_7, eK_29_8, eK_29_9, eK_29_10, pw_aload_n, pw_goto, pw_iconst, pw_ifCond, pw_iload_n, pw_invokevirtual, pw_ireturn, pw_istore_n, pw_lookupswitch, pw_nop0, mm_pI_c, mm_pL_c, mm_pA_c, mm_pR_c, mm_p1_i, mm_p1_r, mm_pN_0, mm_pN_s, mm_lI_c, mm_lL_c, mm_lA_c, mm_wd_n, mm_wd_i, mm_wd_l, mm_wd_r, mm_gf_i, mm_gf_b, mm_gf_r, mm_rf_c, mm_pf_i, mm_pf_b, mm_pf_r, mm_rt_v, mm_rt_i, mm_rt_r, mm_c_eq, mm_c_ne, mm_c_lt, mm_c_ge, mm_c_gt, mm_c_le, mm_sw_n, mm_sw_c, mm_alc_n, mm_alc_c, mm_rc_n, mm_rc_c, reduceCtorEq, false_implies, implies_true, true_implies, true_or, or_true, false_or, or_false, not_false_eq_true, mm_at_0, mm_at_s, mm_set_0, mm_set_s, mm_nl_n, mm_nl_i, mm_nl_r, mm_args_n, mm_args_i, mm_args_l, mm_args_r, mm_pad_0, mm_pad_n, mm_pad_c, List.length_cons, List.length_nil, List.nil_append, List.cons_append, Nat.zero_le, Nat.sub_zero, true_and, and_true, Nat.reduceAdd, Nat.reduceLeDiff, Nat.reduceLT, Nat.reduceSub, Nat.lt_irrefl, Nat.zero_add, Nat.add_zero, k_20, k_10, k_01, mm_if_T, mm_if_F, not_true_eq_false, not_false_eq_true, e_32 (d + 2) hT (show p < 2 ^ 31 by omega), w1, w2, w3, mm_if_v]
        exact hp

