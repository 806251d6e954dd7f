/-! THE REFERENCE: the text read -/
def RN (M : mm_M) (n : Nat) (A : Nat → Nat → Int32) : Prop := mm_I M 6 0 4 = nI n ∧ ∀ w, w < n → mm_I M 7 8 w = A w 0 ∧ mm_I M 7 9 w = A w 1 ∧ mm_I M 7 10 w = A w 2
def PR (M : mm_M) (Z : Nat × St) : Prop := Z.1 ≤ 7 ∧ RN M Z.1 Z.2.1 ∧ RB M 429 7 (Z.2, 0) ∧ WF Z.1 Z.2.1 ∧ (∀ w, Z.2.1 w 3 = 0 ∧ Z.2.1 w 4 = 0) ∧ ∀ w, Z.1 ≤ w → Z.2.1 w 5 = 0
def FW (M M' : mm_M) : Prop := M'.2 = M.2 ∧ ∀ c i k, ¬ (c = 6 ∧ (k = 4 ∨ k = 13 ∨ k = 15)) → ¬ (c = 7 ∧ 8 ≤ i ∧ i ≤ 10) → ¬ (c = 7 ∧ i = 11 ∧ 429 ≤ k) → mm_I M' c i k = mm_I M c i k
theorem FW_rf (M : mm_M) : FW M M := ⟨rfl, fun _ _ _ _ _ _ => rfl⟩
theorem FW_tr {M M1 M2 : mm_M} (h : FW M M1) (h' : FW M1 M2) : FW M M2 := ⟨h'.1.trans h.1, fun c i k a b e => (h'.2 c i k a b e).trans (h.2 c i k a b e)⟩
theorem FW_A {M M' : mm_M} (h : FA M M') : FW M M' := ⟨h.1, fun c i k a _ _ => h.2 c i k (by omega)⟩
theorem FW_s {M M' : mm_M} {c i k : Nat} {v : Int32} (h : FW M M') (hc : (c = 6 ∧ (k = 4 ∨ k = 13 ∨ k = 15)) ∨ (c = 7 ∧ 8 ≤ i ∧ i ≤ 10) ∨ (c = 7 ∧ i = 11 ∧ 429 ≤ k)) : FW M (mm_sI M' c i k v) := ⟨h.1, fun c' i' k' a b e => by rw [mm_I_sI, if_neg (by omega)]; exact h.2 c' i' k' a b e⟩
theorem PR_e {M M' : mm_M} {Z : Nat × St} (h : PR M Z) (e : ∀ c i k, (c = 6 ∧ k = 4) ∨ (c = 7 ∧ 8 ≤ i ∧ i ≤ 11) → mm_I M' c i k = mm_I M c i k) : PR M' Z := by
  obtain ⟨h1, ⟨h2, h3⟩, h4, h5, h6, h7⟩ := h
  refine ⟨h1, ⟨by rw [e 6 0 4 (by omega)]; exact h2, fun w hw => ?_⟩, RB_e h4 (by omega) (fun k _ _ => e 7 11 k (by omega)), h5, h6, h7⟩
  rw [e 7 8 w (by omega), e 7 9 w (by omega), e 7 10 w (by omega)]
  exact h3 w hw
theorem PR_A {M M' : mm_M} {Z : Nat × St} (h : PR M Z) (hF : FA M M') : PR M' Z := PR_e h (fun c i k q => hF.2 c i k (by omega))
theorem TM_W {M M' : mm_M} {t : Nat} {lt : Nat → Int32} {p p' : Nat} {e e' : Bool} (h : TM M t lt p e) (hF : FW M M') (h1 : mm_I M' 6 0 13 = nI p') (h2 : mm_I M' 6 0 15 = bo e') : TM M' t lt p' e' := ⟨h.1, by rw [hF.2 6 0 11 (by omega) (by omega) (by omega)]; exact h.2.1, fun i hi => by rw [hF.2 8 0 i (by omega) (by omega) (by omega)]; exact h.2.2.1 i hi, h1, h2⟩

theorem r_102 (d : Nat) {M : mm_M} {post : mm_Post} (hL : LyM M) {n : Nat} (hn : n < 7) (h4 : mm_I M 6 0 4 = nI n) (x y z : Int32) : pC (d + 1) 102 [.inr (.inr (6, 0)), .inl x, .inl y, .inl z] M post = post none (mm_sI (mm_sI (mm_sI (mm_sI M 7 8 n x) 7 9 n y) 7 10 n z) 6 0 4 (nI (n + 1))) := by
  have l1 := hL.1.2.2.2.2.2.2.1
  have l2 : mm_L M 7 11 = 468 := hL.2.2.2.2.2.2.2.1
  have b1 := hL.1.2.2.2.1
  have b2 := hL.1.2.2.2.2.1
  have b3 := hL.1.2.2.2.2.2.1
  have b4 : mm_L M 7 8 = 7 := hL.2.2.2.2.1
  have b5 : mm_L M 7 9 = 7 := hL.2.2.2.2.2.1
  have b6 : mm_L M 7 10 = 7 := hL.2.2.2.2.2.2.1
  simp (disch := omega) only [eC_102, eK_102_0, pw_iconst, pw_return_, qw_aload_n0, qw_dup_i, qw_dup_r, qw_gf_b, qw_gf_i, qw_gf_r, qw_iadd, qw_iastore, qw_iload_n1, qw_iload_n2, qw_iload_n3, qw_pf_b, qw_pf_i, qw_pf_r, mm_rf_c, mm_rt_v, mm_rt_i, mm_rt_r, mm_alc_n, mm_alc_c, mm_rc_n, mm_rc_c, mm_wd_n, mm_wd_i, mm_wd_l, mm_wd_r, reduceCtorEq, false_implies, implies_true, true_implies, true_or, or_true, false_or, or_false, not_false_eq_true, mm_nl_n, mm_nl_i, mm_nl_r, mm_args_n, mm_args_i, mm_args_l, mm_args_r, mm_pad_0, mm_pad_n, mm_pad_c, List.length_cons, List.length_nil, List.nil_append, List.cons_append, Nat.zero_le, Nat.sub_zero, true_and, and_true, Nat.reduceAdd, Nat.reduceLeDiff, Nat.reduceLT, Nat.reduceSub, Nat.lt_irrefl, Nat.zero_add, Nat.add_zero, Nat.le_refl, k_20, k_10, k_01, ↓mm_if_T, ↓mm_if_F, ↓if10, ↓if00, not_true_eq_false, tf_01, ↓mm_if_tf, ↓mm_if_tn, ↓mm_if_nn, l1, l2, b1, b2, b3, b4, b5, b6, h4, vi_, ci_, mm_L_s, mm_R_s, mm_I_c, mm_I_s, nI_1]
theorem PR_comes {M : mm_M} {Z : Nat × St} (h : PR M Z) (h7 : Z.1 < 7) (a : Nat → Int32) (h0 : 0 ≤ a 0 ∧ a 0 ≤ 3) (h1 : 0 ≤ a 1 ∧ a 1 ≤ 40) : PR (mm_sI (mm_sI (mm_sI (mm_sI M 7 8 Z.1 (a 0)) 7 9 Z.1 (a 1)) 7 10 Z.1 (a 2)) 6 0 4 (nI (Z.1 + 1))) (Z.1 + 1, (a_w Z.2.1 Z.1 a, Z.2.2)) := by
  obtain ⟨g1, ⟨g2, g3⟩, g4, g5, g6, g7⟩ := h
  refine ⟨h7, ⟨mm_I_s, fun w hw => ?_⟩, ?_, WF_aw g5 h0 h1, fun w => ?_, fun w hw => ?_⟩
  · dsimp only at hw ⊢
    unfold a_w
    by_cases e : w = Z.1
    · rw [e]
      simp (disch := omega) only [mm_I_c, mm_I_i, mm_I_s, up_k, up_s, and_self]
    · obtain ⟨y1, y2, y3⟩ := g3 w (by omega)
      simp (disch := omega) only [mm_I_c, mm_I_i, mm_I_k, up_w, y1, y2, y3, and_self]
  · have gr : RB M 429 7 ((a_w Z.2.1 Z.1 a, Z.2.2), 0) := by
      obtain ⟨q1, q2, q3⟩ := g4
      have z5 := g7 Z.1 (Nat.le_refl _)
      have z3 := (g6 Z.1).1
      refine ⟨fun w hw => ?_, ?_, q3⟩
      · have qq := q1 w hw
        dsimp only at qq ⊢
        unfold a_w
        by_cases e : w = Z.1
        · rw [e] at qq ⊢
          rw [z5, z3] at qq
          simp (disch := omega) only [up_k, up_s] at qq ⊢
          exact ⟨qq.1, qq.2.1, qq.2.2.1, qq.2.2.2.1, fun z => absurd z (by decide)⟩
        · simp (disch := omega) only [up_w]
          exact qq
      · rw [q2]
        refine (g_fb_c (fun w _ => ?_)).symm
        dsimp only
        unfold a_w
        by_cases e : w = Z.1
        · rw [e]
          simp (disch := omega) only [up_k, up_s]
          exact ((g6 Z.1).2).symm
        · simp (disch := omega) only [up_w]
    exact RB_e gr (by omega) (fun k _ _ => by rw [mm_I_c (by omega), mm_I_i (by omega), mm_I_i (by omega), mm_I_i (by omega)])
  · dsimp only
    unfold a_w
    by_cases e : w = Z.1
    · rw [e]
      simp (disch := omega) only [up_k, up_s, and_self]
    · simp (disch := omega) only [up_w]
      exact g6 w
  · dsimp only at hw ⊢
    unfold a_w
    simp (disch := omega) only [up_w]
    exact g7 w (by omega)

theorem r_111n (d : Nat) {M : mm_M} {post : mm_Post} {t : Nat} {lt : Nat → Int32} (hL : LyM M) (r : R3) (hT : TM M t lt r.2.1 r.2.2) (hp : r.2.1 < 80000) (lo hi : Int32) (h : ∀ M', FA M M' → TM M' t lt (nx_ (lL t lt) r lo hi).2.1 (nx_ (lL t lt) r lo hi).2.2 → post (some (.inl (nx_ (lL t lt) r lo hi).1)) M') : pC (d + 3) 111 [.inr (.inr (6, 0)), .inl lo, .inl hi] M post := r_111 d hL hT hp lo hi h

set_option maxHeartbeats 4000000 in
theorem k_112 (d : Nat) {M : mm_M} {post : mm_Post} {t : Nat} {lt : Nat → Int32} {Z : Nat × St} (hL : LyM M) (hP : PR M Z) (r1 : R3) (hT : TM M t lt r1.2.1 r1.2.2) (hp : r1.2.1 < 2000) (hw : r1.2.2 = false → Z.1 < 7 ∧ 0 ≤ r1.1 ∧ r1.1 ≤ 3) (u1 u2 u3 : Option mm_V) (hu : mm_nl u1 ∧ mm_nl u2) (h : ∀ M', FW M M' → TM M' t lt (w2_ (lL t lt) Z r1).1 (w2_ (lL t lt) Z r1).2.1 → ((w2_ (lL t lt) Z r1).2.1 = false → PR M' (w2_ (lL t lt) Z r1).2.2) → post none M') : pK (d + 3) 112 post 4 [some (.inr (.inr (6, 0))), u1, u2, u3] [.inl r1.1] M (0, 0) := by
  obtain ⟨hu1, hu2⟩ := hu
  rw [eK_112_4]
  simp (disch := omega) only [pw_bipush, pw_iconst, pw_nop0, qw_aload_n0, qw_gf_b, qw_gf_i, qw_gf_r, qw_if_ne, qw_iload_n1, qw_iload_n2, qw_iload_n3, qw_invokevirtual3, qw_invokevirtual4, qw_istore_n1, qw_istore_n2, qw_istore_n3, mm_rf_c, mm_rt_v, mm_rt_i, mm_rt_r, mm_alc_n, mm_alc_c, mm_rc_n, mm_rc_c, mm_wd_n, mm_wd_i, mm_wd_l, mm_wd_r, reduceCtorEq, false_implies, implies_true, true_implies, true_or, or_true, false_or, or_false, not_false_eq_true, mm_nl_n, mm_nl_i, mm_nl_r, mm_args_n, mm_args_i, mm_args_l, mm_args_r, mm_pad_0, mm_pad_n, mm_pad_c, List.length_cons, List.length_nil, List.nil_append, List.cons_append, Nat.zero_le, Nat.sub_zero, true_and, and_true, Nat.reduceAdd, Nat.reduceLeDiff, Nat.reduceLT, Nat.reduceSub, Nat.lt_irrefl, Nat.zero_add, Nat.add_zero, Nat.le_refl, k_20, k_10, k_01, ↓mm_if_T, ↓mm_if_F, ↓if10, ↓if00, not_true_eq_false, tf_01, ↓mm_if_tf, ↓mm_if_tn, ↓mm_if_nn, hu1, hu2]
  refine r_111n d hL r1 hT (by omega) 0 40 (fun M1 F1 T1 => ?_)
  unfold w2_ at h
  have q2 := nx_q (L := lL t lt) (r := r1) (lo := 0) (hi := 40)
  have k2 := nx_k (L := lL t lt) (r := r1) (lo := 0) (hi := 40)
  generalize nx_ (lL t lt) r1 0 40 = r2 at *
  simp (disch := omega) only [pw_bipush, pw_iconst, pw_nop0, qw_aload_n0, qw_gf_b, qw_gf_i, qw_gf_r, qw_if_ne, qw_iload_n1, qw_iload_n2, qw_iload_n3, qw_invokevirtual3, qw_invokevirtual4, qw_istore_n1, qw_istore_n2, qw_istore_n3, mm_rf_c, mm_rt_v, mm_rt_i, mm_rt_r, mm_alc_n, mm_alc_c, mm_rc_n, mm_rc_c, mm_wd_n, mm_wd_i, mm_wd_l, mm_wd_r, reduceCtorEq, false_implies, implies_true, true_implies, true_or, or_true, false_or, or_false, not_false_eq_true, mm_nl_n, mm_nl_i, mm_nl_r, mm_args_n, mm_args_i, mm_args_l, mm_args_r, mm_pad_0, mm_pad_n, mm_pad_c, List.length_cons, List.length_nil, List.nil_append, List.cons_append, Nat.zero_le, Nat.sub_zero, true_and, and_true, Nat.reduceAdd, Nat.reduceLeDiff, Nat.reduceLT, Nat.reduceSub, Nat.lt_irrefl, Nat.zero_add, Nat.add_zero, Nat.le_refl, k_20, k_10, k_01, ↓mm_if_T, ↓mm_if_F, ↓if10, ↓if00, not_true_eq_false, tf_01, ↓mm_if_tf, ↓mm_if_tn, ↓mm_if_nn, hu1, hu2]
  refine r_111n d (LyM_2 F1.1 hL) r2 T1 (by omega) 1 20 (fun M2 F2 T2 => ?_)
  unfold w3_ w4_ at h
  have k3 := nx_k (L := lL t lt) (r := r2) (lo := 1) (hi := 20)
  generalize nx_ (lL t lt) r2 1 20 = r3 at *
  have h5 := T2.2.2.2.2
  have F3 := FA_tr F1 F2
  have P3 := PR_A hP F3
  have hL3 := LyM_2 F3.1 hL
  cases e : r3.2.2 with
  | true =>
    have h5 : mm_I M2 6 0 15 = 1 := by rw [h5, e]; rfl
    rw [e] at h
    simp (disch := omega) only [eK_112_5, pw_bipush, pw_iconst, pw_nop0, pw_return_, qw_aload_n0, qw_gf_b, qw_gf_i, qw_gf_r, qw_if_ne, qw_iload_n1, qw_iload_n2, qw_iload_n3, qw_invokevirtual3, qw_invokevirtual4, qw_istore_n1, qw_istore_n2, qw_istore_n3, mm_rf_c, mm_rt_v, mm_rt_i, mm_rt_r, mm_alc_n, mm_alc_c, mm_rc_n, mm_rc_c, mm_wd_n, mm_wd_i, mm_wd_l, mm_wd_r, reduceCtorEq, false_implies, implies_true, true_implies, true_or, or_true, false_or, or_false, not_false_eq_true, mm_nl_n, mm_nl_i, mm_nl_r, mm_args_n, mm_args_i, mm_args_l, mm_args_r, mm_pad_0, mm_pad_n, mm_pad_c, List.length_cons, List.length_nil, List.nil_append, List.cons_append, Nat.zero_le, Nat.sub_zero, true_and, and_true, Nat.reduceAdd, Nat.reduceLeDiff, Nat.reduceLT, Nat.reduceSub, Nat.lt_irrefl, Nat.zero_add, Nat.add_zero, Nat.le_refl, k_20, k_10, k_01, ↓mm_if_T, ↓mm_if_F, ↓if10, ↓if00, not_true_eq_false, tf_01, ↓mm_if_tf, ↓mm_if_tn, ↓mm_if_nn, hu1, hu2, h5]
    exact h M2 (FW_A F3) (by rw [e] at T2; exact T2) (fun z => absurd z (by simp))
  | false =>
    have h5 : mm_I M2 6 0 15 = 0 := by rw [h5, e]; rfl
    rw [e] at h
    obtain ⟨e2, _, _, g3⟩ := k3 e
    obtain ⟨e1, _, _, g2⟩ := k2 e2
    obtain ⟨z7, g1⟩ := hw e1
    have PC := PR_comes P3 z7 (v3_ r1.1 r2.1 r3.1) g1 g2
    simp (disch := omega) only [eK_112_5, pw_bipush, pw_iconst, pw_nop0, pw_return_, qw_aload_n0, qw_gf_b, qw_gf_i, qw_gf_r, qw_if_ne, qw_iload_n1, qw_iload_n2, qw_iload_n3, qw_invokevirtual3, qw_invokevirtual4, qw_istore_n1, qw_istore_n2, qw_istore_n3, mm_rf_c, mm_rt_v, mm_rt_i, mm_rt_r, mm_alc_n, mm_alc_c, mm_rc_n, mm_rc_c, mm_wd_n, mm_wd_i, mm_wd_l, mm_wd_r, reduceCtorEq, false_implies, implies_true, true_implies, true_or, or_true, false_or, or_false, not_false_eq_true, mm_nl_n, mm_nl_i, mm_nl_r, mm_args_n, mm_args_i, mm_args_l, mm_args_r, mm_pad_0, mm_pad_n, mm_pad_c, List.length_cons, List.length_nil, List.nil_append, List.cons_append, Nat.zero_le, Nat.sub_zero, true_and, and_true, Nat.reduceAdd, Nat.reduceLeDiff, Nat.reduceLT, Nat.reduceSub, Nat.lt_irrefl, Nat.zero_add, Nat.add_zero, Nat.le_refl, k_20, k_10, k_01, ↓mm_if_T, ↓mm_if_F, ↓if10, ↓if00, not_true_eq_false, tf_01, ↓mm_if_tf, ↓mm_if_tn, ↓mm_if_nn, hu1, hu2, h5, r_102 (d + 2) hL3 z7 P3.2.1.1]
    exact h _ (FW_s (FW_s (FW_s (FW_s (FW_A F3) (by omega)) (by omega)) (by omega)) (by omega)) (TM_W (by rw [e] at T2; exact T2) (FW_s (FW_s (FW_s (FW_s (FW_rf M2) (by omega)) (by omega)) (by omega)) (by omega)) (by rw [mm_I_k (by omega), mm_I_c (by omega), mm_I_c (by omega), mm_I_c (by omega)]; exact T2.2.2.2.1) (by rw [mm_I_k (by omega), mm_I_c (by omega), mm_I_c (by omega), mm_I_c (by omega)]; exact h5)) (fun _ => PC)
theorem r_112 (d : Nat) {M : mm_M} {post : mm_Post} {t : Nat} {lt : Nat → Int32} {p : Nat} {Z : Nat × St} (hL : LyM M) (hT : TM M t lt p false) (hP : PR M Z) (hp : p < 1000) (h : ∀ M', FW M M' → TM M' t lt (wi (lL t lt) p Z).1 (wi (lL t lt) p Z).2.1 → ((wi (lL t lt) p Z).2.1 = false → PR M' (wi (lL t lt) p Z).2.2) → post none M') : pC (d + 4) 112 [.inr (.inr (6, 0))] M post := by
  have hn : mm_I M 6 0 4 = nI Z.1 := hP.2.1.1
  unfold wi w1_ at h
  have FA1 : ∀ b, FA M (mm_sI M 6 0 15 (bo b)) := fun b => FA_s (FA_rf M) (by omega)
  have T1 : ∀ b, TM (mm_sI M 6 0 15 (bo b)) t lt p b := fun b => TM_F hT (FA1 b) (by rw [mm_I_k (by omega)]; exact hT.2.2.2.1) mm_I_s
  by_cases c : Z.1 = 7
  · rw [if_pos c] at h
    have c' : nI Z.1 = 7 := by rw [c]; rfl
    have := k_112 d (M := mm_sI M 6 0 15 (bo true)) (LyM_2 (M := M) rfl hL) (PR_A hP (FA1 true)) (0, p, true) (T1 true) (show p < 2000 by omega) (fun z => absurd z (by simp)) none none none ⟨trivial, trivial⟩ (fun M' F T P => h M' (FW_tr (FW_A (FA1 true)) F) T P)
    simp (disch := omega) only [eC_112, eK_112_0, eK_112_1, eK_112_2, eK_112_3, pw_bipush, pw_goto, pw_iconst, pw_nop0, qw_aload_n0, qw_gf_b, qw_gf_i, qw_gf_r, qw_if_eq, qw_if_icmp_ne, qw_invokevirtual3, qw_pf_b, qw_pf_i, qw_pf_r, mm_rf_c, mm_rt_v, mm_rt_i, mm_rt_r, mm_alc_n, mm_alc_c, mm_rc_n, mm_rc_c, mm_wd_n, mm_wd_i, mm_wd_l, mm_wd_r, reduceCtorEq, false_implies, implies_true, true_implies, true_or, or_true, false_or, or_false, not_false_eq_true, mm_nl_n, mm_nl_i, mm_nl_r, mm_args_n, mm_args_i, mm_args_l, mm_args_r, mm_pad_0, mm_pad_n, mm_pad_c, List.length_cons, List.length_nil, List.nil_append, List.cons_append, Nat.zero_le, Nat.sub_zero, true_and, and_true, Nat.reduceAdd, Nat.reduceLeDiff, Nat.reduceLT, Nat.reduceSub, Nat.lt_irrefl, Nat.zero_add, Nat.add_zero, Nat.le_refl, k_20, k_10, k_01, ↓mm_if_T, ↓mm_if_F, ↓if10, ↓if00, not_true_eq_false, tf_01, ↓mm_if_tf, ↓mm_if_tn, ↓mm_if_nn, hn, ↓mm_if_t c', mm_I_s]
    exact this
  · rw [if_neg c] at h
    have c' : ¬ nI Z.1 = 7 := fun z => c ((nI_eq (a := Z.1) (b := 7) (by have := hP.1; omega) (by omega)).mp z)
    have h7 := hP.1
    simp (disch := omega) only [eC_112, eK_112_0, eK_112_1, eK_112_2, eK_112_3, pw_bipush, pw_goto, pw_iconst, pw_nop0, qw_aload_n0, qw_gf_b, qw_gf_i, qw_gf_r, qw_if_eq, qw_if_icmp_ne, qw_invokevirtual3, qw_pf_b, qw_pf_i, qw_pf_r, mm_rf_c, mm_rt_v, mm_rt_i, mm_rt_r, mm_alc_n, mm_alc_c, mm_rc_n, mm_rc_c, mm_wd_n, mm_wd_i, mm_wd_l, mm_wd_r, reduceCtorEq, false_implies, implies_true, true_implies, true_or, or_true, false_or, or_false, not_false_eq_true, mm_nl_n, mm_nl_i, mm_nl_r, mm_args_n, mm_args_i, mm_args_l, mm_args_r, mm_pad_0, mm_pad_n, mm_pad_c, List.length_cons, List.length_nil, List.nil_append, List.cons_append, Nat.zero_le, Nat.sub_zero, true_and, and_true, Nat.reduceAdd, Nat.reduceLeDiff, Nat.reduceLT, Nat.reduceSub, Nat.lt_irrefl, Nat.zero_add, Nat.add_zero, Nat.le_refl, k_20, k_10, k_01, ↓mm_if_T, ↓mm_if_F, ↓if10, ↓if00, not_true_eq_false, tf_01, ↓mm_if_tf, ↓mm_if_tn, ↓mm_if_nn, hn, ↓mm_if_f c', mm_I_s]
    refine r_110 (d + 1) (LyM_2 (M := M) (M' := mm_sI M 6 0 15 (bo false)) rfl hL) (T1 false) (by omega) 0 3 (fun M1 F1 T2 => ?_)
    have q1 := rN_q (L := lL t lt) (p := p) (lo := 0) (hi := 3)
    have k1 := rN_k (L := lL t lt) (p := p) (lo := 0) (hi := 3)
    generalize rN (lL t lt) p 0 3 = r1 at *
    have := k_112 d (M := M1) (LyM_2 (M := M) F1.1 hL) (PR_A hP (FA_tr (FA1 false) F1)) r1 T2 (by omega) (fun z => ⟨by omega, (k1 z).2⟩) none none none ⟨trivial, trivial⟩ (fun M' F T P => h M' (FW_tr (FW_A (FA_tr (FA1 false) F1)) F) T P)
    simp (disch := omega) only [pw_iconst, pw_nop0, qw_aload_n0, qw_invokevirtual3, mm_rf_c, mm_rt_v, mm_rt_i, mm_rt_r, mm_alc_n, mm_alc_c, mm_rc_n, mm_rc_c, mm_wd_n, mm_wd_i, mm_wd_l, mm_wd_r, reduceCtorEq, false_implies, implies_true, true_implies, true_or, or_true, false_or, or_false, not_false_eq_true, mm_nl_n, mm_nl_i, mm_nl_r, mm_args_n, mm_args_i, mm_args_l, mm_args_r, mm_pad_0, mm_pad_n, mm_pad_c, List.length_cons, List.length_nil, List.nil_append, List.cons_append, Nat.zero_le, Nat.sub_zero, true_and, and_true, Nat.reduceAdd, Nat.reduceLeDiff, Nat.reduceLT, Nat.reduceSub, Nat.lt_irrefl, Nat.zero_add, Nat.add_zero, Nat.le_refl, k_20, k_10, k_01, ↓mm_if_T, ↓mm_if_F, ↓if10, ↓if00, not_true_eq_false, tf_01, ↓mm_if_tf, ↓mm_if_tn, ↓mm_if_nn]
    exact this

