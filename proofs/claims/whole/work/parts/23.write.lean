/-! THE CLASS: a street, written -/
def up (A : Nat → Nat → Int32) (w k : Nat) (v : Int32) : Nat → Nat → Int32 := fun w' k' => if w' = w ∧ k' = k then v else A w' k'
/-- only street s has changed, and there numbers alone -/
def FS (M M' : mm_M) (s : Nat) : Prop := M'.2 = M.2 ∧ ∀ c i k, ¬ (c = 2 ∧ i = s) → ¬ (c = 4 ∧ 7 * s ≤ i ∧ i < 7 * s + 7) → mm_I M' c i k = mm_I M c i k
theorem FS_rf (M : mm_M) (s : Nat) : FS M M s := ⟨rfl, fun _ _ _ _ _ => rfl⟩
theorem FS_tr {M M1 M2 : mm_M} {s : Nat} (h : FS M M1 s) (h' : FS M1 M2 s) : FS M M2 s := ⟨h'.1.trans h.1, fun c i k a b => (h'.2 c i k a b).trans (h.2 c i k a b)⟩
theorem FS_2 {M M' : mm_M} {s k : Nat} {v : Int32} (h : FS M M' s) : FS M (mm_sI M' 2 s k v) s := ⟨h.1, fun c i k' a b => by rw [mm_I_sI, if_neg (fun z => a ⟨z.1, z.2.1⟩)]; exact h.2 c i k' a b⟩
theorem FS_4 {M M' : mm_M} {s w k : Nat} {v : Int32} (h : FS M M' s) (hw : w < 7) : FS M (mm_sI M' 4 (7 * s + w) k v) s := ⟨h.1, fun c i k' a b => by rw [mm_I_sI, if_neg (fun z => b ⟨z.1, by omega, by omega⟩)]; exact h.2 c i k' a b⟩
theorem LyS_2 {M M' : mm_M} (h : M'.2 = M.2) (hL : LyS M) : LyS M' := fun s hs => by
  obtain ⟨h1, h2, h3⟩ := hL s hs
  unfold mm_R mm_L at *
  rw [h]
  exact ⟨h1, h2, h3⟩
theorem RS_w {M : mm_M} {s n : Nat} {A : Nat → Nat → Int32} {dy cp tn : Int32} (h : RS M s n A dy cp tn) (w k : Nat) (v : Int32) : RS (mm_sI M 4 (7 * s + w) k v) s n (up A w k v) dy cp tn := by
  obtain ⟨h1, h2, h3, h4, h5⟩ := h
  refine ⟨by rw [mm_I_c (by decide)]; exact h1, by rw [mm_I_c (by decide)]; exact h2, by rw [mm_I_c (by decide)]; exact h3, by rw [mm_I_c (by decide)]; exact h4, fun w' hw' k' hk' => ?_⟩
  rw [mm_I_sI]
  unfold up
  by_cases e : w' = w ∧ k' = k
  · rw [if_pos ⟨rfl, by omega, e.2⟩, if_pos e]
  · rw [if_neg (fun z => e ⟨by omega, z.2.2⟩), if_neg e]
    exact h5 w' hw' k' hk'
theorem RS_2 {M : mm_M} {s n : Nat} {A : Nat → Nat → Int32} {dy cp tn : Int32} (h : RS M s n A dy cp tn) (v : Int32) : RS (mm_sI M 2 s 2 v) s n A v cp tn := by
  obtain ⟨h1, h2, h3, h4, h5⟩ := h
  exact ⟨by rw [mm_I_k (by decide)]; exact h1, mm_I_s, by rw [mm_I_k (by decide)]; exact h3, by rw [mm_I_k (by decide)]; exact h4, fun w hw k hk => by rw [mm_I_c (by decide)]; exact h5 w hw k hk⟩
theorem RS_3 {M : mm_M} {s n : Nat} {A : Nat → Nat → Int32} {dy cp tn : Int32} (h : RS M s n A dy cp tn) (v : Int32) : RS (mm_sI M 2 s 3 v) s n A dy v tn := by
  obtain ⟨h1, h2, h3, h4, h5⟩ := h
  exact ⟨by rw [mm_I_k (by decide)]; exact h1, by rw [mm_I_k (by decide)]; exact h2, mm_I_s, by rw [mm_I_k (by decide)]; exact h4, fun w hw k hk => by rw [mm_I_c (by decide)]; exact h5 w hw k hk⟩
theorem RS_4 {M : mm_M} {s n : Nat} {A : Nat → Nat → Int32} {dy cp tn : Int32} (h : RS M s n A dy cp tn) (v : Int32) : RS (mm_sI M 2 s 4 v) s n A dy cp v := by
  obtain ⟨h1, h2, h3, h4, h5⟩ := h
  exact ⟨by rw [mm_I_k (by decide)]; exact h1, by rw [mm_I_k (by decide)]; exact h2, by rw [mm_I_k (by decide)]; exact h3, mm_I_s, fun w hw k hk => by rw [mm_I_c (by decide)]; exact h5 w hw k hk⟩
theorem RS_F {M M' : mm_M} {s s' n : Nat} {A : Nat → Nat → Int32} {dy cp tn : Int32} (h : RS M s n A dy cp tn) (hF : FS M M' s') (hs : ¬ s = s') (hn : n ≤ 7) : RS M' s n A dy cp tn := by
  obtain ⟨h1, h2, h3, h4, h5⟩ := h
  have k2 : ∀ k, mm_I M' 2 s k = mm_I M 2 s k := fun k => hF.2 2 s k (fun z => hs z.2) (fun z => by omega)
  exact ⟨by rw [k2]; exact h1, by rw [k2]; exact h2, by rw [k2]; exact h3, by rw [k2]; exact h4, fun w hw k hk => by rw [hF.2 4 (7 * s + w) k (fun z => by omega) (fun z => by omega)]; exact h5 w hw k hk⟩
/-- a street's wrongs, copper, tin -/
abbrev St : Type := (Nat → Nat → Int32) × Int32 × Int32
def g_me (X : St) (w : Nat) : St := (up X.1 w 5 0, X.2.1 + X.1 w 6, X.2.2 + X.1 w 7)
def g_ca (X : St) (w : Nat) (c t : Int32) : St := (up (up (up (up X.1 w 6 c) w 7 t) w 8 (f_lo c t)) w 5 1, X.2.1 - c, X.2.2 - t)
def g_ha (A : Nat → Nat → Int32) (w : Nat) (p h : Int32) : Nat → Nat → Int32 := up (up (up A w 9 p) w 10 h) w 5 2
def g_ho (X : St) (w : Nat) : St := if X.1 w 2 ≤ X.1 w 3 + 1 then g_me (up (up X.1 w 3 (X.1 w 3 + 1)) w 4 1, X.2.1, X.2.2) w else (up X.1 w 3 (X.1 w 3 + 1), X.2.1, X.2.2)
def g_gl (X : St) (bits : Int32) : Nat → St
  | 0 => X
  | w + 1 => if (bits >>> (nI w &&& 31)) &&& 1 = 1 then g_ho (g_gl X bits w) w else g_gl X bits w
/-- a day goes by -/
def g_go (n : Nat) (X : St) (dy : Int32) : St := g_gl X (g_hb X.1 n (g_ev dy) n) n

set_option maxHeartbeats 4000000 in
theorem t_14 (d : Nat) {s n : Nat} {A : Nat → Nat → Int32} {dy cp tn : Int32} {M : mm_M} {post : mm_Post} (hs : s < 20) (hn : n ≤ 7) (hL : LyS M) (hR : RS M s n A dy cp tn) {w : Nat} (hw : w < n) (h : ∀ M', RS M' s n ((g_me (A, cp, tn) w).1) (dy) ((g_me (A, cp, tn) w).2.1) ((g_me (A, cp, tn) w).2.2) → FS M M' s → post none M') : pC (d + 1) 14 [.inr (.inr (2, s)), .inl (nI w)] M post := by
  have hR0 := hR
  obtain ⟨h1, h2, h3⟩ := hL s hs
  obtain ⟨s1, s2, s3, s4, s5⟩ := hR
  obtain ⟨q1, q2, q3⟩ := nI_v7 (show w < n by omega) hn
  have q4 := h3 w (by omega)
  have r := s5 w (by omega)
  have r6 := r 6 (by omega)
  have r7 := r 7 (by omega)
  simp only [eC_14, eK_14_0, pw_aaload, pw_aload_n, pw_dup, pw_getfield, pw_iadd, pw_iconst, pw_iload_n, pw_putfield, pw_return_, mm_pI_c, mm_pL_c, mm_pA_c, mm_pR_c, mm_p1_i, mm_p1_r, mm_pN_0, mm_pN_s, mm_lI_c, mm_lL_c, mm_lA_c, mm_wd_n, mm_wd_i, mm_wd_l, mm_wd_r, mm_gf_i, mm_gf_b, mm_gf_r, mm_rf_c, mm_pf_i, mm_pf_b, mm_pf_r, mm_rt_v, mm_rt_i, mm_rt_r, mm_c_eq, mm_c_ne, mm_c_lt, mm_c_ge, mm_c_gt, mm_c_le, mm_sw_n, mm_sw_c, mm_alc_n, mm_alc_c, mm_rc_n, mm_rc_c, reduceCtorEq, false_implies, implies_true, true_implies, true_or, or_true, false_or, or_false, not_false_eq_true, mm_at_0, mm_at_s, mm_set_0, mm_set_s, mm_nl_n, mm_nl_i, mm_nl_r, mm_args_n, mm_args_i, mm_args_l, mm_args_r, mm_pad_0, mm_pad_n, mm_pad_c, List.length_cons, List.length_nil, List.nil_append, List.cons_append, Nat.zero_le, Nat.sub_zero, true_and, and_true, Nat.reduceAdd, Nat.reduceLeDiff, Nat.reduceLT, Nat.reduceSub, Nat.lt_irrefl, Nat.zero_add, Nat.add_zero, k_20, k_10, k_01, mm_if_T, mm_if_F, not_true_eq_false, not_false_eq_true, h1, h2, s1, s2, s3, s4, q1, q2, q4, r6, r7, mm_I_k, mm_I_c, mm_I_s, mm_R_sI, mm_L_sI, mm_N_sI, Nat.reduceEqDiff, not_false_eq_true, ne_eq]
  exact h _ (RS_w (RS_4 (RS_3 hR0 _) _) w 5 0) (FS_4 (FS_2 (FS_2 (FS_rf _ _))) (by omega))
set_option maxHeartbeats 4000000 in
theorem t_13 (d : Nat) {s n : Nat} {A : Nat → Nat → Int32} {dy cp tn : Int32} {M : mm_M} {post : mm_Post} (hs : s < 20) (hn : n ≤ 7) (hL : LyS M) (hR : RS M s n A dy cp tn) {w : Nat} (hw : w < n) (c t : Int32) (h : ∀ M', RS M' s n ((g_ca (A, cp, tn) w c t).1) (dy) ((g_ca (A, cp, tn) w c t).2.1) ((g_ca (A, cp, tn) w c t).2.2) → FS M M' s → post none M') : pC (d + 4) 13 [.inr (.inr (2, s)), .inl (nI w), .inl c, .inl t] M post := by
  have hR0 := hR
  obtain ⟨h1, h2, h3⟩ := hL s hs
  obtain ⟨s1, s2, s3, s4, s5⟩ := hR
  obtain ⟨q1, q2, q3⟩ := nI_v7 (show w < n by omega) hn
  have q4 := h3 w (by omega)
  have r := s5 w (by omega)
  have r6 := r 6 (by omega)
  have r7 := r 7 (by omega)
  simp only [eC_13, eK_13_0, pw_aaload, pw_aload_n, pw_dup, pw_getfield, pw_iload_n, pw_invokevirtual, pw_isub, pw_putfield, pw_return_, mm_pI_c, mm_pL_c, mm_pA_c, mm_pR_c, mm_p1_i, mm_p1_r, mm_pN_0, mm_pN_s, mm_lI_c, mm_lL_c, mm_lA_c, mm_wd_n, mm_wd_i, mm_wd_l, mm_wd_r, mm_gf_i, mm_gf_b, mm_gf_r, mm_rf_c, mm_pf_i, mm_pf_b, mm_pf_r, mm_rt_v, mm_rt_i, mm_rt_r, mm_c_eq, mm_c_ne, mm_c_lt, mm_c_ge, mm_c_gt, mm_c_le, mm_sw_n, mm_sw_c, mm_alc_n, mm_alc_c, mm_rc_n, mm_rc_c, reduceCtorEq, false_implies, implies_true, true_implies, true_or, or_true, false_or, or_false, not_false_eq_true, mm_at_0, mm_at_s, mm_set_0, mm_set_s, mm_nl_n, mm_nl_i, mm_nl_r, mm_args_n, mm_args_i, mm_args_l, mm_args_r, mm_pad_0, mm_pad_n, mm_pad_c, List.length_cons, List.length_nil, List.nil_append, List.cons_append, Nat.zero_le, Nat.sub_zero, true_and, and_true, Nat.reduceAdd, Nat.reduceLeDiff, Nat.reduceLT, Nat.reduceSub, Nat.lt_irrefl, Nat.zero_add, Nat.add_zero, k_20, k_10, k_01, mm_if_T, mm_if_F, not_true_eq_false, not_false_eq_true, h1, h2, s1, s2, s3, s4, q1, q2, q4, r6, r7, mm_I_k, mm_I_c, mm_I_s, mm_R_sI, mm_L_sI, mm_N_sI, Nat.reduceEqDiff, not_false_eq_true, ne_eq, t_42]
  exact h _ (RS_w (RS_w (RS_w (RS_w (RS_4 (RS_3 hR0 _) _) w 6 c) w 7 t) w 8 _) w 5 1) (FS_4 (FS_4 (FS_4 (FS_4 (FS_2 (FS_2 (FS_rf _ _))) (by omega)) (by omega)) (by omega)) (by omega))
set_option maxHeartbeats 4000000 in
theorem t_24 (d : Nat) {s n : Nat} {A : Nat → Nat → Int32} {dy cp tn : Int32} {M : mm_M} {post : mm_Post} (hs : s < 20) (hn : n ≤ 7) (hL : LyS M) (hR : RS M s n A dy cp tn) {w : Nat} (hw : w < n) (h : ∀ M', RS M' s n ((g_ho (A, cp, tn) w).1) (dy) ((g_ho (A, cp, tn) w).2.1) ((g_ho (A, cp, tn) w).2.2) → FS M M' s → post none M') : pC (d + 2) 24 [.inr (.inr (2, s)), .inl (nI w)] M post := by
  have hR0 := hR
  obtain ⟨h1, h2, h3⟩ := hL s hs
  obtain ⟨s1, s2, s3, s4, s5⟩ := hR
  obtain ⟨q1, q2, q3⟩ := nI_v7 (show w < n by omega) hn
  have q4 := h3 w (by omega)
  have r := s5 w (by omega)
  have r2 := r 2 (by omega)
  have r3 := r 3 (by omega)
  have r6 := r 6 (by omega)
  have r7 := r 7 (by omega)
  simp only [eC_24, eK_24_0, eK_24_1, pw_aaload, pw_aload_n, pw_dup, pw_getfield, pw_iadd, pw_iconst, pw_if_icmp, pw_iload_n, pw_invokevirtual, pw_nop0, pw_putfield, pw_return_, mm_pI_c, mm_pL_c, mm_pA_c, mm_pR_c, mm_p1_i, mm_p1_r, mm_pN_0, mm_pN_s, mm_lI_c, mm_lL_c, mm_lA_c, mm_wd_n, mm_wd_i, mm_wd_l, mm_wd_r, mm_gf_i, mm_gf_b, mm_gf_r, mm_rf_c, mm_pf_i, mm_pf_b, mm_pf_r, mm_rt_v, mm_rt_i, mm_rt_r, mm_c_eq, mm_c_ne, mm_c_lt, mm_c_ge, mm_c_gt, mm_c_le, mm_sw_n, mm_sw_c, mm_alc_n, mm_alc_c, mm_rc_n, mm_rc_c, reduceCtorEq, false_implies, implies_true, true_implies, true_or, or_true, false_or, or_false, not_false_eq_true, mm_at_0, mm_at_s, mm_set_0, mm_set_s, mm_nl_n, mm_nl_i, mm_nl_r, mm_args_n, mm_args_i, mm_args_l, mm_args_r, mm_pad_0, mm_pad_n, mm_pad_c, List.length_cons, List.length_nil, List.nil_append, List.cons_append, Nat.zero_le, Nat.sub_zero, true_and, and_true, Nat.reduceAdd, Nat.reduceLeDiff, Nat.reduceLT, Nat.reduceSub, Nat.lt_irrefl, Nat.zero_add, Nat.add_zero, k_20, k_10, k_01, mm_if_T, mm_if_F, not_true_eq_false, not_false_eq_true, h1, h2, s1, s2, s3, s4, q1, q2, q4, r2, r3, r6, r7, mm_I_k, mm_I_c, mm_I_s, mm_R_sI, mm_L_sI, mm_N_sI, Nat.reduceEqDiff, not_false_eq_true, ne_eq]
  refine ⟨fun hc => ?_, fun hc => ?_⟩
  · have e : g_ho (A, cp, tn) w = (up A w 3 (A w 3 + 1), cp, tn) := if_neg (Int32.not_le.mpr hc)
    rw [e] at h
    exact h _ (RS_w hR0 w 3 _) (FS_4 (FS_rf _ _) (by omega))
  · have e : g_ho (A, cp, tn) w = g_me (up (up A w 3 (A w 3 + 1)) w 4 1, cp, tn) w := if_pos (Int32.not_lt.mp hc)
    rw [e] at h
    refine t_14 (M := mm_sI (mm_sI M 4 (7 * s + w) 3 (A w 3 + 1)) 4 (7 * s + w) 4 1) d hs hn (LyS_2 rfl hL) (RS_w (RS_w hR0 w 3 _) w 4 1) hw (fun M' hR' hF' => ?_)
    exact ⟨rfl, h M' hR' (FS_tr (FS_4 (FS_4 (FS_rf _ _) (by omega)) (by omega)) hF')⟩
set_option maxHeartbeats 4000000 in
theorem l_23 (d : Nat) {s n : Nat} {dy : Int32} {M : mm_M} {post : mm_Post} (X : St) (bits : Int32) (hs : s < 20) (hn : n ≤ 7) (h : ∀ M', RS M' s n (g_gl X bits n).1 (dy + 1) (g_gl X bits n).2.1 (g_gl X bits n).2.2 → FS M M' s → post none M') : ∀ (m v : Nat) (M1 : mm_M), v + m = n → LyS M1 → RS M1 s n (g_gl X bits v).1 dy (g_gl X bits v).2.1 (g_gl X bits v).2.2 → FS M M1 s → pK (d + 4) 23 post 1 [some (.inr (.inr (2, s))), some (.inl bits), some (.inl (nI v))] [] M1 (0, 0) := by
  intro m
  induction m with
  | zero =>
    intro v M1 hv hL hR hF
    have e : v = n := by omega
    subst e
    have hR0 := hR
    obtain ⟨s1, s2, s3, s4, s5⟩ := hR
    rw [eK_23_1]
    simp only [eK_23_0, eK_23_2, eK_23_3, pw_aload_n, pw_dup, pw_getfield, pw_goto, pw_iadd, pw_iand, pw_iconst, pw_if_icmp, pw_iinc, pw_iload_n, pw_invokevirtual, pw_ishr, pw_istore_n, pw_nop0, pw_putfield, pw_return_, mm_pI_c, mm_pL_c, mm_pA_c, mm_pR_c, mm_p1_i, mm_p1_r, mm_pN_0, mm_pN_s, mm_lI_c, mm_lL_c, mm_lA_c, mm_wd_n, mm_wd_i, mm_wd_l, mm_wd_r, mm_gf_i, mm_gf_b, mm_gf_r, mm_rf_c, mm_pf_i, mm_pf_b, mm_pf_r, mm_rt_v, mm_rt_i, mm_rt_r, mm_c_eq, mm_c_ne, mm_c_lt, mm_c_ge, mm_c_gt, mm_c_le, mm_sw_n, mm_sw_c, mm_alc_n, mm_alc_c, mm_rc_n, mm_rc_c, reduceCtorEq, false_implies, implies_true, true_implies, true_or, or_true, false_or, or_false, not_false_eq_true, mm_at_0, mm_at_s, mm_set_0, mm_set_s, mm_nl_n, mm_nl_i, mm_nl_r, mm_args_n, mm_args_i, mm_args_l, mm_args_r, mm_pad_0, mm_pad_n, mm_pad_c, List.length_cons, List.length_nil, List.nil_append, List.cons_append, Nat.zero_le, Nat.sub_zero, true_and, and_true, Nat.reduceAdd, Nat.reduceLeDiff, Nat.reduceLT, Nat.reduceSub, Nat.lt_irrefl, Nat.zero_add, Nat.add_zero, k_20, k_10, k_01, mm_if_T, mm_if_F, not_true_eq_false, not_false_eq_true, s1, s2, mm_if_t (nI_le (Nat.le_refl v) (show v < 2 ^ 31 by omega)), mm_I_k, mm_I_c, mm_I_s, mm_R_sI, mm_L_sI, mm_N_sI, Nat.reduceEqDiff, not_false_eq_true, ne_eq]
    exact h _ (RS_2 hR0 _) (FS_2 hF)
  | succ m ih =>
    intro v M1 hv hL hR hF
    have hvn : v < n := by omega
    have hR0 := hR
    obtain ⟨h1, h2, h3⟩ := hL s hs
    obtain ⟨s1, s2, s3, s4, s5⟩ := hR
    obtain ⟨q1, q2, q3⟩ := nI_v7 (show v < n by omega) hn
    rw [eK_23_1]
    simp only [eK_23_0, eK_23_2, eK_23_3, pw_aload_n, pw_dup, pw_getfield, pw_goto, pw_iadd, pw_iand, pw_iconst, pw_if_icmp, pw_iinc, pw_iload_n, pw_invokevirtual, pw_ishr, pw_istore_n, pw_nop0, pw_putfield, pw_return_, mm_pI_c, mm_pL_c, mm_pA_c, mm_pR_c, mm_p1_i, mm_p1_r, mm_pN_0, mm_pN_s, mm_lI_c, mm_lL_c, mm_lA_c, mm_wd_n, mm_wd_i, mm_wd_l, mm_wd_r, mm_gf_i, mm_gf_b, mm_gf_r, mm_rf_c, mm_pf_i, mm_pf_b, mm_pf_r, mm_rt_v, mm_rt_i, mm_rt_r, mm_c_eq, mm_c_ne, mm_c_lt, mm_c_ge, mm_c_gt, mm_c_le, mm_sw_n, mm_sw_c, mm_alc_n, mm_alc_c, mm_rc_n, mm_rc_c, reduceCtorEq, false_implies, implies_true, true_implies, true_or, or_true, false_or, or_false, not_false_eq_true, mm_at_0, mm_at_s, mm_set_0, mm_set_s, mm_nl_n, mm_nl_i, mm_nl_r, mm_args_n, mm_args_i, mm_args_l, mm_args_r, mm_pad_0, mm_pad_n, mm_pad_c, List.length_cons, List.length_nil, List.nil_append, List.cons_append, Nat.zero_le, Nat.sub_zero, true_and, and_true, Nat.reduceAdd, Nat.reduceLeDiff, Nat.reduceLT, Nat.reduceSub, Nat.lt_irrefl, Nat.zero_add, Nat.add_zero, k_20, k_10, k_01, mm_if_T, mm_if_F, not_true_eq_false, not_false_eq_true, s1, mm_if_f q3, nI_1]
    refine ⟨fun hc => ?_, fun hc => ?_⟩
    · have e : g_gl X bits (v + 1) = g_gl X bits v := if_neg hc
      exact ih (v + 1) M1 (by omega) hL (by rw [e]; exact hR0) hF
    · have hc' : (bits >>> (nI v &&& 31)) &&& 1 = 1 := Classical.not_not.mp hc
      have e : g_gl X bits (v + 1) = g_ho (g_gl X bits v) v := if_pos hc'
      refine t_24 (d + 2) hs hn hL hR0 hvn (fun M' hR' hF' => ?_)
      simp only [mm_rt_v, List.nil_append]
      exact ih (v + 1) M' (by omega) (LyS_2 hF'.1 hL) (by rw [e]; exact hR') (FS_tr hF hF')
set_option maxHeartbeats 4000000 in
theorem t_23 (d : Nat) {s n : Nat} {A : Nat → Nat → Int32} {dy cp tn : Int32} {M : mm_M} {post : mm_Post} (hs : s < 20) (hn : n ≤ 7) (hL : LyS M) (hR : RS M s n A dy cp tn) (h : ∀ M', RS M' s n (g_go n (A, cp, tn) dy).1 (dy + 1) (g_go n (A, cp, tn) dy).2.1 (g_go n (A, cp, tn) dy).2.2 → FS M M' s → post none M') : pC (d + 5) 23 [.inr (.inr (2, s))] M post := by
  have key := l_23 d (A, cp, tn) (g_hb A n (g_ev dy) n) hs hn h n 0 M (by omega) hL hR (FS_rf _ _)
  simp only [eC_23, eK_23_0, eK_23_2, eK_23_3, pw_aload_n, pw_dup, pw_getfield, pw_goto, pw_iadd, pw_iand, pw_iconst, pw_if_icmp, pw_iinc, pw_iload_n, pw_invokevirtual, pw_ishr, pw_istore_n, pw_nop0, pw_putfield, pw_return_, mm_pI_c, mm_pL_c, mm_pA_c, mm_pR_c, mm_p1_i, mm_p1_r, mm_pN_0, mm_pN_s, mm_lI_c, mm_lL_c, mm_lA_c, mm_wd_n, mm_wd_i, mm_wd_l, mm_wd_r, mm_gf_i, mm_gf_b, mm_gf_r, mm_rf_c, mm_pf_i, mm_pf_b, mm_pf_r, mm_rt_v, mm_rt_i, mm_rt_r, mm_c_eq, mm_c_ne, mm_c_lt, mm_c_ge, mm_c_gt, mm_c_le, mm_sw_n, mm_sw_c, mm_alc_n, mm_alc_c, mm_rc_n, mm_rc_c, reduceCtorEq, false_implies, implies_true, true_implies, true_or, or_true, false_or, or_false, not_false_eq_true, mm_at_0, mm_at_s, mm_set_0, mm_set_s, mm_nl_n, mm_nl_i, mm_nl_r, mm_args_n, mm_args_i, mm_args_l, mm_args_r, mm_pad_0, mm_pad_n, mm_pad_c, List.length_cons, List.length_nil, List.nil_append, List.cons_append, Nat.zero_le, Nat.sub_zero, true_and, and_true, Nat.reduceAdd, Nat.reduceLeDiff, Nat.reduceLT, Nat.reduceSub, Nat.lt_irrefl, Nat.zero_add, Nat.add_zero, k_20, k_10, k_01, mm_if_T, mm_if_F, not_true_eq_false, not_false_eq_true, e_20 d hs hn hL hR]
  exact key
