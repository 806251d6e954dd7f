/-! THE REFERENCE: cheap -/
theorem g_lo_c {A A' : Nat → Nat → Int32} {w : Nat} {hr : Int32} (h1 : A' w 1 = A w 1) : ∀ n, (∀ v, v < n → ¬ v = w → ∀ k, A' v k = A v k) → g_lo A' w hr n = g_lo A w hr n
  | 0, _ => rfl
  | n + 1, h => by
    have ih := g_lo_c (hr := hr) h1 n (fun v hv => h v (by omega))
    unfold g_lo
    by_cases e : n = w
    · rw [if_neg (fun z => z.1 e), if_neg (fun z => z.1 e), ih]
    · have hh := h n (by omega) e
      rw [hh 5, hh 10, hh 8, hh 9, h1, ih]
def Ex (n w : Nat) (A A' : Nat → Nat → Int32) : Prop := WF n A' ∧ (∀ v, ¬ v = w → ∀ k, A' v k = A v k) ∧ ∀ k, k < 5 → A' w k = A w k
theorem Ex_k {n w : Nat} {A A' : Nat → Nat → Int32} (h : Ex n w A A') : ∀ v k, k < 5 → A' v k = A v k := fun v k hk => by
  by_cases e : v = w
  · rw [e]; exact h.2.2 k hk
  · exact h.2.1 v e k
theorem Ex_ab {n w : Nat} {A A' : Nat → Nat → Int32} (h : Ex n w A A') {a : Nat → Int32} (h1 : 1 ≤ a 1 ∧ a 1 ≤ 30) (h2 : 0 ≤ a 2 ∧ a 2 ≤ 30) (h3 : 0 ≤ a 3 ∧ a 3 ≤ 40) (h4 : 0 ≤ a 4 ∧ a 4 ≤ 23) : Ex n w A (a_b A' w a) := by
  refine ⟨WF_ab h.1 h1 h2 h3 h4, fun v hv k => ?_, fun k hk => ?_⟩
  · unfold a_b
    simp (disch := omega) only [up_w]
    exact h.2.1 v hv k
  · unfold a_b
    simp (disch := omega) only [up_k]
    exact h.2.2 k hk
theorem g_hd_ab {n w : Nat} {A A' : Nat → Nat → Int32} (h : Ex n w A A') (a : Nat → Int32) (c t : Nat) (h1 : a 1 = nI c) (h2 : a 2 = nI t) : g_hd (a_b A' w a) n w 1 = g_ch A n w (a 3) (a 4) c t := by
  have e0 : (a_b A' w a) w 0 = A w 0 := by unfold a_b; simp (disch := omega) only [up_k]; exact h.2.2 0 (by omega)
  have e1 : (a_b A' w a) w 1 = A w 1 := by unfold a_b; simp (disch := omega) only [up_k]; exact h.2.2 1 (by omega)
  have e5 : (a_b A' w a) w 5 = 2 := by unfold a_b; simp (disch := omega) only [up_k, up_s]
  have e7 : (a_b A' w a) w 7 = a 2 := by unfold a_b; simp (disch := omega) only [up_k, up_s]
  have e8 : (a_b A' w a) w 8 = f_lo (a 1) (a 2) := by unfold a_b; simp (disch := omega) only [up_k, up_s]
  have e9 : (a_b A' w a) w 9 = a 3 := by unfold a_b; simp (disch := omega) only [up_k, up_s]
  have e10 : (a_b A' w a) w 10 = a 4 := by unfold a_b; simp (disch := omega) only [up_k, up_s]
  have el : g_lo (a_b A' w a) w (a 4) n = g_lo A w (a 4) n := g_lo_c e1 n (fun v _ hv k => by unfold a_b; simp (disch := omega) only [up_w]; exact h.2.1 v hv k)
  unfold g_hd g_ch g_at
  simp only [e0, e1, e5, e7, e8, e9, e10, el, h1, h2, true_and]

theorem y_103 (d : Nat) {M : mm_M} {post : mm_Post} (hL : LyM M) {w : Nat} (hw : w < 7) (c t p q : Int32) : pC (d + 1) 103 [.inr (.inr (6, 0)), .inl 429, .inl (nI w), .inl c, .inl t, .inl p, .inl q] M post = post none (mm_sI (mm_sI (mm_sI (mm_sI M 7 11 (429 + 8 + w) c) 7 11 (429 + 15 + w) t) 7 11 (429 + 22 + w) p) 7 11 (429 + 29 + w) q) := r_103 (B := 429) d hL (show 429 ≤ 429 by omega) hw c t p q
theorem y_125 (d : Nat) {M : mm_M} {post : mm_Post} {n : Nat} {X : Sx} (hL : LyM M) (hn : n ≤ 7) (hM : RM M n X.1.1) (hR : RB M 429 n X) (hW : WF n X.1.1) {w : Nat} (hw : w < n) (ev : Int32) : pC (d + 4) 125 [.inr (.inr (6, 0)), .inl 429, .inl (nI w), .inl ev] M post = post (some (.inl (g_hd X.1.1 n w ev))) M := r_125 (B := 429) d hL (show 429 ≤ 429 by omega) hn hM hR hW hw ev
theorem y_138 (d : Nat) {M : mm_M} {post : mm_Post} {n : Nat} {X : Sx} (hL : LyM M) (hn : n ≤ 7) (hM : RM M n X.1.1) (hR : RB M 429 n X) (hW : WF n X.1.1) {w : Nat} (hw : w < n) (hh : X.1.1 w 5 = 2) (op f : Int32) (hf : f = 0 ↔ ¬ op = 0) : pC (d + 3) 138 [.inr (.inr (6, 0)), .inl 429, .inl (nI w), .inl op] M post = post (some (.inl (g_ot X.1.1 w (X.1.1 w 9) f n))) M := r_138 (B := 429) d hL (show 429 ≤ 429 by omega) hn hM hR hW hw hh op f hf
def In (M M1 : mm_M) (n w : Nat) (X : Sx) : Prop := LyM M1 ∧ FB M M1 429 ∧ ∃ A', RB M1 429 n ((A', X.1.2), X.2) ∧ Ex n w X.1.1 A'

set_option maxHeartbeats 4000000 in
theorem k_148i (d : Nat) {n w : Nat} {X : Sx} {M : mm_M} {post : mm_Post} (hn : n ≤ 7) (hw : w < n) (hM : RM M n X.1.1) (p r : Int32) (hp : 0 ≤ p ∧ p ≤ 40) (hr : 0 ≤ r ∧ r ≤ 23) (s : Nat) (hs : s ≤ 60)
    (h1 : ∀ M' v, ch_t (g_ch X.1.1 n w p r) s 31 = some v → FB M M' 429 → post (some (.inl v)) M') (h2 : ch_t (g_ch X.1.1 n w p r) s 31 = none → ∀ M1 u, In M M1 n w X → pK (d + 4) 148 post 4 [some (.inr (.inr (6, 0))), some (.inl (nI w)), some (.inl p), some (.inl r), some (.inl (nI (s + 1))), u] [] M1 (0, 0)) :
    ∀ (m t : Nat) (M1 : mm_M), t + m = 31 → In M M1 n w X → ch_t (g_ch X.1.1 n w p r) s 31 = ch_t (g_ch X.1.1 n w p r) s m → pK (d + 4) 148 post 5 [some (.inr (.inr (6, 0))), some (.inl (nI w)), some (.inl p), some (.inl r), some (.inl (nI s)), some (.inl (nI t))] [] M1 (0, 0) := by
  intro m
  induction m with
  | zero =>
    intro t M1 ht hI e
    have e31 : t = 31 := by omega
    subst e31
    rw [eK_148_5]
    simp (disch := omega) only [eK_148_7, pw_bipush, pw_goto, pw_iconst, pw_lconst, pw_ldc2_w, pw_sipush, qw_aload_n0, qw_i2l, qw_iadd, qw_if_eq, qw_if_icmp_gt, qw_iinc4, qw_iload4, qw_iload5, qw_iload_n1, qw_iload_n2, qw_iload_n3, qw_imul, qw_invokestatic3, qw_invokevirtual4, qw_invokevirtual7, qw_ireturn, qw_isub, mm_rf_c, mm_rt_v, mm_rt_i, mm_rt_r, mm_alc_n, mm_alc_c, mm_rc_n, mm_rc_c, mm_wd_n, mm_wd_i, mm_wd_l, mm_wd_r, reduceCtorEq, false_implies, implies_true, true_implies, true_or, or_true, false_or, or_false, not_false_eq_true, mm_nl_n, mm_nl_i, mm_nl_r, mm_args_n, mm_args_i, mm_args_l, mm_args_r, mm_pad_0, mm_pad_n, mm_pad_c, List.length_cons, List.length_nil, List.nil_append, List.cons_append, Nat.zero_le, Nat.sub_zero, true_and, and_true, Nat.reduceAdd, Nat.reduceLeDiff, Nat.reduceLT, Nat.reduceSub, Nat.lt_irrefl, Nat.zero_add, Nat.add_zero, Nat.le_refl, k_20, k_10, k_01, ↓mm_if_T, ↓mm_if_F, ↓if10, ↓if00, not_true_eq_false, tf_01, ↓mm_if_tf, ↓mm_if_tn, ↓mm_if_nn, ↓mm_if_t (show (30 : Int32) < nI 31 by decide), nI_1]
    exact h2 e M1 _ hI
  | succ m ih =>
    intro t M1 ht hI e
    obtain ⟨hL, hF, A', hR, hE⟩ := id hI
    have hlt : ¬ (30 : Int32) < nI t := nI_nlt (a := 30) (by omega) (by omega)
    have et : 30 - m = t := by omega
    have hun : ch_t (g_ch X.1.1 n w p r) s (m + 1) = if t < s ∧ s ≤ t + 30 ∧ ¬ g_ch X.1.1 n w p r (s - t) t = 0 then some (100 * nI (s - t) + nI t) else ch_t (g_ch X.1.1 n w p r) s m := by rw [← et]; rfl
    rw [hun] at e
    by_cases c1 : t < s ∧ s ≤ t + 30
    · have es : nI s - nI t = nI (s - t) := pk_sub (by omega)
      have f1 : (1 : Int32) ≤ nI (s - t) ∧ nI (s - t) ≤ 30 := ⟨nI_le (a := 1) (by omega) (by omega), nI_le (b := 30) (by omega) (by omega)⟩
      have f2 : 0 ≤ nI t ∧ nI t ≤ 30 := ⟨nI_pos' (by omega), nI_le (b := 30) (by omega) (by omega)⟩
      have key := RB_hangs (w := w) (show 429 ≤ 429 by omega) hn hR hw (fun i => if i = 1 then nI (s - t) else if i = 2 then nI t else if i = 3 then p else r)
      have hE2 := Ex_ab hE (a := fun i => if i = 1 then nI (s - t) else if i = 2 then nI t else if i = 3 then p else r) f1 f2 hp hr
      have hg := g_hd_ab hE (fun i => if i = 1 then nI (s - t) else if i = 2 then nI t else if i = 3 then p else r) (s - t) t rfl rfl
      have hF2 : FB M (mm_sI (mm_sI (mm_sI (mm_sI M1 7 11 (429 + 8 + w) (nI (s - t))) 7 11 (429 + 15 + w) (nI t)) 7 11 (429 + 22 + w) p) 7 11 (429 + 29 + w) r) 429 := FB_s (FB_s (FB_s (FB_s hF (by omega)) (by omega)) (by omega)) (by omega)
      have hL2 : LyM (mm_sI (mm_sI (mm_sI (mm_sI M1 7 11 (429 + 8 + w) (nI (s - t))) 7 11 (429 + 15 + w) (nI t)) 7 11 (429 + 22 + w) p) 7 11 (429 + 29 + w) r) := LyM_2 rfl hL
      have o1 := fun post => y_125 (post := post) d hL2 hn (RM_c (RM_B hM hF2) (fun v hv k hk => Ex_k hE2 v k (by omega))) key hE2.1 hw 1
      dsimp only at o1
      rw [hg] at o1
      simp only [show ¬ (3 : Nat) = 1 by decide, show ¬ (3 : Nat) = 2 by decide, show ¬ (4 : Nat) = 1 by decide, show ¬ (4 : Nat) = 2 by decide, show ¬ (4 : Nat) = 3 by decide, if_false, if_true] at o1
      by_cases c2 : g_ch X.1.1 n w p r (s - t) t = 0
      · rw [if_neg (fun z => z.2.2 c2)] at e
        rw [eK_148_5]
        simp (disch := omega) only [eK_148_6, pw_bipush, pw_goto, pw_iconst, pw_lconst, pw_ldc2_w, pw_sipush, qw_aload_n0, qw_i2l, qw_iadd, qw_if_eq, qw_if_icmp_gt, qw_iinc5, qw_iload4, qw_iload5, qw_iload_n1, qw_iload_n2, qw_iload_n3, qw_imul, qw_invokestatic3, qw_invokevirtual4, qw_invokevirtual7, qw_ireturn, qw_isub, mm_rf_c, mm_rt_v, mm_rt_i, mm_rt_r, mm_alc_n, mm_alc_c, mm_rc_n, mm_rc_c, mm_wd_n, mm_wd_i, mm_wd_l, mm_wd_r, reduceCtorEq, false_implies, implies_true, true_implies, true_or, or_true, false_or, or_false, not_false_eq_true, mm_nl_n, mm_nl_i, mm_nl_r, mm_args_n, mm_args_i, mm_args_l, mm_args_r, mm_pad_0, mm_pad_n, mm_pad_c, List.length_cons, List.length_nil, List.nil_append, List.cons_append, Nat.zero_le, Nat.sub_zero, true_and, and_true, Nat.reduceAdd, Nat.reduceLeDiff, Nat.reduceLT, Nat.reduceSub, Nat.lt_irrefl, Nat.zero_add, Nat.add_zero, Nat.le_refl, k_20, k_10, k_01, ↓mm_if_T, ↓mm_if_F, ↓if10, ↓if00, not_true_eq_false, tf_01, ↓mm_if_tf, ↓mm_if_tn, ↓mm_if_nn, ↓mm_if_f hlt, es, r_97 (d + 3) (nI (s - t)) 1 30, ↓mm_if_t f1, y_103 (d + 3) hL (show w < 7 by omega), o1, ↓mm_if_t c2, nI_1]
        exact ih (t + 1) _ (by omega) ⟨hL2, hF2, _, key, hE2⟩ e
      · rw [if_pos ⟨c1.1, c1.2, c2⟩] at e
        rw [eK_148_5]
        simp (disch := omega) only [eK_148_6, pw_bipush, pw_goto, pw_iconst, pw_lconst, pw_ldc2_w, pw_sipush, qw_aload_n0, qw_i2l, qw_iadd, qw_if_eq, qw_if_icmp_gt, qw_iinc5, qw_iload4, qw_iload5, qw_iload_n1, qw_iload_n2, qw_iload_n3, qw_imul, qw_invokestatic3, qw_invokevirtual4, qw_invokevirtual7, qw_ireturn, qw_isub, mm_rf_c, mm_rt_v, mm_rt_i, mm_rt_r, mm_alc_n, mm_alc_c, mm_rc_n, mm_rc_c, mm_wd_n, mm_wd_i, mm_wd_l, mm_wd_r, reduceCtorEq, false_implies, implies_true, true_implies, true_or, or_true, false_or, or_false, not_false_eq_true, mm_nl_n, mm_nl_i, mm_nl_r, mm_args_n, mm_args_i, mm_args_l, mm_args_r, mm_pad_0, mm_pad_n, mm_pad_c, List.length_cons, List.length_nil, List.nil_append, List.cons_append, Nat.zero_le, Nat.sub_zero, true_and, and_true, Nat.reduceAdd, Nat.reduceLeDiff, Nat.reduceLT, Nat.reduceSub, Nat.lt_irrefl, Nat.zero_add, Nat.add_zero, Nat.le_refl, k_20, k_10, k_01, ↓mm_if_T, ↓mm_if_F, ↓if10, ↓if00, not_true_eq_false, tf_01, ↓mm_if_tf, ↓mm_if_tn, ↓mm_if_nn, ↓mm_if_f hlt, es, r_97 (d + 3) (nI (s - t)) 1 30, ↓mm_if_t f1, y_103 (d + 3) hL (show w < 7 by omega), o1, ↓mm_if_f c2, nI_1]
        exact h1 _ _ e hF2
    · rw [if_neg (fun z => c1 ⟨z.1, z.2.1⟩)] at e
      have f1 : ¬ ((1 : Int32) ≤ nI s - nI t ∧ nI s - nI t ≤ 30) := by
        intro z
        rw [i_le, i_le, pk_sub_toInt (by omega) (by omega)] at z
        have z1 : (1 : Int32).toInt = 1 := by decide
        have z2 : (30 : Int32).toInt = 30 := by decide
        rw [z1, z2] at z
        omega
      rw [eK_148_5]
      simp (disch := omega) only [eK_148_6, pw_bipush, pw_goto, pw_iconst, pw_lconst, pw_ldc2_w, pw_sipush, qw_aload_n0, qw_i2l, qw_iadd, qw_if_eq, qw_if_icmp_gt, qw_iinc5, qw_iload4, qw_iload5, qw_iload_n1, qw_iload_n2, qw_iload_n3, qw_imul, qw_invokestatic3, qw_invokevirtual4, qw_invokevirtual7, qw_ireturn, qw_isub, mm_rf_c, mm_rt_v, mm_rt_i, mm_rt_r, mm_alc_n, mm_alc_c, mm_rc_n, mm_rc_c, mm_wd_n, mm_wd_i, mm_wd_l, mm_wd_r, reduceCtorEq, false_implies, implies_true, true_implies, true_or, or_true, false_or, or_false, not_false_eq_true, mm_nl_n, mm_nl_i, mm_nl_r, mm_args_n, mm_args_i, mm_args_l, mm_args_r, mm_pad_0, mm_pad_n, mm_pad_c, List.length_cons, List.length_nil, List.nil_append, List.cons_append, Nat.zero_le, Nat.sub_zero, true_and, and_true, Nat.reduceAdd, Nat.reduceLeDiff, Nat.reduceLT, Nat.reduceSub, Nat.lt_irrefl, Nat.zero_add, Nat.add_zero, Nat.le_refl, k_20, k_10, k_01, ↓mm_if_T, ↓mm_if_F, ↓if10, ↓if00, not_true_eq_false, tf_01, ↓mm_if_tf, ↓mm_if_tn, ↓mm_if_nn, ↓mm_if_f hlt, r_97 (d + 3) (nI s - nI t) 1 30, ↓mm_if_f f1, nI_1]
      exact ih (t + 1) M1 (by omega) hI e

theorem k_148 (d : Nat) {n w : Nat} {X : Sx} {M : mm_M} {post : mm_Post} (hn : n ≤ 7) (hw : w < n) (hM : RM M n X.1.1) (p r : Int32) (hp : 0 ≤ p ∧ p ≤ 40) (hr : 0 ≤ r ∧ r ≤ 23) (h : ∀ M', FB M M' 429 → post (some (.inl (ch_s (g_ch X.1.1 n w p r) 60))) M') : ∀ (m s : Nat) (u : Option mm_V) (M1 : mm_M), s + m = 61 → 1 ≤ s → In M M1 n w X → ch_s (g_ch X.1.1 n w p r) 60 = ch_s (g_ch X.1.1 n w p r) m → pK (d + 4) 148 post 4 [some (.inr (.inr (6, 0))), some (.inl (nI w)), some (.inl p), some (.inl r), some (.inl (nI s)), u] [] M1 (0, 0) := by
  intro m
  induction m with
  | zero =>
    intro s u M1 hs h1 hI e
    have e61 : s = 61 := by omega
    subst e61
    rw [e] at h
    rw [eK_148_4]
    simp (disch := omega) only [eK_148_8, pw_bipush, pw_iconst, pw_nop0, qw_if_icmp_gt, qw_iload4, qw_ireturn, qw_istore5, mm_rf_c, mm_rt_v, mm_rt_i, mm_rt_r, mm_alc_n, mm_alc_c, mm_rc_n, mm_rc_c, mm_wd_n, mm_wd_i, mm_wd_l, mm_wd_r, reduceCtorEq, false_implies, implies_true, true_implies, true_or, or_true, false_or, or_false, not_false_eq_true, mm_nl_n, mm_nl_i, mm_nl_r, mm_args_n, mm_args_i, mm_args_l, mm_args_r, mm_pad_0, mm_pad_n, mm_pad_c, List.length_cons, List.length_nil, List.nil_append, List.cons_append, Nat.zero_le, Nat.sub_zero, true_and, and_true, Nat.reduceAdd, Nat.reduceLeDiff, Nat.reduceLT, Nat.reduceSub, Nat.lt_irrefl, Nat.zero_add, Nat.add_zero, Nat.le_refl, k_20, k_10, k_01, ↓mm_if_T, ↓mm_if_F, ↓if10, ↓if00, not_true_eq_false, tf_01, ↓mm_if_tf, ↓mm_if_tn, ↓mm_if_nn, ↓mm_if_t (show (60 : Int32) < nI 61 by decide)]
    exact h M1 hI.2.1
  | succ m ih =>
    intro s u M1 hs h1 hI e
    have hlt : ¬ (60 : Int32) < nI s := nI_nlt (a := 60) (by omega) (by omega)
    have es : 60 - m = s := by omega
    have this := k_148i d (post := post) hn hw hM p r hp hr s (by omega) (fun M' v hv hF => by
      have e2 : ch_s (g_ch X.1.1 n w p r) (m + 1) = v := by unfold ch_s; rw [es, hv]
      have := h M' hF
      rw [e, e2] at this
      exact this) (fun hv M1 u hI => ih (s + 1) u M1 (by omega) (by omega) hI (by rw [e]; conv => lhs; unfold ch_s; rw [es, hv])) 31 0 M1 (by omega) hI rfl
    rw [eK_148_4]
    simp (disch := omega) only [pw_bipush, pw_iconst, pw_nop0, qw_if_icmp_gt, qw_iload4, qw_istore5, mm_rf_c, mm_rt_v, mm_rt_i, mm_rt_r, mm_alc_n, mm_alc_c, mm_rc_n, mm_rc_c, mm_wd_n, mm_wd_i, mm_wd_l, mm_wd_r, reduceCtorEq, false_implies, implies_true, true_implies, true_or, or_true, false_or, or_false, not_false_eq_true, mm_nl_n, mm_nl_i, mm_nl_r, mm_args_n, mm_args_i, mm_args_l, mm_args_r, mm_pad_0, mm_pad_n, mm_pad_c, List.length_cons, List.length_nil, List.nil_append, List.cons_append, Nat.zero_le, Nat.sub_zero, true_and, and_true, Nat.reduceAdd, Nat.reduceLeDiff, Nat.reduceLT, Nat.reduceSub, Nat.lt_irrefl, Nat.zero_add, Nat.add_zero, Nat.le_refl, k_20, k_10, k_01, ↓mm_if_T, ↓mm_if_F, ↓if10, ↓if00, not_true_eq_false, tf_01, ↓mm_if_tf, ↓mm_if_tn, ↓mm_if_nn, ↓mm_if_f hlt]
    exact this
theorem r_148 (d : Nat) {M : mm_M} {post : mm_Post} {n : Nat} {X : Sx} {a : Nat} {P : Nat → Sx} {b : Nat} {K : Nat → Sx} (hJ : J1 M n X a P b K) (hn : n ≤ 7) (ha : a ≤ 8) (hb : b ≤ 2) (hW : WF n X.1.1) (x p r : Int32) (h : ∀ M', J1 M' n X a P b K → FY M M' → post (some (.inl (G66 n X x p r))) M') : pC (d + 5) 148 [.inr (.inr (6, 0)), .inl x, .inl p, .inl r] M post := by
  obtain ⟨hL, hM, hR, h9, hP, h10, hK⟩ := id hJ
  have l1 := hL.1.2.2.2.2.2.2.1
  have l2 : mm_L M 7 11 = 468 := hL.2.2.2.2.2.2.2.1
  have i7 : vp_in (7 : Int32) 468 := vp_in_nI (n := 7) (by omega) (by omega)
  have j7 : (7 : Int32).toNatClampNeg = 7 := nI_clamp (n := 7) (by omega)
  have s7 := hR.2.1
  rw [Nat.zero_add] at s7
  unfold G66 at h
  by_cases c1 : isw n x
  · by_cases c2 : (0 ≤ p ∧ p ≤ 40) ∧ (0 ≤ r ∧ r ≤ 23)
    · rw [if_pos ⟨⟨c1, c2.1⟩, c2.2⟩] at h
      obtain ⟨w, hw, rfl⟩ := isw_of hn c1
      obtain ⟨v1, v2, v3⟩ := nI_v7 hw hn
      rw [v2] at h
      by_cases c4 : X.1.1 w 4 = 0
      · rw [if_pos c4] at h
        have f2 : ¬ (g_fb X.1.1 n >>> (nI w &&& 31)) &&& 1 = 1 := fun z => (fb_has hn hw).mp z c4
        simp (disch := omega) only [eC_148, eK_148_0, eK_148_1, eK_148_2, eK_148_3, pw_bipush, pw_iconst, pw_nop0, pw_sipush, qw_aload_n0, qw_gf_b, qw_gf_i, qw_gf_r, qw_iaload, qw_if_eq, qw_if_ne, qw_iload_n1, qw_iload_n2, qw_iload_n3, qw_invokestatic2, qw_invokevirtual2, qw_invokevirtual3, qw_ireturn, qw_istore4, mm_rf_c, mm_rt_v, mm_rt_i, mm_rt_r, mm_alc_n, mm_alc_c, mm_rc_n, mm_rc_c, mm_wd_n, mm_wd_i, mm_wd_l, mm_wd_r, reduceCtorEq, false_implies, implies_true, true_implies, true_or, or_true, false_or, or_false, not_false_eq_true, mm_nl_n, mm_nl_i, mm_nl_r, mm_args_n, mm_args_i, mm_args_l, mm_args_r, mm_pad_0, mm_pad_n, mm_pad_c, List.length_cons, List.length_nil, List.nil_append, List.cons_append, Nat.zero_le, Nat.sub_zero, true_and, and_true, Nat.reduceAdd, Nat.reduceLeDiff, Nat.reduceLT, Nat.reduceSub, Nat.lt_irrefl, Nat.zero_add, Nat.add_zero, Nat.le_refl, k_20, k_10, k_01, ↓mm_if_T, ↓mm_if_F, ↓if10, ↓if00, not_true_eq_false, tf_01, ↓mm_if_tf, ↓mm_if_tn, ↓mm_if_nn, r_106 (d + 2) hM.1, r_139 (d + 2), ↓mm_if_t c1, ↓mm_if_t c2, l1, l2, i7, j7, s7, r_98 (d + 3), ↓mm_if_f f2]
        refine r_105 (B := 0) (C := 429) (d + 3) hL (by omega) (by omega) (by omega) (fun M1 hF hc => ?_)
        have := k_148 d hn hw hM p r c2.1 c2.2 (M := M) (post := post) (fun M' hF => h M' (J1_t hJ hn ha hb hF) (FY_B hF)) 60 1 none M1 (by omega) (by omega) ⟨LyM_2 hF.1 hL, hF, X.1.1, RB_cp hn hR hc, hW, fun _ _ _ => rfl, fun _ _ => rfl⟩ rfl
        simp (disch := omega) only [pw_iconst, pw_nop0, pw_sipush, qw_aload_n0, qw_invokevirtual3, qw_istore4, mm_rf_c, mm_rt_v, mm_rt_i, mm_rt_r, mm_alc_n, mm_alc_c, mm_rc_n, mm_rc_c, mm_wd_n, mm_wd_i, mm_wd_l, mm_wd_r, reduceCtorEq, false_implies, implies_true, true_implies, true_or, or_true, false_or, or_false, not_false_eq_true, mm_nl_n, mm_nl_i, mm_nl_r, mm_args_n, mm_args_i, mm_args_l, mm_args_r, mm_pad_0, mm_pad_n, mm_pad_c, List.length_cons, List.length_nil, List.nil_append, List.cons_append, Nat.zero_le, Nat.sub_zero, true_and, and_true, Nat.reduceAdd, Nat.reduceLeDiff, Nat.reduceLT, Nat.reduceSub, Nat.lt_irrefl, Nat.zero_add, Nat.add_zero, Nat.le_refl, k_20, k_10, k_01, ↓mm_if_T, ↓mm_if_F, ↓if10, ↓if00, not_true_eq_false, tf_01, ↓mm_if_tf, ↓mm_if_tn, ↓mm_if_nn]
        exact this
      · rw [if_neg c4] at h
        have f2 := (fb_has (A := X.1.1) hn hw).mpr c4
        simp (disch := omega) only [eC_148, eK_148_0, eK_148_1, eK_148_2, eK_148_3, pw_bipush, pw_iconst, pw_nop0, pw_sipush, qw_aload_n0, qw_gf_b, qw_gf_i, qw_gf_r, qw_iaload, qw_if_eq, qw_if_ne, qw_iload_n1, qw_iload_n2, qw_iload_n3, qw_invokestatic2, qw_invokevirtual2, qw_invokevirtual3, qw_ireturn, qw_istore4, mm_rf_c, mm_rt_v, mm_rt_i, mm_rt_r, mm_alc_n, mm_alc_c, mm_rc_n, mm_rc_c, mm_wd_n, mm_wd_i, mm_wd_l, mm_wd_r, reduceCtorEq, false_implies, implies_true, true_implies, true_or, or_true, false_or, or_false, not_false_eq_true, mm_nl_n, mm_nl_i, mm_nl_r, mm_args_n, mm_args_i, mm_args_l, mm_args_r, mm_pad_0, mm_pad_n, mm_pad_c, List.length_cons, List.length_nil, List.nil_append, List.cons_append, Nat.zero_le, Nat.sub_zero, true_and, and_true, Nat.reduceAdd, Nat.reduceLeDiff, Nat.reduceLT, Nat.reduceSub, Nat.lt_irrefl, Nat.zero_add, Nat.add_zero, Nat.le_refl, k_20, k_10, k_01, ↓mm_if_T, ↓mm_if_F, ↓if10, ↓if00, not_true_eq_false, tf_01, ↓mm_if_tf, ↓mm_if_tn, ↓mm_if_nn, r_106 (d + 2) hM.1, r_139 (d + 2), ↓mm_if_t c1, ↓mm_if_t c2, l1, l2, i7, j7, s7, r_98 (d + 3), ↓mm_if_t f2]
        exact h M hJ (FY_rf M)
    · rw [if_neg (fun z => c2 ⟨z.1.2, z.2⟩)] at h
      simp (disch := omega) only [eC_148, eK_148_0, eK_148_1, pw_iconst, pw_nop0, qw_aload_n0, qw_if_eq, qw_if_ne, qw_iload_n1, qw_iload_n2, qw_iload_n3, qw_invokestatic2, qw_invokevirtual2, qw_ireturn, mm_rf_c, mm_rt_v, mm_rt_i, mm_rt_r, mm_alc_n, mm_alc_c, mm_rc_n, mm_rc_c, mm_wd_n, mm_wd_i, mm_wd_l, mm_wd_r, reduceCtorEq, false_implies, implies_true, true_implies, true_or, or_true, false_or, or_false, not_false_eq_true, mm_nl_n, mm_nl_i, mm_nl_r, mm_args_n, mm_args_i, mm_args_l, mm_args_r, mm_pad_0, mm_pad_n, mm_pad_c, List.length_cons, List.length_nil, List.nil_append, List.cons_append, Nat.zero_le, Nat.sub_zero, true_and, and_true, Nat.reduceAdd, Nat.reduceLeDiff, Nat.reduceLT, Nat.reduceSub, Nat.lt_irrefl, Nat.zero_add, Nat.add_zero, Nat.le_refl, k_20, k_10, k_01, ↓mm_if_T, ↓mm_if_F, ↓if10, ↓if00, not_true_eq_false, tf_01, ↓mm_if_tf, ↓mm_if_tn, ↓mm_if_nn, r_106 (d + 2) hM.1, r_139 (d + 2), ↓mm_if_t c1, ↓mm_if_f c2]
      exact h M hJ (FY_rf M)
  · rw [if_neg (fun z => c1 z.1.1)] at h
    simp (disch := omega) only [eC_148, eK_148_0, eK_148_1, pw_iconst, pw_nop0, qw_aload_n0, qw_if_eq, qw_if_ne, qw_iload_n1, qw_iload_n2, qw_iload_n3, qw_invokestatic2, qw_invokevirtual2, qw_ireturn, mm_rf_c, mm_rt_v, mm_rt_i, mm_rt_r, mm_alc_n, mm_alc_c, mm_rc_n, mm_rc_c, mm_wd_n, mm_wd_i, mm_wd_l, mm_wd_r, reduceCtorEq, false_implies, implies_true, true_implies, true_or, or_true, false_or, or_false, not_false_eq_true, mm_nl_n, mm_nl_i, mm_nl_r, mm_args_n, mm_args_i, mm_args_l, mm_args_r, mm_pad_0, mm_pad_n, mm_pad_c, List.length_cons, List.length_nil, List.nil_append, List.cons_append, Nat.zero_le, Nat.sub_zero, true_and, and_true, Nat.reduceAdd, Nat.reduceLeDiff, Nat.reduceLT, Nat.reduceSub, Nat.lt_irrefl, Nat.zero_add, Nat.add_zero, Nat.le_refl, k_20, k_10, k_01, ↓mm_if_T, ↓mm_if_F, ↓if10, ↓if00, not_true_eq_false, tf_01, ↓mm_if_tf, ↓mm_if_tn, ↓mm_if_nn, r_106 (d + 2) hM.1, ↓mm_if_f c1]
    exact h M hJ (FY_rf M)

