/-! THE REFERENCE: snow -/
def sp (n b : Nat) (X : Sx) : Sx := if b = 1 then g_sn X else g_dx n X
def sx (n : Nat) (X : Sx) (set : Nat) : Nat → Sx
  | 0 => X
  | k + 1 => sp n (set / 2 ^ k % 2) (sx n X set k)
def fx_ (x b : Nat) : Nat := if b = 1 then x else 10 - x
def wt (x set : Nat) : Nat → Nat
  | 0 => 1
  | k + 1 => wt x set k * fx_ x (set / 2 ^ k % 2)
def sN (f : Nat → Nat) : Nat → Nat
  | 0 => 0
  | m + 1 => sN f m + f m
theorem b_sh (s k : Nat) : s / 2 / 2 ^ k % 2 = s / 2 ^ (k + 1) % 2 := by rw [Nat.div_div_eq_div_mul, Nat.pow_succ, Nat.mul_comm]
theorem sx_h (n : Nat) (X : Sx) (s : Nat) : ∀ k, sx n X s (k + 1) = sx n (sp n (s % 2) X) (s / 2) k
  | 0 => by
    show sp n (s / 2 ^ 0 % 2) X = sp n (s % 2) X
    rw [Nat.pow_zero, Nat.div_one]
  | k + 1 => by
    show sp n (s / 2 ^ (k + 1) % 2) (sx n X s (k + 1)) = sp n (s / 2 / 2 ^ k % 2) (sx n (sp n (s % 2) X) (s / 2) k)
    rw [sx_h n X s k, b_sh]
theorem wt_h (x s : Nat) : ∀ k, wt x s (k + 1) = fx_ x (s % 2) * wt x (s / 2) k
  | 0 => by
    show 1 * fx_ x (s / 2 ^ 0 % 2) = fx_ x (s % 2) * 1
    rw [Nat.pow_zero, Nat.div_one, Nat.one_mul, Nat.mul_one]
  | k + 1 => by
    show wt x s (k + 1) * fx_ x (s / 2 ^ (k + 1) % 2) = fx_ x (s % 2) * (wt x (s / 2) k * fx_ x (s / 2 / 2 ^ k % 2))
    rw [wt_h x s k, b_sh, Nat.mul_assoc]
theorem sN_c {f g : Nat → Nat} : ∀ m, (∀ i, i < m → f i = g i) → sN f m = sN g m
  | 0, _ => rfl
  | m + 1, h => by unfold sN; rw [sN_c m (fun i hi => h i (by omega)), h m (by omega)]
theorem sN_2 (f : Nat → Nat) : ∀ m, sN f (2 * m) = sN (fun i => f (2 * i) + f (2 * i + 1)) m
  | 0 => rfl
  | m + 1 => by
    rw [show 2 * (m + 1) = 2 * m + 1 + 1 by omega]
    unfold sN
    rw [show sN f (2 * m + 1) = sN f (2 * m) + f (2 * m) from rfl, sN_2 f m, Nat.add_assoc]
theorem sN_l (c d : Nat) (f g : Nat → Nat) : ∀ m, sN (fun i => c * f i + d * g i) m = c * sN f m + d * sN g m
  | 0 => by show 0 = c * 0 + d * 0; omega
  | m + 1 => by
    unfold sN
    rw [sN_l c d f g m, Nat.mul_add, Nat.mul_add]
    omega
theorem wt_all {x : Nat} (hx : x ≤ 10) : ∀ r, sN (fun s => wt x s r) (2 ^ r) = 10 ^ r
  | 0 => rfl
  | r + 1 => by
    rw [Nat.pow_succ, Nat.mul_comm (2 ^ r) 2, sN_2]
    rw [sN_c (g := fun i => (10 - x) * wt x i r + x * wt x i r) (2 ^ r) (fun i _ => by
      rw [wt_h, wt_h, show 2 * i % 2 = 0 by omega, show (2 * i + 1) % 2 = 1 by omega, show 2 * i / 2 = i by omega, show (2 * i + 1) / 2 = i by omega]
      rfl)]
    rw [sN_l, wt_all hx r, Nat.pow_succ, ← Nat.add_mul, show 10 - x + x = 10 by omega, Nat.mul_comm]
theorem g_ho_4 {X : St} {w u : Nat} (h : ¬ X.1 u 4 = 0) : ¬ (g_ho X w).1 u 4 = 0 := by
  unfold g_ho g_me
  by_cases c : X.1 w 2 ≤ X.1 w 3 + 1
  · rw [if_pos c]
    dsimp only
    rw [up_k (by omega)]
    by_cases e : u = w
    · rw [e, up_s]; decide
    · rw [up_w e, up_k (by omega)]; exact h
  · rw [if_neg c]
    dsimp only
    rw [up_k (by omega)]; exact h
theorem g_gl_4 {X : St} {S : Int32} {u : Nat} (h : ¬ X.1 u 4 = 0) : ∀ v, ¬ (g_gl X S v).1 u 4 = 0
  | 0 => h
  | v + 1 => by
    have ih := g_gl_4 (S := S) h v
    unfold g_gl
    by_cases c : (S >>> (nI v &&& 31)) &&& 1 = 1
    · rw [if_pos c]; exact g_ho_4 ih
    · rw [if_neg c]; exact ih
theorem sp_4 {n b u : Nat} {X : Sx} (h : ¬ X.1.1 u 4 = 0) : ¬ (sp n b X).1.1 u 4 = 0 := by
  unfold sp
  by_cases c : b = 1
  · rw [if_pos c]; exact h
  · rw [if_neg c]; exact g_gl_4 h n
theorem sx_4 {n u s : Nat} {X : Sx} (h : ¬ X.1.1 u 4 = 0) : ∀ k, ¬ (sx n X s k).1.1 u 4 = 0
  | 0 => h
  | k + 1 => sp_4 (sx_4 h k)
def fq (n w x r : Nat) (X : Sx) (s : Nat) : Nat := if (sx n X s r).1.1 w 4 = 0 then 0 else wt x s r
theorem fq_all {n w x : Nat} (hx : x ≤ 10) : ∀ r X, sN (fq n w x r X) (2 ^ r) = g_fs n w x r X
  | 0, X => by
    show 0 + fq n w x 0 X 0 = g_fs n w x 0 X
    rw [Nat.zero_add]
    rfl
  | r + 1, X => by
    by_cases c : X.1.1 w 4 = 0
    · have e : g_fs n w x (r + 1) X = x * g_fs n w x r (g_sn X) + (10 - x) * g_fs n w x r (g_dx n X) := if_pos c
      rw [e, Nat.pow_succ, Nat.mul_comm (2 ^ r) 2, sN_2]
      rw [sN_c (g := fun i => (10 - x) * fq n w x r (g_dx n X) i + x * fq n w x r (g_sn X) i) (2 ^ r) (fun i _ => by
        unfold fq
        rw [wt_h, wt_h, sx_h, sx_h, show 2 * i % 2 = 0 by omega, show (2 * i + 1) % 2 = 1 by omega, show 2 * i / 2 = i by omega, show (2 * i + 1) / 2 = i by omega]
        show (if (sx n (g_dx n X) i r).1.1 w 4 = 0 then 0 else (10 - x) * wt x i r) + (if (sx n (g_sn X) i r).1.1 w 4 = 0 then 0 else x * wt x i r) = _
        by_cases c1 : (sx n (g_dx n X) i r).1.1 w 4 = 0 <;> by_cases c2 : (sx n (g_sn X) i r).1.1 w 4 = 0 <;> simp only [c1, c2, if_true, if_false, Nat.mul_zero])]
      rw [sN_l, fq_all hx r, fq_all hx r, Nat.add_comm]
    · have e : g_fs n w x (r + 1) X = 10 ^ (r + 1) := if_neg c
      rw [e, ← wt_all hx (r + 1)]
      exact sN_c _ (fun i _ => if_neg (sx_4 c (r + 1)))
theorem WF_sx {n s : Nat} {X : Sx} (h : WF n X.1.1) : ∀ k, WF n (sx n X s k).1.1
  | 0 => h
  | k + 1 => by
    have ih := WF_sx (s := s) h k
    show WF n (sp n (s / 2 ^ k % 2) (sx n X s k)).1.1
    unfold sp
    by_cases c : s / 2 ^ k % 2 = 1
    · rw [if_pos c]; exact ih
    · rw [if_neg c]; exact WF_go ih
theorem SK_sx {n s : Nat} {X : Sx} : ∀ k, SK n X (sx n X s k)
  | 0 => fun _ _ _ _ => rfl
  | k + 1 => fun w hw j hj => by
    have ih := SK_sx (s := s) (X := X) k w hw j hj
    show (sp n (s / 2 ^ k % 2) (sx n X s k)).1.1 w j = X.1.1 w j
    unfold sp
    by_cases c : s / 2 ^ k % 2 = 1
    · rw [if_pos c]; exact ih
    · rw [if_neg c]; exact (SK_dx w hw j hj).trans ih
theorem b8_sh : ∀ m, m < 256 → ∀ k, k < 8 → (nI m >>> (nI k &&& 31)) &&& 1 = nI (m / 2 ^ k % 2) := by decide +kernel
theorem b8_1 : ∀ k, k < 9 → (1 : Int32) <<< (nI k &&& 31) = nI (2 ^ k) := by decide +kernel
theorem b8_p : ∀ k, k < 9 → 2 ^ k ≤ 256 := by decide +kernel

set_option maxHeartbeats 4000000 in
theorem k_158i (d : Nat) {n w : Nat} {X : Sx} {M : mm_M} {post : mm_Post} (hn : n ≤ 7) (hw : w < n) (hW : WF n X.1.1) (hM : RM M n X.1.1) (r x s : Nat) (hr : r ≤ 8) (hx : x ≤ 10) (hs : s < 256) (y U V : Int32)
    (h : ∀ M1, LyM M1 → RB M1 429 n (sx n X s r) → FB M M1 429 → pK (d + 5) 158 post 7 [some (.inr (.inr (6, 0))), some (.inl (nI w)), some (.inl (nI r)), some (.inl (nI x)), some (.inl y), some (.inl U), some (.inl V), some (.inl (nI s)), some (.inl (nI (wt x s r))), some (.inl (nI r))] [] M1 (0, 0)) :
    ∀ (m k : Nat) (M1 : mm_M), k + m = r → LyM M1 → RB M1 429 n (sx n X s k) → FB M M1 429 → pK (d + 5) 158 post 4 [some (.inr (.inr (6, 0))), some (.inl (nI w)), some (.inl (nI r)), some (.inl (nI x)), some (.inl y), some (.inl U), some (.inl V), some (.inl (nI s)), some (.inl (nI (wt x s k))), some (.inl (nI k))] [] M1 (0, 0) := by
  intro m
  induction m with
  | zero =>
    intro k M1 hk hL hR hF
    have e : k = r := by omega
    subst e
    rw [eK_158_4]
    simp (disch := omega) only [pw_goto, qw_if_eq, qw_if_icmp_ge, qw_iload7, qw_iload8, qw_iload9, qw_iload_n2, qw_iload_n3, qw_invokestatic2, mm_rf_c, mm_rt_v, mm_rt_i, mm_rt_r, mm_alc_n, mm_alc_c, mm_rc_n, mm_rc_c, mm_wd_n, mm_wd_i, mm_wd_l, mm_wd_r, reduceCtorEq, false_implies, implies_true, true_implies, true_or, or_true, false_or, or_false, not_false_eq_true, mm_nl_n, mm_nl_i, mm_nl_r, mm_args_n, mm_args_i, mm_args_l, mm_args_r, mm_pad_0, mm_pad_n, mm_pad_c, List.length_cons, List.length_nil, List.nil_append, List.cons_append, Nat.zero_le, Nat.sub_zero, true_and, and_true, Nat.reduceAdd, Nat.reduceLeDiff, Nat.reduceLT, Nat.reduceSub, Nat.lt_irrefl, Nat.zero_add, Nat.add_zero, Nat.le_refl, k_20, k_10, k_01, ↓mm_if_T, ↓mm_if_F, ↓if10, ↓if00, not_true_eq_false, tf_01, ↓mm_if_tf, ↓mm_if_tn, ↓mm_if_nn, ↓mm_if_t (nI_le (Nat.le_refl k) (show k < 2 ^ 31 by omega))]
    exact h M1 hL hR hF
  | succ m ih =>
    intro k M1 hk hL hR hF
    have hlt : ¬ nI r ≤ nI k := nI_ge (by omega) (by omega)
    have eb := b8_sh s hs k (by omega)
    have em : s / 2 ^ k % 2 < 2 := Nat.mod_lt _ (by decide)
    have key := ih (k + 1)
    have e1 : wt x s (k + 1) = wt x s k * fx_ x (s / 2 ^ k % 2) := rfl
    have e2 : sx n X s (k + 1) = sp n (s / 2 ^ k % 2) (sx n X s k) := rfl
    rw [e1, e2] at key
    by_cases c : s / 2 ^ k % 2 = 1
    · rw [c] at key eb
      have e3 : tf ((nI s >>> (nI k &&& 31)) &&& 1 = 1) = 1 := tf_t eb
      have e4 : nI (wt x s k) * nI x = nI (wt x s k * fx_ x 1) := pk_mul _ _
      rw [eK_158_4]
      simp (disch := omega) only [eK_158_5, eK_158_6, pw_bipush, pw_goto, pw_nop0, pw_sipush, qw_aload_n0, qw_if_eq, qw_if_icmp_ge, qw_iinc9, qw_iload7, qw_iload8, qw_iload9, qw_iload_n2, qw_iload_n3, qw_imul, qw_invokestatic2, qw_invokevirtual3, qw_istore8, qw_isub, mm_rf_c, mm_rt_v, mm_rt_i, mm_rt_r, mm_alc_n, mm_alc_c, mm_rc_n, mm_rc_c, mm_wd_n, mm_wd_i, mm_wd_l, mm_wd_r, reduceCtorEq, false_implies, implies_true, true_implies, true_or, or_true, false_or, or_false, not_false_eq_true, mm_nl_n, mm_nl_i, mm_nl_r, mm_args_n, mm_args_i, mm_args_l, mm_args_r, mm_pad_0, mm_pad_n, mm_pad_c, List.length_cons, List.length_nil, List.nil_append, List.cons_append, Nat.zero_le, Nat.sub_zero, true_and, and_true, Nat.reduceAdd, Nat.reduceLeDiff, Nat.reduceLT, Nat.reduceSub, Nat.lt_irrefl, Nat.zero_add, Nat.add_zero, Nat.le_refl, k_20, k_10, k_01, ↓mm_if_T, ↓mm_if_F, ↓if10, ↓if00, not_true_eq_false, tf_01, ↓mm_if_tf, ↓mm_if_tn, ↓mm_if_nn, ↓mm_if_f hlt, r_98 (d + 4), e3, e4]
      refine r_143 (B := 429) d hL (by omega) hn (RM_c (RM_B hM hF) (SK_sx k)) hR (WF_sx hW k) 1 (fun M2 hR2 hF2 => ?_)
      rw [if_neg (by decide)] at hR2
      simp (disch := omega) only [pw_goto, pw_sipush, qw_aload_n0, qw_iinc9, qw_iload7, qw_iload9, qw_imul, qw_invokestatic2, qw_invokevirtual3, qw_istore8, mm_rf_c, mm_rt_v, mm_rt_i, mm_rt_r, mm_alc_n, mm_alc_c, mm_rc_n, mm_rc_c, mm_wd_n, mm_wd_i, mm_wd_l, mm_wd_r, reduceCtorEq, false_implies, implies_true, true_implies, true_or, or_true, false_or, or_false, not_false_eq_true, mm_nl_n, mm_nl_i, mm_nl_r, mm_args_n, mm_args_i, mm_args_l, mm_args_r, mm_pad_0, mm_pad_n, mm_pad_c, List.length_cons, List.length_nil, List.nil_append, List.cons_append, Nat.zero_le, Nat.sub_zero, true_and, and_true, Nat.reduceAdd, Nat.reduceLeDiff, Nat.reduceLT, Nat.reduceSub, Nat.lt_irrefl, Nat.zero_add, Nat.add_zero, Nat.le_refl, k_20, k_10, k_01, ↓mm_if_T, ↓mm_if_F, ↓if10, ↓if00, not_true_eq_false, tf_01, ↓mm_if_tf, ↓mm_if_tn, ↓mm_if_nn, nI_1]
      exact key M2 (by omega) (LyM_2 hF2.1 hL) hR2 (FB_tr hF hF2)
    · have c0 : s / 2 ^ k % 2 = 0 := by omega
      rw [c0] at key eb
      have e3 : tf ((nI s >>> (nI k &&& 31)) &&& 1 = 1) = 0 := tf_f (by rw [eb]; decide)
      have e5 : (10 : Int32) - nI x = nI (10 - x) := pk_sub (a := 10) hx
      have e4 : nI (wt x s k) * nI (10 - x) = nI (wt x s k * fx_ x 0) := pk_mul _ _
      rw [eK_158_4]
      simp (disch := omega) only [eK_158_5, eK_158_6, pw_bipush, pw_goto, pw_nop0, pw_sipush, qw_aload_n0, qw_if_eq, qw_if_icmp_ge, qw_iinc9, qw_iload7, qw_iload8, qw_iload9, qw_iload_n2, qw_iload_n3, qw_imul, qw_invokestatic2, qw_invokevirtual3, qw_istore8, qw_isub, mm_rf_c, mm_rt_v, mm_rt_i, mm_rt_r, mm_alc_n, mm_alc_c, mm_rc_n, mm_rc_c, mm_wd_n, mm_wd_i, mm_wd_l, mm_wd_r, reduceCtorEq, false_implies, implies_true, true_implies, true_or, or_true, false_or, or_false, not_false_eq_true, mm_nl_n, mm_nl_i, mm_nl_r, mm_args_n, mm_args_i, mm_args_l, mm_args_r, mm_pad_0, mm_pad_n, mm_pad_c, List.length_cons, List.length_nil, List.nil_append, List.cons_append, Nat.zero_le, Nat.sub_zero, true_and, and_true, Nat.reduceAdd, Nat.reduceLeDiff, Nat.reduceLT, Nat.reduceSub, Nat.lt_irrefl, Nat.zero_add, Nat.add_zero, Nat.le_refl, k_20, k_10, k_01, ↓mm_if_T, ↓mm_if_F, ↓if10, ↓if00, not_true_eq_false, tf_01, ↓mm_if_tf, ↓mm_if_tn, ↓mm_if_nn, ↓mm_if_f hlt, r_98 (d + 4), e3, e5, e4]
      refine r_143 (B := 429) d hL (by omega) hn (RM_c (RM_B hM hF) (SK_sx k)) hR (WF_sx hW k) 0 (fun M2 hR2 hF2 => ?_)
      rw [if_pos rfl] at hR2
      simp (disch := omega) only [pw_goto, pw_sipush, qw_aload_n0, qw_iinc9, qw_iload7, qw_iload9, qw_imul, qw_invokestatic2, qw_invokevirtual3, qw_istore8, mm_rf_c, mm_rt_v, mm_rt_i, mm_rt_r, mm_alc_n, mm_alc_c, mm_rc_n, mm_rc_c, mm_wd_n, mm_wd_i, mm_wd_l, mm_wd_r, reduceCtorEq, false_implies, implies_true, true_implies, true_or, or_true, false_or, or_false, not_false_eq_true, mm_nl_n, mm_nl_i, mm_nl_r, mm_args_n, mm_args_i, mm_args_l, mm_args_r, mm_pad_0, mm_pad_n, mm_pad_c, List.length_cons, List.length_nil, List.nil_append, List.cons_append, Nat.zero_le, Nat.sub_zero, true_and, and_true, Nat.reduceAdd, Nat.reduceLeDiff, Nat.reduceLT, Nat.reduceSub, Nat.lt_irrefl, Nat.zero_add, Nat.add_zero, Nat.le_refl, k_20, k_10, k_01, ↓mm_if_T, ↓mm_if_F, ↓if10, ↓if00, not_true_eq_false, tf_01, ↓mm_if_tf, ↓mm_if_tn, ↓mm_if_nn, nI_1]
      exact key M2 (by omega) (LyM_2 hF2.1 hL) hR2 (FB_tr hF hF2)

set_option maxHeartbeats 4000000 in
theorem k_158 (d : Nat) {n w : Nat} {X : Sx} {M : mm_M} {post : mm_Post} (hn : n ≤ 7) (hw : w < n) (hW : WF n X.1.1) (hM : RM M n X.1.1) (hL0 : LyM M) (hR0 : RB M 0 n X) (r x : Nat) (hr : r ≤ 8) (hx : x ≤ 10) (y : Int32)
    (h : ∀ M1 u v, FB M M1 429 → pK (d + 5) 158 post 10 [some (.inr (.inr (6, 0))), some (.inl (nI w)), some (.inl (nI r)), some (.inl (nI x)), some (.inl y), some (.inl (nI (sN (fq n w x r X) (2 ^ r)))), some (.inl (nI (sN (fun s => wt x s r) (2 ^ r)))), some (.inl (nI (2 ^ r))), u, v] [] M1 (0, 0)) :
    ∀ (m s : Nat) (u v : Option mm_V) (M1 : mm_M), s + m = 2 ^ r → FB M M1 429 → pK (d + 5) 158 post 3 [some (.inr (.inr (6, 0))), some (.inl (nI w)), some (.inl (nI r)), some (.inl (nI x)), some (.inl y), some (.inl (nI (sN (fq n w x r X) s))), some (.inl (nI (sN (fun s => wt x s r) s))), some (.inl (nI s)), u, v] [] M1 (0, 0) := by
  have e1 := b8_1 r (by omega)
  have e2 := b8_p r (by omega)
  intro m
  induction m with
  | zero =>
    intro s u v M1 hs hF
    have e : s = 2 ^ r := by omega
    subst e
    rw [eK_158_3]
    simp (disch := omega) only [pw_iconst, pw_nop0, pw_sipush, qw_aload_n0, qw_if_icmp_ge, qw_iload7, qw_iload_n2, qw_invokevirtual3, qw_ishl, qw_istore8, qw_istore9, mm_rf_c, mm_rt_v, mm_rt_i, mm_rt_r, mm_alc_n, mm_alc_c, mm_rc_n, mm_rc_c, mm_wd_n, mm_wd_i, mm_wd_l, mm_wd_r, reduceCtorEq, false_implies, implies_true, true_implies, true_or, or_true, false_or, or_false, not_false_eq_true, mm_nl_n, mm_nl_i, mm_nl_r, mm_args_n, mm_args_i, mm_args_l, mm_args_r, mm_pad_0, mm_pad_n, mm_pad_c, List.length_cons, List.length_nil, List.nil_append, List.cons_append, Nat.zero_le, Nat.sub_zero, true_and, and_true, Nat.reduceAdd, Nat.reduceLeDiff, Nat.reduceLT, Nat.reduceSub, Nat.lt_irrefl, Nat.zero_add, Nat.add_zero, Nat.le_refl, k_20, k_10, k_01, ↓mm_if_T, ↓mm_if_F, ↓if10, ↓if00, not_true_eq_false, tf_01, ↓mm_if_tf, ↓mm_if_tn, ↓mm_if_nn, e1, ↓mm_if_t (nI_le (Nat.le_refl (2 ^ r)) (show 2 ^ r < 2 ^ 31 by omega))]
    exact h M1 u v hF
  | succ m ih =>
    intro s u v M1 hs hF
    have hL := LyM_2 hF.1 hL0
    have hlt : ¬ nI (2 ^ r) ≤ nI s := nI_ge (by omega) (by omega)
    have hun1 : sN (fq n w x r X) (s + 1) = sN (fq n w x r X) s + fq n w x r X s := rfl
    have hun2 : sN (fun s => wt x s r) (s + 1) = sN (fun s => wt x s r) s + wt x s r := rfl
    have key := fun u v M1 => ih (s + 1) u v M1 (by omega)
    rw [hun1, hun2, ← nI_add, ← nI_add] at key
    have fin := k_158i (d := d) (w := w) (M := M) (post := post) hn hw hW hM r x s hr hx (by omega) y (nI (sN (fq n w x r X) s)) (nI (sN (fun s => wt x s r) s)) (fun M2 hL2 hR2 hF2 => by
      have l1 := hL2.1.2.2.2.2.2.2.1
      have l2 : mm_L M2 7 11 = 468 := hL2.2.2.2.2.2.2.2.1
      have h7 := hR2.2.1
      have efq : fq n w x r X s = if (sx n X s r).1.1 w 4 = 0 then 0 else wt x s r := rfl
      rw [efq] at key
      by_cases c : (sx n X s r).1.1 w 4 = 0
      · rw [if_pos c] at key
        have f2 : ¬ (g_fb (sx n X s r).1.1 n >>> (nI w &&& 31)) &&& 1 = 1 := fun z => (fb_has hn hw).mp z c
        have e0 : nI 0 = 0 := rfl
        rw [e0, Int32.add_zero] at key
        rw [eK_158_7]
        simp (disch := omega) only [eK_158_8, eK_158_9, pw_goto, pw_iconst, pw_nop0, pw_sipush, qw_aload_n0, qw_gf_b, qw_gf_i, qw_gf_r, qw_iadd, qw_iaload, qw_if_eq, qw_iinc7, qw_iload5, qw_iload6, qw_iload8, qw_iload_n1, qw_invokestatic2, qw_istore5, qw_istore6, mm_rf_c, mm_rt_v, mm_rt_i, mm_rt_r, mm_alc_n, mm_alc_c, mm_rc_n, mm_rc_c, mm_wd_n, mm_wd_i, mm_wd_l, mm_wd_r, reduceCtorEq, false_implies, implies_true, true_implies, true_or, or_true, false_or, or_false, not_false_eq_true, mm_nl_n, mm_nl_i, mm_nl_r, mm_args_n, mm_args_i, mm_args_l, mm_args_r, mm_pad_0, mm_pad_n, mm_pad_c, List.length_cons, List.length_nil, List.nil_append, List.cons_append, Nat.zero_le, Nat.sub_zero, true_and, and_true, Nat.reduceAdd, Nat.reduceLeDiff, Nat.reduceLT, Nat.reduceSub, Nat.lt_irrefl, Nat.zero_add, Nat.add_zero, Nat.le_refl, k_20, k_10, k_01, ↓mm_if_T, ↓mm_if_F, ↓if10, ↓if00, not_true_eq_false, tf_01, ↓mm_if_tf, ↓mm_if_tn, ↓mm_if_nn, l1, l2, i436, j436, h7, r_98 (d + 4), ↓mm_if_f f2, Int32.add_zero, nI_1]
        exact key _ _ _ hF2
      · rw [if_neg c] at key
        have f2 := (fb_has (A := (sx n X s r).1.1) hn hw).mpr c
        rw [eK_158_7]
        simp (disch := omega) only [eK_158_8, eK_158_9, pw_goto, pw_iconst, pw_nop0, pw_sipush, qw_aload_n0, qw_gf_b, qw_gf_i, qw_gf_r, qw_iadd, qw_iaload, qw_if_eq, qw_iinc7, qw_iload5, qw_iload6, qw_iload8, qw_iload_n1, qw_invokestatic2, qw_istore5, qw_istore6, mm_rf_c, mm_rt_v, mm_rt_i, mm_rt_r, mm_alc_n, mm_alc_c, mm_rc_n, mm_rc_c, mm_wd_n, mm_wd_i, mm_wd_l, mm_wd_r, reduceCtorEq, false_implies, implies_true, true_implies, true_or, or_true, false_or, or_false, not_false_eq_true, mm_nl_n, mm_nl_i, mm_nl_r, mm_args_n, mm_args_i, mm_args_l, mm_args_r, mm_pad_0, mm_pad_n, mm_pad_c, List.length_cons, List.length_nil, List.nil_append, List.cons_append, Nat.zero_le, Nat.sub_zero, true_and, and_true, Nat.reduceAdd, Nat.reduceLeDiff, Nat.reduceLT, Nat.reduceSub, Nat.lt_irrefl, Nat.zero_add, Nat.add_zero, Nat.le_refl, k_20, k_10, k_01, ↓mm_if_T, ↓mm_if_F, ↓if10, ↓if00, not_true_eq_false, tf_01, ↓mm_if_tf, ↓mm_if_tn, ↓mm_if_nn, l1, l2, i436, j436, h7, r_98 (d + 4), ↓mm_if_t f2, nI_1]
        exact key _ _ _ hF2) r 0
    rw [eK_158_3]
    simp (disch := omega) only [pw_iconst, pw_nop0, pw_sipush, qw_aload_n0, qw_if_icmp_ge, qw_iload7, qw_iload_n2, qw_invokevirtual3, qw_ishl, qw_istore8, qw_istore9, mm_rf_c, mm_rt_v, mm_rt_i, mm_rt_r, mm_alc_n, mm_alc_c, mm_rc_n, mm_rc_c, mm_wd_n, mm_wd_i, mm_wd_l, mm_wd_r, reduceCtorEq, false_implies, implies_true, true_implies, true_or, or_true, false_or, or_false, not_false_eq_true, mm_nl_n, mm_nl_i, mm_nl_r, mm_args_n, mm_args_i, mm_args_l, mm_args_r, mm_pad_0, mm_pad_n, mm_pad_c, List.length_cons, List.length_nil, List.nil_append, List.cons_append, Nat.zero_le, Nat.sub_zero, true_and, and_true, Nat.reduceAdd, Nat.reduceLeDiff, Nat.reduceLT, Nat.reduceSub, Nat.lt_irrefl, Nat.zero_add, Nat.add_zero, Nat.le_refl, k_20, k_10, k_01, ↓mm_if_T, ↓mm_if_F, ↓if10, ↓if00, not_true_eq_false, tf_01, ↓mm_if_tf, ↓mm_if_tn, ↓mm_if_nn, e1, ↓mm_if_f hlt]
    refine r_105 (B := 0) (C := 429) (d + 4) hL (by omega) (by omega) (by omega) (fun M2 hF2 hc => ?_)
    simp (disch := omega) only [pw_iconst, pw_nop0, pw_sipush, qw_aload_n0, qw_if_icmp_ge, qw_iload7, qw_iload_n2, qw_invokevirtual3, qw_ishl, qw_istore8, qw_istore9, mm_rf_c, mm_rt_v, mm_rt_i, mm_rt_r, mm_alc_n, mm_alc_c, mm_rc_n, mm_rc_c, mm_wd_n, mm_wd_i, mm_wd_l, mm_wd_r, reduceCtorEq, false_implies, implies_true, true_implies, true_or, or_true, false_or, or_false, not_false_eq_true, mm_nl_n, mm_nl_i, mm_nl_r, mm_args_n, mm_args_i, mm_args_l, mm_args_r, mm_pad_0, mm_pad_n, mm_pad_c, List.length_cons, List.length_nil, List.nil_append, List.cons_append, Nat.zero_le, Nat.sub_zero, true_and, and_true, Nat.reduceAdd, Nat.reduceLeDiff, Nat.reduceLT, Nat.reduceSub, Nat.lt_irrefl, Nat.zero_add, Nat.add_zero, Nat.le_refl, k_20, k_10, k_01, ↓mm_if_T, ↓mm_if_F, ↓if10, ↓if00, not_true_eq_false, tf_01, ↓mm_if_tf, ↓mm_if_tn, ↓mm_if_nn]
    exact fin M2 (by omega) (LyM_2 hF2.1 hL) (RB_cp hn (RB_B hR0 hF (by omega) hn) hc) (FB_tr hF hF2)

theorem k_158g (d : Nat) {M : mm_M} {post : mm_Post} (q1 q2 q3 y u v : Int32) (g : Nat) (h : ∀ b z, pK d 158 post 12 [some (.inr (.inr (6, 0))), some (.inl q1), some (.inl q2), some (.inl q3), some (.inl y), some (.inl u), some (.inl v), some (.inl (nI g)), b, z] [] M (0, 0)) : ∀ (b a : Nat) (z : Option mm_V), a < 2 ^ 31 → b < 2 ^ 31 → Nat.gcd a b = g → pK d 158 post 11 [some (.inr (.inr (6, 0))), some (.inl q1), some (.inl q2), some (.inl q3), some (.inl y), some (.inl u), some (.inl v), some (.inl (nI a)), some (.inl (nI b)), z] [] M (0, 0) := by
  intro b
  induction b using Nat.strongRecOn with
  | _ b ih =>
    intro a z ha hb hg
    by_cases c : b = 0
    · subst c
      rw [Nat.gcd_zero_right] at hg
      subst hg
      rw [eK_158_11]
      simp (disch := omega) only [pw_goto, qw_if_eq, qw_iload7, qw_iload8, qw_iload9, qw_irem, qw_istore7, qw_istore8, qw_istore9, mm_rf_c, mm_rt_v, mm_rt_i, mm_rt_r, mm_alc_n, mm_alc_c, mm_rc_n, mm_rc_c, mm_wd_n, mm_wd_i, mm_wd_l, mm_wd_r, reduceCtorEq, false_implies, implies_true, true_implies, true_or, or_true, false_or, or_false, not_false_eq_true, mm_nl_n, mm_nl_i, mm_nl_r, mm_args_n, mm_args_i, mm_args_l, mm_args_r, mm_pad_0, mm_pad_n, mm_pad_c, List.length_cons, List.length_nil, List.nil_append, List.cons_append, Nat.zero_le, Nat.sub_zero, true_and, and_true, Nat.reduceAdd, Nat.reduceLeDiff, Nat.reduceLT, Nat.reduceSub, Nat.lt_irrefl, Nat.zero_add, Nat.add_zero, Nat.le_refl, k_20, k_10, k_01, ↓mm_if_T, ↓mm_if_F, ↓if10, ↓if00, not_true_eq_false, tf_01, ↓mm_if_tf, ↓mm_if_tn, ↓mm_if_nn, ↓mm_if_t (show nI 0 = 0 from rfl)]
      exact h _ _
    · have hb0 : ¬ nI b = 0 := nI_ne0 (by omega) hb
      have er := pk_rem (a := a) (d := b) ha (by omega) hb
      have hlt : a % b < b := Nat.mod_lt _ (by omega)
      have key := fun z => ih (a % b) hlt b z hb (by omega) (by rw [eu_g]; exact hg)
      rw [eK_158_11]
      simp (disch := omega) only [pw_goto, qw_if_eq, qw_iload7, qw_iload8, qw_iload9, qw_irem, qw_istore7, qw_istore8, qw_istore9, mm_rf_c, mm_rt_v, mm_rt_i, mm_rt_r, mm_alc_n, mm_alc_c, mm_rc_n, mm_rc_c, mm_wd_n, mm_wd_i, mm_wd_l, mm_wd_r, reduceCtorEq, false_implies, implies_true, true_implies, true_or, or_true, false_or, or_false, not_false_eq_true, mm_nl_n, mm_nl_i, mm_nl_r, mm_args_n, mm_args_i, mm_args_l, mm_args_r, mm_pad_0, mm_pad_n, mm_pad_c, List.length_cons, List.length_nil, List.nil_append, List.cons_append, Nat.zero_le, Nat.sub_zero, true_and, and_true, Nat.reduceAdd, Nat.reduceLeDiff, Nat.reduceLT, Nat.reduceSub, Nat.lt_irrefl, Nat.zero_add, Nat.add_zero, Nat.le_refl, k_20, k_10, k_01, ↓mm_if_T, ↓mm_if_F, ↓if10, ↓if00, not_true_eq_false, tf_01, ↓mm_if_tf, ↓mm_if_tn, ↓mm_if_nn, ↓mm_if_f hb0, hb0, er]
      exact key _

set_option maxHeartbeats 4000000 in
theorem r_158 (d : Nat) {M : mm_M} {post : mm_Post} {n : Nat} {X : Sx} {a : Nat} {P : Nat → Sx} {b : Nat} {K : Nat → Sx} (hJ : J1 M n X a P b K) (hn : n ≤ 7) (ha : a ≤ 8) (hb : b ≤ 2) (hW : WF n X.1.1) (x m s y : Int32) (h : ∀ M', J1 M' n X a P b K → FY M M' → post (some (.inl (G74 n X x m s y))) M') : pC (d + 6) 158 [.inr (.inr (6, 0)), .inl x, .inl m, .inl s, .inl y] M post := by
  obtain ⟨hL, hM, hR, h9, hP, h10, hK⟩ := id hJ
  unfold G74 at h
  by_cases c1 : isw n x
  · by_cases c2 : 0 ≤ m ∧ m ≤ 8
    · by_cases c3 : 0 ≤ s ∧ s ≤ 10
      · by_cases c4 : 0 ≤ y ∧ y ≤ 1
        · rw [if_pos ⟨⟨⟨c1, c2⟩, c3⟩, c4⟩] at h
          obtain ⟨w, hw, rfl⟩ := isw_of hn c1
          obtain ⟨v1, v2, v3⟩ := nI_v7 hw hn
          obtain ⟨N, hN, rfl⟩ := nI_of2 (M := 8) (n := 8) (by decide) (Int32.not_lt.mpr c2.1) c2.2
          obtain ⟨Y, hY, rfl⟩ := nI_of2 (M := 10) (n := 10) (by decide) (Int32.not_lt.mpr c3.1) c3.2
          rw [nI_clamp (by omega), nI_clamp (by omega), nI_clamp (by omega)] at h
          have hfs := g_fs_le (n := n) (w := w) hY N X
          have h10 := b7_p10 N (by omega)
          have hp : 0 < 10 ^ N := by first | exact Nat.pow_pos (by decide) | exact Nat.pos_pow_of_pos N (by decide) | exact Nat.one_le_pow N 10 (by decide)
          have hgp : 0 < Nat.gcd (g_fs n w Y N X) (10 ^ N) := Nat.gcd_pos_of_pos_right _ hp
          have hgl : Nat.gcd (g_fs n w Y N X) (10 ^ N) ≤ 10 ^ N := Nat.gcd_le_right _ hp
          have key := k_158 d hn hw hW hM hL hR N Y hN hY y (post := post) (fun M1 u v hF => by
            rw [fq_all hY, wt_all hY]
            have hh := h M1 (J1_t hJ hn ha hb hF) (FY_B hF)
            unfold g_fr at hh
            have g0 : ¬ nI (Nat.gcd (g_fs n w Y N X) (10 ^ N)) = 0 := nI_ne0 hgp (by omega)
            have d1 := pk_div (a := g_fs n w Y N X) (d := Nat.gcd (g_fs n w Y N X) (10 ^ N)) (by omega) hgp (by omega)
            have d2 := pk_div (a := 10 ^ N) (d := Nat.gcd (g_fs n w Y N X) (10 ^ N)) (by omega) hgp (by omega)
            have kg := k_158g (d + 5) (M := M1) (post := post) (nI w) (nI N) (nI Y) y (nI (g_fs n w Y N X)) (nI (10 ^ N)) (Nat.gcd (g_fs n w Y N X) (10 ^ N)) (fun b z => by
              by_cases c : y = 0
              · rw [if_pos c] at hh
                rw [eK_158_12]
                simp (disch := omega) only [eK_158_14, pw_goto, qw_idiv, qw_if_ne, qw_iload4, qw_iload5, qw_iload7, qw_ireturn, mm_rf_c, mm_rt_v, mm_rt_i, mm_rt_r, mm_alc_n, mm_alc_c, mm_rc_n, mm_rc_c, mm_wd_n, mm_wd_i, mm_wd_l, mm_wd_r, reduceCtorEq, false_implies, implies_true, true_implies, true_or, or_true, false_or, or_false, not_false_eq_true, mm_nl_n, mm_nl_i, mm_nl_r, mm_args_n, mm_args_i, mm_args_l, mm_args_r, mm_pad_0, mm_pad_n, mm_pad_c, List.length_cons, List.length_nil, List.nil_append, List.cons_append, Nat.zero_le, Nat.sub_zero, true_and, and_true, Nat.reduceAdd, Nat.reduceLeDiff, Nat.reduceLT, Nat.reduceSub, Nat.lt_irrefl, Nat.zero_add, Nat.add_zero, Nat.le_refl, k_20, k_10, k_01, ↓mm_if_T, ↓mm_if_F, ↓if10, ↓if00, not_true_eq_false, tf_01, ↓mm_if_tf, ↓mm_if_tn, ↓mm_if_nn, ↓mm_if_t c, g0, d1]
                exact hh
              · rw [if_neg c] at hh
                rw [eK_158_12]
                simp (disch := omega) only [eK_158_13, eK_158_14, pw_goto, pw_nop0, qw_idiv, qw_if_ne, qw_iload4, qw_iload5, qw_iload6, qw_iload7, qw_ireturn, mm_rf_c, mm_rt_v, mm_rt_i, mm_rt_r, mm_alc_n, mm_alc_c, mm_rc_n, mm_rc_c, mm_wd_n, mm_wd_i, mm_wd_l, mm_wd_r, reduceCtorEq, false_implies, implies_true, true_implies, true_or, or_true, false_or, or_false, not_false_eq_true, mm_nl_n, mm_nl_i, mm_nl_r, mm_args_n, mm_args_i, mm_args_l, mm_args_r, mm_pad_0, mm_pad_n, mm_pad_c, List.length_cons, List.length_nil, List.nil_append, List.cons_append, Nat.zero_le, Nat.sub_zero, true_and, and_true, Nat.reduceAdd, Nat.reduceLeDiff, Nat.reduceLT, Nat.reduceSub, Nat.lt_irrefl, Nat.zero_add, Nat.add_zero, Nat.le_refl, k_20, k_10, k_01, ↓mm_if_T, ↓mm_if_F, ↓if10, ↓if00, not_true_eq_false, tf_01, ↓mm_if_tf, ↓mm_if_tn, ↓mm_if_nn, ↓mm_if_f c, g0, d2]
                exact hh) (10 ^ N) (g_fs n w Y N X) v (by omega) (by omega) rfl
            rw [eK_158_10]
            simp (disch := omega) only [pw_nop0, qw_iload5, qw_iload6, qw_istore7, qw_istore8, mm_rf_c, mm_rt_v, mm_rt_i, mm_rt_r, mm_alc_n, mm_alc_c, mm_rc_n, mm_rc_c, mm_wd_n, mm_wd_i, mm_wd_l, mm_wd_r, reduceCtorEq, false_implies, implies_true, true_implies, true_or, or_true, false_or, or_false, not_false_eq_true, mm_nl_n, mm_nl_i, mm_nl_r, mm_args_n, mm_args_i, mm_args_l, mm_args_r, mm_pad_0, mm_pad_n, mm_pad_c, List.length_cons, List.length_nil, List.nil_append, List.cons_append, Nat.zero_le, Nat.sub_zero, true_and, and_true, Nat.reduceAdd, Nat.reduceLeDiff, Nat.reduceLT, Nat.reduceSub, Nat.lt_irrefl, Nat.zero_add, Nat.add_zero, Nat.le_refl, k_20, k_10, k_01, ↓mm_if_T, ↓mm_if_F, ↓if10, ↓if00, not_true_eq_false, tf_01, ↓mm_if_tf, ↓mm_if_tn, ↓mm_if_nn]
            exact kg) (2 ^ N) 0 none none M (by omega) (FB_rf M 429)
          simp (disch := omega) only [eC_158, eK_158_0, eK_158_2, pw_iconst, pw_lconst, pw_ldc2_w, pw_nop0, qw_aload_n0, qw_i2l, qw_if_eq, qw_if_ne, qw_iload4, qw_iload_n1, qw_iload_n2, qw_iload_n3, qw_invokestatic3, qw_invokevirtual2, qw_istore5, qw_istore6, qw_istore7, mm_rf_c, mm_rt_v, mm_rt_i, mm_rt_r, mm_alc_n, mm_alc_c, mm_rc_n, mm_rc_c, mm_wd_n, mm_wd_i, mm_wd_l, mm_wd_r, reduceCtorEq, false_implies, implies_true, true_implies, true_or, or_true, false_or, or_false, not_false_eq_true, mm_nl_n, mm_nl_i, mm_nl_r, mm_args_n, mm_args_i, mm_args_l, mm_args_r, mm_pad_0, mm_pad_n, mm_pad_c, List.length_cons, List.length_nil, List.nil_append, List.cons_append, Nat.zero_le, Nat.sub_zero, true_and, and_true, Nat.reduceAdd, Nat.reduceLeDiff, Nat.reduceLT, Nat.reduceSub, Nat.lt_irrefl, Nat.zero_add, Nat.add_zero, Nat.le_refl, k_20, k_10, k_01, ↓mm_if_T, ↓mm_if_F, ↓if10, ↓if00, not_true_eq_false, tf_01, ↓mm_if_tf, ↓mm_if_tn, ↓mm_if_nn, r_106 (d + 3) hM.1, r_97 (d + 4) (nI N) 0 8, r_97 (d + 4) (nI Y) 0 10, r_97 (d + 4) y 0 1, ↓mm_if_t c1, ↓mm_if_t c2, ↓mm_if_t c3, ↓mm_if_t c4]
          exact key
        · rw [if_neg (fun z => c4 z.2)] at h
          simp (disch := omega) only [eC_158, eK_158_0, eK_158_1, pw_iconst, pw_lconst, pw_ldc2_w, pw_nop0, qw_aload_n0, qw_i2l, qw_if_eq, qw_if_ne, qw_iload4, qw_iload_n1, qw_iload_n2, qw_iload_n3, qw_invokestatic3, qw_invokevirtual2, qw_ireturn, mm_rf_c, mm_rt_v, mm_rt_i, mm_rt_r, mm_alc_n, mm_alc_c, mm_rc_n, mm_rc_c, mm_wd_n, mm_wd_i, mm_wd_l, mm_wd_r, reduceCtorEq, false_implies, implies_true, true_implies, true_or, or_true, false_or, or_false, not_false_eq_true, mm_nl_n, mm_nl_i, mm_nl_r, mm_args_n, mm_args_i, mm_args_l, mm_args_r, mm_pad_0, mm_pad_n, mm_pad_c, List.length_cons, List.length_nil, List.nil_append, List.cons_append, Nat.zero_le, Nat.sub_zero, true_and, and_true, Nat.reduceAdd, Nat.reduceLeDiff, Nat.reduceLT, Nat.reduceSub, Nat.lt_irrefl, Nat.zero_add, Nat.add_zero, Nat.le_refl, k_20, k_10, k_01, ↓mm_if_T, ↓mm_if_F, ↓if10, ↓if00, not_true_eq_false, tf_01, ↓mm_if_tf, ↓mm_if_tn, ↓mm_if_nn, r_106 (d + 3) hM.1, r_97 (d + 4) m 0 8, r_97 (d + 4) s 0 10, r_97 (d + 4) y 0 1, ↓mm_if_t c1, ↓mm_if_t c2, ↓mm_if_t c3, ↓mm_if_f c4]
          exact h M hJ (FY_rf M)
      · rw [if_neg (fun z => c3 z.1.2)] at h
        simp (disch := omega) only [eC_158, eK_158_0, eK_158_1, pw_iconst, pw_lconst, pw_ldc2_w, pw_nop0, qw_aload_n0, qw_i2l, qw_if_eq, qw_if_ne, qw_iload4, qw_iload_n1, qw_iload_n2, qw_iload_n3, qw_invokestatic3, qw_invokevirtual2, qw_ireturn, mm_rf_c, mm_rt_v, mm_rt_i, mm_rt_r, mm_alc_n, mm_alc_c, mm_rc_n, mm_rc_c, mm_wd_n, mm_wd_i, mm_wd_l, mm_wd_r, reduceCtorEq, false_implies, implies_true, true_implies, true_or, or_true, false_or, or_false, not_false_eq_true, mm_nl_n, mm_nl_i, mm_nl_r, mm_args_n, mm_args_i, mm_args_l, mm_args_r, mm_pad_0, mm_pad_n, mm_pad_c, List.length_cons, List.length_nil, List.nil_append, List.cons_append, Nat.zero_le, Nat.sub_zero, true_and, and_true, Nat.reduceAdd, Nat.reduceLeDiff, Nat.reduceLT, Nat.reduceSub, Nat.lt_irrefl, Nat.zero_add, Nat.add_zero, Nat.le_refl, k_20, k_10, k_01, ↓mm_if_T, ↓mm_if_F, ↓if10, ↓if00, not_true_eq_false, tf_01, ↓mm_if_tf, ↓mm_if_tn, ↓mm_if_nn, r_106 (d + 3) hM.1, r_97 (d + 4) m 0 8, r_97 (d + 4) s 0 10, ↓mm_if_t c1, ↓mm_if_t c2, ↓mm_if_f c3]
        exact h M hJ (FY_rf M)
    · rw [if_neg (fun z => c2 z.1.1.2)] at h
      simp (disch := omega) only [eC_158, eK_158_0, eK_158_1, pw_iconst, pw_lconst, pw_ldc2_w, pw_nop0, qw_aload_n0, qw_i2l, qw_if_eq, qw_if_ne, qw_iload4, qw_iload_n1, qw_iload_n2, qw_iload_n3, qw_invokestatic3, qw_invokevirtual2, qw_ireturn, mm_rf_c, mm_rt_v, mm_rt_i, mm_rt_r, mm_alc_n, mm_alc_c, mm_rc_n, mm_rc_c, mm_wd_n, mm_wd_i, mm_wd_l, mm_wd_r, reduceCtorEq, false_implies, implies_true, true_implies, true_or, or_true, false_or, or_false, not_false_eq_true, mm_nl_n, mm_nl_i, mm_nl_r, mm_args_n, mm_args_i, mm_args_l, mm_args_r, mm_pad_0, mm_pad_n, mm_pad_c, List.length_cons, List.length_nil, List.nil_append, List.cons_append, Nat.zero_le, Nat.sub_zero, true_and, and_true, Nat.reduceAdd, Nat.reduceLeDiff, Nat.reduceLT, Nat.reduceSub, Nat.lt_irrefl, Nat.zero_add, Nat.add_zero, Nat.le_refl, k_20, k_10, k_01, ↓mm_if_T, ↓mm_if_F, ↓if10, ↓if00, not_true_eq_false, tf_01, ↓mm_if_tf, ↓mm_if_tn, ↓mm_if_nn, r_106 (d + 3) hM.1, r_97 (d + 4) m 0 8, ↓mm_if_t c1, ↓mm_if_f c2]
      exact h M hJ (FY_rf M)
  · rw [if_neg (fun z => c1 z.1.1.1)] at h
    simp (disch := omega) only [eC_158, eK_158_0, eK_158_1, pw_iconst, pw_lconst, pw_ldc2_w, pw_nop0, qw_aload_n0, qw_i2l, qw_if_eq, qw_if_ne, qw_iload4, qw_iload_n1, qw_iload_n2, qw_iload_n3, qw_invokestatic3, qw_invokevirtual2, qw_ireturn, mm_rf_c, mm_rt_v, mm_rt_i, mm_rt_r, mm_alc_n, mm_alc_c, mm_rc_n, mm_rc_c, mm_wd_n, mm_wd_i, mm_wd_l, mm_wd_r, reduceCtorEq, false_implies, implies_true, true_implies, true_or, or_true, false_or, or_false, not_false_eq_true, mm_nl_n, mm_nl_i, mm_nl_r, mm_args_n, mm_args_i, mm_args_l, mm_args_r, mm_pad_0, mm_pad_n, mm_pad_c, List.length_cons, List.length_nil, List.nil_append, List.cons_append, Nat.zero_le, Nat.sub_zero, true_and, and_true, Nat.reduceAdd, Nat.reduceLeDiff, Nat.reduceLT, Nat.reduceSub, Nat.lt_irrefl, Nat.zero_add, Nat.add_zero, Nat.le_refl, k_20, k_10, k_01, ↓mm_if_T, ↓mm_if_F, ↓if10, ↓if00, not_true_eq_false, tf_01, ↓mm_if_tf, ↓mm_if_tn, ↓mm_if_nn, r_106 (d + 3) hM.1, ↓mm_if_f c1]
    exact h M hJ (FY_rf M)

