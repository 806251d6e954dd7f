/-! THE REFERENCE: casts, years -/
def el (l : Int32) (c t : Nat) : List Int32 := if f_lo (nI c) (nI t) = l then [100 * nI c + nI t] else []
def mt (l : Int32) (c : Nat) : Nat → List Int32
  | 0 => []
  | t + 1 => mt l c t ++ el l c t
def ml (l : Int32) : Nat → List Int32
  | 0 => []
  | c + 1 => ml l c ++ mt l (c + 1) 31
def td (l : Int32) (c : Nat) : Nat → List Int32
  | 0 => []
  | m + 1 => el l c (30 - m) ++ td l c m
def md (l : Int32) : Nat → List Int32
  | 0 => []
  | m + 1 => mt l (30 - m) 31 ++ md l m
theorem el_l (l : Int32) (c t : Nat) : (el l c t).length ≤ 1 := by
  unfold el
  by_cases h : f_lo (nI c) (nI t) = l
  · rw [if_pos h]; exact Nat.le_refl 1
  · rw [if_neg h]; exact Nat.zero_le 1
theorem mt_l (l : Int32) (c : Nat) : ∀ t, (mt l c t).length ≤ t
  | 0 => Nat.le_refl 0
  | t + 1 => by
    have := mt_l l c t
    have := el_l l c t
    unfold mt
    rw [List.length_append]
    omega
theorem td_l (l : Int32) (c : Nat) : ∀ t, (td l c t).length ≤ t
  | 0 => Nat.le_refl 0
  | t + 1 => by
    have := td_l l c t
    have := el_l l c (30 - t)
    unfold td
    rw [List.length_append]
    omega
theorem ml_l (l : Int32) : ∀ c, (ml l c).length ≤ 31 * c
  | 0 => Nat.le_refl 0
  | c + 1 => by
    have := ml_l l c
    have := mt_l l (c + 1) 31
    unfold ml
    rw [List.length_append]
    omega
theorem md_l (l : Int32) : ∀ c, (md l c).length ≤ 31 * c
  | 0 => Nat.le_refl 0
  | c + 1 => by
    have := md_l l c
    have := mt_l l (30 - c) 31
    unfold md
    rw [List.length_append]
    omega
theorem td_mt (l : Int32) (c : Nat) : ∀ s, s ≤ 31 → td l c 31 = mt l c s ++ td l c (31 - s)
  | 0, _ => by rw [show mt l c 0 = [] from rfl, List.nil_append]
  | s + 1, h => by
    rw [td_mt l c s (by omega), show 31 - s = (30 - s) + 1 by omega, show 31 - (s + 1) = 30 - s by omega]
    show mt l c s ++ (el l c (30 - (30 - s)) ++ td l c (30 - s)) = (mt l c s ++ el l c s) ++ td l c (30 - s)
    rw [show 30 - (30 - s) = s by omega, List.append_assoc]
theorem md_ml (l : Int32) : ∀ s, s ≤ 30 → md l 30 = ml l s ++ md l (30 - s)
  | 0, _ => by rw [show ml l 0 = [] from rfl, List.nil_append]
  | s + 1, h => by
    rw [md_ml l s (by omega), show 30 - s = (29 - s) + 1 by omega, show 30 - (s + 1) = 29 - s by omega]
    show ml l s ++ (mt l (30 - (29 - s)) 31 ++ md l (29 - s)) = (ml l s ++ mt l (s + 1) 31) ++ md l (29 - s)
    rw [show 30 - (29 - s) = s + 1 by omega, List.append_assoc]
def sm (G : List Int32) : Int32 × Int32 := (nI G.length, G.headD (-4))
theorem cs_in_l (l : Int32) (c : Nat) (G : List Int32) (hG : G.length ≤ 10000) : ∀ t, t ≤ 31 → cs_in l c (sm G) t = sm (G ++ mt l c t)
  | 0, _ => by
    show sm G = sm (G ++ [])
    rw [List.append_nil]
  | t + 1, h => by
    have ih := cs_in_l l c G hG t (by omega)
    have hl := mt_l l c t
    unfold cs_in mt el
    rw [ih]
    by_cases q : f_lo (nI c) (nI t) = l
    · rw [if_pos q, if_pos q, ← List.append_assoc]
      have hL : (G ++ mt l c t).length ≤ 20000 := by rw [List.length_append]; omega
      generalize G ++ mt l c t = H at *
      unfold sm
      dsimp only
      rw [nI_1, List.length_append, List.length_singleton]
      cases H with
      | nil => rw [if_pos (by rfl)]; rfl
      | cons x H =>
        rw [if_neg]
        · rfl
        · intro z
          have := (nI_eq (a := (x :: H).length + 1) (b := 1) (by omega) (by omega)).mp z
          rw [List.length_cons] at this
          omega
    · rw [if_neg q, if_neg q, List.append_nil]
theorem cs_out_l (l : Int32) : ∀ c, c ≤ 30 → cs_out l c = sm (ml l c)
  | 0, _ => rfl
  | c + 1, h => by
    have := ml_l l c
    unfold cs_out ml
    rw [cs_out_l l c (by omega), cs_in_l l (c + 1) _ (by omega) 31 (by omega)]
theorem tv_s (m : Nat) : (30 : Int32) - nI m + -1 = 30 - nI (m + 1) := by
  rw [← nI_1, ← Int32.sub_sub, Int32.sub_eq_add_neg (30 - nI m) 1]
theorem tv_n {m : Nat} (h : m ≤ 30) : (30 : Int32) - nI m = nI (30 - m) := pk_sub (a := 30) h

set_option maxHeartbeats 2000000 in
theorem k_157i (d : Nat) {M : mm_M} {post : mm_Post} (l y : Int32) (j : Nat) (hj : j < 30) (H : List Int32) (hH : H.length ≤ 10000) (h : ∀ u v, pK (d + 1) 157 post 3 [some (.inr (.inr (6, 0))), some (.inl l), some (.inl y), some (.inl (sm (td l (30 - j) 31 ++ H)).1), some (.inl (sm (td l (30 - j) 31 ++ H)).2), some (.inl (30 - nI (j + 1))), u, v] [] M (0, 0)) : ∀ (m' m : Nat) (z : Option mm_V), m + m' = 31 → pK (d + 1) 157 post 4 [some (.inr (.inr (6, 0))), some (.inl l), some (.inl y), some (.inl (sm (td l (30 - j) m ++ H)).1), some (.inl (sm (td l (30 - j) m ++ H)).2), some (.inl (30 - nI j)), some (.inl (30 - nI m)), z] [] M (0, 0) := by
  intro m'
  induction m' with
  | zero =>
    intro m z hm
    have e : m = 31 := by omega
    subst e
    rw [eK_157_4]
    simp (disch := omega) only [eK_157_11, pw_goto, pw_iconst, qw_if_icmp_ne, qw_if_lt, qw_iinc5, qw_iload5, qw_iload6, qw_iload_n1, qw_invokestatic2, mm_rf_c, mm_rt_v, mm_rt_i, mm_rt_r, mm_alc_n, mm_alc_c, mm_rc_n, mm_rc_c, mm_wd_n, mm_wd_i, mm_wd_l, mm_wd_r, reduceCtorEq, false_implies, implies_true, true_implies, true_or, or_true, false_or, or_false, not_false_eq_true, mm_nl_n, mm_nl_i, mm_nl_r, mm_args_n, mm_args_i, mm_args_l, mm_args_r, mm_pad_0, mm_pad_n, mm_pad_c, List.length_cons, List.length_nil, List.nil_append, List.cons_append, Nat.zero_le, Nat.sub_zero, true_and, and_true, Nat.reduceAdd, Nat.reduceLeDiff, Nat.reduceLT, Nat.reduceSub, Nat.lt_irrefl, Nat.zero_add, Nat.add_zero, Nat.le_refl, k_20, k_10, k_01, ↓mm_if_T, ↓mm_if_F, ↓if10, ↓if00, not_true_eq_false, tf_01, ↓mm_if_tf, ↓mm_if_tn, ↓mm_if_nn, ↓mm_if_t (show (30 : Int32) - nI 31 < 0 by decide), tv_s]
    exact h _ _
  | succ m' ih =>
    intro m z hm
    have hlt : ¬ (30 : Int32) - nI m < 0 := by rw [tv_n (by omega)]; exact nI_pos (by omega)
    have e1 := tv_n (m := m) (by omega)
    have e2 := tv_n (m := j) (by omega)
    have key := fun z => ih (m + 1) z (by omega)
    have hl := td_l l (30 - j) m
    unfold td el at key
    by_cases c : f_lo (nI (30 - j)) (nI (30 - m)) = l
    · rw [if_pos c] at key
      have k1 : (sm ([100 * nI (30 - j) + nI (30 - m)] ++ td l (30 - j) m ++ H)).1 = (sm (td l (30 - j) m ++ H)).1 + 1 := by
        unfold sm
        dsimp only
        rw [nI_1, List.append_assoc, List.length_append, List.length_singleton, Nat.add_comm]
      have k2 : (sm ([100 * nI (30 - j) + nI (30 - m)] ++ td l (30 - j) m ++ H)).2 = 100 * nI (30 - j) + nI (30 - m) := rfl
      rw [k1, k2] at key
      have c' : f_lo (30 - nI j) (30 - nI m) = l := by rw [e1, e2]; exact c
      rw [← e1, ← e2] at key
      rw [e1, e2] at key
      generalize sm (td l (30 - j) m ++ H) = Q at *
      rw [← e1, ← e2] at key
      rw [eK_157_4]
      simp (disch := omega) only [eK_157_5, eK_157_6, eK_157_7, eK_157_8, eK_157_9, eK_157_10, pw_bipush, pw_goto, pw_iconst, pw_nop0, qw_iadd, qw_if_eq, qw_if_icmp_ne, qw_if_lt, qw_iinc6, qw_iload4, qw_iload5, qw_iload6, qw_iload7, qw_iload_n1, qw_iload_n3, qw_imul, qw_invokestatic2, qw_istore4, qw_istore7, qw_istore_n3, mm_rf_c, mm_rt_v, mm_rt_i, mm_rt_r, mm_alc_n, mm_alc_c, mm_rc_n, mm_rc_c, mm_wd_n, mm_wd_i, mm_wd_l, mm_wd_r, reduceCtorEq, false_implies, implies_true, true_implies, true_or, or_true, false_or, or_false, not_false_eq_true, mm_nl_n, mm_nl_i, mm_nl_r, mm_args_n, mm_args_i, mm_args_l, mm_args_r, mm_pad_0, mm_pad_n, mm_pad_c, List.length_cons, List.length_nil, List.nil_append, List.cons_append, Nat.zero_le, Nat.sub_zero, true_and, and_true, Nat.reduceAdd, Nat.reduceLeDiff, Nat.reduceLT, Nat.reduceSub, Nat.lt_irrefl, Nat.zero_add, Nat.add_zero, Nat.le_refl, k_20, k_10, k_01, ↓mm_if_T, ↓mm_if_F, ↓if10, ↓if00, not_true_eq_false, tf_01, ↓mm_if_tf, ↓mm_if_tn, ↓mm_if_nn, ↓mm_if_f hlt, r_118 d, ↓mm_if_t c', tv_s]
      exact key _
    · rw [if_neg c, List.nil_append] at key
      have c' : ¬ f_lo (30 - nI j) (30 - nI m) = l := by rw [e1, e2]; exact c
      rw [eK_157_4]
      simp (disch := omega) only [eK_157_5, eK_157_6, eK_157_7, eK_157_8, eK_157_9, eK_157_10, pw_bipush, pw_goto, pw_iconst, pw_nop0, qw_iadd, qw_if_eq, qw_if_icmp_ne, qw_if_lt, qw_iinc6, qw_iload4, qw_iload5, qw_iload6, qw_iload7, qw_iload_n1, qw_iload_n3, qw_imul, qw_invokestatic2, qw_istore4, qw_istore7, qw_istore_n3, mm_rf_c, mm_rt_v, mm_rt_i, mm_rt_r, mm_alc_n, mm_alc_c, mm_rc_n, mm_rc_c, mm_wd_n, mm_wd_i, mm_wd_l, mm_wd_r, reduceCtorEq, false_implies, implies_true, true_implies, true_or, or_true, false_or, or_false, not_false_eq_true, mm_nl_n, mm_nl_i, mm_nl_r, mm_args_n, mm_args_i, mm_args_l, mm_args_r, mm_pad_0, mm_pad_n, mm_pad_c, List.length_cons, List.length_nil, List.nil_append, List.cons_append, Nat.zero_le, Nat.sub_zero, true_and, and_true, Nat.reduceAdd, Nat.reduceLeDiff, Nat.reduceLT, Nat.reduceSub, Nat.lt_irrefl, Nat.zero_add, Nat.add_zero, Nat.le_refl, k_20, k_10, k_01, ↓mm_if_T, ↓mm_if_F, ↓if10, ↓if00, not_true_eq_false, tf_01, ↓mm_if_tf, ↓mm_if_tn, ↓mm_if_nn, ↓mm_if_f hlt, r_118 d, ↓mm_if_f c', tv_s, Int32.add_zero]
      exact key _
theorem k_157 (d : Nat) {M : mm_M} {post : mm_Post} (l y : Int32) (h : post (some (.inl (if y = 0 then (sm (md l 30)).1 else (sm (md l 30)).2))) M) : ∀ (m' m : Nat) (u v : Option mm_V), m + m' = 30 → pK (d + 1) 157 post 3 [some (.inr (.inr (6, 0))), some (.inl l), some (.inl y), some (.inl (sm (md l m)).1), some (.inl (sm (md l m)).2), some (.inl (30 - nI m)), u, v] [] M (0, 0) := by
  intro m'
  induction m' with
  | zero =>
    intro m u v hm
    have e : m = 30 := by omega
    subst e
    by_cases c : y = 0
    · rw [if_pos c] at h
      rw [eK_157_3]
      simp (disch := omega) only [eK_157_12, eK_157_13, eK_157_14, pw_bipush, pw_goto, pw_nop0, qw_if_le, qw_if_ne, qw_iload4, qw_iload5, qw_iload_n2, qw_iload_n3, qw_ireturn, qw_istore6, mm_rf_c, mm_rt_v, mm_rt_i, mm_rt_r, mm_alc_n, mm_alc_c, mm_rc_n, mm_rc_c, mm_wd_n, mm_wd_i, mm_wd_l, mm_wd_r, reduceCtorEq, false_implies, implies_true, true_implies, true_or, or_true, false_or, or_false, not_false_eq_true, mm_nl_n, mm_nl_i, mm_nl_r, mm_args_n, mm_args_i, mm_args_l, mm_args_r, mm_pad_0, mm_pad_n, mm_pad_c, List.length_cons, List.length_nil, List.nil_append, List.cons_append, Nat.zero_le, Nat.sub_zero, true_and, and_true, Nat.reduceAdd, Nat.reduceLeDiff, Nat.reduceLT, Nat.reduceSub, Nat.lt_irrefl, Nat.zero_add, Nat.add_zero, Nat.le_refl, k_20, k_10, k_01, ↓mm_if_T, ↓mm_if_F, ↓if10, ↓if00, not_true_eq_false, tf_01, ↓mm_if_tf, ↓mm_if_tn, ↓mm_if_nn, ↓mm_if_t (show (30 : Int32) - nI 30 ≤ 0 by decide), ↓mm_if_t c]
      exact h
    · rw [if_neg c] at h
      rw [eK_157_3]
      simp (disch := omega) only [eK_157_12, eK_157_13, eK_157_14, pw_bipush, pw_goto, pw_nop0, qw_if_le, qw_if_ne, qw_iload4, qw_iload5, qw_iload_n2, qw_iload_n3, qw_ireturn, qw_istore6, mm_rf_c, mm_rt_v, mm_rt_i, mm_rt_r, mm_alc_n, mm_alc_c, mm_rc_n, mm_rc_c, mm_wd_n, mm_wd_i, mm_wd_l, mm_wd_r, reduceCtorEq, false_implies, implies_true, true_implies, true_or, or_true, false_or, or_false, not_false_eq_true, mm_nl_n, mm_nl_i, mm_nl_r, mm_args_n, mm_args_i, mm_args_l, mm_args_r, mm_pad_0, mm_pad_n, mm_pad_c, List.length_cons, List.length_nil, List.nil_append, List.cons_append, Nat.zero_le, Nat.sub_zero, true_and, and_true, Nat.reduceAdd, Nat.reduceLeDiff, Nat.reduceLT, Nat.reduceSub, Nat.lt_irrefl, Nat.zero_add, Nat.add_zero, Nat.le_refl, k_20, k_10, k_01, ↓mm_if_T, ↓mm_if_F, ↓if10, ↓if00, not_true_eq_false, tf_01, ↓mm_if_tf, ↓mm_if_tn, ↓mm_if_nn, ↓mm_if_t (show (30 : Int32) - nI 30 ≤ 0 by decide), ↓mm_if_f c]
      exact h
  | succ m' ih =>
    intro m u v hm
    have hlt : ¬ (30 : Int32) - nI m ≤ 0 := by rw [tv_n (by omega)]; exact nI_nle (by omega) (by omega)
    have hl := md_l l m
    have key := fun u v => ih (m + 1) u v (by omega)
    have e1 : md l (m + 1) = td l (30 - m) 31 ++ md l m := by rw [td_mt l (30 - m) 31 (by omega), show 31 - 31 = 0 from rfl]; unfold td; rw [List.append_nil]; rfl
    rw [e1] at key
    have := k_157i d (M := M) (post := post) l y m (by omega) (md l m) (by omega) key 31 0 v (by omega)
    rw [eK_157_3]
    simp (disch := omega) only [pw_bipush, pw_nop0, qw_if_le, qw_iload5, qw_istore6, mm_rf_c, mm_rt_v, mm_rt_i, mm_rt_r, mm_alc_n, mm_alc_c, mm_rc_n, mm_rc_c, mm_wd_n, mm_wd_i, mm_wd_l, mm_wd_r, reduceCtorEq, false_implies, implies_true, true_implies, true_or, or_true, false_or, or_false, not_false_eq_true, mm_nl_n, mm_nl_i, mm_nl_r, mm_args_n, mm_args_i, mm_args_l, mm_args_r, mm_pad_0, mm_pad_n, mm_pad_c, List.length_cons, List.length_nil, List.nil_append, List.cons_append, Nat.zero_le, Nat.sub_zero, true_and, and_true, Nat.reduceAdd, Nat.reduceLeDiff, Nat.reduceLT, Nat.reduceSub, Nat.lt_irrefl, Nat.zero_add, Nat.add_zero, Nat.le_refl, k_20, k_10, k_01, ↓mm_if_T, ↓mm_if_F, ↓if10, ↓if00, not_true_eq_false, tf_01, ↓mm_if_tf, ↓mm_if_tn, ↓mm_if_nn, ↓mm_if_f hlt]
    exact this
theorem r_157 (d : Nat) {M : mm_M} {post : mm_Post} (l y : Int32) : pC (d + 2) 157 [.inr (.inr (6, 0)), .inl l, .inl y] M post = post (some (.inl (G73 l y))) M := by
  refine pC_one (fun post h => ?_) post
  unfold G73 at h
  by_cases c1 : 0 ≤ l ∧ l ≤ 99
  · by_cases c2 : 0 ≤ y ∧ y ≤ 1
    · rw [if_pos ⟨c1, c2⟩, cs_out_l l 30 (by omega)] at h
      have e : md l 30 = ml l 30 := by rw [md_ml l 30 (by omega), show 30 - 30 = 0 from rfl]; unfold md; rw [List.append_nil]
      rw [← e] at h
      have := k_157 d l y h 30 0 none none (by omega)
      simp (disch := omega) only [eC_157, eK_157_0, eK_157_2, pw_bipush, pw_iconst, pw_lconst, pw_ldc2_w, pw_nop0, qw_i2l, qw_if_eq, qw_if_ne, qw_iload_n1, qw_iload_n2, qw_invokestatic3, qw_istore4, qw_istore5, qw_istore_n3, mm_rf_c, mm_rt_v, mm_rt_i, mm_rt_r, mm_alc_n, mm_alc_c, mm_rc_n, mm_rc_c, mm_wd_n, mm_wd_i, mm_wd_l, mm_wd_r, reduceCtorEq, false_implies, implies_true, true_implies, true_or, or_true, false_or, or_false, not_false_eq_true, mm_nl_n, mm_nl_i, mm_nl_r, mm_args_n, mm_args_i, mm_args_l, mm_args_r, mm_pad_0, mm_pad_n, mm_pad_c, List.length_cons, List.length_nil, List.nil_append, List.cons_append, Nat.zero_le, Nat.sub_zero, true_and, and_true, Nat.reduceAdd, Nat.reduceLeDiff, Nat.reduceLT, Nat.reduceSub, Nat.lt_irrefl, Nat.zero_add, Nat.add_zero, Nat.le_refl, k_20, k_10, k_01, ↓mm_if_T, ↓mm_if_F, ↓if10, ↓if00, not_true_eq_false, tf_01, ↓mm_if_tf, ↓mm_if_tn, ↓mm_if_nn, r_97 d l 0 99, r_97 d y 0 1, ↓mm_if_t c1, ↓mm_if_t c2]
      exact this
    · rw [if_neg (fun z => c2 z.2)] at h
      simp (disch := omega) only [eC_157, eK_157_0, eK_157_1, pw_iconst, pw_lconst, pw_ldc2_w, pw_nop0, qw_i2l, qw_if_eq, qw_if_ne, qw_iload_n1, qw_iload_n2, qw_invokestatic3, qw_ireturn, mm_rf_c, mm_rt_v, mm_rt_i, mm_rt_r, mm_alc_n, mm_alc_c, mm_rc_n, mm_rc_c, mm_wd_n, mm_wd_i, mm_wd_l, mm_wd_r, reduceCtorEq, false_implies, implies_true, true_implies, true_or, or_true, false_or, or_false, not_false_eq_true, mm_nl_n, mm_nl_i, mm_nl_r, mm_args_n, mm_args_i, mm_args_l, mm_args_r, mm_pad_0, mm_pad_n, mm_pad_c, List.length_cons, List.length_nil, List.nil_append, List.cons_append, Nat.zero_le, Nat.sub_zero, true_and, and_true, Nat.reduceAdd, Nat.reduceLeDiff, Nat.reduceLT, Nat.reduceSub, Nat.lt_irrefl, Nat.zero_add, Nat.add_zero, Nat.le_refl, k_20, k_10, k_01, ↓mm_if_T, ↓mm_if_F, ↓if10, ↓if00, not_true_eq_false, tf_01, ↓mm_if_tf, ↓mm_if_tn, ↓mm_if_nn, r_97 d l 0 99, r_97 d y 0 1, ↓mm_if_t c1, ↓mm_if_f c2]
      exact h
  · rw [if_neg (fun z => c1 z.1)] at h
    simp (disch := omega) only [eC_157, eK_157_0, eK_157_1, pw_iconst, pw_lconst, pw_ldc2_w, pw_nop0, qw_i2l, qw_if_eq, qw_if_ne, qw_iload_n1, qw_iload_n2, qw_invokestatic3, qw_ireturn, mm_rf_c, mm_rt_v, mm_rt_i, mm_rt_r, mm_alc_n, mm_alc_c, mm_rc_n, mm_rc_c, mm_wd_n, mm_wd_i, mm_wd_l, mm_wd_r, reduceCtorEq, false_implies, implies_true, true_implies, true_or, or_true, false_or, or_false, not_false_eq_true, mm_nl_n, mm_nl_i, mm_nl_r, mm_args_n, mm_args_i, mm_args_l, mm_args_r, mm_pad_0, mm_pad_n, mm_pad_c, List.length_cons, List.length_nil, List.nil_append, List.cons_append, Nat.zero_le, Nat.sub_zero, true_and, and_true, Nat.reduceAdd, Nat.reduceLeDiff, Nat.reduceLT, Nat.reduceSub, Nat.lt_irrefl, Nat.zero_add, Nat.add_zero, Nat.le_refl, k_20, k_10, k_01, ↓mm_if_T, ↓mm_if_F, ↓if10, ↓if00, not_true_eq_false, tf_01, ↓mm_if_tf, ↓mm_if_tn, ↓mm_if_nn, r_97 d l 0 99, ↓mm_if_f c1]
    exact h

