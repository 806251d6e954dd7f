/-! THE CLASS: letters and numbers of the text -/
def lL (t : Nat) (lt : Nat → Int32) (p : Nat) : Int32 := if p < t then lt p else -4
/-- a number of one figure or two at p, and where it ends -/
def p_n (L : Nat → Int32) (p : Nat) : Option (Int32 × Nat) := if 48 ≤ L p ∧ L p ≤ 57 then (if 48 ≤ L (p + 1) ∧ L (p + 1) ≤ 57 then some (10 * (L p - 48) + L (p + 1) - 48, p + 2) else some (L p - 48, p + 1)) else none
/-- m numbers more, of many, with what stands behind each -/
def p_ns (L : Nat → Int32) (many : Nat) : Nat → (Nat → Int32) → Nat → Option ((Nat → Int32) × Nat)
  | 0, a, p => some (a, p)
  | m + 1, a, p => match p_n L p with
    | none => none
    | some (v, q) => if L q = (if m = 0 then 59 else 44) then p_ns L many m (fu a (many - (m + 1)) v) (q + 1) else none
/-- where the reader is -/
def TX (M : mm_M) (t : Nat) (lt : Nat → Int32) (p : Nat) : Prop := (mm_R M 3 0 0 = some 0 ∧ mm_R M 3 0 1 = some 1 ∧ mm_L M 7 0 = 200 ∧ mm_L M 7 1 = 5) ∧ t ≤ 200 ∧ mm_I M 3 0 3 = nI t ∧ (∀ i, i < t → mm_I M 7 0 i = lt i) ∧ mm_I M 3 0 2 = nI p
def FZ (M M' : mm_M) : Prop := M'.2 = M.2 ∧ ∀ c i k, ¬ (c = 3 ∧ i = 0 ∧ k = 2) → ¬ (c = 7 ∧ i = 1) → mm_I M' c i k = mm_I M c i k
theorem FZ_rf (M : mm_M) : FZ M M := ⟨rfl, fun _ _ _ _ _ => rfl⟩
theorem FZ_tr {M M1 M2 : mm_M} (h : FZ M M1) (h' : FZ M1 M2) : FZ M M2 := ⟨h'.1.trans h.1, fun c i k a b => (h'.2 c i k a b).trans (h.2 c i k a b)⟩
theorem FZ_3 {M M' : mm_M} {v : Int32} (h : FZ M M') : FZ M (mm_sI M' 3 0 2 v) := ⟨h.1, fun c i k a b => by rw [mm_I_sI, if_neg a]; exact h.2 c i k a b⟩
theorem FZ_7 {M M' : mm_M} {j : Nat} {v : Int32} (h : FZ M M') : FZ M (mm_sI M' 7 1 j v) := ⟨h.1, fun c i k a b => by rw [mm_I_sI, if_neg (fun z => b ⟨z.1, z.2.1⟩)]; exact h.2 c i k a b⟩
theorem TX_F {M M' : mm_M} {t : Nat} {lt : Nat → Int32} {p p' : Nat} (h : TX M t lt p) (hF : FZ M M') (he : mm_I M' 3 0 2 = nI p') : TX M' t lt p' := by
  obtain ⟨⟨a1, a2, a3, a4⟩, b, c, d, e⟩ := h
  refine ⟨⟨?_, ?_, ?_, ?_⟩, b, ?_, ?_, he⟩
  · unfold mm_R; rw [hF.1]; exact a1
  · unfold mm_R; rw [hF.1]; exact a2
  · unfold mm_L; rw [hF.1]; exact a3
  · unfold mm_L; rw [hF.1]; exact a4
  · rw [hF.2 _ _ _ (by omega) (by omega)]; exact c
  · intro i hi; rw [hF.2 _ _ _ (by omega) (by omega)]; exact d i hi
theorem TX_3 {M : mm_M} {t : Nat} {lt : Nat → Int32} {p : Nat} (h : TX M t lt p) (p' : Nat) : TX (mm_sI M 3 0 2 (nI p')) t lt p' := TX_F h (FZ_3 (FZ_rf M)) mm_I_s

set_option maxHeartbeats 4000000 in
theorem e_31 (d : Nat) {M : mm_M} {post : mm_Post} {t : Nat} {lt : Nat → Int32} {p : Nat} (h : TX M t lt p) (hp : p < 2 ^ 31) : pC (d + 1) 31 [.inr (.inr (3, 0))] M post = post (some (.inl (lL t lt p))) M := by
  obtain ⟨⟨a1, a2, a3, a4⟩, b, c, e, f⟩ := h
  unfold lL
  by_cases hq : p < t
  · have q1 : ¬ nI t ≤ nI p := nI_ge hq (by omega)
    have q2 : vp_in (nI p) 200 := vp_in_nI (by omega) (by omega)
    have q3 : (nI p).toNatClampNeg = p := nI_clamp (by omega)
    have q4 := e p hq
    rw [if_pos hq]
    simp only [eC_31, eK_31_0, eK_31_1, eK_31_2, pw_aload_n, pw_bipush, pw_getfield, pw_goto, pw_iaload, pw_if_icmp, pw_ireturn, pw_nop0, mm_pI_c, mm_pL_c, mm_pA_c, mm_pR_c, mm_p1_i, mm_p1_r, mm_pN_0, mm_pN_s, mm_lI_c, mm_lL_c, mm_lA_c, mm_wd_n, mm_wd_i, mm_wd_l, mm_wd_r, mm_gf_i, mm_gf_b, mm_gf_r, mm_rf_c, mm_pf_i, mm_pf_b, mm_pf_r, mm_rt_v, mm_rt_i, mm_rt_r, mm_c_eq, mm_c_ne, mm_c_lt, mm_c_ge, mm_c_gt, mm_c_le, mm_sw_n, mm_sw_c, mm_alc_n, mm_alc_c, mm_rc_n, mm_rc_c, reduceCtorEq, false_implies, implies_true, true_implies, true_or, or_true, false_or, or_false, not_false_eq_true, mm_at_0, mm_at_s, mm_set_0, mm_set_s, mm_nl_n, mm_nl_i, mm_nl_r, mm_args_n, mm_args_i, mm_args_l, mm_args_r, mm_pad_0, mm_pad_n, mm_pad_c, List.length_cons, List.length_nil, List.nil_append, List.cons_append, Nat.zero_le, Nat.sub_zero, true_and, and_true, Nat.reduceAdd, Nat.reduceLeDiff, Nat.reduceLT, Nat.reduceSub, Nat.lt_irrefl, Nat.zero_add, Nat.add_zero, k_20, k_10, k_01, mm_if_T, mm_if_F, not_true_eq_false, not_false_eq_true, a1, a3, c, f, mm_if_f q1, q2, q3, q4]
  · have q1 : nI t ≤ nI p := nI_le (by omega) (by omega)
    rw [if_neg hq]
    simp only [eC_31, eK_31_0, eK_31_1, eK_31_2, pw_aload_n, pw_bipush, pw_getfield, pw_goto, pw_iaload, pw_if_icmp, pw_ireturn, pw_nop0, mm_pI_c, mm_pL_c, mm_pA_c, mm_pR_c, mm_p1_i, mm_p1_r, mm_pN_0, mm_pN_s, mm_lI_c, mm_lL_c, mm_lA_c, mm_wd_n, mm_wd_i, mm_wd_l, mm_wd_r, mm_gf_i, mm_gf_b, mm_gf_r, mm_rf_c, mm_pf_i, mm_pf_b, mm_pf_r, mm_rt_v, mm_rt_i, mm_rt_r, mm_c_eq, mm_c_ne, mm_c_lt, mm_c_ge, mm_c_gt, mm_c_le, mm_sw_n, mm_sw_c, mm_alc_n, mm_alc_c, mm_rc_n, mm_rc_c, reduceCtorEq, false_implies, implies_true, true_implies, true_or, or_true, false_or, or_false, not_false_eq_true, mm_at_0, mm_at_s, mm_set_0, mm_set_s, mm_nl_n, mm_nl_i, mm_nl_r, mm_args_n, mm_args_i, mm_args_l, mm_args_r, mm_pad_0, mm_pad_n, mm_pad_c, List.length_cons, List.length_nil, List.nil_append, List.cons_append, Nat.zero_le, Nat.sub_zero, true_and, and_true, Nat.reduceAdd, Nat.reduceLeDiff, Nat.reduceLT, Nat.reduceSub, Nat.lt_irrefl, Nat.zero_add, Nat.add_zero, k_20, k_10, k_01, mm_if_T, mm_if_F, not_true_eq_false, not_false_eq_true, c, f, mm_if_t q1]
theorem e_32 (d : Nat) {M : mm_M} {post : mm_Post} {t : Nat} {lt : Nat → Int32} {p : Nat} (h : TX M t lt p) (hp : p < 2 ^ 31) : pC (d + 2) 32 [.inr (.inr (3, 0))] M post = post (some (.inl (lL t lt p))) (mm_sI M 3 0 2 (nI (p + 1))) := by
  have f := h.2.2.2.2
  simp only [eC_32, eK_32_0, pw_aload_n, pw_dup, pw_getfield, pw_iadd, pw_iconst, pw_iload_n, pw_invokevirtual, pw_ireturn, pw_istore_n, pw_putfield, mm_pI_c, mm_pL_c, mm_pA_c, mm_pR_c, mm_p1_i, mm_p1_r, mm_pN_0, mm_pN_s, mm_lI_c, mm_lL_c, mm_lA_c, mm_wd_n, mm_wd_i, mm_wd_l, mm_wd_r, mm_gf_i, mm_gf_b, mm_gf_r, mm_rf_c, mm_pf_i, mm_pf_b, mm_pf_r, mm_rt_v, mm_rt_i, mm_rt_r, mm_c_eq, mm_c_ne, mm_c_lt, mm_c_ge, mm_c_gt, mm_c_le, mm_sw_n, mm_sw_c, mm_alc_n, mm_alc_c, mm_rc_n, mm_rc_c, reduceCtorEq, false_implies, implies_true, true_implies, true_or, or_true, false_or, or_false, not_false_eq_true, mm_at_0, mm_at_s, mm_set_0, mm_set_s, mm_nl_n, mm_nl_i, mm_nl_r, mm_args_n, mm_args_i, mm_args_l, mm_args_r, mm_pad_0, mm_pad_n, mm_pad_c, List.length_cons, List.length_nil, List.nil_append, List.cons_append, Nat.zero_le, Nat.sub_zero, true_and, and_true, Nat.reduceAdd, Nat.reduceLeDiff, Nat.reduceLT, Nat.reduceSub, Nat.lt_irrefl, Nat.zero_add, Nat.add_zero, k_20, k_10, k_01, mm_if_T, mm_if_F, not_true_eq_false, not_false_eq_true, e_31 d h hp, f, nI_1]

set_option maxHeartbeats 8000000 in
theorem l_30 (d : Nat) {M : mm_M} {post : mm_Post} {t : Nat} {lt : Nat → Int32} {many : Nat} (hm : many ≤ 5) {R : Option ((Nat → Int32) × Nat)} (hok : ∀ M' a p', R = some (a, p') → FZ M M' → mm_I M' 3 0 2 = nI p' → p' ≤ 100000 → (∀ i, i < many → mm_I M' 7 1 i = a i) → post (some (.inl 1)) M') (hno : ∀ M', R = none → FZ M M' → post (some (.inl 0)) M') : ∀ (m i p : Nat) (a : Nat → Int32) (u : Option mm_V) (M1 : mm_M), i + m = many → TX M1 t lt p → p + 3 * m ≤ 100000 → FZ M M1 → (∀ j, j < i → mm_I M1 7 1 j = a j) → R = p_ns (lL t lt) many m a p → pK (d + 2) 30 post 1 [some (.inr (.inr (3, 0))), some (.inl (nI many)), some (.inl (nI i)), u] [] M1 (0, 0) := by
  intro m
  induction m with
  | zero =>
    intro i p a u M1 hi hT hp hF hc hR
    have e : i = many := by omega
    subst e
    have hpp := hok M1 a p hR hF hT.2.2.2.2 (by omega) hc
    rw [eK_30_1]
    simp only [eK_30_0, eK_30_2, eK_30_3, eK_30_4, eK_30_5, eK_30_6, eK_30_7, pw_aload_n, pw_bipush, pw_getfield, pw_goto, pw_iadd, pw_iastore, pw_iconst, pw_ifCond, pw_if_icmp, pw_iinc, pw_iload_n, pw_imul, pw_invokestatic, pw_invokevirtual, pw_ireturn, pw_istore_n, pw_isub, pw_nop0, mm_pI_c, mm_pL_c, mm_pA_c, mm_pR_c, mm_p1_i, mm_p1_r, mm_pN_0, mm_pN_s, mm_lI_c, mm_lL_c, mm_lA_c, mm_wd_n, mm_wd_i, mm_wd_l, mm_wd_r, mm_gf_i, mm_gf_b, mm_gf_r, mm_rf_c, mm_pf_i, mm_pf_b, mm_pf_r, mm_rt_v, mm_rt_i, mm_rt_r, mm_c_eq, mm_c_ne, mm_c_lt, mm_c_ge, mm_c_gt, mm_c_le, mm_sw_n, mm_sw_c, mm_alc_n, mm_alc_c, mm_rc_n, mm_rc_c, reduceCtorEq, false_implies, implies_true, true_implies, true_or, or_true, false_or, or_false, not_false_eq_true, mm_at_0, mm_at_s, mm_set_0, mm_set_s, mm_nl_n, mm_nl_i, mm_nl_r, mm_args_n, mm_args_i, mm_args_l, mm_args_r, mm_pad_0, mm_pad_n, mm_pad_c, List.length_cons, List.length_nil, List.nil_append, List.cons_append, Nat.zero_le, Nat.sub_zero, true_and, and_true, Nat.reduceAdd, Nat.reduceLeDiff, Nat.reduceLT, Nat.reduceSub, Nat.lt_irrefl, Nat.zero_add, Nat.add_zero, k_20, k_10, k_01, mm_if_T, mm_if_F, not_true_eq_false, not_false_eq_true, mm_if_t (nI_le (Nat.le_refl i) (show i < 2 ^ 31 by omega))]
    exact hpp
  | succ m ih =>
    intro i p a u M1 hi hT hp hF hc hR
    have hq : ¬ nI many ≤ nI i := nI_ge (by omega) (by omega)
    have i1 : vp_in (nI i) 5 := vp_in_nI (by omega) (by omega)
    have i2 : (nI i).toNatClampNeg = i := nI_clamp (by omega)
    have T1 := TX_3 hT (p + 1)
    have T2 := TX_3 T1 (p + 2)
    have hun : p_ns (lL t lt) many (m + 1) a p = match p_n (lL t lt) p with
      | none => none
      | some (v, q) => if lL t lt q = (if m = 0 then 59 else 44) then p_ns (lL t lt) many m (fu a (many - (m + 1)) v) (q + 1) else none := rfl
    have ei : many - (m + 1) = i := by omega
    rw [hun, ei] at hR
    have hsep : (nI i = nI many - 1) = (m = 0) := by
      have e1 : nI many - 1 = nI (many - 1) := pk_sub (b := 1) (by omega)
      rw [e1]
      exact propext ⟨fun z => by have := (nI_eq (by omega) (by omega)).mp z; omega, fun z => by rw [show many - 1 = i by omega]⟩
    have kC : ∀ (M2 : mm_M) (q : Nat) (v : Int32), TX M2 t lt q → q ≤ p + 2 → FZ M M2 → (∀ j, j < i → mm_I M2 7 1 j = a j) → R = (if lL t lt q = (if m = 0 then 59 else 44) then p_ns (lL t lt) many m (fu a i v) (q + 1) else none) → pK (d + 2) 30 post 3 [some (.inr (.inr (3, 0))), some (.inl (nI many)), some (.inl (nI i)), some (.inl v)] [] M2 (0, 0) := by
      intro M2 q v hT2 hq2 hF2 hc2 hR2
      obtain ⟨⟨a1, a2, a3, a4⟩, b, c, e, f⟩ := id hT2
      have hF3 : FZ M (mm_sI M2 7 1 i v) := FZ_7 hF2
      have hT3 : TX (mm_sI M2 7 1 i v) t lt q := TX_F hT2 (FZ_7 (FZ_rf M2)) (by rw [mm_I_c (by omega)]; exact f)
      have key := ih (i + 1) (q + 1) (fu a i v) (some (.inl v)) (mm_sI (mm_sI M2 7 1 i v) 3 0 2 (nI (q + 1))) (by omega) (TX_3 hT3 (q + 1)) (by omega) (FZ_3 hF3) (fun j hj => by
        rw [mm_I_c (by omega)]
        unfold fu
        by_cases z : j = i
        · subst z; rw [if_pos rfl, mm_I_s]
        · rw [if_neg z, mm_I_k z]; exact hc2 j (by omega))
      have hn0 := hno (mm_sI (mm_sI M2 7 1 i v) 3 0 2 (nI (q + 1)))
      rw [eK_30_3]
      simp only [eK_30_4, eK_30_5, eK_30_6, eK_30_7, pw_aload_n, pw_bipush, pw_getfield, pw_goto, pw_iadd, pw_iastore, pw_iconst, pw_ifCond, pw_if_icmp, pw_iinc, pw_iload_n, pw_imul, pw_invokestatic, pw_invokevirtual, pw_ireturn, pw_istore_n, pw_isub, pw_nop0, mm_pI_c, mm_pL_c, mm_pA_c, mm_pR_c, mm_p1_i, mm_p1_r, mm_pN_0, mm_pN_s, mm_lI_c, mm_lL_c, mm_lA_c, mm_wd_n, mm_wd_i, mm_wd_l, mm_wd_r, mm_gf_i, mm_gf_b, mm_gf_r, mm_rf_c, mm_pf_i, mm_pf_b, mm_pf_r, mm_rt_v, mm_rt_i, mm_rt_r, mm_c_eq, mm_c_ne, mm_c_lt, mm_c_ge, mm_c_gt, mm_c_le, mm_sw_n, mm_sw_c, mm_alc_n, mm_alc_c, mm_rc_n, mm_rc_c, reduceCtorEq, false_implies, implies_true, true_implies, true_or, or_true, false_or, or_false, not_false_eq_true, mm_at_0, mm_at_s, mm_set_0, mm_set_s, mm_nl_n, mm_nl_i, mm_nl_r, mm_args_n, mm_args_i, mm_args_l, mm_args_r, mm_pad_0, mm_pad_n, mm_pad_c, List.length_cons, List.length_nil, List.nil_append, List.cons_append, Nat.zero_le, Nat.sub_zero, true_and, and_true, Nat.reduceAdd, Nat.reduceLeDiff, Nat.reduceLT, Nat.reduceSub, Nat.lt_irrefl, Nat.zero_add, Nat.add_zero, k_20, k_10, k_01, mm_if_T, mm_if_F, not_true_eq_false, not_false_eq_true, a2, a4, i1, i2, e_32 d hT3 (show q < 2 ^ 31 by omega), hsep, nI_1]
      simp only [mm_if]
      clear ih hok hno hT hT2 hT3 hc hc2 hF hF2 e T1 T2 hun hR hsep
      by_cases m0 : m = 0
      · rw [if_pos m0] at hR2
        by_cases hs : lL t lt q = 59
        · rw [if_pos hs] at hR2
          have key2 := key hR2
          clear key hR2 hn0
          grind
        · rw [if_neg hs] at hR2
          have key2 := hn0 hR2 (FZ_3 hF3)
          clear key hR2 hn0
          grind
      · rw [if_neg m0] at hR2
        by_cases hs : lL t lt q = 44
        · rw [if_pos hs] at hR2
          have key2 := key hR2
          clear key hR2 hn0
          grind
        · rw [if_neg hs] at hR2
          have key2 := hn0 hR2 (FZ_3 hF3)
          clear key hR2 hn0
          grind
    have f1 : ∀ j, j < i → mm_I (mm_sI M1 3 0 2 (nI (p + 1))) 7 1 j = a j := fun j hj => by rw [mm_I_c (by omega)]; exact hc j hj
    have f2 : ∀ j, j < i → mm_I (mm_sI (mm_sI M1 3 0 2 (nI (p + 1))) 3 0 2 (nI (p + 2))) 7 1 j = a j := fun j hj => by rw [mm_I_c (by omega)]; exact f1 j hj
    have k1 := kC _ (p + 1) (lL t lt p - 48) T1 (by omega) (FZ_3 hF) f1
    have k2 := kC _ (p + 2) (10 * (lL t lt p - 48) + lL t lt (p + 1) - 48) T2 (by omega) (FZ_3 (FZ_3 hF)) f2
    have k0 := hno M1
    unfold p_n at hR
    clear ih hok hno kC hun hc f1 f2
    rw [eK_30_1]
    simp only [eK_30_2, pw_aload_n, pw_bipush, pw_getfield, pw_goto, pw_iadd, pw_iastore, pw_iconst, pw_ifCond, pw_if_icmp, pw_iinc, pw_iload_n, pw_imul, pw_invokestatic, pw_invokevirtual, pw_ireturn, pw_istore_n, pw_isub, pw_nop0, mm_pI_c, mm_pL_c, mm_pA_c, mm_pR_c, mm_p1_i, mm_p1_r, mm_pN_0, mm_pN_s, mm_lI_c, mm_lL_c, mm_lA_c, mm_wd_n, mm_wd_i, mm_wd_l, mm_wd_r, mm_gf_i, mm_gf_b, mm_gf_r, mm_rf_c, mm_pf_i, mm_pf_b, mm_pf_r, mm_rt_v, mm_rt_i, mm_rt_r, mm_c_eq, mm_c_ne, mm_c_lt, mm_c_ge, mm_c_gt, mm_c_le, mm_sw_n, mm_sw_c, mm_alc_n, mm_alc_c, mm_rc_n, mm_rc_c, reduceCtorEq, false_implies, implies_true, true_implies, true_or, or_true, false_or, or_false, not_false_eq_true, mm_at_0, mm_at_s, mm_set_0, mm_set_s, mm_nl_n, mm_nl_i, mm_nl_r, mm_args_n, mm_args_i, mm_args_l, mm_args_r, mm_pad_0, mm_pad_n, mm_pad_c, List.length_cons, List.length_nil, List.nil_append, List.cons_append, Nat.zero_le, Nat.sub_zero, true_and, and_true, Nat.reduceAdd, Nat.reduceLeDiff, Nat.reduceLT, Nat.reduceSub, Nat.lt_irrefl, Nat.zero_add, Nat.add_zero, k_20, k_10, k_01, mm_if_T, mm_if_F, not_true_eq_false, not_false_eq_true, mm_if_f hq, e_31 (d + 1) hT (show p < 2 ^ 31 by omega), e_32 d hT (show p < 2 ^ 31 by omega), e_31 (d + 1) T1 (show p + 1 < 2 ^ 31 by omega), e_32 d T1 (show p + 1 < 2 ^ 31 by omega), t_33, tf_0]
    simp only [mm_if]
    by_cases d1 : 48 ≤ lL t lt p ∧ lL t lt p ≤ 57
    · rw [if_pos d1] at hR
      by_cases d2 : 48 ≤ lL t lt (p + 1) ∧ lL t lt (p + 1) ≤ 57
      · rw [if_pos d2] at hR
        have k3 := k2 hR
        grind
      · rw [if_neg d2] at hR
        have k3 := k1 hR
        grind
    · rw [if_neg d1] at hR
      have k3 := k0 hR hF
      grind

theorem t_30 (d : Nat) {M : mm_M} {post : mm_Post} {t : Nat} {lt : Nat → Int32} {many p : Nat} (hm : many ≤ 5) (hT : TX M t lt p) (hp : p ≤ 1000) (hok : ∀ M' a p', p_ns (lL t lt) many many (fun _ => 0) p = some (a, p') → FZ M M' → mm_I M' 3 0 2 = nI p' → p' ≤ 100000 → (∀ i, i < many → mm_I M' 7 1 i = a i) → post (some (.inl 1)) M') (hno : ∀ M', p_ns (lL t lt) many many (fun _ => 0) p = none → FZ M M' → post (some (.inl 0)) M') : pC (d + 3) 30 [.inr (.inr (3, 0)), .inl (nI many)] M post := by
  have key := l_30 d hm hok hno many 0 p (fun _ => 0) none M (by omega) hT (by omega) (FZ_rf M) (fun j hj => by omega) rfl
  simp only [eC_30, eK_30_0, pw_aload_n, pw_bipush, pw_getfield, pw_goto, pw_iadd, pw_iastore, pw_iconst, pw_ifCond, pw_if_icmp, pw_iinc, pw_iload_n, pw_imul, pw_invokestatic, pw_invokevirtual, pw_ireturn, pw_istore_n, pw_isub, pw_nop0, mm_pI_c, mm_pL_c, mm_pA_c, mm_pR_c, mm_p1_i, mm_p1_r, mm_pN_0, mm_pN_s, mm_lI_c, mm_lL_c, mm_lA_c, mm_wd_n, mm_wd_i, mm_wd_l, mm_wd_r, mm_gf_i, mm_gf_b, mm_gf_r, mm_rf_c, mm_pf_i, mm_pf_b, mm_pf_r, mm_rt_v, mm_rt_i, mm_rt_r, mm_c_eq, mm_c_ne, mm_c_lt, mm_c_ge, mm_c_gt, mm_c_le, mm_sw_n, mm_sw_c, mm_alc_n, mm_alc_c, mm_rc_n, mm_rc_c, reduceCtorEq, false_implies, implies_true, true_implies, true_or, or_true, false_or, or_false, not_false_eq_true, mm_at_0, mm_at_s, mm_set_0, mm_set_s, mm_nl_n, mm_nl_i, mm_nl_r, mm_args_n, mm_args_i, mm_args_l, mm_args_r, mm_pad_0, mm_pad_n, mm_pad_c, List.length_cons, List.length_nil, List.nil_append, List.cons_append, Nat.zero_le, Nat.sub_zero, true_and, and_true, Nat.reduceAdd, Nat.reduceLeDiff, Nat.reduceLT, Nat.reduceSub, Nat.lt_irrefl, Nat.zero_add, Nat.add_zero, k_20, k_10, k_01, mm_if_T, mm_if_F, not_true_eq_false, not_false_eq_true]
  exact key

