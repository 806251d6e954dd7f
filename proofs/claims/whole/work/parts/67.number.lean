/-! THE REFERENCE: numbers of the text -/
def bo (b : Bool) : Int32 := if b = true then 1 else 0
theorem bo_01 (b : Bool) : bo b = 0 ∨ bo b = 1 := by cases b <;> simp [bo]
def lR (t : Nat) (lt : Nat → Int32) (p : Nat) : Int32 := if p < t then lt p else -1
abbrev dg (x : Int32) : Prop := 48 ≤ x ∧ x ≤ 57
theorem lR_dg {t : Nat} {lt : Nat → Int32} {p : Nat} : (48 ≤ lR t lt p ∧ lR t lt p ≤ 57) ↔ dg (lL t lt p) := by
  unfold lR lL
  by_cases c : p < t
  · rw [if_pos c, if_pos c]
  · rw [if_neg c, if_neg c]; decide
theorem lR_eq {t : Nat} {lt : Nat → Int32} {p : Nat} {x : Int32} (h1 : ¬ (-1 : Int32) = x) (h4 : ¬ (-4 : Int32) = x) : lR t lt p = x ↔ lL t lt p = x := by
  unfold lR lL
  by_cases c : p < t
  · rw [if_pos c, if_pos c]
  · rw [if_neg c, if_neg c]; exact ⟨fun z => absurd z h1, fun z => absurd z h4⟩
theorem lR_d {t : Nat} {lt : Nat → Int32} {p : Nat} (h : dg (lL t lt p)) : lR t lt p = lL t lt p := by
  unfold lR lL at *
  by_cases c : p < t
  · rw [if_pos c, if_pos c]
  · rw [if_neg c] at h; exact absurd h (by decide)
theorem lR_t {t : Nat} {lt : Nat → Int32} {p : Nat} (h : p < t) : lR t lt p = lL t lt p := by unfold lR lL; rw [if_pos h, if_pos h]
def rN (L : Nat → Int32) (p : Nat) (lo hi : Int32) : Int32 × Nat × Bool :=
  if dg (L p) then (if dg (L (p + 1)) then (if dg (L (p + 2)) then (0, p + 3, true) else if lo ≤ 10 * (L p - 48) + L (p + 1) - 48 ∧ 10 * (L p - 48) + L (p + 1) - 48 ≤ hi then (10 * (L p - 48) + L (p + 1) - 48, p + 2, false) else (0, p + 2, true))
    else if lo ≤ L p - 48 ∧ L p - 48 ≤ hi then (L p - 48, p + 1, false) else (0, p + 1, true)) else (0, p, true)

theorem rN_ok {L : Nat → Int32} {p q : Nat} {lo hi v : Int32} (h : rN L p lo hi = (v, q, false)) : p_n L p = some (v, q) ∧ lo ≤ v ∧ v ≤ hi := by
  unfold rN at h
  unfold p_n
  by_cases d0 : dg (L p)
  · rw [if_pos d0] at h ⊢
    by_cases d1 : dg (L (p + 1))
    · rw [if_pos d1] at h ⊢
      by_cases d2 : dg (L (p + 2))
      · rw [if_pos d2] at h; simp at h
      · rw [if_neg d2] at h
        by_cases c : lo ≤ 10 * (L p - 48) + L (p + 1) - 48 ∧ 10 * (L p - 48) + L (p + 1) - 48 ≤ hi
        · rw [if_pos c] at h
          have e1 := congrArg (fun z => z.1) h
          have e2 := congrArg (fun z => z.2.1) h
          dsimp only at e1 e2
          rw [← e1, ← e2]
          exact ⟨rfl, c⟩
        · rw [if_neg c] at h; simp at h
    · rw [if_neg d1] at h ⊢
      by_cases c : lo ≤ L p - 48 ∧ L p - 48 ≤ hi
      · rw [if_pos c] at h
        have e1 := congrArg (fun z => z.1) h
        have e2 := congrArg (fun z => z.2.1) h
        dsimp only at e1 e2
        rw [← e1, ← e2]
        exact ⟨rfl, c⟩
      · rw [if_neg c] at h; simp at h
  · rw [if_neg d0] at h; simp at h
theorem rN_of {L : Nat → Int32} {p q : Nat} {lo hi v : Int32} (h : p_n L p = some (v, q)) (hd : ¬ dg (L q)) (hv : lo ≤ v ∧ v ≤ hi) : rN L p lo hi = (v, q, false) := by
  unfold p_n at h
  unfold rN
  by_cases d0 : dg (L p)
  · rw [if_pos d0] at h ⊢
    by_cases d1 : dg (L (p + 1))
    · rw [if_pos d1] at h ⊢
      have e := Option.some.inj h
      have e1 := congrArg (fun z => z.1) e
      have e2 := congrArg (fun z => z.2) e
      dsimp only at e1 e2
      subst e1
      subst e2
      rw [if_neg hd, if_pos hv]
    · rw [if_neg d1] at h ⊢
      have e := Option.some.inj h
      have e1 := congrArg (fun z => z.1) e
      have e2 := congrArg (fun z => z.2) e
      dsimp only at e1 e2
      subst e1
      subst e2
      rw [if_pos hv]
  · rw [if_neg d0] at h; exact absurd h (by simp)
theorem rN_q {L : Nat → Int32} {p : Nat} {lo hi : Int32} : (rN L p lo hi).2.1 ≤ p + 3 := by
  unfold rN
  by_cases d0 : dg (L p)
  · rw [if_pos d0]
    by_cases d1 : dg (L (p + 1))
    · rw [if_pos d1]
      by_cases d2 : dg (L (p + 2))
      · rw [if_pos d2]; exact Nat.le_refl _
      · rw [if_neg d2]
        by_cases c : lo ≤ 10 * (L p - 48) + L (p + 1) - 48 ∧ 10 * (L p - 48) + L (p + 1) - 48 ≤ hi
        · rw [if_pos c]; show p + 2 ≤ p + 3; omega
        · rw [if_neg c]; show p + 2 ≤ p + 3; omega
    · rw [if_neg d1]
      by_cases c : lo ≤ L p - 48 ∧ L p - 48 ≤ hi
      · rw [if_pos c]; show p + 1 ≤ p + 3; omega
      · rw [if_neg c]; show p + 1 ≤ p + 3; omega
  · rw [if_neg d0]; show p ≤ p + 3; omega
theorem rN_0 {L : Nat → Int32} {p : Nat} {lo hi : Int32} (h : (rN L p lo hi).2.2 = true) : (rN L p lo hi).1 = 0 := by
  unfold rN at *
  by_cases d0 : dg (L p)
  · rw [if_pos d0] at *
    by_cases d1 : dg (L (p + 1))
    · rw [if_pos d1] at *
      by_cases d2 : dg (L (p + 2))
      · rw [if_pos d2]
      · rw [if_neg d2] at *
        by_cases c : lo ≤ 10 * (L p - 48) + L (p + 1) - 48 ∧ 10 * (L p - 48) + L (p + 1) - 48 ≤ hi
        · rw [if_pos c] at h; exact absurd h Bool.false_ne_true
        · rw [if_neg c]
    · rw [if_neg d1] at *
      by_cases c : lo ≤ L p - 48 ∧ L p - 48 ≤ hi
      · rw [if_pos c] at h; exact absurd h Bool.false_ne_true
      · rw [if_neg c]
  · rw [if_neg d0]
def rM (e : Bool) (L : Nat → Int32) (p : Nat) (lo hi : Int32) : Int32 × Nat × Bool := if e = true then (0, p + 1, true) else if L p = 44 then rN L (p + 1) lo hi else (0, p + 1, true)
theorem rM_q {e : Bool} {L : Nat → Int32} {p : Nat} {lo hi : Int32} : (rM e L p lo hi).2.1 ≤ p + 4 := by
  unfold rM
  by_cases c : e = true
  · rw [if_pos c]; show p + 1 ≤ p + 4; omega
  · rw [if_neg c]
    by_cases c2 : L p = 44
    · rw [if_pos c2]; have := rN_q (L := L) (p := p + 1) (lo := lo) (hi := hi); omega
    · rw [if_neg c2]; show p + 1 ≤ p + 4; omega
theorem rM_ok {e : Bool} {L : Nat → Int32} {p q : Nat} {lo hi v : Int32} (h : rM e L p lo hi = (v, q, false)) : e = false ∧ L p = 44 ∧ p_n L (p + 1) = some (v, q) ∧ lo ≤ v ∧ v ≤ hi := by
  unfold rM at h
  by_cases c : e = true
  · rw [if_pos c] at h; simp at h
  · rw [if_neg c] at h
    by_cases c2 : L p = 44
    · rw [if_pos c2] at h
      have := rN_ok h
      exact ⟨by cases e; rfl; exact absurd rfl c, c2, this.1, this.2⟩
    · rw [if_neg c2] at h; simp at h
theorem rM_of {L : Nat → Int32} {p q : Nat} {lo hi v : Int32} (h4 : L p = 44) (h : p_n L (p + 1) = some (v, q)) (hd : ¬ dg (L q)) (hv : lo ≤ v ∧ v ≤ hi) : rM false L p lo hi = (v, q, false) := by
  unfold rM
  rw [if_neg (by decide), if_pos h4]
  exact rN_of h hd hv
theorem nd44 {x : Int32} (h : x = 44) : ¬ dg x := by rw [h]; decide
theorem nd59 {x : Int32} (h : x = 59) : ¬ dg x := by rw [h]; decide
theorem ns_inv {L : Nat → Int32} {many m : Nat} {a : Nat → Int32} {p : Nat} {r : (Nat → Int32) × Nat} (h : p_ns L many (m + 1) a p = some r) : ∃ v q, p_n L p = some (v, q) ∧ L q = (if m = 0 then 59 else 44) ∧ p_ns L many m (fu a (many - (m + 1)) v) (q + 1) = some r := by
  unfold p_ns at h
  cases e : p_n L p with
  | none => rw [e] at h; exact absurd h (by simp)
  | some vq =>
    obtain ⟨v, q⟩ := vq
    rw [e] at h
    dsimp only at h
    by_cases c : L q = (if m = 0 then 59 else 44)
    · rw [if_pos c] at h; exact ⟨v, q, rfl, c, h⟩
    · rw [if_neg c] at h; exact absurd h (by simp)
theorem ns_s {L : Nat → Int32} {many m : Nat} {a : Nat → Int32} {p q : Nat} {v : Int32} (h : p_n L p = some (v, q)) (hs : L q = (if m = 0 then 59 else 44)) : p_ns L many (m + 1) a p = p_ns L many m (fu a (many - (m + 1)) v) (q + 1) := by
  conv => lhs; unfold p_ns
  rw [h]
  dsimp only
  rw [if_pos hs]
def TM (M : mm_M) (t : Nat) (lt : Nat → Int32) (p : Nat) (e : Bool) : Prop := t ≤ 200 ∧ mm_I M 6 0 11 = nI t ∧ (∀ i, i < t → mm_I M 8 0 i = lt i) ∧ mm_I M 6 0 13 = nI p ∧ mm_I M 6 0 15 = bo e
def FA (M M' : mm_M) : Prop := M'.2 = M.2 ∧ ∀ c i k, ¬ (c = 6 ∧ (k = 13 ∨ k = 15)) → mm_I M' c i k = mm_I M c i k
theorem FA_rf (M : mm_M) : FA M M := ⟨rfl, fun _ _ _ _ => rfl⟩
theorem FA_tr {M M1 M2 : mm_M} (h : FA M M1) (h' : FA M1 M2) : FA M M2 := ⟨h'.1.trans h.1, fun c i k a => (h'.2 c i k a).trans (h.2 c i k a)⟩
theorem FA_s {M M' : mm_M} {k : Nat} {v : Int32} (h : FA M M') (hk : k = 13 ∨ k = 15) : FA M (mm_sI M' 6 0 k v) := ⟨h.1, fun c i k' a => by rw [mm_I_sI, if_neg (fun z => a ⟨z.1, by omega⟩)]; exact h.2 c i k' a⟩
theorem TM_F {M M' : mm_M} {t : Nat} {lt : Nat → Int32} {p p' : Nat} {e e' : Bool} (h : TM M t lt p e) (hF : FA M M') (h1 : mm_I M' 6 0 13 = nI p') (h2 : mm_I M' 6 0 15 = bo e') : TM M' t lt p' e' := ⟨h.1, by rw [hF.2 6 0 11 (by omega)]; exact h.2.1, fun i hi => by rw [hF.2 8 0 i (by omega)]; exact h.2.2.1 i hi, h1, h2⟩

set_option maxHeartbeats 2000000 in
theorem r_109 (d : Nat) {M : mm_M} {post : mm_Post} {t : Nat} {lt : Nat → Int32} {p : Nat} {e : Bool} (hL : LyM M) (hT : TM M t lt p e) (hp : p < 100000) : pC (d + 1) 109 [.inr (.inr (6, 0))] M post = post (some (.inl (lR t lt p))) M := by
  obtain ⟨h1, h2, h3, h4, h5⟩ := hT
  have l1 : mm_R M 6 0 12 = some 0 := hL.1.2.2.2.2.2.2.2.1
  have l2 : mm_L M 8 0 = 200 := hL.2.2.2.2.2.2.2.2.1
  unfold lR
  by_cases c : p < t
  · rw [if_pos c]
    have hlt : ¬ nI t ≤ nI p := nI_ge c (by omega)
    have hv := h3 p c
    simp (disch := omega) only [eC_109, eK_109_0, eK_109_1, eK_109_2, pw_goto, pw_iconst, pw_nop0, qw_aload_n0, qw_baload, qw_gf_b, qw_gf_i, qw_gf_r, qw_if_icmp_ge, qw_ireturn, mm_rf_c, mm_rt_v, mm_rt_i, mm_rt_r, mm_alc_n, mm_alc_c, mm_rc_n, mm_rc_c, mm_wd_n, mm_wd_i, mm_wd_l, mm_wd_r, reduceCtorEq, false_implies, implies_true, true_implies, true_or, or_true, false_or, or_false, not_false_eq_true, mm_nl_n, mm_nl_i, mm_nl_r, mm_args_n, mm_args_i, mm_args_l, mm_args_r, mm_pad_0, mm_pad_n, mm_pad_c, List.length_cons, List.length_nil, List.nil_append, List.cons_append, Nat.zero_le, Nat.sub_zero, true_and, and_true, Nat.reduceAdd, Nat.reduceLeDiff, Nat.reduceLT, Nat.reduceSub, Nat.lt_irrefl, Nat.zero_add, Nat.add_zero, Nat.le_refl, k_20, k_10, k_01, ↓mm_if_T, ↓mm_if_F, ↓if10, ↓if00, not_true_eq_false, tf_01, ↓mm_if_tf, ↓mm_if_tn, ↓mm_if_nn, h2, h4, ↓mm_if_f hlt, l1, l2, vi_, ci_, hv]
  · rw [if_neg c]
    have hge : nI t ≤ nI p := nI_le (by omega) (by omega)
    simp (disch := omega) only [eC_109, eK_109_0, eK_109_1, eK_109_2, pw_goto, pw_iconst, pw_nop0, qw_aload_n0, qw_baload, qw_gf_b, qw_gf_i, qw_gf_r, qw_if_icmp_ge, qw_ireturn, mm_rf_c, mm_rt_v, mm_rt_i, mm_rt_r, mm_alc_n, mm_alc_c, mm_rc_n, mm_rc_c, mm_wd_n, mm_wd_i, mm_wd_l, mm_wd_r, reduceCtorEq, false_implies, implies_true, true_implies, true_or, or_true, false_or, or_false, not_false_eq_true, mm_nl_n, mm_nl_i, mm_nl_r, mm_args_n, mm_args_i, mm_args_l, mm_args_r, mm_pad_0, mm_pad_n, mm_pad_c, List.length_cons, List.length_nil, List.nil_append, List.cons_append, Nat.zero_le, Nat.sub_zero, true_and, and_true, Nat.reduceAdd, Nat.reduceLeDiff, Nat.reduceLT, Nat.reduceSub, Nat.lt_irrefl, Nat.zero_add, Nat.add_zero, Nat.le_refl, k_20, k_10, k_01, ↓mm_if_T, ↓mm_if_F, ↓if10, ↓if00, not_true_eq_false, tf_01, ↓mm_if_tf, ↓mm_if_tn, ↓mm_if_nn, h2, h4, ↓mm_if_t hge]

set_option maxHeartbeats 2000000 in
theorem s_110 (d : Nat) {M : mm_M} {post : mm_Post} {t : Nat} {lt : Nat → Int32} {p : Nat} {e : Bool} (hL : LyM M) (hT : TM M t lt p e) (hp : p < 100000) (lo hi v : Int32) (j : Nat) (hj : j < 3) (hd : dg (lL t lt p)) (h : pK (d + 1) 110 post 1 [some (.inr (.inr (6, 0))), some (.inl lo), some (.inl hi), some (.inl (10 * v + lL t lt p - 48)), some (.inl (nI (j + 1)))] [] (mm_sI M 6 0 13 (nI (p + 1))) (0, 0)) : pK (d + 1) 110 post 1 [some (.inr (.inr (6, 0))), some (.inl lo), some (.inl hi), some (.inl v), some (.inl (nI j))] [] M (0, 0) := by
  have hn := r_109 d (post := fun r M2 => mm_rt (some none) r fun vs => True) hL hT hp
  have h4 := hT.2.2.2.1
  have f1 := lR_dg.mpr hd
  have f2 := lR_d hd
  have f3 : ¬ (3 : Int32) ≤ nI j := nI_ge (b := 3) hj (by omega)
  rw [← f2] at h
  rw [eK_110_1]
  simp (disch := omega) only [pw_bipush, pw_goto, pw_iconst, pw_ldc2_w, qw_aload_n0, qw_dup_i, qw_dup_r, qw_gf_b, qw_gf_i, qw_gf_r, qw_i2l, qw_iadd, qw_if_eq, qw_if_icmp_ge, qw_iinc4, qw_iload4, qw_iload_n3, qw_imul, qw_invokestatic3, qw_invokevirtual1, qw_istore_n3, qw_isub, qw_pf_b, qw_pf_i, qw_pf_r, mm_rf_c, mm_rt_v, mm_rt_i, mm_rt_r, mm_alc_n, mm_alc_c, mm_rc_n, mm_rc_c, mm_wd_n, mm_wd_i, mm_wd_l, mm_wd_r, reduceCtorEq, false_implies, implies_true, true_implies, true_or, or_true, false_or, or_false, not_false_eq_true, mm_nl_n, mm_nl_i, mm_nl_r, mm_args_n, mm_args_i, mm_args_l, mm_args_r, mm_pad_0, mm_pad_n, mm_pad_c, List.length_cons, List.length_nil, List.nil_append, List.cons_append, Nat.zero_le, Nat.sub_zero, true_and, and_true, Nat.reduceAdd, Nat.reduceLeDiff, Nat.reduceLT, Nat.reduceSub, Nat.lt_irrefl, Nat.zero_add, Nat.add_zero, Nat.le_refl, k_20, k_10, k_01, ↓mm_if_T, ↓mm_if_F, ↓if10, ↓if00, not_true_eq_false, tf_01, ↓mm_if_tf, ↓mm_if_tn, ↓mm_if_nn, r_109 d hL hT hp, r_97 d (lR t lt p) 48 57, ↓mm_if_t f1, ↓mm_if_f f3, h4, nI_1]
  exact h
theorem x_110 (d : Nat) {M : mm_M} {post : mm_Post} {t : Nat} {lt : Nat → Int32} {p : Nat} (hL : LyM M) (hT : TM M t lt p false) (hp : p < 100000) (lo hi v : Int32) (j : Nat) (hj : j ≤ 3) (hd : ¬ dg (lL t lt p) ∨ j = 3) (h1 : (1 ≤ j ∧ j ≤ 2) → (lo ≤ v ∧ v ≤ hi) → post (some (.inl v)) (mm_sI M 6 0 15 0)) (h0 : ¬ ((1 ≤ j ∧ j ≤ 2) ∧ (lo ≤ v ∧ v ≤ hi)) → post (some (.inl 0)) (mm_sI M 6 0 15 1)) : pK (d + 1) 110 post 1 [some (.inr (.inr (6, 0))), some (.inl lo), some (.inl hi), some (.inl v), some (.inl (nI j))] [] M (0, 0) := by
  have h4 := hT.2.2.2.1
  have h5 : mm_I M 6 0 15 = 0 := hT.2.2.2.2
  have go : pK (d + 1) 110 post 2 [some (.inr (.inr (6, 0))), some (.inl lo), some (.inl hi), some (.inl v), some (.inl (nI j))] [] M (0, 0) := by
    by_cases j0 : j = 0
    · have hh := h0 (fun z => by omega)
      subst j0
      rw [eK_110_2]
      simp (disch := omega) only [eK_110_3, eK_110_4, eK_110_5, eK_110_6, eK_110_7, pw_goto, pw_iconst, pw_nop0, qw_aload_n0, qw_gf_b, qw_gf_i, qw_gf_r, qw_i2l, qw_if_eq, qw_if_icmp_gt, qw_if_ne, qw_iload4, qw_iload_n1, qw_iload_n2, qw_iload_n3, qw_invokestatic3, qw_ireturn, qw_pf_b, qw_pf_i, qw_pf_r, mm_rf_c, mm_rt_v, mm_rt_i, mm_rt_r, mm_alc_n, mm_alc_c, mm_rc_n, mm_rc_c, mm_wd_n, mm_wd_i, mm_wd_l, mm_wd_r, reduceCtorEq, false_implies, implies_true, true_implies, true_or, or_true, false_or, or_false, not_false_eq_true, mm_nl_n, mm_nl_i, mm_nl_r, mm_args_n, mm_args_i, mm_args_l, mm_args_r, mm_pad_0, mm_pad_n, mm_pad_c, List.length_cons, List.length_nil, List.nil_append, List.cons_append, Nat.zero_le, Nat.sub_zero, true_and, and_true, Nat.reduceAdd, Nat.reduceLeDiff, Nat.reduceLT, Nat.reduceSub, Nat.lt_irrefl, Nat.zero_add, Nat.add_zero, Nat.le_refl, k_20, k_10, k_01, ↓mm_if_T, ↓mm_if_F, ↓if10, ↓if00, not_true_eq_false, tf_01, ↓mm_if_tf, ↓mm_if_tn, ↓mm_if_nn, h5, ↓mm_if_t (show nI 0 = 0 from rfl), mm_I_s]
      exact hh
    by_cases j3 : j = 3
    · have hh := h0 (fun z => by omega)
      subst j3
      rw [eK_110_2]
      simp (disch := omega) only [eK_110_3, eK_110_4, eK_110_5, eK_110_6, eK_110_7, pw_goto, pw_iconst, pw_nop0, qw_aload_n0, qw_gf_b, qw_gf_i, qw_gf_r, qw_i2l, qw_if_eq, qw_if_icmp_gt, qw_if_ne, qw_iload4, qw_iload_n1, qw_iload_n2, qw_iload_n3, qw_invokestatic3, qw_ireturn, qw_pf_b, qw_pf_i, qw_pf_r, mm_rf_c, mm_rt_v, mm_rt_i, mm_rt_r, mm_alc_n, mm_alc_c, mm_rc_n, mm_rc_c, mm_wd_n, mm_wd_i, mm_wd_l, mm_wd_r, reduceCtorEq, false_implies, implies_true, true_implies, true_or, or_true, false_or, or_false, not_false_eq_true, mm_nl_n, mm_nl_i, mm_nl_r, mm_args_n, mm_args_i, mm_args_l, mm_args_r, mm_pad_0, mm_pad_n, mm_pad_c, List.length_cons, List.length_nil, List.nil_append, List.cons_append, Nat.zero_le, Nat.sub_zero, true_and, and_true, Nat.reduceAdd, Nat.reduceLeDiff, Nat.reduceLT, Nat.reduceSub, Nat.lt_irrefl, Nat.zero_add, Nat.add_zero, Nat.le_refl, k_20, k_10, k_01, ↓mm_if_T, ↓mm_if_F, ↓if10, ↓if00, not_true_eq_false, tf_01, ↓mm_if_tf, ↓mm_if_tn, ↓mm_if_nn, h5, ↓mm_if_f (show ¬ nI 3 = 0 by decide), ↓mm_if_t (show (2 : Int32) < nI 3 by decide), mm_I_s]
      exact hh
    · have f1 : ¬ nI j = 0 := nI_ne0 (by omega) (by omega)
      have f2 : ¬ (2 : Int32) < nI j := nI_nlt (a := 2) (by omega) (by omega)
      by_cases c : lo ≤ v ∧ v ≤ hi
      · have hh := h1 (by omega) c
        rw [eK_110_2]
        simp (disch := omega) only [eK_110_3, eK_110_4, eK_110_5, eK_110_6, eK_110_7, pw_goto, pw_iconst, pw_nop0, qw_aload_n0, qw_gf_b, qw_gf_i, qw_gf_r, qw_i2l, qw_if_eq, qw_if_icmp_gt, qw_if_ne, qw_iload4, qw_iload_n1, qw_iload_n2, qw_iload_n3, qw_invokestatic3, qw_ireturn, qw_pf_b, qw_pf_i, qw_pf_r, mm_rf_c, mm_rt_v, mm_rt_i, mm_rt_r, mm_alc_n, mm_alc_c, mm_rc_n, mm_rc_c, mm_wd_n, mm_wd_i, mm_wd_l, mm_wd_r, reduceCtorEq, false_implies, implies_true, true_implies, true_or, or_true, false_or, or_false, not_false_eq_true, mm_nl_n, mm_nl_i, mm_nl_r, mm_args_n, mm_args_i, mm_args_l, mm_args_r, mm_pad_0, mm_pad_n, mm_pad_c, List.length_cons, List.length_nil, List.nil_append, List.cons_append, Nat.zero_le, Nat.sub_zero, true_and, and_true, Nat.reduceAdd, Nat.reduceLeDiff, Nat.reduceLT, Nat.reduceSub, Nat.lt_irrefl, Nat.zero_add, Nat.add_zero, Nat.le_refl, k_20, k_10, k_01, ↓mm_if_T, ↓mm_if_F, ↓if10, ↓if00, not_true_eq_false, tf_01, ↓mm_if_tf, ↓mm_if_tn, ↓mm_if_nn, h5, ↓mm_if_f f1, ↓mm_if_f f2, r_97 d v lo hi, ↓mm_if_t c, mm_I_s]
        exact hh
      · have hh := h0 (fun z => c z.2)
        rw [eK_110_2]
        simp (disch := omega) only [eK_110_3, eK_110_4, eK_110_5, eK_110_6, eK_110_7, pw_goto, pw_iconst, pw_nop0, qw_aload_n0, qw_gf_b, qw_gf_i, qw_gf_r, qw_i2l, qw_if_eq, qw_if_icmp_gt, qw_if_ne, qw_iload4, qw_iload_n1, qw_iload_n2, qw_iload_n3, qw_invokestatic3, qw_ireturn, qw_pf_b, qw_pf_i, qw_pf_r, mm_rf_c, mm_rt_v, mm_rt_i, mm_rt_r, mm_alc_n, mm_alc_c, mm_rc_n, mm_rc_c, mm_wd_n, mm_wd_i, mm_wd_l, mm_wd_r, reduceCtorEq, false_implies, implies_true, true_implies, true_or, or_true, false_or, or_false, not_false_eq_true, mm_nl_n, mm_nl_i, mm_nl_r, mm_args_n, mm_args_i, mm_args_l, mm_args_r, mm_pad_0, mm_pad_n, mm_pad_c, List.length_cons, List.length_nil, List.nil_append, List.cons_append, Nat.zero_le, Nat.sub_zero, true_and, and_true, Nat.reduceAdd, Nat.reduceLeDiff, Nat.reduceLT, Nat.reduceSub, Nat.lt_irrefl, Nat.zero_add, Nat.add_zero, Nat.le_refl, k_20, k_10, k_01, ↓mm_if_T, ↓mm_if_F, ↓if10, ↓if00, not_true_eq_false, tf_01, ↓mm_if_tf, ↓mm_if_tn, ↓mm_if_nn, h5, ↓mm_if_f f1, ↓mm_if_f f2, r_97 d v lo hi, ↓mm_if_f c, mm_I_s]
        exact hh
  by_cases c : dg (lL t lt p)
  · have e3 : j = 3 := by rcases hd with z | z; exact absurd c z; exact z
    subst e3
    have f1 := lR_dg.mpr c
    rw [eK_110_1]
    simp (disch := omega) only [pw_bipush, pw_goto, pw_iconst, pw_ldc2_w, qw_aload_n0, qw_dup_i, qw_dup_r, qw_gf_b, qw_gf_i, qw_gf_r, qw_i2l, qw_iadd, qw_if_eq, qw_if_icmp_ge, qw_iinc4, qw_iload4, qw_iload_n3, qw_imul, qw_invokestatic3, qw_invokevirtual1, qw_istore_n3, qw_isub, qw_pf_b, qw_pf_i, qw_pf_r, mm_rf_c, mm_rt_v, mm_rt_i, mm_rt_r, mm_alc_n, mm_alc_c, mm_rc_n, mm_rc_c, mm_wd_n, mm_wd_i, mm_wd_l, mm_wd_r, reduceCtorEq, false_implies, implies_true, true_implies, true_or, or_true, false_or, or_false, not_false_eq_true, mm_nl_n, mm_nl_i, mm_nl_r, mm_args_n, mm_args_i, mm_args_l, mm_args_r, mm_pad_0, mm_pad_n, mm_pad_c, List.length_cons, List.length_nil, List.nil_append, List.cons_append, Nat.zero_le, Nat.sub_zero, true_and, and_true, Nat.reduceAdd, Nat.reduceLeDiff, Nat.reduceLT, Nat.reduceSub, Nat.lt_irrefl, Nat.zero_add, Nat.add_zero, Nat.le_refl, k_20, k_10, k_01, ↓mm_if_T, ↓mm_if_F, ↓if10, ↓if00, not_true_eq_false, tf_01, ↓mm_if_tf, ↓mm_if_tn, ↓mm_if_nn, r_109 d hL hT hp, r_97 d (lR t lt p) 48 57, ↓mm_if_t f1, ↓mm_if_t (show (3 : Int32) ≤ nI 3 by decide)]
    exact go
  · have f1 : ¬ (48 ≤ lR t lt p ∧ lR t lt p ≤ 57) := fun z => c (lR_dg.mp z)
    rw [eK_110_1]
    simp (disch := omega) only [pw_bipush, pw_goto, pw_iconst, pw_ldc2_w, qw_aload_n0, qw_dup_i, qw_dup_r, qw_gf_b, qw_gf_i, qw_gf_r, qw_i2l, qw_iadd, qw_if_eq, qw_if_icmp_ge, qw_iinc4, qw_iload4, qw_iload_n3, qw_imul, qw_invokestatic3, qw_invokevirtual1, qw_istore_n3, qw_isub, qw_pf_b, qw_pf_i, qw_pf_r, mm_rf_c, mm_rt_v, mm_rt_i, mm_rt_r, mm_alc_n, mm_alc_c, mm_rc_n, mm_rc_c, mm_wd_n, mm_wd_i, mm_wd_l, mm_wd_r, reduceCtorEq, false_implies, implies_true, true_implies, true_or, or_true, false_or, or_false, not_false_eq_true, mm_nl_n, mm_nl_i, mm_nl_r, mm_args_n, mm_args_i, mm_args_l, mm_args_r, mm_pad_0, mm_pad_n, mm_pad_c, List.length_cons, List.length_nil, List.nil_append, List.cons_append, Nat.zero_le, Nat.sub_zero, true_and, and_true, Nat.reduceAdd, Nat.reduceLeDiff, Nat.reduceLT, Nat.reduceSub, Nat.lt_irrefl, Nat.zero_add, Nat.add_zero, Nat.le_refl, k_20, k_10, k_01, ↓mm_if_T, ↓mm_if_F, ↓if10, ↓if00, not_true_eq_false, tf_01, ↓mm_if_tf, ↓mm_if_tn, ↓mm_if_nn, r_109 d hL hT hp, r_97 d (lR t lt p) 48 57, ↓mm_if_f f1]
    exact go

set_option maxHeartbeats 2000000 in
theorem r_110 (d : Nat) {M : mm_M} {post : mm_Post} {t : Nat} {lt : Nat → Int32} {p : Nat} (hL : LyM M) (hT : TM M t lt p false) (hp : p < 90000) (lo hi : Int32) (h : ∀ M', FA M M' → TM M' t lt (rN (lL t lt) p lo hi).2.1 (rN (lL t lt) p lo hi).2.2 → post (some (.inl (rN (lL t lt) p lo hi).1)) M') : pC (d + 2) 110 [.inr (.inr (6, 0)), .inl lo, .inl hi] M post := by
  have key : pK (d + 1) 110 post 1 [some (.inr (.inr (6, 0))), some (.inl lo), some (.inl hi), some (.inl 0), some (.inl 0)] [] M (0, 0) := by
    have z0 : ∀ l : Int32, 10 * 0 + l - 48 = l - 48 := fun l => by rw [Int32.mul_zero, Int32.zero_add]
    have T1 : TM (mm_sI M 6 0 13 (nI (p + 1))) t lt (p + 1) false := TM_F hT (FA_s (FA_rf M) (by omega)) mm_I_s (by rw [mm_I_k (by omega)]; exact hT.2.2.2.2)
    have T2 : TM (mm_sI (mm_sI M 6 0 13 (nI (p + 1))) 6 0 13 (nI (p + 1 + 1))) t lt (p + 2) false := TM_F T1 (FA_s (FA_rf _) (by omega)) mm_I_s (by rw [mm_I_k (by omega)]; exact T1.2.2.2.2)
    have T3 : TM (mm_sI (mm_sI (mm_sI M 6 0 13 (nI (p + 1))) 6 0 13 (nI (p + 1 + 1))) 6 0 13 (nI (p + 1 + 1 + 1))) t lt (p + 3) false := TM_F T2 (FA_s (FA_rf _) (by omega)) mm_I_s (by rw [mm_I_k (by omega)]; exact T2.2.2.2.2)
    have fin : ∀ (M1 : mm_M) (q : Nat) (v : Int32) (b : Bool), FA M M1 → TM M1 t lt q false → rN (lL t lt) p lo hi = (v, q, b) → post (some (.inl v)) (mm_sI M1 6 0 15 (bo b)) := by
      intro M1 q v b hF hT1 e
      have := h (mm_sI M1 6 0 15 (bo b)) (FA_s hF (by omega)) (by rw [e]; exact TM_F hT1 (FA_s (FA_rf M1) (by omega)) (by rw [mm_I_k (by omega)]; exact hT1.2.2.2.1) mm_I_s)
      rw [e] at this
      exact this
    have F1 : FA M (mm_sI M 6 0 13 (nI (p + 1))) := FA_s (FA_rf M) (by omega)
    have F2 : FA M (mm_sI (mm_sI M 6 0 13 (nI (p + 1))) 6 0 13 (nI (p + 1 + 1))) := FA_s F1 (by omega)
    have F3 : FA M (mm_sI (mm_sI (mm_sI M 6 0 13 (nI (p + 1))) 6 0 13 (nI (p + 1 + 1))) 6 0 13 (nI (p + 1 + 1 + 1))) := FA_s F2 (by omega)
    have HL1 : LyM (mm_sI M 6 0 13 (nI (p + 1))) := LyM_2 (M := M) rfl hL
    have HL2 : LyM (mm_sI (mm_sI M 6 0 13 (nI (p + 1))) 6 0 13 (nI (p + 1 + 1))) := LyM_2 (M := M) rfl hL
    have HL3 : LyM (mm_sI (mm_sI (mm_sI M 6 0 13 (nI (p + 1))) 6 0 13 (nI (p + 1 + 1))) 6 0 13 (nI (p + 1 + 1 + 1))) := LyM_2 (M := M) rfl hL
    by_cases d0 : dg (lL t lt p)
    · refine s_110 d hL hT (by omega) lo hi 0 0 (by omega) d0 ?_
      rw [z0]
      by_cases d1 : dg (lL t lt (p + 1))
      · refine s_110 d HL1 T1 (by omega) lo hi _ 1 (by omega) d1 ?_
        by_cases d2 : dg (lL t lt (p + 2))
        · refine s_110 d HL2 T2 (by omega) lo hi _ 2 (by omega) d2 ?_
          exact x_110 d HL3 T3 (by omega) lo hi _ 3 (by omega) (Or.inr rfl) (fun z => by omega) (fun _ => fin _ _ _ true F3 T3 (by unfold rN; rw [if_pos d0, if_pos d1, if_pos d2]))
        · refine x_110 d HL2 T2 (by omega) lo hi _ 2 (by omega) (Or.inl d2) (fun _ c => fin _ _ _ false F2 T2 ?_) (fun c => fin _ _ _ true F2 T2 ?_)
          · unfold rN; rw [if_pos d0, if_pos d1, if_neg d2, if_pos c]
          · unfold rN; rw [if_pos d0, if_pos d1, if_neg d2, if_neg (fun z => c ⟨by omega, z⟩)]
      · refine x_110 d HL1 T1 (by omega) lo hi _ 1 (by omega) (Or.inl d1) (fun _ c => fin _ _ _ false F1 T1 ?_) (fun c => fin _ _ _ true F1 T1 ?_)
        · unfold rN; rw [if_pos d0, if_neg d1, if_pos c]
        · unfold rN; rw [if_pos d0, if_neg d1, if_neg (fun z => c ⟨by omega, z⟩)]
    · exact x_110 d hL hT (by omega) lo hi 0 0 (by omega) (Or.inl d0) (fun z => by omega) (fun _ => fin M p 0 true (FA_rf M) hT (by unfold rN; rw [if_neg d0]))
  simp (disch := omega) only [eC_110, eK_110_0, pw_iconst, pw_nop0, qw_istore4, qw_istore_n3, mm_rf_c, mm_rt_v, mm_rt_i, mm_rt_r, mm_alc_n, mm_alc_c, mm_rc_n, mm_rc_c, mm_wd_n, mm_wd_i, mm_wd_l, mm_wd_r, reduceCtorEq, false_implies, implies_true, true_implies, true_or, or_true, false_or, or_false, not_false_eq_true, mm_nl_n, mm_nl_i, mm_nl_r, mm_args_n, mm_args_i, mm_args_l, mm_args_r, mm_pad_0, mm_pad_n, mm_pad_c, List.length_cons, List.length_nil, List.nil_append, List.cons_append, Nat.zero_le, Nat.sub_zero, true_and, and_true, Nat.reduceAdd, Nat.reduceLeDiff, Nat.reduceLT, Nat.reduceSub, Nat.lt_irrefl, Nat.zero_add, Nat.add_zero, Nat.le_refl, k_20, k_10, k_01, ↓mm_if_T, ↓mm_if_F, ↓if10, ↓if00, not_true_eq_false, tf_01, ↓mm_if_tf, ↓mm_if_tn, ↓mm_if_nn]
  exact key
theorem r_111 (d : Nat) {M : mm_M} {post : mm_Post} {t : Nat} {lt : Nat → Int32} {p : Nat} {e : Bool} (hL : LyM M) (hT : TM M t lt p e) (hp : p < 80000) (lo hi : Int32) (h : ∀ M', FA M M' → TM M' t lt (rM e (lL t lt) p lo hi).2.1 (rM e (lL t lt) p lo hi).2.2 → post (some (.inl (rM e (lL t lt) p lo hi).1)) M') : pC (d + 3) 111 [.inr (.inr (6, 0)), .inl lo, .inl hi] M post := by
  have h4 := hT.2.2.2.1
  have h5 := hT.2.2.2.2
  have T1 : ∀ b, TM (mm_sI (mm_sI M 6 0 15 (bo b)) 6 0 13 (nI (p + 1))) t lt (p + 1) b := fun b => TM_F hT (FA_s (FA_s (FA_rf M) (by omega)) (by omega)) mm_I_s (by rw [mm_I_k (by omega), mm_I_s])
  have F1 : ∀ b, FA M (mm_sI (mm_sI M 6 0 15 (bo b)) 6 0 13 (nI (p + 1))) := fun b => FA_s (FA_s (FA_rf M) (by omega)) (by omega)
  unfold rM at h
  cases e with
  | true =>
    have h5 : mm_I M 6 0 15 = 1 := h5
    rw [if_pos rfl] at h
    have hh := h _ (F1 true) (T1 true)
    simp (disch := omega) only [eC_111, eK_111_0, eK_111_1, eK_111_2, eK_111_3, eK_111_4, eK_111_5, pw_bipush, pw_goto, pw_iconst, pw_nop0, qw_aload_n0, qw_dup_i, qw_dup_r, qw_gf_b, qw_gf_i, qw_gf_r, qw_iadd, qw_if_eq, qw_if_icmp_eq, qw_if_ne, qw_iload_n1, qw_iload_n2, qw_invokevirtual1, qw_invokevirtual3, qw_ireturn, qw_pf_b, qw_pf_i, qw_pf_r, mm_rf_c, mm_rt_v, mm_rt_i, mm_rt_r, mm_alc_n, mm_alc_c, mm_rc_n, mm_rc_c, mm_wd_n, mm_wd_i, mm_wd_l, mm_wd_r, reduceCtorEq, false_implies, implies_true, true_implies, true_or, or_true, false_or, or_false, not_false_eq_true, mm_nl_n, mm_nl_i, mm_nl_r, mm_args_n, mm_args_i, mm_args_l, mm_args_r, mm_pad_0, mm_pad_n, mm_pad_c, List.length_cons, List.length_nil, List.nil_append, List.cons_append, Nat.zero_le, Nat.sub_zero, true_and, and_true, Nat.reduceAdd, Nat.reduceLeDiff, Nat.reduceLT, Nat.reduceSub, Nat.lt_irrefl, Nat.zero_add, Nat.add_zero, Nat.le_refl, k_20, k_10, k_01, ↓mm_if_T, ↓mm_if_F, ↓if10, ↓if00, not_true_eq_false, tf_01, ↓mm_if_tf, ↓mm_if_tn, ↓mm_if_nn, h4, h5, nI_1, mm_I_k, mm_I_s]
    exact hh
  | false =>
    have h5 : mm_I M 6 0 15 = 0 := h5
    rw [if_neg (by decide)] at h
    by_cases c : lL t lt p = 44
    · rw [if_pos c] at h
      have c' : lR t lt p = 44 := (lR_eq (by decide) (by decide)).mpr c
      simp (disch := omega) only [eC_111, eK_111_0, eK_111_1, eK_111_2, eK_111_3, eK_111_4, eK_111_5, pw_bipush, pw_goto, pw_iconst, pw_nop0, qw_aload_n0, qw_dup_i, qw_dup_r, qw_gf_b, qw_gf_i, qw_gf_r, qw_iadd, qw_if_eq, qw_if_icmp_eq, qw_if_ne, qw_iload_n1, qw_iload_n2, qw_invokevirtual1, qw_invokevirtual3, qw_ireturn, qw_pf_b, qw_pf_i, qw_pf_r, mm_rf_c, mm_rt_v, mm_rt_i, mm_rt_r, mm_alc_n, mm_alc_c, mm_rc_n, mm_rc_c, mm_wd_n, mm_wd_i, mm_wd_l, mm_wd_r, reduceCtorEq, false_implies, implies_true, true_implies, true_or, or_true, false_or, or_false, not_false_eq_true, mm_nl_n, mm_nl_i, mm_nl_r, mm_args_n, mm_args_i, mm_args_l, mm_args_r, mm_pad_0, mm_pad_n, mm_pad_c, List.length_cons, List.length_nil, List.nil_append, List.cons_append, Nat.zero_le, Nat.sub_zero, true_and, and_true, Nat.reduceAdd, Nat.reduceLeDiff, Nat.reduceLT, Nat.reduceSub, Nat.lt_irrefl, Nat.zero_add, Nat.add_zero, Nat.le_refl, k_20, k_10, k_01, ↓mm_if_T, ↓mm_if_F, ↓if10, ↓if00, not_true_eq_false, tf_01, ↓mm_if_tf, ↓mm_if_tn, ↓mm_if_nn, h4, h5, r_109 (d + 1) hL hT (show p < 100000 by omega), ↓mm_if_t c', nI_1, mm_I_k, mm_I_s]
      refine r_110 d (LyM_2 (M := M) (M' := mm_sI (mm_sI M 6 0 15 (bo false)) 6 0 13 (nI (p + 1))) rfl hL) (T1 false) (by omega) lo hi (fun M' hF hT' => ?_)
      simp (disch := omega) only [eK_111_5, pw_nop0, qw_aload_n0, qw_iload_n1, qw_iload_n2, qw_invokevirtual3, qw_ireturn, mm_rf_c, mm_rt_v, mm_rt_i, mm_rt_r, mm_alc_n, mm_alc_c, mm_rc_n, mm_rc_c, mm_wd_n, mm_wd_i, mm_wd_l, mm_wd_r, reduceCtorEq, false_implies, implies_true, true_implies, true_or, or_true, false_or, or_false, not_false_eq_true, mm_nl_n, mm_nl_i, mm_nl_r, mm_args_n, mm_args_i, mm_args_l, mm_args_r, mm_pad_0, mm_pad_n, mm_pad_c, List.length_cons, List.length_nil, List.nil_append, List.cons_append, Nat.zero_le, Nat.sub_zero, true_and, and_true, Nat.reduceAdd, Nat.reduceLeDiff, Nat.reduceLT, Nat.reduceSub, Nat.lt_irrefl, Nat.zero_add, Nat.add_zero, Nat.le_refl, k_20, k_10, k_01, ↓mm_if_T, ↓mm_if_F, ↓if10, ↓if00, not_true_eq_false, tf_01, ↓mm_if_tf, ↓mm_if_tn, ↓mm_if_nn]
      exact h M' (FA_tr (F1 false) hF) hT'
    · rw [if_neg c] at h
      have c' : ¬ lR t lt p = 44 := fun z => c ((lR_eq (by decide) (by decide)).mp z)
      have hh := h _ (F1 true) (T1 true)
      simp (disch := omega) only [eC_111, eK_111_0, eK_111_1, eK_111_2, eK_111_3, eK_111_4, eK_111_5, pw_bipush, pw_goto, pw_iconst, pw_nop0, qw_aload_n0, qw_dup_i, qw_dup_r, qw_gf_b, qw_gf_i, qw_gf_r, qw_iadd, qw_if_eq, qw_if_icmp_eq, qw_if_ne, qw_iload_n1, qw_iload_n2, qw_invokevirtual1, qw_invokevirtual3, qw_ireturn, qw_pf_b, qw_pf_i, qw_pf_r, mm_rf_c, mm_rt_v, mm_rt_i, mm_rt_r, mm_alc_n, mm_alc_c, mm_rc_n, mm_rc_c, mm_wd_n, mm_wd_i, mm_wd_l, mm_wd_r, reduceCtorEq, false_implies, implies_true, true_implies, true_or, or_true, false_or, or_false, not_false_eq_true, mm_nl_n, mm_nl_i, mm_nl_r, mm_args_n, mm_args_i, mm_args_l, mm_args_r, mm_pad_0, mm_pad_n, mm_pad_c, List.length_cons, List.length_nil, List.nil_append, List.cons_append, Nat.zero_le, Nat.sub_zero, true_and, and_true, Nat.reduceAdd, Nat.reduceLeDiff, Nat.reduceLT, Nat.reduceSub, Nat.lt_irrefl, Nat.zero_add, Nat.add_zero, Nat.le_refl, k_20, k_10, k_01, ↓mm_if_T, ↓mm_if_F, ↓if10, ↓if00, not_true_eq_false, tf_01, ↓mm_if_tf, ↓mm_if_tn, ↓mm_if_nn, h4, h5, r_109 (d + 1) hL hT (show p < 100000 by omega), ↓mm_if_f c', nI_1, mm_I_k, mm_I_s]
      exact hh

