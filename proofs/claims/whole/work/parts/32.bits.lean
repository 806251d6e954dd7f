/-! BITS as numbers below 128; counts; which -/
def bI (f : Nat → Int32) : Nat → Int32
  | 0 => 0
  | w + 1 => if ¬ f w = 0 then bI f w ||| (1 <<< (nI w &&& 31)) else bI f w
def bm (f : Nat → Int32) : Nat → Nat
  | 0 => 0
  | w + 1 => if ¬ f w = 0 then bm f w + 2 ^ w else bm f w
def ctn (f : Nat → Int32) : Nat → Nat
  | 0 => 0
  | w + 1 => if ¬ f w = 0 then ctn f w + 1 else ctn f w
/-- how many bits -/
def pcn (m : Nat) : Nat := m % 2 + m / 2 % 2 + m / 4 % 2 + m / 8 % 2 + m / 16 % 2 + m / 32 % 2 + m / 64 % 2
theorem b7_or : ∀ w, w < 7 → ∀ m, m < 128 → m < 2 ^ w → nI m ||| (1 <<< (nI w &&& 31)) = nI (m + 2 ^ w) := by decide +kernel
theorem b7_pc : ∀ w, w < 7 → ∀ m, m < 128 → m < 2 ^ w → pcn (m + 2 ^ w) = pcn m + 1 := by decide +kernel
theorem b7_pw : ∀ w, w ≤ 7 → 2 ^ w ≤ 128 := by decide +kernel
theorem bm_lt (f : Nat → Int32) : ∀ w, bm f w < 2 ^ w
  | 0 => by show 0 < 2 ^ 0; decide
  | w + 1 => by
    have := bm_lt f w
    unfold bm
    rw [Nat.pow_succ]
    split <;> omega
theorem bI_bm (f : Nat → Int32) : ∀ w, w ≤ 7 → bI f w = nI (bm f w) ∧ pcn (bm f w) = ctn f w
  | 0, _ => ⟨rfl, by show pcn 0 = 0; decide⟩
  | w + 1, h => by
    obtain ⟨h1, h2⟩ := bI_bm f w (by omega)
    have h3 := bm_lt f w
    have h4 := b7_pw w (by omega)
    unfold bI bm ctn
    split
    · rw [h1, b7_or w (by omega) _ (by omega) h3, b7_pc w (by omega) _ (by omega) h3, h2]
      exact ⟨rfl, rfl⟩
    · exact ⟨h1, h2⟩
theorem g_hb_bI (A : Nat → Nat → Int32) (n : Nat) (ev : Int32) : ∀ w, g_hb A n ev w = bI (fun w => g_hd A n w ev) w
  | 0 => rfl
  | w + 1 => by unfold g_hb bI; rw [g_hb_bI A n ev w]
theorem g_fb_bI (A : Nat → Nat → Int32) : ∀ w, g_fb A w = bI (fun w => A w 4) w
  | 0 => rfl
  | w + 1 => by unfold g_fb bI; rw [g_fb_bI A w]

set_option maxHeartbeats 4000000 in
theorem e_165 (d : Nat) (m : Nat) (hm : m < 128) (M : mm_M) (post : mm_Post) : pC (d + 1) 165 [.inl (nI m)] M post = post (some (.inl (nI (pcn m)))) M := by
  simp only [eC_165, eK_165_0, pw_bipush, pw_iadd, pw_iand, pw_iconst, pw_iload_n, pw_ireturn, pw_istore_n, pw_isub, pw_iushr, pw_ldc_w, mm_pI_c, mm_pL_c, mm_pA_c, mm_pR_c, mm_p1_i, mm_p1_r, mm_pN_0, mm_pN_s, mm_lI_c, mm_lL_c, mm_lA_c, mm_wd_n, mm_wd_i, mm_wd_l, mm_wd_r, mm_gf_i, mm_gf_b, mm_gf_r, mm_rf_c, mm_pf_i, mm_pf_b, mm_pf_r, mm_rt_v, mm_rt_i, mm_rt_r, mm_c_eq, mm_c_ne, mm_c_lt, mm_c_ge, mm_c_gt, mm_c_le, mm_sw_n, mm_sw_c, mm_alc_n, mm_alc_c, mm_rc_n, mm_rc_c, reduceCtorEq, false_implies, implies_true, true_implies, true_or, or_true, false_or, or_false, not_false_eq_true, mm_at_0, mm_at_s, mm_set_0, mm_set_s, mm_nl_n, mm_nl_i, mm_nl_r, mm_args_n, mm_args_i, mm_args_l, mm_args_r, mm_pad_0, mm_pad_n, mm_pad_c, List.length_cons, List.length_nil, List.nil_append, List.cons_append, Nat.zero_le, Nat.sub_zero, true_and, and_true, Nat.reduceAdd, Nat.reduceLeDiff, Nat.reduceLT, Nat.reduceSub, Nat.lt_irrefl, Nat.zero_add, Nat.add_zero, k_20, k_10, k_01, mm_if_T, mm_if_F, not_true_eq_false, not_false_eq_true]
  refine congrArg (fun z => post (some (.inl z)) M) ?_
  revert hm
  revert m
  clear post M d
  decide +kernel
def G78 (n : Nat) (X : Sx) (q a b t : Nat) (x : Int32) : Int32 := if x = 0 then nI n else if x = 1 then X.2 else if x = 2 then X.1.2.1 else if x = 3 then X.1.2.2 else if x = 4 then g_bl X.1.1 1 n else if x = 5 then g_bl X.1.1 2 n else if x = 6 then nI (ctn (fun w => X.1.1 w 4) n) else if x = 7 then nI (ctn (fun w => g_hd X.1.1 n w (g_ev X.2)) n) else if x = 8 then nI q else if x = 9 then nI a else if x = 10 then nI b else if x = 11 then nI t else -1
set_option maxHeartbeats 8000000 in
theorem e_78 (d : Nat) {n : Nat} {X : Sx} {a : Nat} {P : Nat → Sx} {b : Nat} {K : Nat → Sx} {q : Nat} {nx nl : Nat → Int32} {t : Nat} {lt : Nat → Int32} {M : mm_M} {post : mm_Post} (hI : I1 M n X a P b K) (hJ : I2 M q nx nl t lt) (x : Int32) : pC (d + 5) 78 [.inr (.inr (5, 0)), .inl x] M post = post (some (.inl (G78 n X q a b t x))) M := by
  obtain ⟨ps, hC, hn, hR, hW, ha, ha2, hP, hb, hb2, hK⟩ := id hI
  have hR0 : RS M 0 n X.1.1 X.2 X.1.2.1 X.1.2.2 := hR
  obtain ⟨s1, s2, s3, s4, s5⟩ := id hR0
  obtain ⟨hS, c0, c1, c2, c3, c4, c5, c6, m0, m1, m2, k1, k2, ct, cn, cp0, hps, hpi⟩ := id hC
  obtain ⟨j1, j2, j3, j4, j5, j6⟩ := id hJ
  obtain ⟨f1, f2⟩ := bI_bm (fun w => X.1.1 w 4) n hn
  obtain ⟨f3, f4⟩ := bI_bm (fun w => g_hd X.1.1 n w (g_ev X.2)) n hn
  have f5 : bm (fun w => X.1.1 w 4) n < 128 := Nat.lt_of_lt_of_le (bm_lt _ n) (b7_pw n hn)
  have f6 : bm (fun w => g_hd X.1.1 n w (g_ev X.2)) n < 128 := Nat.lt_of_lt_of_le (bm_lt _ n) (b7_pw n hn)
  simp only [eC_78, eK_78_0, eK_78_1, eK_78_2, eK_78_3, eK_78_4, eK_78_5, eK_78_6, eK_78_7, eK_78_8, eK_78_9, eK_78_10, eK_78_11, eK_78_12, eK_78_13, pw_aload_n, pw_getfield, pw_iconst, pw_iload_n, pw_invokestatic, pw_invokevirtual, pw_ireturn, pw_tableswitch, mm_pI_c, mm_pL_c, mm_pA_c, mm_pR_c, mm_p1_i, mm_p1_r, mm_pN_0, mm_pN_s, mm_lI_c, mm_lL_c, mm_lA_c, mm_wd_n, mm_wd_i, mm_wd_l, mm_wd_r, mm_gf_i, mm_gf_b, mm_gf_r, mm_rf_c, mm_pf_i, mm_pf_b, mm_pf_r, mm_rt_v, mm_rt_i, mm_rt_r, mm_c_eq, mm_c_ne, mm_c_lt, mm_c_ge, mm_c_gt, mm_c_le, mm_sw_n, mm_sw_c, mm_alc_n, mm_alc_c, mm_rc_n, mm_rc_c, reduceCtorEq, false_implies, implies_true, true_implies, true_or, or_true, false_or, or_false, not_false_eq_true, mm_at_0, mm_at_s, mm_set_0, mm_set_s, mm_nl_n, mm_nl_i, mm_nl_r, mm_args_n, mm_args_i, mm_args_l, mm_args_r, mm_pad_0, mm_pad_n, mm_pad_c, List.length_cons, List.length_nil, List.nil_append, List.cons_append, Nat.zero_le, Nat.sub_zero, true_and, and_true, Nat.reduceAdd, Nat.reduceLeDiff, Nat.reduceLT, Nat.reduceSub, Nat.lt_irrefl, Nat.zero_add, Nat.add_zero, k_20, k_10, k_01, mm_if_T, mm_if_F, not_true_eq_false, not_false_eq_true, c0, c1, c3, s1, s2, s3, s4, ha2, hb2, j2, j5, e_22 (d + 3) (show 0 < 20 by omega) hn hS hR0, e_21 (d + 3) (show 0 < 20 by omega) hn hS hR0, e_20 d (show 0 < 20 by omega) hn hS hR0, g_fb_bI, g_hb_bI, f1, f3, e_165 (d + 3) _ f5, e_165 (d + 3) _ f6, f2, f4, mm_if_v]
  unfold G78
  rfl

/-- all that is noted is so of the bell of w -/
def g_nf (A : Nat → Nat → Int32) (w : Nat) (nx nl : Nat → Int32) : Nat → Int32
  | 0 => 1
  | q + 1 => if g_nf A w nx nl q = 0 then 0 else tf (f_lf (A w 8) (A w 9) (nx q) = nl q)
def G72 (n : Nat) (A : Nat → Nat → Int32) (q : Nat) (nx nl : Nat → Int32) : Int32 := bI (fun w => tf (A w 5 = 2 ∧ ¬ g_nf A w nx nl q = 0)) n
theorem g_nf_0 {A : Nat → Nat → Int32} {w : Nat} {nx nl : Nat → Int32} {i : Nat} (h : g_nf A w nx nl i = 0) : ∀ m, g_nf A w nx nl (i + m) = 0
  | 0 => h
  | m + 1 => by
    show (if g_nf A w nx nl (i + m) = 0 then (0 : Int32) else _) = 0
    rw [if_pos (g_nf_0 h m)]
theorem g_nf_1 {A : Nat → Nat → Int32} {w : Nat} {nx nl : Nat → Int32} : ∀ i, ¬ g_nf A w nx nl i = 0 → g_nf A w nx nl i = 1
  | 0, _ => rfl
  | i + 1, h => by
    unfold g_nf at *
    split at h
    · exact absurd rfl h
    · rename_i hz
      rw [if_neg hz]
      rcases tf_01 (c := f_lf (A w 8) (A w 9) (nx i) = nl i) with e | e
      · exact absurd e h
      · exact e
set_option maxHeartbeats 4000000 in
theorem l_7 (d : Nat) {A : Nat → Nat → Int32} {w i0 : Nat} {ps : Nat → Nat} {q : Nat} {nx nl : Nat → Int32} {M : mm_M} {post : mm_Post} (hC : LyC M ps) (hq : q ≤ 6) (j2 : mm_I M 1 0 2 = nI q) (j3 : ∀ i, i < q → mm_I M 7 2 i = nx i ∧ mm_I M 7 3 i = nl i) (r8 : mm_I M 4 i0 8 = A w 8) (r9 : mm_I M 4 i0 9 = A w 9) (h : post (some (.inl (g_nf A w nx nl q))) M) : ∀ (m i : Nat), i + m = q → ¬ g_nf A w nx nl i = 0 → pK (d + 2) 7 post 1 [some (.inr (.inr (1, 0))), some (.inr (.inr (4, i0))), some (.inl (nI i))] [] M (0, 0) := by
  obtain ⟨hS, c0, c1, c2, c3, c4, c5, c6, m0, m1, m2, k1, k2, ct, cn, cp0, hps, hpi⟩ := id hC
  obtain ⟨n1, n2, n3, n4⟩ := cn
  intro m
  induction m with
  | zero =>
    intro i hi hg
    have e : i = q := by omega
    subst e
    rw [g_nf_1 i hg] at h
    rw [eK_7_1]
    simp only [eK_7_0, eK_7_2, eK_7_3, pw_aload_n, pw_getfield, pw_goto, pw_iaload, pw_iconst, pw_if_icmp, pw_iinc, pw_iload_n, pw_invokevirtual, pw_ireturn, pw_istore_n, pw_nop0, mm_pI_c, mm_pL_c, mm_pA_c, mm_pR_c, mm_p1_i, mm_p1_r, mm_pN_0, mm_pN_s, mm_lI_c, mm_lL_c, mm_lA_c, mm_wd_n, mm_wd_i, mm_wd_l, mm_wd_r, mm_gf_i, mm_gf_b, mm_gf_r, mm_rf_c, mm_pf_i, mm_pf_b, mm_pf_r, mm_rt_v, mm_rt_i, mm_rt_r, mm_c_eq, mm_c_ne, mm_c_lt, mm_c_ge, mm_c_gt, mm_c_le, mm_sw_n, mm_sw_c, mm_alc_n, mm_alc_c, mm_rc_n, mm_rc_c, reduceCtorEq, false_implies, implies_true, true_implies, true_or, or_true, false_or, or_false, not_false_eq_true, mm_at_0, mm_at_s, mm_set_0, mm_set_s, mm_nl_n, mm_nl_i, mm_nl_r, mm_args_n, mm_args_i, mm_args_l, mm_args_r, mm_pad_0, mm_pad_n, mm_pad_c, List.length_cons, List.length_nil, List.nil_append, List.cons_append, Nat.zero_le, Nat.sub_zero, true_and, and_true, Nat.reduceAdd, Nat.reduceLeDiff, Nat.reduceLT, Nat.reduceSub, Nat.lt_irrefl, Nat.zero_add, Nat.add_zero, k_20, k_10, k_01, mm_if_T, mm_if_F, not_true_eq_false, not_false_eq_true, j2, mm_if_t (nI_le (Nat.le_refl i) (show i < 2 ^ 31 by omega))]
    exact h
  | succ m ih =>
    intro i hi hg
    have q3 : ¬ nI q ≤ nI i := nI_ge (by omega) (by omega)
    have vi : vp_in (nI i) 6 := vp_in_nI (by omega) (by omega)
    have ni : (nI i).toNatClampNeg = i := nI_clamp (by omega)
    obtain ⟨a1, a2⟩ := j3 i (by omega)
    have eg : g_nf A w nx nl (i + 1) = tf (f_lf (A w 8) (A w 9) (nx i) = nl i) := if_neg hg
    rw [eK_7_1]
    simp only [eK_7_0, eK_7_2, eK_7_3, pw_aload_n, pw_getfield, pw_goto, pw_iaload, pw_iconst, pw_if_icmp, pw_iinc, pw_iload_n, pw_invokevirtual, pw_ireturn, pw_istore_n, pw_nop0, mm_pI_c, mm_pL_c, mm_pA_c, mm_pR_c, mm_p1_i, mm_p1_r, mm_pN_0, mm_pN_s, mm_lI_c, mm_lL_c, mm_lA_c, mm_wd_n, mm_wd_i, mm_wd_l, mm_wd_r, mm_gf_i, mm_gf_b, mm_gf_r, mm_rf_c, mm_pf_i, mm_pf_b, mm_pf_r, mm_rt_v, mm_rt_i, mm_rt_r, mm_c_eq, mm_c_ne, mm_c_lt, mm_c_ge, mm_c_gt, mm_c_le, mm_sw_n, mm_sw_c, mm_alc_n, mm_alc_c, mm_rc_n, mm_rc_c, reduceCtorEq, false_implies, implies_true, true_implies, true_or, or_true, false_or, or_false, not_false_eq_true, mm_at_0, mm_at_s, mm_set_0, mm_set_s, mm_nl_n, mm_nl_i, mm_nl_r, mm_args_n, mm_args_i, mm_args_l, mm_args_r, mm_pad_0, mm_pad_n, mm_pad_c, List.length_cons, List.length_nil, List.nil_append, List.cons_append, Nat.zero_le, Nat.sub_zero, true_and, and_true, Nat.reduceAdd, Nat.reduceLeDiff, Nat.reduceLT, Nat.reduceSub, Nat.lt_irrefl, Nat.zero_add, Nat.add_zero, k_20, k_10, k_01, mm_if_T, mm_if_F, not_true_eq_false, not_false_eq_true, j2, mm_if_f q3, n1, n2, n3, n4, vi, ni, a1, a2, nI_1, t_44, r8, r9]
    refine ⟨fun hc => ?_, fun hc => ?_⟩
    · exact ih (i + 1) (by omega) (by rw [eg, tf_t hc]; decide)
    · have e0 : g_nf A w nx nl q = 0 := by
        have := g_nf_0 (A := A) (w := w) (nx := nx) (nl := nl) (i := i + 1) (by rw [eg, tf_f hc]) m
        rw [show i + 1 + m = q by omega] at this
        exact this
      rw [e0] at h
      exact h
theorem e_7 (d : Nat) {A : Nat → Nat → Int32} {w i0 : Nat} {ps : Nat → Nat} {q : Nat} {nx nl : Nat → Int32} {M : mm_M} {post : mm_Post} (hC : LyC M ps) (hq : q ≤ 6) (j2 : mm_I M 1 0 2 = nI q) (j3 : ∀ i, i < q → mm_I M 7 2 i = nx i ∧ mm_I M 7 3 i = nl i) (r8 : mm_I M 4 i0 8 = A w 8) (r9 : mm_I M 4 i0 9 = A w 9) : pC (d + 3) 7 [.inr (.inr (1, 0)), .inr (.inr (4, i0))] M post = post (some (.inl (g_nf A w nx nl q))) M := by
  refine pC_one (fun post h => ?_) post
  have key := l_7 d hC hq j2 j3 r8 r9 h q 0 (by omega) (by show ¬ (1 : Int32) = 0; decide)
  simp only [eC_7, eK_7_0, eK_7_2, eK_7_3, pw_aload_n, pw_getfield, pw_goto, pw_iaload, pw_iconst, pw_if_icmp, pw_iinc, pw_iload_n, pw_invokevirtual, pw_ireturn, pw_istore_n, pw_nop0, mm_pI_c, mm_pL_c, mm_pA_c, mm_pR_c, mm_p1_i, mm_p1_r, mm_pN_0, mm_pN_s, mm_lI_c, mm_lL_c, mm_lA_c, mm_wd_n, mm_wd_i, mm_wd_l, mm_wd_r, mm_gf_i, mm_gf_b, mm_gf_r, mm_rf_c, mm_pf_i, mm_pf_b, mm_pf_r, mm_rt_v, mm_rt_i, mm_rt_r, mm_c_eq, mm_c_ne, mm_c_lt, mm_c_ge, mm_c_gt, mm_c_le, mm_sw_n, mm_sw_c, mm_alc_n, mm_alc_c, mm_rc_n, mm_rc_c, reduceCtorEq, false_implies, implies_true, true_implies, true_or, or_true, false_or, or_false, not_false_eq_true, mm_at_0, mm_at_s, mm_set_0, mm_set_s, mm_nl_n, mm_nl_i, mm_nl_r, mm_args_n, mm_args_i, mm_args_l, mm_args_r, mm_pad_0, mm_pad_n, mm_pad_c, List.length_cons, List.length_nil, List.nil_append, List.cons_append, Nat.zero_le, Nat.sub_zero, true_and, and_true, Nat.reduceAdd, Nat.reduceLeDiff, Nat.reduceLT, Nat.reduceSub, Nat.lt_irrefl, Nat.zero_add, Nat.add_zero, k_20, k_10, k_01, mm_if_T, mm_if_F, not_true_eq_false, not_false_eq_true]
  exact key

set_option maxHeartbeats 4000000 in
theorem l_72 (d : Nat) {n : Nat} {X : Sx} {a : Nat} {P : Nat → Sx} {b : Nat} {K : Nat → Sx} {q : Nat} {nx nl : Nat → Int32} {t : Nat} {lt : Nat → Int32} {M : mm_M} {post : mm_Post} (hI : I1 M n X a P b K) (hJ : I2 M q nx nl t lt) (h : post (some (.inl (G72 n X.1.1 q nx nl))) M) : ∀ (m v : Nat), v + m = n → pK (d + 3) 72 post 1 [some (.inr (.inr (5, 0))), some (.inl (bI (fun w => tf (X.1.1 w 5 = 2 ∧ ¬ g_nf X.1.1 w nx nl q = 0)) v)), some (.inl (nI v))] [] M (0, 0) := by
  obtain ⟨ps, hC, hn, hR, hW, ha, ha2, hP, hb, hb2, hK⟩ := id hI
  have hR0 : RS M 0 n X.1.1 X.2 X.1.2.1 X.1.2.2 := hR
  obtain ⟨s1, s2, s3, s4, s5⟩ := id hR0
  obtain ⟨hS, c0, c1, c2, c3, c4, c5, c6, m0, m1, m2, k1, k2, ct, cn, cp0, hps, hpi⟩ := id hC
  obtain ⟨h1, h2, h3⟩ := hS 0 (by omega)
  obtain ⟨j1, j2, j3, j4, j5, j6⟩ := id hJ
  intro m
  induction m with
  | zero =>
    intro v hv
    have e : v = n := by omega
    subst e
    rw [eK_72_1]
    simp only [eK_72_0, eK_72_2, eK_72_3, pw_aaload, pw_aload_n, pw_getfield, pw_goto, pw_iconst, pw_ifCond, pw_if_icmp, pw_iinc, pw_iload_n, pw_invokevirtual, pw_ior, pw_ireturn, pw_ishl, pw_istore_n, pw_nop0, mm_pI_c, mm_pL_c, mm_pA_c, mm_pR_c, mm_p1_i, mm_p1_r, mm_pN_0, mm_pN_s, mm_lI_c, mm_lL_c, mm_lA_c, mm_wd_n, mm_wd_i, mm_wd_l, mm_wd_r, mm_gf_i, mm_gf_b, mm_gf_r, mm_rf_c, mm_pf_i, mm_pf_b, mm_pf_r, mm_rt_v, mm_rt_i, mm_rt_r, mm_c_eq, mm_c_ne, mm_c_lt, mm_c_ge, mm_c_gt, mm_c_le, mm_sw_n, mm_sw_c, mm_alc_n, mm_alc_c, mm_rc_n, mm_rc_c, reduceCtorEq, false_implies, implies_true, true_implies, true_or, or_true, false_or, or_false, not_false_eq_true, mm_at_0, mm_at_s, mm_set_0, mm_set_s, mm_nl_n, mm_nl_i, mm_nl_r, mm_args_n, mm_args_i, mm_args_l, mm_args_r, mm_pad_0, mm_pad_n, mm_pad_c, List.length_cons, List.length_nil, List.nil_append, List.cons_append, Nat.zero_le, Nat.sub_zero, true_and, and_true, Nat.reduceAdd, Nat.reduceLeDiff, Nat.reduceLT, Nat.reduceSub, Nat.lt_irrefl, Nat.zero_add, Nat.add_zero, k_20, k_10, k_01, mm_if_T, mm_if_F, not_true_eq_false, not_false_eq_true, c3, s1, mm_if_t (nI_le (Nat.le_refl v) (show v < 2 ^ 31 by omega))]
    exact h
  | succ m ih =>
    intro v hv
    have hvn : v < n := by omega
    obtain ⟨q1, q2, q3⟩ := nI_v7 hvn hn
    have q4 := h3 v (by omega)
    have r := s5 v hvn
    have r5 := r 5 (by omega)
    have r8 := r 8 (by omega)
    have r9 := r 9 (by omega)
    rw [Nat.mul_zero, Nat.zero_add] at q4 r5 r8 r9
    have key := ih (v + 1) (by omega)
    rw [eK_72_1]
    simp only [eK_72_0, eK_72_2, eK_72_3, pw_aaload, pw_aload_n, pw_getfield, pw_goto, pw_iconst, pw_ifCond, pw_if_icmp, pw_iinc, pw_iload_n, pw_invokevirtual, pw_ior, pw_ireturn, pw_ishl, pw_istore_n, pw_nop0, mm_pI_c, mm_pL_c, mm_pA_c, mm_pR_c, mm_p1_i, mm_p1_r, mm_pN_0, mm_pN_s, mm_lI_c, mm_lL_c, mm_lA_c, mm_wd_n, mm_wd_i, mm_wd_l, mm_wd_r, mm_gf_i, mm_gf_b, mm_gf_r, mm_rf_c, mm_pf_i, mm_pf_b, mm_pf_r, mm_rt_v, mm_rt_i, mm_rt_r, mm_c_eq, mm_c_ne, mm_c_lt, mm_c_ge, mm_c_gt, mm_c_le, mm_sw_n, mm_sw_c, mm_alc_n, mm_alc_c, mm_rc_n, mm_rc_c, reduceCtorEq, false_implies, implies_true, true_implies, true_or, or_true, false_or, or_false, not_false_eq_true, mm_at_0, mm_at_s, mm_set_0, mm_set_s, mm_nl_n, mm_nl_i, mm_nl_r, mm_args_n, mm_args_i, mm_args_l, mm_args_r, mm_pad_0, mm_pad_n, mm_pad_c, List.length_cons, List.length_nil, List.nil_append, List.cons_append, Nat.zero_le, Nat.sub_zero, true_and, and_true, Nat.reduceAdd, Nat.reduceLeDiff, Nat.reduceLT, Nat.reduceSub, Nat.lt_irrefl, Nat.zero_add, Nat.add_zero, k_20, k_10, k_01, mm_if_T, mm_if_F, not_true_eq_false, not_false_eq_true, c1, c3, s1, h1, h2, mm_if_f q3, q1, q2, q4, r5, nI_1, t_41, tf_0, e_7 d hC j1 j2 j3 r8 r9]
    simp only [mm_if]
    have eb : bI (fun w => tf (X.1.1 w 5 = 2 ∧ ¬ g_nf X.1.1 w nx nl q = 0)) (v + 1) = if X.1.1 v 5 = 2 ∧ ¬ g_nf X.1.1 v nx nl q = 0 then bI (fun w => tf (X.1.1 w 5 = 2 ∧ ¬ g_nf X.1.1 w nx nl q = 0)) v ||| (1 <<< (nI v &&& 31)) else bI (fun w => tf (X.1.1 w 5 = 2 ∧ ¬ g_nf X.1.1 w nx nl q = 0)) v := by
      show (if ¬ tf _ = 0 then _ else _) = _
      simp only [tf_0, Classical.not_not]
    rw [eb] at key
    grind
theorem e_72 (d : Nat) {n : Nat} {X : Sx} {a : Nat} {P : Nat → Sx} {b : Nat} {K : Nat → Sx} {q : Nat} {nx nl : Nat → Int32} {t : Nat} {lt : Nat → Int32} {M : mm_M} {post : mm_Post} (hI : I1 M n X a P b K) (hJ : I2 M q nx nl t lt) : pC (d + 4) 72 [.inr (.inr (5, 0))] M post = post (some (.inl (G72 n X.1.1 q nx nl))) M := by
  refine pC_one (fun post h => ?_) post
  have key := l_72 d hI hJ h n 0 (by omega)
  simp only [eC_72, eK_72_0, eK_72_2, eK_72_3, pw_aaload, pw_aload_n, pw_getfield, pw_goto, pw_iconst, pw_ifCond, pw_if_icmp, pw_iinc, pw_iload_n, pw_invokevirtual, pw_ior, pw_ireturn, pw_ishl, pw_istore_n, pw_nop0, mm_pI_c, mm_pL_c, mm_pA_c, mm_pR_c, mm_p1_i, mm_p1_r, mm_pN_0, mm_pN_s, mm_lI_c, mm_lL_c, mm_lA_c, mm_wd_n, mm_wd_i, mm_wd_l, mm_wd_r, mm_gf_i, mm_gf_b, mm_gf_r, mm_rf_c, mm_pf_i, mm_pf_b, mm_pf_r, mm_rt_v, mm_rt_i, mm_rt_r, mm_c_eq, mm_c_ne, mm_c_lt, mm_c_ge, mm_c_gt, mm_c_le, mm_sw_n, mm_sw_c, mm_alc_n, mm_alc_c, mm_rc_n, mm_rc_c, reduceCtorEq, false_implies, implies_true, true_implies, true_or, or_true, false_or, or_false, not_false_eq_true, mm_at_0, mm_at_s, mm_set_0, mm_set_s, mm_nl_n, mm_nl_i, mm_nl_r, mm_args_n, mm_args_i, mm_args_l, mm_args_r, mm_pad_0, mm_pad_n, mm_pad_c, List.length_cons, List.length_nil, List.nil_append, List.cons_append, Nat.zero_le, Nat.sub_zero, true_and, and_true, Nat.reduceAdd, Nat.reduceLeDiff, Nat.reduceLT, Nat.reduceSub, Nat.lt_irrefl, Nat.zero_add, Nat.add_zero, k_20, k_10, k_01, mm_if_T, mm_if_F, not_true_eq_false, not_false_eq_true]
  exact key

