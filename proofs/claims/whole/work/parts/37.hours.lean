/-! THE CLASS: hours. a way f gives each bell that hangs an hour -/
def h_us (A : Nat → Nat → Int32) (f : Nat → Nat) : Nat → Nat
  | 0 => 0
  | w + 1 => if A w 5 = 2 then (if h_us A f w ≤ f w then f w + 1 else h_us A f w) else h_us A f w
def h_cl (A : Nat → Nat → Int32) (v w : Nat) : Prop := ¬ g_dr A v w = 0 ∨ ¬ g_dr A w v = 0
def h_fr (A : Nat → Nat → Int32) (f : Nat → Nat) (w : Nat) : Prop := ∀ v, v < w → A v 5 = 2 → f v = f w → ¬ h_cl A v w
def h_ok (A : Nat → Nat → Int32) (f : Nat → Nat) (w : Nat) : Prop := A w 5 = 2 → f w ≤ h_us A f w ∧ h_fr A f w
def h_lx (A : Nat → Nat → Int32) (n : Nat) (f g : Nat → Nat) : Prop := (∀ w, w < n → A w 5 = 2 → f w = g w) ∨ ∃ w, w < n ∧ A w 5 = 2 ∧ f w < g w ∧ ∀ v, v < w → A v 5 = 2 → f v = g v
/-- g goes on from f at w, under most -/
def h_ex (A : Nat → Nat → Int32) (n m w : Nat) (f g : Nat → Nat) : Prop := (∀ v, v < w → A v 5 = 2 → g v = f v) ∧ ∀ v, w ≤ v → v < n → h_ok A g v ∧ (A v 5 = 2 → g v < m)
/-- the fewest hours, and the first way with so many -/
def h_be (A : Nat → Nat → Int32) (n m : Nat) (f : Nat → Nat) : Prop := (∀ w, w < n → h_ok A f w) ∧ h_us A f n = m ∧ (∀ g, (∀ w, w < n → h_ok A g w) → m ≤ h_us A g n) ∧ ∀ g, (∀ w, w < n → h_ok A g w) → h_us A g n = m → h_lx A n f g
theorem h_us_c {A : Nat → Nat → Int32} {f g : Nat → Nat} : ∀ w, (∀ v, v < w → A v 5 = 2 → f v = g v) → h_us A f w = h_us A g w
  | 0, _ => rfl
  | w + 1, h => by
    have e := h_us_c w (fun v hv => h v (by omega))
    unfold h_us
    rw [e]
    by_cases c : A w 5 = 2
    · rw [if_pos c, if_pos c, h w (by omega) c]
    · rw [if_neg c, if_neg c]
theorem h_us_m {A : Nat → Nat → Int32} {f : Nat → Nat} {m : Nat} : ∀ n, h_us A f n ≤ m ↔ ∀ w, w < n → A w 5 = 2 → f w < m
  | 0 => ⟨fun _ w hw => by omega, fun _ => Nat.zero_le _⟩
  | n + 1 => by
    have ih := h_us_m (A := A) (f := f) (m := m) n
    unfold h_us
    constructor
    · intro h w hw c
      by_cases e : w = n
      · subst e
        rw [if_pos c] at h
        split at h <;> omega
      · refine ih.mp ?_ w (by omega) c
        split at h
        · split at h <;> omega
        · exact h
    · intro h
      have h2 := ih.mpr (fun w hw => h w (by omega))
      split
      · rename_i c
        have := h n (by omega) c
        split <;> omega
      · exact h2
theorem h_us_w {A : Nat → Nat → Int32} {f : Nat → Nat} : ∀ w, (∀ v, v < w → h_ok A f v) → h_us A f w ≤ w
  | 0, _ => Nat.le_refl _
  | w + 1, h => by
    have e := h_us_w w (fun v hv => h v (by omega))
    have o := h w (by omega)
    unfold h_us
    split
    · rename_i c
      have := (o c).1
      split <;> omega
    · omega
theorem h_lx_anti {A : Nat → Nat → Int32} {n : Nat} {f g : Nat → Nat} (h1 : h_lx A n f g) (h2 : h_lx A n g f) : ∀ w, w < n → A w 5 = 2 → f w = g w := by
  rcases h1 with h1 | ⟨w, hw, c, l, e⟩
  · exact h1
  · rcases h2 with h2 | ⟨v, hv, c', l', e'⟩
    · exact fun u hu cu => (h2 u hu cu).symm
    · exfalso
      rcases Nat.lt_trichotomy v w with z | z | z
      · have := e v z c'; omega
      · subst z; omega
      · have := e' w z c; omega
/-- there is but one such -/
theorem h_be_1 {A : Nat → Nat → Int32} {n m m' : Nat} {f g : Nat → Nat} (h : h_be A n m f) (h' : h_be A n m' g) : m = m' ∧ ∀ w, w < n → A w 5 = 2 → f w = g w := by
  obtain ⟨a1, a2, a3, a4⟩ := h
  obtain ⟨b1, b2, b3, b4⟩ := h'
  have e : m = m' := Nat.le_antisymm (by rw [← b2]; exact a3 g b1) (by rw [← a2]; exact b3 f a1)
  exact ⟨e, h_lx_anti (a4 g b1 (by rw [b2, e])) (b4 f a1 (by rw [a2, e]))⟩
/-- what lies in hourOf -/
def HC (M : mm_M) (A : Nat → Nat → Int32) (w : Nat) (f : Nat → Nat) : Prop := ∀ v, v < w → mm_I M 7 4 v = if A v 5 = 2 then nI (f v) else -4
def FH (M M' : mm_M) (w : Nat) : Prop := M'.2 = M.2 ∧ (∀ c i k, ¬ (c = 7 ∧ i = 4) → mm_I M' c i k = mm_I M c i k) ∧ ∀ v, v < w → mm_I M' 7 4 v = mm_I M 7 4 v
theorem FH_rf (M : mm_M) (w : Nat) : FH M M w := ⟨rfl, fun _ _ _ _ => rfl, fun _ _ => rfl⟩
theorem FH_tr {M M1 M2 : mm_M} {w w' : Nat} (h : FH M M1 w) (h' : FH M1 M2 w') (hw : w ≤ w') : FH M M2 w := ⟨h'.1.trans h.1, fun c i k q => (h'.2.1 c i k q).trans (h.2.1 c i k q), fun v hv => (h'.2.2 v (by omega)).trans (h.2.2 v hv)⟩
theorem FH_w {M M' : mm_M} {w : Nat} {x : Int32} (h : FH M M' w) : FH M (mm_sI M' 7 4 w x) w := ⟨h.1, fun c i k q => by rw [mm_I_sI, if_neg (fun z => q ⟨z.1, z.2.1⟩)]; exact h.2.1 c i k q, fun v hv => by rw [mm_I_k (by omega)]; exact h.2.2 v hv⟩
/-- what is so ahead of a call at w -/
def HB (M : mm_M) (A : Nat → Nat → Int32) (n w : Nat) (f : Nat → Nat) : Prop := LyS M ∧ (∃ dy cp tn, RS M 0 n A dy cp tn) ∧ mm_R M 0 0 0 = some 4 ∧ mm_L M 7 4 = 7 ∧ HC M A w f ∧ h_us A f w ≤ w ∧ ∀ v, v < w → A v 5 = 2 → f v ≤ 7
theorem HB_F {M M' : mm_M} {A : Nat → Nat → Int32} {n w : Nat} {f : Nat → Nat} (h : HB M A n w f) (hF : FH M M' w) : HB M' A n w f := by
  obtain ⟨hS, ⟨dy, cp, tn, hR⟩, c, l, hc, hu, hb⟩ := h
  obtain ⟨s1, s2, s3, s4, s5⟩ := hR
  refine ⟨LyS_2 hF.1 hS, ⟨dy, cp, tn, ?_, ?_, ?_, ?_, ?_⟩, ?_, ?_, ?_, hu, hb⟩
  · rw [hF.2.1 _ _ _ (by omega)]; exact s1
  · rw [hF.2.1 _ _ _ (by omega)]; exact s2
  · rw [hF.2.1 _ _ _ (by omega)]; exact s3
  · rw [hF.2.1 _ _ _ (by omega)]; exact s4
  · intro v hv k hk; rw [hF.2.1 _ _ _ (by omega)]; exact s5 v hv k hk
  · unfold mm_R; rw [hF.1]; exact c
  · unfold mm_L; rw [hF.1]; exact l
  · intro v hv; rw [hF.2.2 v hv]; exact hc v hv
theorem b7_n4 : ∀ k, k < 8 → ¬ (-4 : Int32) = nI k := by decide +kernel
theorem HB_7 {M : mm_M} {A : Nat → Nat → Int32} {n w : Nat} {f : Nat → Nat} (h : HB M A n w f) (c : A w 5 = 2) (r : Nat) (hr : r ≤ h_us A f w) (hw : w < 7) : HB (mm_sI M 7 4 w (nI r)) A n (w + 1) (fun v => if v = w then r else f v) ∧ h_us A (fun v => if v = w then r else f v) w = h_us A f w := by
  have e : h_us A (fun v => if v = w then r else f v) w = h_us A f w := h_us_c w (fun v hv _ => if_neg (by omega))
  obtain ⟨hS, hR, c0, l, hc, hu, hb⟩ := HB_F h (FH_w (x := nI r) (FH_rf M w))
  refine ⟨⟨hS, hR, c0, l, ?_, ?_, ?_⟩, e⟩
  · intro v hv
    by_cases z : v = w
    · subst z; dsimp only; rw [if_pos c, if_pos rfl, mm_I_s]
    · dsimp only; rw [if_neg z]; exact hc v (by omega)
  · unfold h_us
    rw [e, if_pos c, if_pos rfl]
    split <;> omega
  · intro v hv cv
    by_cases z : v = w
    · dsimp only; rw [if_pos z]; omega
    · dsimp only; rw [if_neg z]; exact hb v (by omega) cv
theorem HB_n {M : mm_M} {A : Nat → Nat → Int32} {n w : Nat} {f : Nat → Nat} (h : HB M A n w f) (c : ¬ A w 5 = 2) : HB (mm_sI M 7 4 w (-4)) A n (w + 1) f ∧ h_us A f (w + 1) = h_us A f w := by
  have e : h_us A f (w + 1) = h_us A f w := if_neg c
  obtain ⟨hS, hR, c0, l, hc, hu, hb⟩ := HB_F h (FH_w (x := -4) (FH_rf M w))
  refine ⟨⟨hS, hR, c0, l, ?_, by rw [e]; omega, ?_⟩, e⟩
  · intro v hv
    by_cases z : v = w
    · subst z; rw [if_neg c, mm_I_s]
    · exact hc v (by omega)
  · intro v hv cv
    by_cases z : v = w
    · subst z; exact absurd cv c
    · exact hb v (by omega) cv

set_option maxHeartbeats 4000000 in
theorem l_3 (d : Nat) {n w : Nat} {A : Nat → Nat → Int32} {f : Nat → Nat} {M : mm_M} {post : mm_Post} (hn : n ≤ 7) (hw : w < n) (hB : HB M A n (w + 1) f) (hh : A w 5 = 2) (h1 : h_fr A f w → post (some (.inl 1)) M) (h0 : ¬ h_fr A f w → post (some (.inl 0)) M) : ∀ (m v : Nat), v + m = w → (∀ u, u < v → A u 5 = 2 → f u = f w → ¬ h_cl A u w) → pK (d + 3) 3 post 1 [some (.inr (.inr (0, 0))), some (.inr (.inr (2, 0))), some (.inl (nI w)), some (.inl (nI v))] [] M (0, 0) := by
  obtain ⟨hS, ⟨dy, cp, tn, hR⟩, c, l, hc, hu, hb⟩ := id hB
  obtain ⟨q1, q2, q3⟩ := nI_v7 hw hn
  have ew := hc w (by omega)
  rw [if_pos hh] at ew
  have bw := hb w (by omega) hh
  intro m
  induction m with
  | zero =>
    intro v hv hi
    have e : v = w := by omega
    subst e
    have hp := h1 hi
    rw [eK_3_1]
    simp only [eK_3_0, eK_3_2, eK_3_3, eK_3_4, pw_aload_n, pw_getfield, pw_goto, pw_iaload, pw_iconst, pw_ifCond, pw_if_icmp, pw_iinc, pw_iload_n, pw_invokevirtual, pw_ireturn, pw_istore_n, pw_nop0, mm_pI_c, mm_pL_c, mm_pA_c, mm_pR_c, mm_p1_i, mm_p1_r, mm_pN_0, mm_pN_s, mm_lI_c, mm_lL_c, mm_lA_c, mm_wd_n, mm_wd_i, mm_wd_l, mm_wd_r, mm_gf_i, mm_gf_b, mm_gf_r, mm_rf_c, mm_pf_i, mm_pf_b, mm_pf_r, mm_rt_v, mm_rt_i, mm_rt_r, mm_c_eq, mm_c_ne, mm_c_lt, mm_c_ge, mm_c_gt, mm_c_le, mm_sw_n, mm_sw_c, mm_alc_n, mm_alc_c, mm_rc_n, mm_rc_c, reduceCtorEq, false_implies, implies_true, true_implies, true_or, or_true, false_or, or_false, not_false_eq_true, mm_at_0, mm_at_s, mm_set_0, mm_set_s, mm_nl_n, mm_nl_i, mm_nl_r, mm_args_n, mm_args_i, mm_args_l, mm_args_r, mm_pad_0, mm_pad_n, mm_pad_c, List.length_cons, List.length_nil, List.nil_append, List.cons_append, Nat.zero_le, Nat.sub_zero, true_and, and_true, Nat.reduceAdd, Nat.reduceLeDiff, Nat.reduceLT, Nat.reduceSub, Nat.lt_irrefl, Nat.zero_add, Nat.add_zero, k_20, k_10, k_01, mm_if_T, mm_if_F, not_true_eq_false, not_false_eq_true, mm_if_t (nI_le (Nat.le_refl v) (show v < 2 ^ 31 by omega))]
    exact hp
  | succ m ih =>
    intro v hv hi
    have hq : ¬ nI w ≤ nI v := nI_ge (by omega) (by omega)
    obtain ⟨v1, v2, v3⟩ := nI_v7 (show v < n by omega) hn
    have ev := hc v (by omega)
    have key := ih (v + 1) (by omega)
    have hx : A v 5 = 2 → f v = f w → h_cl A v w → ¬ h_fr A f w := fun a b c z => z v (by omega) a b c
    have hy : ¬ (A v 5 = 2 ∧ f v = f w ∧ h_cl A v w) → ∀ u, u < v + 1 → A u 5 = 2 → f u = f w → ¬ h_cl A u w := fun z u hu a b c => by
      by_cases zz : u = v
      · subst zz; exact z ⟨a, b, c⟩
      · exact hi u (by omega) a b c
    have hz : mm_I M 7 4 v = nI (f w) ↔ A v 5 = 2 ∧ f v = f w := by
      rw [ev]
      by_cases a : A v 5 = 2
      · have bv := hb v (by omega) a
        rw [if_pos a]
        constructor
        · intro z; exact ⟨a, (nI_eq (by omega) (by omega)).mp z⟩
        · intro z; rw [z.2]
      · rw [if_neg a]
        exact ⟨fun z => absurd z (b7_n4 _ (by omega)), fun z => absurd z.1 a⟩
    have kA : ¬ (A v 5 = 2 ∧ f v = f w ∧ h_cl A v w) → _ := fun z => key (hy z)
    have kB : A v 5 = 2 → f v = f w → h_cl A v w → _ := fun a b c => h0 (hx a b c)
    rw [eK_3_1]
    simp only [eK_3_0, eK_3_2, eK_3_3, eK_3_4, pw_aload_n, pw_getfield, pw_goto, pw_iaload, pw_iconst, pw_ifCond, pw_if_icmp, pw_iinc, pw_iload_n, pw_invokevirtual, pw_ireturn, pw_istore_n, pw_nop0, mm_pI_c, mm_pL_c, mm_pA_c, mm_pR_c, mm_p1_i, mm_p1_r, mm_pN_0, mm_pN_s, mm_lI_c, mm_lL_c, mm_lA_c, mm_wd_n, mm_wd_i, mm_wd_l, mm_wd_r, mm_gf_i, mm_gf_b, mm_gf_r, mm_rf_c, mm_pf_i, mm_pf_b, mm_pf_r, mm_rt_v, mm_rt_i, mm_rt_r, mm_c_eq, mm_c_ne, mm_c_lt, mm_c_ge, mm_c_gt, mm_c_le, mm_sw_n, mm_sw_c, mm_alc_n, mm_alc_c, mm_rc_n, mm_rc_c, reduceCtorEq, false_implies, implies_true, true_implies, true_or, or_true, false_or, or_false, not_false_eq_true, mm_at_0, mm_at_s, mm_set_0, mm_set_s, mm_nl_n, mm_nl_i, mm_nl_r, mm_args_n, mm_args_i, mm_args_l, mm_args_r, mm_pad_0, mm_pad_n, mm_pad_c, List.length_cons, List.length_nil, List.nil_append, List.cons_append, Nat.zero_le, Nat.sub_zero, true_and, and_true, Nat.reduceAdd, Nat.reduceLeDiff, Nat.reduceLT, Nat.reduceSub, Nat.lt_irrefl, Nat.zero_add, Nat.add_zero, k_20, k_10, k_01, mm_if_T, mm_if_F, not_true_eq_false, not_false_eq_true, mm_if_f hq, c, l, q1, q2, v1, v2, ew, nI_1, e_17 d (show 0 < 20 by omega) hn hS hR (show v < n by omega) hw, e_17 d (show 0 < 20 by omega) hn hS hR hw (show v < n by omega)]
    simp only [mm_if, hz]
    clear ih hi hS hR hc hu hb hz hB ev hx hy key
    unfold h_cl at kA kB
    grind
theorem e_3 (d : Nat) {n w : Nat} {A : Nat → Nat → Int32} {f : Nat → Nat} {M : mm_M} {post : mm_Post} (hn : n ≤ 7) (hw : w < n) (hB : HB M A n (w + 1) f) (hh : A w 5 = 2) (h1 : h_fr A f w → post (some (.inl 1)) M) (h0 : ¬ h_fr A f w → post (some (.inl 0)) M) : pC (d + 4) 3 [.inr (.inr (0, 0)), .inr (.inr (2, 0)), .inl (nI w)] M post := by
  have key := l_3 d hn hw hB hh h1 h0 w 0 (by omega) (fun u hu => by omega)
  simp only [eC_3, eK_3_0, eK_3_2, eK_3_3, eK_3_4, pw_aload_n, pw_getfield, pw_goto, pw_iaload, pw_iconst, pw_ifCond, pw_if_icmp, pw_iinc, pw_iload_n, pw_invokevirtual, pw_ireturn, pw_istore_n, pw_nop0, mm_pI_c, mm_pL_c, mm_pA_c, mm_pR_c, mm_p1_i, mm_p1_r, mm_pN_0, mm_pN_s, mm_lI_c, mm_lL_c, mm_lA_c, mm_wd_n, mm_wd_i, mm_wd_l, mm_wd_r, mm_gf_i, mm_gf_b, mm_gf_r, mm_rf_c, mm_pf_i, mm_pf_b, mm_pf_r, mm_rt_v, mm_rt_i, mm_rt_r, mm_c_eq, mm_c_ne, mm_c_lt, mm_c_ge, mm_c_gt, mm_c_le, mm_sw_n, mm_sw_c, mm_alc_n, mm_alc_c, mm_rc_n, mm_rc_c, reduceCtorEq, false_implies, implies_true, true_implies, true_or, or_true, false_or, or_false, not_false_eq_true, mm_at_0, mm_at_s, mm_set_0, mm_set_s, mm_nl_n, mm_nl_i, mm_nl_r, mm_args_n, mm_args_i, mm_args_l, mm_args_r, mm_pad_0, mm_pad_n, mm_pad_c, List.length_cons, List.length_nil, List.nil_append, List.cons_append, Nat.zero_le, Nat.sub_zero, true_and, and_true, Nat.reduceAdd, Nat.reduceLeDiff, Nat.reduceLT, Nat.reduceSub, Nat.lt_irrefl, Nat.zero_add, Nat.add_zero, k_20, k_10, k_01, mm_if_T, mm_if_F, not_true_eq_false, not_false_eq_true]
  exact key

/-- the contract of fitFrom at w -/
def C2 (D : Nat) (A : Nat → Nat → Int32) (n most w : Nat) : Prop := ∀ (f : Nat → Nat) (M : mm_M) (post : mm_Post), HB M A n w f → (∀ M' g, FH M M' w → HC M' A n g → h_ex A n most w f g → (∀ g', h_ex A n most w f g' → h_lx A n g g') → post (some (.inl 1)) M') → (∀ M', FH M M' w → (∀ g', ¬ h_ex A n most w f g') → post (some (.inl 0)) M') → pC D 2 [.inr (.inr (0, 0)), .inr (.inr (2, 0)), .inl (nI w), .inl (nI (h_us A f w)), .inl (nI most)] M post
theorem C2_n (d : Nat) {A : Nat → Nat → Int32} {n most : Nat} (hn : n ≤ 7) : C2 (d + 1) A n most n := by
  intro f M post hB h1 h0
  obtain ⟨hS, ⟨dy, cp, tn, hR⟩, c, l, hc, hu, hb⟩ := id hB
  have s1 := hR.1
  have hp := h1 M f (FH_rf M n) hc ⟨fun _ _ _ => rfl, fun v a b => by omega⟩ (fun g' hg => .inl (fun v hv a => (hg.1 v hv a).symm))
  simp only [eC_2, eK_2_0, eK_2_1, eK_2_2, eK_2_3, eK_2_5, eK_2_6, pw_aaload, pw_aload_n, pw_bipush, pw_getfield, pw_goto, pw_iadd, pw_iastore, pw_iconst, pw_ifCond, pw_if_icmp, pw_iinc, pw_iload, pw_iload_n, pw_invokevirtual, pw_ireturn, pw_istore, pw_nop0, pw_nop1, mm_pI_c, mm_pL_c, mm_pA_c, mm_pR_c, mm_p1_i, mm_p1_r, mm_pN_0, mm_pN_s, mm_lI_c, mm_lL_c, mm_lA_c, mm_wd_n, mm_wd_i, mm_wd_l, mm_wd_r, mm_gf_i, mm_gf_b, mm_gf_r, mm_rf_c, mm_pf_i, mm_pf_b, mm_pf_r, mm_rt_v, mm_rt_i, mm_rt_r, mm_c_eq, mm_c_ne, mm_c_lt, mm_c_ge, mm_c_gt, mm_c_le, mm_sw_n, mm_sw_c, mm_alc_n, mm_alc_c, mm_rc_n, mm_rc_c, reduceCtorEq, false_implies, implies_true, true_implies, true_or, or_true, false_or, or_false, not_false_eq_true, mm_at_0, mm_at_s, mm_set_0, mm_set_s, mm_nl_n, mm_nl_i, mm_nl_r, mm_args_n, mm_args_i, mm_args_l, mm_args_r, mm_pad_0, mm_pad_n, mm_pad_c, List.length_cons, List.length_nil, List.nil_append, List.cons_append, Nat.zero_le, Nat.sub_zero, true_and, and_true, Nat.reduceAdd, Nat.reduceLeDiff, Nat.reduceLT, Nat.reduceSub, Nat.lt_irrefl, Nat.zero_add, Nat.add_zero, k_20, k_10, k_01, mm_if_T, mm_if_F, not_true_eq_false, not_false_eq_true, s1, mm_if_t (nI_le (Nat.le_refl n) (show n < 2 ^ 31 by omega))]
  exact hp
theorem h_ex_n {A : Nat → Nat → Int32} {n most w : Nat} {f g : Nat → Nat} (c : ¬ A w 5 = 2) : h_ex A n most (w + 1) f g ↔ h_ex A n most w f g := by
  constructor
  · intro h
    refine ⟨fun v hv a => h.1 v (by omega) a, fun v a b => ?_⟩
    by_cases z : v = w
    · subst z; exact ⟨fun q => absurd q c, fun q => absurd q c⟩
    · exact h.2 v (by omega) b
  · intro h
    refine ⟨fun v hv a => ?_, fun v a b => h.2 v (by omega) b⟩
    by_cases z : v = w
    · subst z; exact absurd a c
    · exact h.1 v (by omega) a
/-- with hour r at w -/
theorem h_ex_r {A : Nat → Nat → Int32} {n most w r : Nat} {f g : Nat → Nat} (hw : w < n) (c : A w 5 = 2) (hr : r ≤ h_us A f w) (hm : r < most) (hf : h_fr A (fun v => if v = w then r else f v) w) : h_ex A n most (w + 1) (fun v => if v = w then r else f v) g ↔ h_ex A n most w f g ∧ g w = r := by
  constructor
  · intro h
    have gw : g w = r := (h.1 w (by omega) c).trans (if_pos rfl)
    have gv : ∀ v, v < w → A v 5 = 2 → g v = f v := fun v hv a => (h.1 v (by omega) a).trans (if_neg (by omega))
    refine ⟨⟨gv, fun v a b => ?_⟩, gw⟩
    by_cases z : v = w
    · subst z
      refine ⟨fun _ => ⟨by rw [gw, h_us_c v gv]; exact hr, fun u hu a e => ?_⟩, fun _ => by omega⟩
      refine hf u hu a ?_
      dsimp only
      rw [if_neg (by omega), if_pos rfl, ← gv u hu a, e, gw]
    · exact h.2 v (by omega) b
  · intro ⟨h, gw⟩
    refine ⟨fun v hv a => ?_, fun v a b => h.2 v (by omega) b⟩
    dsimp only
    by_cases z : v = w
    · subst z; rw [if_pos rfl]; exact gw
    · rw [if_neg z]; exact h.1 v (by omega) a
theorem h_ex_f {A : Nat → Nat → Int32} {n most w r : Nat} {f g : Nat → Nat} (hw : w < n) (c : A w 5 = 2) (hf : ¬ h_fr A (fun v => if v = w then r else f v) w) (h : h_ex A n most w f g) : ¬ g w = r := by
  intro gw
  refine hf (fun u hu a e => ?_)
  dsimp only at e
  rw [if_neg (by omega), if_pos rfl] at e
  exact ((h.2 w (by omega) hw).1 c).2 u hu a (by rw [h.1 u hu a, e, gw])

set_option maxHeartbeats 4000000 in
theorem l_2 (d : Nat) {A : Nat → Nat → Int32} {n most w : Nat} (hn : n ≤ 7) (hm : most ≤ 7) (hw : w < n) (c : A w 5 = 2) (hrec : C2 (d + 4) A n most (w + 1)) {f : Nat → Nat} {M : mm_M} {post : mm_Post} (hB : HB M A n w f) (h1 : ∀ M' g, FH M M' w → HC M' A n g → h_ex A n most w f g → (∀ g', h_ex A n most w f g' → h_lx A n g g') → post (some (.inl 1)) M') (h0 : ∀ M', FH M M' w → (∀ g', ¬ h_ex A n most w f g') → post (some (.inl 0)) M') : ∀ (m r : Nat) (M1 : mm_M), r + m = 8 → FH M M1 w → (∀ g', h_ex A n most w f g' → r ≤ g' w) → pK (d + 4) 2 post 4 [some (.inr (.inr (0, 0))), some (.inr (.inr (2, 0))), some (.inl (nI w)), some (.inl (nI (h_us A f w))), some (.inl (nI most)), some (.inl (nI r))] [] M1 (0, 0) := by
  have hu := hB.2.2.2.2.2.1
  intro m
  induction m with
  | zero =>
    intro r M1 hr hF hi
    have hq : nI (h_us A f w) < nI r := nI_lt (by omega) (by omega)
    have hp := h0 M1 hF (fun g' hg => by
      have := hi g' hg
      have z := ((hg.2 w (by omega) hw).1 c).1
      rw [h_us_c w hg.1] at z
      omega)
    rw [eK_2_4]
    simp only [eK_2_0, eK_2_1, eK_2_2, eK_2_3, eK_2_5, eK_2_6, pw_aaload, pw_aload_n, pw_bipush, pw_getfield, pw_goto, pw_iadd, pw_iastore, pw_iconst, pw_ifCond, pw_if_icmp, pw_iinc, pw_iload, pw_iload_n, pw_invokevirtual, pw_ireturn, pw_istore, pw_nop0, pw_nop1, mm_pI_c, mm_pL_c, mm_pA_c, mm_pR_c, mm_p1_i, mm_p1_r, mm_pN_0, mm_pN_s, mm_lI_c, mm_lL_c, mm_lA_c, mm_wd_n, mm_wd_i, mm_wd_l, mm_wd_r, mm_gf_i, mm_gf_b, mm_gf_r, mm_rf_c, mm_pf_i, mm_pf_b, mm_pf_r, mm_rt_v, mm_rt_i, mm_rt_r, mm_c_eq, mm_c_ne, mm_c_lt, mm_c_ge, mm_c_gt, mm_c_le, mm_sw_n, mm_sw_c, mm_alc_n, mm_alc_c, mm_rc_n, mm_rc_c, reduceCtorEq, false_implies, implies_true, true_implies, true_or, or_true, false_or, or_false, not_false_eq_true, mm_at_0, mm_at_s, mm_set_0, mm_set_s, mm_nl_n, mm_nl_i, mm_nl_r, mm_args_n, mm_args_i, mm_args_l, mm_args_r, mm_pad_0, mm_pad_n, mm_pad_c, List.length_cons, List.length_nil, List.nil_append, List.cons_append, Nat.zero_le, Nat.sub_zero, true_and, and_true, Nat.reduceAdd, Nat.reduceLeDiff, Nat.reduceLT, Nat.reduceSub, Nat.lt_irrefl, Nat.zero_add, Nat.add_zero, k_20, k_10, k_01, mm_if_T, mm_if_F, not_true_eq_false, not_false_eq_true, mm_if_t hq]
    exact hp
  | succ m ih =>
    intro r M1 hr hF hi
    by_cases c1 : h_us A f w < r
    · have hq : nI (h_us A f w) < nI r := nI_lt (by omega) (by omega)
      have hp := h0 M1 hF (fun g' hg => by
        have := hi g' hg
        have z := ((hg.2 w (by omega) hw).1 c).1
        rw [h_us_c w hg.1] at z
        omega)
      rw [eK_2_4]
      simp only [eK_2_0, eK_2_1, eK_2_2, eK_2_3, eK_2_5, eK_2_6, pw_aaload, pw_aload_n, pw_bipush, pw_getfield, pw_goto, pw_iadd, pw_iastore, pw_iconst, pw_ifCond, pw_if_icmp, pw_iinc, pw_iload, pw_iload_n, pw_invokevirtual, pw_ireturn, pw_istore, pw_nop0, pw_nop1, mm_pI_c, mm_pL_c, mm_pA_c, mm_pR_c, mm_p1_i, mm_p1_r, mm_pN_0, mm_pN_s, mm_lI_c, mm_lL_c, mm_lA_c, mm_wd_n, mm_wd_i, mm_wd_l, mm_wd_r, mm_gf_i, mm_gf_b, mm_gf_r, mm_rf_c, mm_pf_i, mm_pf_b, mm_pf_r, mm_rt_v, mm_rt_i, mm_rt_r, mm_c_eq, mm_c_ne, mm_c_lt, mm_c_ge, mm_c_gt, mm_c_le, mm_sw_n, mm_sw_c, mm_alc_n, mm_alc_c, mm_rc_n, mm_rc_c, reduceCtorEq, false_implies, implies_true, true_implies, true_or, or_true, false_or, or_false, not_false_eq_true, mm_at_0, mm_at_s, mm_set_0, mm_set_s, mm_nl_n, mm_nl_i, mm_nl_r, mm_args_n, mm_args_i, mm_args_l, mm_args_r, mm_pad_0, mm_pad_n, mm_pad_c, List.length_cons, List.length_nil, List.nil_append, List.cons_append, Nat.zero_le, Nat.sub_zero, true_and, and_true, Nat.reduceAdd, Nat.reduceLeDiff, Nat.reduceLT, Nat.reduceSub, Nat.lt_irrefl, Nat.zero_add, Nat.add_zero, k_20, k_10, k_01, mm_if_T, mm_if_F, not_true_eq_false, not_false_eq_true, mm_if_t hq]
      exact hp
    · have hq : ¬ nI (h_us A f w) < nI r := nI_nlt (by omega) (by omega)
      by_cases c2 : most ≤ r
      · have hq2 : nI most ≤ nI r := nI_le (by omega) (by omega)
        have hp := h0 M1 hF (fun g' hg => by
          have := hi g' hg
          have z := (hg.2 w (by omega) hw).2 c
          omega)
        rw [eK_2_4]
        simp only [eK_2_0, eK_2_1, eK_2_2, eK_2_3, eK_2_5, eK_2_6, pw_aaload, pw_aload_n, pw_bipush, pw_getfield, pw_goto, pw_iadd, pw_iastore, pw_iconst, pw_ifCond, pw_if_icmp, pw_iinc, pw_iload, pw_iload_n, pw_invokevirtual, pw_ireturn, pw_istore, pw_nop0, pw_nop1, mm_pI_c, mm_pL_c, mm_pA_c, mm_pR_c, mm_p1_i, mm_p1_r, mm_pN_0, mm_pN_s, mm_lI_c, mm_lL_c, mm_lA_c, mm_wd_n, mm_wd_i, mm_wd_l, mm_wd_r, mm_gf_i, mm_gf_b, mm_gf_r, mm_rf_c, mm_pf_i, mm_pf_b, mm_pf_r, mm_rt_v, mm_rt_i, mm_rt_r, mm_c_eq, mm_c_ne, mm_c_lt, mm_c_ge, mm_c_gt, mm_c_le, mm_sw_n, mm_sw_c, mm_alc_n, mm_alc_c, mm_rc_n, mm_rc_c, reduceCtorEq, false_implies, implies_true, true_implies, true_or, or_true, false_or, or_false, not_false_eq_true, mm_at_0, mm_at_s, mm_set_0, mm_set_s, mm_nl_n, mm_nl_i, mm_nl_r, mm_args_n, mm_args_i, mm_args_l, mm_args_r, mm_pad_0, mm_pad_n, mm_pad_c, List.length_cons, List.length_nil, List.nil_append, List.cons_append, Nat.zero_le, Nat.sub_zero, true_and, and_true, Nat.reduceAdd, Nat.reduceLeDiff, Nat.reduceLT, Nat.reduceSub, Nat.lt_irrefl, Nat.zero_add, Nat.add_zero, k_20, k_10, k_01, mm_if_T, mm_if_F, not_true_eq_false, not_false_eq_true, mm_if_f hq, mm_if_t hq2]
        exact hp
      · have hq2 : ¬ nI most ≤ nI r := nI_ge (by omega) (by omega)
        obtain ⟨q1, q2, q3⟩ := nI_v7 hw hn
        obtain ⟨hB1, hu1⟩ := HB_7 (HB_F hB hF) c r (by omega) (by omega)
        have hl := hB1.2.2.2.1
        have hr0 := hB1.2.2.1
        have hF1 : FH M (mm_sI M1 7 4 w (nI r)) w := FH_w hF
        have l4 : mm_L M1 7 4 = 7 := hl
        have r4 : mm_R M1 0 0 0 = some 4 := hr0
        have eu : h_us A (fun v => if v = w then r else f v) (w + 1) = if h_us A f w ≤ r then r + 1 else h_us A f w := by
          show (if A w 5 = 2 then (if h_us A (fun v => if v = w then r else f v) w ≤ (if w = w then r else f w) then (if w = w then r else f w) + 1 else h_us A (fun v => if v = w then r else f v) w) else _) = _
          rw [if_pos c, hu1, if_pos rfl]
        have hmx : (if nI (h_us A f w) < nI (r + 1) then nI (r + 1) else nI (h_us A f w)) = nI (h_us A (fun v => if v = w then r else f v) (w + 1)) := by
          rw [eu]
          by_cases z : h_us A f w ≤ r
          · rw [if_pos z, if_pos (nI_lt (by omega) (by omega))]
          · rw [if_neg z, if_neg (nI_nlt (by omega) (by omega))]
        rw [eK_2_4]
        simp only [eK_2_0, eK_2_1, eK_2_2, eK_2_3, eK_2_5, eK_2_6, pw_aaload, pw_aload_n, pw_bipush, pw_getfield, pw_goto, pw_iadd, pw_iastore, pw_iconst, pw_ifCond, pw_if_icmp, pw_iinc, pw_iload, pw_iload_n, pw_invokevirtual, pw_ireturn, pw_istore, pw_nop0, pw_nop1, mm_pI_c, mm_pL_c, mm_pA_c, mm_pR_c, mm_p1_i, mm_p1_r, mm_pN_0, mm_pN_s, mm_lI_c, mm_lL_c, mm_lA_c, mm_wd_n, mm_wd_i, mm_wd_l, mm_wd_r, mm_gf_i, mm_gf_b, mm_gf_r, mm_rf_c, mm_pf_i, mm_pf_b, mm_pf_r, mm_rt_v, mm_rt_i, mm_rt_r, mm_c_eq, mm_c_ne, mm_c_lt, mm_c_ge, mm_c_gt, mm_c_le, mm_sw_n, mm_sw_c, mm_alc_n, mm_alc_c, mm_rc_n, mm_rc_c, reduceCtorEq, false_implies, implies_true, true_implies, true_or, or_true, false_or, or_false, not_false_eq_true, mm_at_0, mm_at_s, mm_set_0, mm_set_s, mm_nl_n, mm_nl_i, mm_nl_r, mm_args_n, mm_args_i, mm_args_l, mm_args_r, mm_pad_0, mm_pad_n, mm_pad_c, List.length_cons, List.length_nil, List.nil_append, List.cons_append, Nat.zero_le, Nat.sub_zero, true_and, and_true, Nat.reduceAdd, Nat.reduceLeDiff, Nat.reduceLT, Nat.reduceSub, Nat.lt_irrefl, Nat.zero_add, Nat.add_zero, k_20, k_10, k_01, mm_if_T, mm_if_F, not_true_eq_false, not_false_eq_true, mm_if_f hq, mm_if_f hq2, q1, q2, l4, r4, nI_1]
        refine e_3 d hn hw hB1 c (fun hf => ?_) (fun hf => ?_)
        · simp only [eK_2_0, eK_2_1, eK_2_2, eK_2_3, eK_2_5, eK_2_6, pw_aaload, pw_aload_n, pw_bipush, pw_getfield, pw_goto, pw_iadd, pw_iastore, pw_iconst, pw_ifCond, pw_if_icmp, pw_iinc, pw_iload, pw_iload_n, pw_invokevirtual, pw_ireturn, pw_istore, pw_nop0, pw_nop1, mm_pI_c, mm_pL_c, mm_pA_c, mm_pR_c, mm_p1_i, mm_p1_r, mm_pN_0, mm_pN_s, mm_lI_c, mm_lL_c, mm_lA_c, mm_wd_n, mm_wd_i, mm_wd_l, mm_wd_r, mm_gf_i, mm_gf_b, mm_gf_r, mm_rf_c, mm_pf_i, mm_pf_b, mm_pf_r, mm_rt_v, mm_rt_i, mm_rt_r, mm_c_eq, mm_c_ne, mm_c_lt, mm_c_ge, mm_c_gt, mm_c_le, mm_sw_n, mm_sw_c, mm_alc_n, mm_alc_c, mm_rc_n, mm_rc_c, reduceCtorEq, false_implies, implies_true, true_implies, true_or, or_true, false_or, or_false, not_false_eq_true, mm_at_0, mm_at_s, mm_set_0, mm_set_s, mm_nl_n, mm_nl_i, mm_nl_r, mm_args_n, mm_args_i, mm_args_l, mm_args_r, mm_pad_0, mm_pad_n, mm_pad_c, List.length_cons, List.length_nil, List.nil_append, List.cons_append, Nat.zero_le, Nat.sub_zero, true_and, and_true, Nat.reduceAdd, Nat.reduceLeDiff, Nat.reduceLT, Nat.reduceSub, Nat.lt_irrefl, Nat.zero_add, Nat.add_zero, k_20, k_10, k_01, mm_if_T, mm_if_F, not_true_eq_false, not_false_eq_true, mm_rt_i, mm_if_v, nI_1]
          rw [hmx]
          refine hrec _ _ _ hB1 (fun M' g hF' hC' he hl => ?_) (fun M' hF' hno => ?_)
          · have hg := (h_ex_r hw c (by omega) (by omega) hf).mp he
            have hp := h1 M' g (FH_tr hF1 hF' (by omega)) hC' hg.1 (fun g' hg' => by
              by_cases z : g' w = r
              · exact hl g' ((h_ex_r hw c (by omega) (by omega) hf).mpr ⟨hg', z⟩)
              · have := hi g' hg'
                exact .inr ⟨w, hw, c, by rw [hg.2]; omega, fun v hv a => (hg.1.1 v hv a).trans (hg'.1 v hv a).symm⟩)
            simp only [eK_2_0, eK_2_1, eK_2_2, eK_2_3, eK_2_5, eK_2_6, pw_aaload, pw_aload_n, pw_bipush, pw_getfield, pw_goto, pw_iadd, pw_iastore, pw_iconst, pw_ifCond, pw_if_icmp, pw_iinc, pw_iload, pw_iload_n, pw_invokevirtual, pw_ireturn, pw_istore, pw_nop0, pw_nop1, mm_pI_c, mm_pL_c, mm_pA_c, mm_pR_c, mm_p1_i, mm_p1_r, mm_pN_0, mm_pN_s, mm_lI_c, mm_lL_c, mm_lA_c, mm_wd_n, mm_wd_i, mm_wd_l, mm_wd_r, mm_gf_i, mm_gf_b, mm_gf_r, mm_rf_c, mm_pf_i, mm_pf_b, mm_pf_r, mm_rt_v, mm_rt_i, mm_rt_r, mm_c_eq, mm_c_ne, mm_c_lt, mm_c_ge, mm_c_gt, mm_c_le, mm_sw_n, mm_sw_c, mm_alc_n, mm_alc_c, mm_rc_n, mm_rc_c, reduceCtorEq, false_implies, implies_true, true_implies, true_or, or_true, false_or, or_false, not_false_eq_true, mm_at_0, mm_at_s, mm_set_0, mm_set_s, mm_nl_n, mm_nl_i, mm_nl_r, mm_args_n, mm_args_i, mm_args_l, mm_args_r, mm_pad_0, mm_pad_n, mm_pad_c, List.length_cons, List.length_nil, List.nil_append, List.cons_append, Nat.zero_le, Nat.sub_zero, true_and, and_true, Nat.reduceAdd, Nat.reduceLeDiff, Nat.reduceLT, Nat.reduceSub, Nat.lt_irrefl, Nat.zero_add, Nat.add_zero, k_20, k_10, k_01, mm_if_T, mm_if_F, not_true_eq_false, not_false_eq_true]
            exact hp
          · have key := ih (r + 1) M' (by omega) (FH_tr hF1 hF' (by omega)) (fun g' hg' => by
              have z1 := hi g' hg'
              have z2 : ¬ g' w = r := fun z => hno g' ((h_ex_r hw c (by omega) (by omega) hf).mpr ⟨hg', z⟩)
              omega)
            simp only [eK_2_0, eK_2_1, eK_2_2, eK_2_3, eK_2_5, eK_2_6, pw_aaload, pw_aload_n, pw_bipush, pw_getfield, pw_goto, pw_iadd, pw_iastore, pw_iconst, pw_ifCond, pw_if_icmp, pw_iinc, pw_iload, pw_iload_n, pw_invokevirtual, pw_ireturn, pw_istore, pw_nop0, pw_nop1, mm_pI_c, mm_pL_c, mm_pA_c, mm_pR_c, mm_p1_i, mm_p1_r, mm_pN_0, mm_pN_s, mm_lI_c, mm_lL_c, mm_lA_c, mm_wd_n, mm_wd_i, mm_wd_l, mm_wd_r, mm_gf_i, mm_gf_b, mm_gf_r, mm_rf_c, mm_pf_i, mm_pf_b, mm_pf_r, mm_rt_v, mm_rt_i, mm_rt_r, mm_c_eq, mm_c_ne, mm_c_lt, mm_c_ge, mm_c_gt, mm_c_le, mm_sw_n, mm_sw_c, mm_alc_n, mm_alc_c, mm_rc_n, mm_rc_c, reduceCtorEq, false_implies, implies_true, true_implies, true_or, or_true, false_or, or_false, not_false_eq_true, mm_at_0, mm_at_s, mm_set_0, mm_set_s, mm_nl_n, mm_nl_i, mm_nl_r, mm_args_n, mm_args_i, mm_args_l, mm_args_r, mm_pad_0, mm_pad_n, mm_pad_c, List.length_cons, List.length_nil, List.nil_append, List.cons_append, Nat.zero_le, Nat.sub_zero, true_and, and_true, Nat.reduceAdd, Nat.reduceLeDiff, Nat.reduceLT, Nat.reduceSub, Nat.lt_irrefl, Nat.zero_add, Nat.add_zero, k_20, k_10, k_01, mm_if_T, mm_if_F, not_true_eq_false, not_false_eq_true, nI_1]
            exact key
        · have key := ih (r + 1) _ (by omega) hF1 (fun g' hg' => by
            have z1 := hi g' hg'
            have z2 := h_ex_f hw c hf hg'
            omega)
          simp only [eK_2_0, eK_2_1, eK_2_2, eK_2_3, eK_2_5, eK_2_6, pw_aaload, pw_aload_n, pw_bipush, pw_getfield, pw_goto, pw_iadd, pw_iastore, pw_iconst, pw_ifCond, pw_if_icmp, pw_iinc, pw_iload, pw_iload_n, pw_invokevirtual, pw_ireturn, pw_istore, pw_nop0, pw_nop1, mm_pI_c, mm_pL_c, mm_pA_c, mm_pR_c, mm_p1_i, mm_p1_r, mm_pN_0, mm_pN_s, mm_lI_c, mm_lL_c, mm_lA_c, mm_wd_n, mm_wd_i, mm_wd_l, mm_wd_r, mm_gf_i, mm_gf_b, mm_gf_r, mm_rf_c, mm_pf_i, mm_pf_b, mm_pf_r, mm_rt_v, mm_rt_i, mm_rt_r, mm_c_eq, mm_c_ne, mm_c_lt, mm_c_ge, mm_c_gt, mm_c_le, mm_sw_n, mm_sw_c, mm_alc_n, mm_alc_c, mm_rc_n, mm_rc_c, reduceCtorEq, false_implies, implies_true, true_implies, true_or, or_true, false_or, or_false, not_false_eq_true, mm_at_0, mm_at_s, mm_set_0, mm_set_s, mm_nl_n, mm_nl_i, mm_nl_r, mm_args_n, mm_args_i, mm_args_l, mm_args_r, mm_pad_0, mm_pad_n, mm_pad_c, List.length_cons, List.length_nil, List.nil_append, List.cons_append, Nat.zero_le, Nat.sub_zero, true_and, and_true, Nat.reduceAdd, Nat.reduceLeDiff, Nat.reduceLT, Nat.reduceSub, Nat.lt_irrefl, Nat.zero_add, Nat.add_zero, k_20, k_10, k_01, mm_if_T, mm_if_F, not_true_eq_false, not_false_eq_true, nI_1]
          exact key

set_option maxHeartbeats 4000000 in
theorem t_2 (d : Nat) {A : Nat → Nat → Int32} {n most : Nat} (hn : n ≤ 7) (hm : most ≤ 7) : ∀ (k w : Nat), w + k = n → C2 (d + k + 5) A n most w := by
  intro k
  induction k with
  | zero =>
    intro w hw
    have e : w = n := by omega
    subst e
    exact C2_n (d + 4) hn
  | succ k ih =>
    intro w hw f M post hB h1 h0
    have hrec := ih (w + 1) (by omega)
    have hwn : w < n := by omega
    obtain ⟨hS, ⟨dy, cp, tn, hR⟩, r4, l4, hc, hu, hb⟩ := id hB
    obtain ⟨s1, s2, s3, s4, s5⟩ := id hR
    obtain ⟨z1, z2, z3⟩ := hS 0 (by omega)
    obtain ⟨q1, q2, q3⟩ := nI_v7 hwn hn
    have q4 := z3 w (by omega)
    have r5 := s5 w hwn 5 (by omega)
    rw [Nat.mul_zero, Nat.zero_add] at q4 r5
    have hq7 : nI w < (7 : Int32) := nI_lt (b := 7) (by omega) (by omega)
    have hF : FH M (mm_sI M 7 4 w (-4)) w := FH_w (FH_rf M w)
    have y1 : mm_R (mm_sI M 7 4 w (-4)) 2 0 0 = some 0 := z1
    have y2 : mm_L (mm_sI M 7 4 w (-4)) 10 0 = 7 := z2
    have y4 : mm_R (mm_sI M 7 4 w (-4)) 10 0 w = some w := q4
    have y5 : mm_I (mm_sI M 7 4 w (-4)) 4 w 5 = A w 5 := (mm_I_c (by omega)).trans r5
    by_cases c : A w 5 = 2
    · have key := l_2 (d + k + 1) hn hm hwn c hrec hB h1 h0 8 0 _ (by omega) hF (fun g' _ => Nat.zero_le _)
      show pC (d + k + 5 + 1) 2 _ _ _
      rw [eC_2]
      simp only [eK_2_0, eK_2_1, eK_2_2, eK_2_3, eK_2_5, eK_2_6, pw_aaload, pw_aload_n, pw_bipush, pw_getfield, pw_goto, pw_iadd, pw_iastore, pw_iconst, pw_ifCond, pw_if_icmp, pw_iinc, pw_iload, pw_iload_n, pw_invokevirtual, pw_ireturn, pw_istore, pw_nop0, pw_nop1, mm_pI_c, mm_pL_c, mm_pA_c, mm_pR_c, mm_p1_i, mm_p1_r, mm_pN_0, mm_pN_s, mm_lI_c, mm_lL_c, mm_lA_c, mm_wd_n, mm_wd_i, mm_wd_l, mm_wd_r, mm_gf_i, mm_gf_b, mm_gf_r, mm_rf_c, mm_pf_i, mm_pf_b, mm_pf_r, mm_rt_v, mm_rt_i, mm_rt_r, mm_c_eq, mm_c_ne, mm_c_lt, mm_c_ge, mm_c_gt, mm_c_le, mm_sw_n, mm_sw_c, mm_alc_n, mm_alc_c, mm_rc_n, mm_rc_c, reduceCtorEq, false_implies, implies_true, true_implies, true_or, or_true, false_or, or_false, not_false_eq_true, mm_at_0, mm_at_s, mm_set_0, mm_set_s, mm_nl_n, mm_nl_i, mm_nl_r, mm_args_n, mm_args_i, mm_args_l, mm_args_r, mm_pad_0, mm_pad_n, mm_pad_c, List.length_cons, List.length_nil, List.nil_append, List.cons_append, Nat.zero_le, Nat.sub_zero, true_and, and_true, Nat.reduceAdd, Nat.reduceLeDiff, Nat.reduceLT, Nat.reduceSub, Nat.lt_irrefl, Nat.zero_add, Nat.add_zero, k_20, k_10, k_01, mm_if_T, mm_if_F, not_true_eq_false, not_false_eq_true, s1, mm_if_f q3, mm_if_t hq7, q1, q2, q4, l4, r4, y1, y2, y4, t_41, y5, c, tf_0, nI_1, Nat.reduceEqDiff, not_false_eq_true, mm_if_v]
      exact key
    · obtain ⟨hB1, hu1⟩ := HB_n hB c
      show pC (d + k + 5 + 1) 2 _ _ _
      rw [eC_2]
      simp only [eK_2_0, eK_2_1, eK_2_2, eK_2_3, eK_2_5, eK_2_6, pw_aaload, pw_aload_n, pw_bipush, pw_getfield, pw_goto, pw_iadd, pw_iastore, pw_iconst, pw_ifCond, pw_if_icmp, pw_iinc, pw_iload, pw_iload_n, pw_invokevirtual, pw_ireturn, pw_istore, pw_nop0, pw_nop1, mm_pI_c, mm_pL_c, mm_pA_c, mm_pR_c, mm_p1_i, mm_p1_r, mm_pN_0, mm_pN_s, mm_lI_c, mm_lL_c, mm_lA_c, mm_wd_n, mm_wd_i, mm_wd_l, mm_wd_r, mm_gf_i, mm_gf_b, mm_gf_r, mm_rf_c, mm_pf_i, mm_pf_b, mm_pf_r, mm_rt_v, mm_rt_i, mm_rt_r, mm_c_eq, mm_c_ne, mm_c_lt, mm_c_ge, mm_c_gt, mm_c_le, mm_sw_n, mm_sw_c, mm_alc_n, mm_alc_c, mm_rc_n, mm_rc_c, reduceCtorEq, false_implies, implies_true, true_implies, true_or, or_true, false_or, or_false, not_false_eq_true, mm_at_0, mm_at_s, mm_set_0, mm_set_s, mm_nl_n, mm_nl_i, mm_nl_r, mm_args_n, mm_args_i, mm_args_l, mm_args_r, mm_pad_0, mm_pad_n, mm_pad_c, List.length_cons, List.length_nil, List.nil_append, List.cons_append, Nat.zero_le, Nat.sub_zero, true_and, and_true, Nat.reduceAdd, Nat.reduceLeDiff, Nat.reduceLT, Nat.reduceSub, Nat.lt_irrefl, Nat.zero_add, Nat.add_zero, k_20, k_10, k_01, mm_if_T, mm_if_F, not_true_eq_false, not_false_eq_true, s1, mm_if_f q3, mm_if_t hq7, q1, q2, q4, l4, r4, y1, y2, y4, t_41, y5, c, tf_0, nI_1, Nat.reduceEqDiff, not_false_eq_true, mm_if_v]
      rw [← hu1]
      refine hrec _ _ _ hB1 (fun M' g hF' hC' he hl => ?_) (fun M' hF' hno => ?_)
      · have hp := h1 M' g (FH_tr hF hF' (by omega)) hC' ((h_ex_n c).mp he) (fun g' hg' => hl g' ((h_ex_n c).mpr hg'))
        simp only [eK_2_0, eK_2_1, eK_2_2, eK_2_3, eK_2_5, eK_2_6, pw_aaload, pw_aload_n, pw_bipush, pw_getfield, pw_goto, pw_iadd, pw_iastore, pw_iconst, pw_ifCond, pw_if_icmp, pw_iinc, pw_iload, pw_iload_n, pw_invokevirtual, pw_ireturn, pw_istore, pw_nop0, pw_nop1, mm_pI_c, mm_pL_c, mm_pA_c, mm_pR_c, mm_p1_i, mm_p1_r, mm_pN_0, mm_pN_s, mm_lI_c, mm_lL_c, mm_lA_c, mm_wd_n, mm_wd_i, mm_wd_l, mm_wd_r, mm_gf_i, mm_gf_b, mm_gf_r, mm_rf_c, mm_pf_i, mm_pf_b, mm_pf_r, mm_rt_v, mm_rt_i, mm_rt_r, mm_c_eq, mm_c_ne, mm_c_lt, mm_c_ge, mm_c_gt, mm_c_le, mm_sw_n, mm_sw_c, mm_alc_n, mm_alc_c, mm_rc_n, mm_rc_c, reduceCtorEq, false_implies, implies_true, true_implies, true_or, or_true, false_or, or_false, not_false_eq_true, mm_at_0, mm_at_s, mm_set_0, mm_set_s, mm_nl_n, mm_nl_i, mm_nl_r, mm_args_n, mm_args_i, mm_args_l, mm_args_r, mm_pad_0, mm_pad_n, mm_pad_c, List.length_cons, List.length_nil, List.nil_append, List.cons_append, Nat.zero_le, Nat.sub_zero, true_and, and_true, Nat.reduceAdd, Nat.reduceLeDiff, Nat.reduceLT, Nat.reduceSub, Nat.lt_irrefl, Nat.zero_add, Nat.add_zero, k_20, k_10, k_01, mm_if_T, mm_if_F, not_true_eq_false, not_false_eq_true]
        exact hp
      · have hp := h0 M' (FH_tr hF hF' (by omega)) (fun g' hg' => hno g' ((h_ex_n c).mpr hg'))
        simp only [eK_2_0, eK_2_1, eK_2_2, eK_2_3, eK_2_5, eK_2_6, pw_aaload, pw_aload_n, pw_bipush, pw_getfield, pw_goto, pw_iadd, pw_iastore, pw_iconst, pw_ifCond, pw_if_icmp, pw_iinc, pw_iload, pw_iload_n, pw_invokevirtual, pw_ireturn, pw_istore, pw_nop0, pw_nop1, mm_pI_c, mm_pL_c, mm_pA_c, mm_pR_c, mm_p1_i, mm_p1_r, mm_pN_0, mm_pN_s, mm_lI_c, mm_lL_c, mm_lA_c, mm_wd_n, mm_wd_i, mm_wd_l, mm_wd_r, mm_gf_i, mm_gf_b, mm_gf_r, mm_rf_c, mm_pf_i, mm_pf_b, mm_pf_r, mm_rt_v, mm_rt_i, mm_rt_r, mm_c_eq, mm_c_ne, mm_c_lt, mm_c_ge, mm_c_gt, mm_c_le, mm_sw_n, mm_sw_c, mm_alc_n, mm_alc_c, mm_rc_n, mm_rc_c, reduceCtorEq, false_implies, implies_true, true_implies, true_or, or_true, false_or, or_false, not_false_eq_true, mm_at_0, mm_at_s, mm_set_0, mm_set_s, mm_nl_n, mm_nl_i, mm_nl_r, mm_args_n, mm_args_i, mm_args_l, mm_args_r, mm_pad_0, mm_pad_n, mm_pad_c, List.length_cons, List.length_nil, List.nil_append, List.cons_append, Nat.zero_le, Nat.sub_zero, true_and, and_true, Nat.reduceAdd, Nat.reduceLeDiff, Nat.reduceLT, Nat.reduceSub, Nat.lt_irrefl, Nat.zero_add, Nat.add_zero, k_20, k_10, k_01, mm_if_T, mm_if_F, not_true_eq_false, not_false_eq_true]
        exact hp

