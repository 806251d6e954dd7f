/-! THE REFERENCE: what is written into a slot -/
def FB (M M' : mm_M) (B : Nat) : Prop := M'.2 = M.2 ∧ ∀ c i k, ¬ (c = 7 ∧ i = 11 ∧ B ≤ k ∧ k < B + 39) → mm_I M' c i k = mm_I M c i k
theorem FB_rf (M : mm_M) (B : Nat) : FB M M B := ⟨rfl, fun _ _ _ _ => rfl⟩
theorem FB_tr {M M1 M2 : mm_M} {B : Nat} (h : FB M M1 B) (h' : FB M1 M2 B) : FB M M2 B := ⟨h'.1.trans h.1, fun c i k q => (h'.2 c i k q).trans (h.2 c i k q)⟩
theorem FB_s {M M' : mm_M} {B k : Nat} {v : Int32} (h : FB M M' B) (hk : B ≤ k ∧ k < B + 39) : FB M (mm_sI M' 7 11 k v) B := ⟨h.1, fun c i k' q => by rw [mm_I_sI, if_neg (fun z => q ⟨z.1, z.2.1, by omega, by omega⟩)]; exact h.2 c i k' q⟩
theorem LyM_2 {M M' : mm_M} (h : M'.2 = M.2) (hL : LyM M) : LyM M' := by
  unfold LyM mm_R mm_L at *
  rw [h]
  exact hL
theorem RM_e {M M' : mm_M} {n : Nat} {A : Nat → Nat → Int32} (h : RM M n A) (hF : ∀ c i k, (c = 6 ∧ k = 0) ∨ (c = 7 ∧ 5 ≤ i ∧ i < 8) → mm_I M' c i k = mm_I M c i k) : RM M' n A :=
  ⟨(hF 6 0 0 (Or.inl ⟨rfl, rfl⟩)).trans h.1, fun w hw => by
    rw [hF 7 5 w (Or.inr ⟨rfl, by omega, by omega⟩), hF 7 6 w (Or.inr ⟨rfl, by omega, by omega⟩), hF 7 7 w (Or.inr ⟨rfl, by omega, by omega⟩)]
    exact h.2 w hw⟩
theorem RM_B {M M' : mm_M} {B n : Nat} {A : Nat → Nat → Int32} (h : RM M n A) (hF : FB M M' B) : RM M' n A := RM_e h fun c i k q => hF.2 c i k (by omega)
theorem RM_c {M : mm_M} {n : Nat} {A A' : Nat → Nat → Int32} (h : RM M n A) (e : ∀ w, w < n → ∀ k, k < 3 → A' w k = A w k) : RM M n A' := ⟨h.1, fun w hw => by rw [e w hw 0 (by omega), e w hw 1 (by omega), e w hw 2 (by omega)]; exact h.2 w hw⟩
theorem RB_e {M M' : mm_M} {B n : Nat} {X : Sx} (h : RB M B n X) (hn : n ≤ 7) (hF : ∀ k, B ≤ k → k < B + 39 → mm_I M' 7 11 k = mm_I M 7 11 k) : RB M' B n X := by
  obtain ⟨h1, h2, h3, h4, h5⟩ := h
  refine ⟨fun w hw => ?_, ?_, ?_, ?_, ?_⟩
  · obtain ⟨a, b, c, d, e⟩ := h1 w hw
    rw [hF _ (by omega) (by omega), hF _ (by omega) (by omega), hF _ (by omega) (by omega), hF _ (by omega) (by omega), hF _ (by omega) (by omega)]
    exact ⟨a, b, c, d, e⟩
  · rw [hF _ (by omega) (by omega)]; exact h2
  · rw [hF _ (by omega) (by omega)]; exact h3
  · rw [hF _ (by omega) (by omega)]; exact h4
  · rw [hF _ (by omega) (by omega)]; exact h5
theorem RB_B {M M' : mm_M} {B B' n : Nat} {X : Sx} (h : RB M B n X) (hF : FB M M' B') (hb : B + 39 ≤ B' ∨ B' + 39 ≤ B) (hn : n ≤ 7) : RB M' B n X := RB_e h hn fun k _ _ => hF.2 7 11 k (by omega)
theorem g_fb_c {A A' : Nat → Nat → Int32} {n : Nat} (h : ∀ w, w < n → A' w 4 = A w 4) : g_fb A' n = g_fb A n := by
  rw [g_fb_bI, g_fb_bI]
  exact bI_c n h
theorem RB_pours {M : mm_M} {B n w : Nat} {X : Sx} (hB : B ≤ 429) (hn : n ≤ 7) (hR : RB M B n X) (hw : w < n) (c t : Int32) : RB (mm_sI (mm_sI (mm_sI (mm_sI (mm_sI M 7 11 (B + 8 + w) c) 7 11 (B + 15 + w) t) 7 11 (B + 22 + w) (-1)) 7 11 (B + 36) (X.1.2.1 - c)) 7 11 (B + 37) (X.1.2.2 - t)) B n (g_ca X.1 w c t, X.2) := by
  obtain ⟨h1, h2, h3, h4, h5⟩ := hR
  unfold g_ca
  refine ⟨fun v hv => ?_, ?_, ?_, ?_, ?_⟩
  · obtain ⟨a, b, e, f, g⟩ := h1 v hv
    by_cases q : v = w
    · subst q
      simp (disch := omega) only [mm_I_k, mm_I_s, up_k, up_s, k_10, show ¬ (1 : Int32) = 2 by decide, if_false, false_implies, and_true, a]
    · simp (disch := omega) only [mm_I_k, mm_I_s, up_w, a, b, e, f, true_and]
      exact g
  · simp (disch := omega) only [mm_I_k, mm_I_s, h2]
    exact (g_fb_c (fun v _ => by simp (disch := omega) only [up_k])).symm
  · simp (disch := omega) only [mm_I_k, mm_I_s]
  · simp (disch := omega) only [mm_I_k, mm_I_s]
  · simp (disch := omega) only [mm_I_k, mm_I_s, h5]
theorem RB_melts {M : mm_M} {B n w : Nat} {X : Sx} (hB : B ≤ 429) (hn : n ≤ 7) (hR : RB M B n X) (hw : w < n) : RB (mm_sI (mm_sI (mm_sI (mm_sI (mm_sI M 7 11 (B + 36) (X.1.2.1 + X.1.1 w 6)) 7 11 (B + 37) (X.1.2.2 + X.1.1 w 7)) 7 11 (B + 8 + w) 0) 7 11 (B + 15 + w) 0) 7 11 (B + 22 + w) (-1)) B n (g_me X.1 w, X.2) := by
  obtain ⟨h1, h2, h3, h4, h5⟩ := hR
  unfold g_me
  refine ⟨fun v hv => ?_, ?_, ?_, ?_, ?_⟩
  · obtain ⟨a, b, e, f, g⟩ := h1 v hv
    by_cases q : v = w
    · subst q
      simp (disch := omega) only [mm_I_k, mm_I_s, up_k, up_s, show ¬ (0 : Int32) = 2 by decide, if_false, if_true, false_implies, and_true, a]
    · simp (disch := omega) only [mm_I_k, mm_I_s, up_w, a, b, e, f, true_and]
      exact g
  · simp (disch := omega) only [mm_I_k, mm_I_s, h2]
    exact (g_fb_c (fun v _ => by simp (disch := omega) only [up_k])).symm
  · simp (disch := omega) only [mm_I_k, mm_I_s]
  · simp (disch := omega) only [mm_I_k, mm_I_s]
  · simp (disch := omega) only [mm_I_k, mm_I_s, h5]
theorem RB_hangs {M : mm_M} {B n w : Nat} {X : Sx} (hB : B ≤ 429) (hn : n ≤ 7) (hR : RB M B n X) (hw : w < n) (a : Nat → Int32) : RB (mm_sI (mm_sI (mm_sI (mm_sI M 7 11 (B + 8 + w) (a 1)) 7 11 (B + 15 + w) (a 2)) 7 11 (B + 22 + w) (a 3)) 7 11 (B + 29 + w) (a 4)) B n ((a_b X.1.1 w a, X.1.2), X.2) := by
  obtain ⟨h1, h2, h3, h4, h5⟩ := hR
  unfold a_b
  refine ⟨fun v hv => ?_, ?_, ?_, ?_, ?_⟩
  · obtain ⟨a, b, e, f, g⟩ := h1 v hv
    by_cases q : v = w
    · subst q
      simp (disch := omega) only [mm_I_k, mm_I_s, up_k, up_s, k_20, if_false, if_true, implies_true, and_true, a]
    · simp (disch := omega) only [mm_I_k, mm_I_s, up_w, a, b, e, f, true_and]
      exact g
  · simp (disch := omega) only [mm_I_k, mm_I_s, h2]
    exact (g_fb_c (fun v _ => by simp (disch := omega) only [up_k])).symm
  · simp (disch := omega) only [mm_I_k, mm_I_s, h3]
  · simp (disch := omega) only [mm_I_k, mm_I_s, h4]
  · simp (disch := omega) only [mm_I_k, mm_I_s, h5]
theorem RB_ha {M : mm_M} {B n w : Nat} {X : Sx} (hB : B ≤ 429) (hn : n ≤ 7) (hR : RB M B n X) (hw : w < n) (hb : ¬ X.1.1 w 5 = 0) (p q : Int32) : RB (mm_sI (mm_sI M 7 11 (B + 22 + w) p) 7 11 (B + 29 + w) q) B n ((g_ha X.1.1 w p q, X.1.2), X.2) := by
  obtain ⟨h1, h2, h3, h4, h5⟩ := hR
  unfold g_ha
  refine ⟨fun v hv => ?_, ?_, ?_, ?_, ?_⟩
  · obtain ⟨a, b, e, f, g⟩ := h1 v hv
    by_cases z : v = w
    · subst z
      rw [if_neg hb] at b e
      simp (disch := omega) only [mm_I_k, mm_I_s, up_k, up_s, k_20, if_false, if_true, implies_true, and_true, a, b, e]
    · simp (disch := omega) only [mm_I_k, mm_I_s, up_w, a, b, e, f, true_and]
      exact g
  · simp (disch := omega) only [mm_I_k, mm_I_s, h2]
    exact (g_fb_c (fun v _ => by simp (disch := omega) only [up_k])).symm
  · simp (disch := omega) only [mm_I_k, mm_I_s, h3]
  · simp (disch := omega) only [mm_I_k, mm_I_s, h4]
  · simp (disch := omega) only [mm_I_k, mm_I_s, h5]
theorem RB_td {M : mm_M} {B n w : Nat} {X : Sx} (hB : B ≤ 429) (hn : n ≤ 7) (hR : RB M B n X) (hw : w < n) (hb : ¬ X.1.1 w 5 = 0) : RB (mm_sI M 7 11 (B + 22 + w) (-1)) B n ((up X.1.1 w 5 1, X.1.2), X.2) := by
  obtain ⟨h1, h2, h3, h4, h5⟩ := hR
  refine ⟨fun v hv => ?_, ?_, ?_, ?_, ?_⟩
  · obtain ⟨a, b, e, f, g⟩ := h1 v hv
    by_cases z : v = w
    · subst z
      rw [if_neg hb] at b e
      simp (disch := omega) only [mm_I_k, mm_I_s, up_k, up_s, k_10, show ¬ (1 : Int32) = 2 by decide, false_implies, if_false, and_true, a, b, e]
    · simp (disch := omega) only [mm_I_k, mm_I_s, up_w, a, b, e, f, true_and]
      exact g
  · simp (disch := omega) only [mm_I_k, mm_I_s, h2]
    exact (g_fb_c (fun v _ => by simp (disch := omega) only [up_k])).symm
  · simp (disch := omega) only [mm_I_k, mm_I_s, h3]
  · simp (disch := omega) only [mm_I_k, mm_I_s, h4]
  · simp (disch := omega) only [mm_I_k, mm_I_s, h5]
theorem RB_3 {M : mm_M} {B n w : Nat} {X : Sx} (hB : B ≤ 429) (hn : n ≤ 7) (hR : RB M B n X) (hw : w < n) (x : Int32) : RB (mm_sI M 7 11 (B + w) x) B n ((up X.1.1 w 3 x, X.1.2), X.2) := by
  obtain ⟨h1, h2, h3, h4, h5⟩ := hR
  refine ⟨fun v hv => ?_, ?_, ?_, ?_, ?_⟩
  · obtain ⟨a, b, e, f, g⟩ := h1 v hv
    by_cases z : v = w
    · subst z
      simp (disch := omega) only [mm_I_k, mm_I_s, up_k, up_s, b, e, f, true_and]
      exact g
    · simp (disch := omega) only [mm_I_k, mm_I_s, up_w, a, b, e, f, true_and]
      exact g
  · simp (disch := omega) only [mm_I_k, mm_I_s, h2]
    exact (g_fb_c (fun v _ => by simp (disch := omega) only [up_k])).symm
  · simp (disch := omega) only [mm_I_k, mm_I_s, h3]
  · simp (disch := omega) only [mm_I_k, mm_I_s, h4]
  · simp (disch := omega) only [mm_I_k, mm_I_s, h5]
theorem b7_or2 : ∀ w, w < 7 → ∀ m, m < 128 → nI m ||| (1 <<< (nI w &&& 31)) = nI (if m / 2 ^ w % 2 = 1 then m else m + 2 ^ w) := by decide +kernel
theorem bI_set {f : Nat → Int32} {w : Nat} {x : Int32} (hx : ¬ x = 0) : ∀ n, n ≤ 7 → w < n → bI f n ||| (1 <<< (nI w &&& 31)) = bI (fun v => if v = w then x else f v) n
  | 0, _, h => by omega
  | n + 1, hn, h => by
    have or_c : ∀ a b c : Int32, a ||| b ||| c = a ||| c ||| b := fun a b c => by rw [Int32.or_assoc, Int32.or_comm b c, ← Int32.or_assoc]
    by_cases e : w = n
    · subst e
      have e1 : bI (fun v => if v = w then x else f v) w = bI f w := bI_c w (fun v hv => if_neg (by omega))
      show (if ¬ f w = 0 then bI f w ||| (1 <<< (nI w &&& 31)) else bI f w) ||| _ = if ¬ (if w = w then x else f w) = 0 then _ ||| _ else _
      rw [if_pos (rfl : w = w), if_pos hx, e1]
      by_cases c : f w = 0
      · rw [if_neg (fun z => z c)]
      · rw [if_pos c, Int32.or_assoc, Int32.or_self]
    · have ih := bI_set (f := f) (w := w) hx n (by omega) (by omega)
      show (if ¬ f n = 0 then bI f n ||| (1 <<< (nI n &&& 31)) else bI f n) ||| _ = if ¬ (if n = w then x else f n) = 0 then _ ||| _ else _
      rw [if_neg (show ¬ n = w by omega), ← ih]
      by_cases c : f n = 0
      · rw [if_neg (fun z => z c), if_neg (fun z => z c)]
      · rw [if_pos c, if_pos c, or_c]
theorem RB_4 {M : mm_M} {B n w : Nat} {X : Sx} (hB : B ≤ 429) (hn : n ≤ 7) (hR : RB M B n X) (hw : w < n) : RB (mm_sI M 7 11 (B + 7) (g_fb X.1.1 n ||| (1 <<< (nI w &&& 31)))) B n ((up X.1.1 w 4 1, X.1.2), X.2) := by
  obtain ⟨h1, h2, h3, h4, h5⟩ := hR
  refine ⟨fun v hv => ?_, ?_, ?_, ?_, ?_⟩
  · obtain ⟨a, b, e, f, g⟩ := h1 v hv
    simp (disch := omega) only [mm_I_k, mm_I_s, up_k, a, b, e, f, true_and]
    exact g
  · simp (disch := omega) only [mm_I_k, mm_I_s]
    rw [g_fb_bI, g_fb_bI, bI_set (x := 1) (by decide) n hn hw]
    refine bI_c n (fun v hv => ?_)
    by_cases e : v = w
    · rw [if_pos e, e, up_s]
    · rw [if_neg e, up_w e]
  · simp (disch := omega) only [mm_I_k, mm_I_s, h3]
  · simp (disch := omega) only [mm_I_k, mm_I_s, h4]
  · simp (disch := omega) only [mm_I_k, mm_I_s, h5]
theorem RB_d {M : mm_M} {B n : Nat} {X : Sx} (hB : B ≤ 429) (hn : n ≤ 7) (hR : RB M B n X) (x : Int32) : RB (mm_sI M 7 11 (B + 38) x) B n (X.1, x) := by
  obtain ⟨h1, h2, h3, h4, h5⟩ := hR
  refine ⟨fun v hv => ?_, ?_, ?_, ?_, ?_⟩
  · obtain ⟨a, b, e, f, g⟩ := h1 v hv
    simp (disch := omega) only [mm_I_k, mm_I_s, a, b, e, f, true_and]
    exact g
  · simp (disch := omega) only [mm_I_k, mm_I_s, h2]
  · simp (disch := omega) only [mm_I_k, mm_I_s, h3]
  · simp (disch := omega) only [mm_I_k, mm_I_s, h4]
  · simp (disch := omega) only [mm_I_k, mm_I_s]

theorem r_98 (d : Nat) (x y : Int32) (M : mm_M) (post : mm_Post) : pC (d + 1) 98 [.inl x, .inl y] M post = post (some (.inl (tf ((x >>> (y &&& 31)) &&& 1 = 1)))) M := by
  by_cases c : (x >>> (y &&& 31)) &&& 1 = 1
  · rw [tf_t c]
    simp (disch := omega) only [eC_98, eK_98_0, eK_98_1, eK_98_2, pw_goto, pw_iconst, pw_nop0, qw_iand, qw_if_icmp_ne, qw_iload_n0, qw_iload_n1, qw_ireturn, qw_ishr, mm_rf_c, mm_rt_v, mm_rt_i, mm_rt_r, mm_alc_n, mm_alc_c, mm_rc_n, mm_rc_c, mm_wd_n, mm_wd_i, mm_wd_l, mm_wd_r, reduceCtorEq, false_implies, implies_true, true_implies, true_or, or_true, false_or, or_false, not_false_eq_true, mm_nl_n, mm_nl_i, mm_nl_r, mm_args_n, mm_args_i, mm_args_l, mm_args_r, mm_pad_0, mm_pad_n, mm_pad_c, List.length_cons, List.length_nil, List.nil_append, List.cons_append, Nat.zero_le, Nat.sub_zero, true_and, and_true, Nat.reduceAdd, Nat.reduceLeDiff, Nat.reduceLT, Nat.reduceSub, Nat.lt_irrefl, Nat.zero_add, Nat.add_zero, Nat.le_refl, k_20, k_10, k_01, ↓mm_if_T, ↓mm_if_F, ↓if10, ↓if00, not_true_eq_false, tf_01, ↓mm_if_tf, ↓mm_if_tn, ↓mm_if_nn, ↓mm_if_t c]
  · rw [tf_f c]
    simp (disch := omega) only [eC_98, eK_98_0, eK_98_1, eK_98_2, pw_goto, pw_iconst, pw_nop0, qw_iand, qw_if_icmp_ne, qw_iload_n0, qw_iload_n1, qw_ireturn, qw_ishr, mm_rf_c, mm_rt_v, mm_rt_i, mm_rt_r, mm_alc_n, mm_alc_c, mm_rc_n, mm_rc_c, mm_wd_n, mm_wd_i, mm_wd_l, mm_wd_r, reduceCtorEq, false_implies, implies_true, true_implies, true_or, or_true, false_or, or_false, not_false_eq_true, mm_nl_n, mm_nl_i, mm_nl_r, mm_args_n, mm_args_i, mm_args_l, mm_args_r, mm_pad_0, mm_pad_n, mm_pad_c, List.length_cons, List.length_nil, List.nil_append, List.cons_append, Nat.zero_le, Nat.sub_zero, true_and, and_true, Nat.reduceAdd, Nat.reduceLeDiff, Nat.reduceLT, Nat.reduceSub, Nat.lt_irrefl, Nat.zero_add, Nat.add_zero, Nat.le_refl, k_20, k_10, k_01, ↓mm_if_T, ↓mm_if_F, ↓if10, ↓if00, not_true_eq_false, tf_01, ↓mm_if_tf, ↓mm_if_tn, ↓mm_if_nn, ↓mm_if_f c]

set_option maxHeartbeats 2000000 in
theorem r_135 (d : Nat) {M : mm_M} {post : mm_Post} {B n : Nat} {X : Sx} (hL : LyM M) (hB : B ≤ 429) (hn : n ≤ 7) (hR : RB M B n X) {w : Nat} (hw : w < n) (c t : Int32) : pC (d + 1) 135 [.inr (.inr (6, 0)), .inl (nI B), .inl (nI w), .inl c, .inl t] M post = post none (mm_sI (mm_sI (mm_sI (mm_sI (mm_sI M 7 11 (B + 8 + w) c) 7 11 (B + 15 + w) t) 7 11 (B + 22 + w) (-1)) 7 11 (B + 36) (X.1.2.1 - c)) 7 11 (B + 37) (X.1.2.2 - t)) := by
  have l1 := hL.1.2.2.2.2.2.2.1
  have l2 : mm_L M 7 11 = 468 := hL.2.2.2.2.2.2.2.1
  have a1 := hL.1.1
  have a2 := hL.1.2.1
  have a5 := hL.1.2.2.1
  have a3 : mm_L M 7 5 = 7 := hL.2.1
  have a4 : mm_L M 7 6 = 7 := hL.2.2.1
  have a6 : mm_L M 7 7 = 7 := hL.2.2.2.1
  have h3 := hR.2.2.1
  have h4 := hR.2.2.2.1
  simp (disch := omega) only [eC_135, eK_135_0, pw_bipush, pw_iconst, pw_return_, qw_aload_n0, qw_dup2, qw_gf_b, qw_gf_i, qw_gf_r, qw_iadd, qw_iaload, qw_iastore, qw_iload4, qw_iload_n1, qw_iload_n2, qw_iload_n3, qw_isub, mm_rf_c, mm_rt_v, mm_rt_i, mm_rt_r, mm_alc_n, mm_alc_c, mm_rc_n, mm_rc_c, mm_wd_n, mm_wd_i, mm_wd_l, mm_wd_r, reduceCtorEq, false_implies, implies_true, true_implies, true_or, or_true, false_or, or_false, not_false_eq_true, mm_nl_n, mm_nl_i, mm_nl_r, mm_args_n, mm_args_i, mm_args_l, mm_args_r, mm_pad_0, mm_pad_n, mm_pad_c, List.length_cons, List.length_nil, List.nil_append, List.cons_append, Nat.zero_le, Nat.sub_zero, true_and, and_true, Nat.reduceAdd, Nat.reduceLeDiff, Nat.reduceLT, Nat.reduceSub, Nat.lt_irrefl, Nat.zero_add, Nat.add_zero, Nat.le_refl, k_20, k_10, k_01, ↓mm_if_T, ↓mm_if_F, ↓if10, ↓if00, not_true_eq_false, tf_01, ↓mm_if_tf, ↓mm_if_tn, ↓mm_if_nn, l1, l2, a1, a2, a3, a4, a5, a6, nI_c7, nI_c8, nI_c15, nI_c22, nI_c29, nI_c36, nI_c361, nI_c38, nI_add, vi_, ci_, mm_L_s, mm_R_s, mm_I_c, mm_I_i, mm_I_k, mm_I_s, h3, h4]

set_option maxHeartbeats 2000000 in
theorem r_136 (d : Nat) {M : mm_M} {post : mm_Post} {B n : Nat} {X : Sx} (hL : LyM M) (hB : B ≤ 429) (hn : n ≤ 7) (hR : RB M B n X) {w : Nat} (hw : w < n) (hb : ¬ X.1.1 w 5 = 0) : pC (d + 1) 136 [.inr (.inr (6, 0)), .inl (nI B), .inl (nI w)] M post = post none (mm_sI (mm_sI (mm_sI (mm_sI (mm_sI M 7 11 (B + 36) (X.1.2.1 + X.1.1 w 6)) 7 11 (B + 37) (X.1.2.2 + X.1.1 w 7)) 7 11 (B + 8 + w) 0) 7 11 (B + 15 + w) 0) 7 11 (B + 22 + w) (-1)) := by
  have l1 := hL.1.2.2.2.2.2.2.1
  have l2 : mm_L M 7 11 = 468 := hL.2.2.2.2.2.2.2.1
  have a1 := hL.1.1
  have a2 := hL.1.2.1
  have a5 := hL.1.2.2.1
  have a3 : mm_L M 7 5 = 7 := hL.2.1
  have a4 : mm_L M 7 6 = 7 := hL.2.2.1
  have a6 : mm_L M 7 7 = 7 := hL.2.2.2.1
  have h3 := hR.2.2.1
  have h4 := hR.2.2.2.1
  have h6 := (hR.1 w hw).2.1
  have h7 := (hR.1 w hw).2.2.1
  rw [if_neg hb] at h6 h7
  simp (disch := omega) only [eC_136, eK_136_0, pw_bipush, pw_iconst, pw_return_, qw_aload_n0, qw_dup2, qw_gf_b, qw_gf_i, qw_gf_r, qw_iadd, qw_iaload, qw_iastore, qw_iload_n1, qw_iload_n2, mm_rf_c, mm_rt_v, mm_rt_i, mm_rt_r, mm_alc_n, mm_alc_c, mm_rc_n, mm_rc_c, mm_wd_n, mm_wd_i, mm_wd_l, mm_wd_r, reduceCtorEq, false_implies, implies_true, true_implies, true_or, or_true, false_or, or_false, not_false_eq_true, mm_nl_n, mm_nl_i, mm_nl_r, mm_args_n, mm_args_i, mm_args_l, mm_args_r, mm_pad_0, mm_pad_n, mm_pad_c, List.length_cons, List.length_nil, List.nil_append, List.cons_append, Nat.zero_le, Nat.sub_zero, true_and, and_true, Nat.reduceAdd, Nat.reduceLeDiff, Nat.reduceLT, Nat.reduceSub, Nat.lt_irrefl, Nat.zero_add, Nat.add_zero, Nat.le_refl, k_20, k_10, k_01, ↓mm_if_T, ↓mm_if_F, ↓if10, ↓if00, not_true_eq_false, tf_01, ↓mm_if_tf, ↓mm_if_tn, ↓mm_if_nn, l1, l2, a1, a2, a3, a4, a5, a6, nI_c7, nI_c8, nI_c15, nI_c22, nI_c29, nI_c36, nI_c361, nI_c38, nI_add, vi_, ci_, mm_L_s, mm_R_s, mm_I_c, mm_I_i, mm_I_k, mm_I_s, h3, h4, h6, h7]

set_option maxHeartbeats 2000000 in
theorem r_103 (d : Nat) {M : mm_M} {post : mm_Post} {B : Nat} (hL : LyM M) (hB : B ≤ 429) {w : Nat} (hw : w < 7) (c t p q : Int32) : pC (d + 1) 103 [.inr (.inr (6, 0)), .inl (nI B), .inl (nI w), .inl c, .inl t, .inl p, .inl q] M post = post none (mm_sI (mm_sI (mm_sI (mm_sI M 7 11 (B + 8 + w) c) 7 11 (B + 15 + w) t) 7 11 (B + 22 + w) p) 7 11 (B + 29 + w) q) := by
  have l1 := hL.1.2.2.2.2.2.2.1
  have l2 : mm_L M 7 11 = 468 := hL.2.2.2.2.2.2.2.1
  have a1 := hL.1.1
  have a2 := hL.1.2.1
  have a5 := hL.1.2.2.1
  have a3 : mm_L M 7 5 = 7 := hL.2.1
  have a4 : mm_L M 7 6 = 7 := hL.2.2.1
  have a6 : mm_L M 7 7 = 7 := hL.2.2.2.1
  simp (disch := omega) only [eC_103, eK_103_0, pw_bipush, pw_return_, qw_aload_n0, qw_gf_b, qw_gf_i, qw_gf_r, qw_iadd, qw_iastore, qw_iload4, qw_iload5, qw_iload6, qw_iload_n1, qw_iload_n2, qw_iload_n3, mm_rf_c, mm_rt_v, mm_rt_i, mm_rt_r, mm_alc_n, mm_alc_c, mm_rc_n, mm_rc_c, mm_wd_n, mm_wd_i, mm_wd_l, mm_wd_r, reduceCtorEq, false_implies, implies_true, true_implies, true_or, or_true, false_or, or_false, not_false_eq_true, mm_nl_n, mm_nl_i, mm_nl_r, mm_args_n, mm_args_i, mm_args_l, mm_args_r, mm_pad_0, mm_pad_n, mm_pad_c, List.length_cons, List.length_nil, List.nil_append, List.cons_append, Nat.zero_le, Nat.sub_zero, true_and, and_true, Nat.reduceAdd, Nat.reduceLeDiff, Nat.reduceLT, Nat.reduceSub, Nat.lt_irrefl, Nat.zero_add, Nat.add_zero, Nat.le_refl, k_20, k_10, k_01, ↓mm_if_T, ↓mm_if_F, ↓if10, ↓if00, not_true_eq_false, tf_01, ↓mm_if_tf, ↓mm_if_tn, ↓mm_if_nn, l1, l2, a1, a2, a3, a4, a5, a6, nI_c7, nI_c8, nI_c15, nI_c22, nI_c29, nI_c36, nI_c361, nI_c38, nI_add, vi_, ci_, mm_L_s, mm_R_s, mm_I_c, mm_I_i, mm_I_k, mm_I_s]

set_option maxHeartbeats 2000000 in
theorem k_105 (d : Nat) {M : mm_M} {post : mm_Post} {B C : Nat} (hB : B ≤ 429) (hC : C ≤ 429) (hne : B + 39 ≤ C ∨ C + 39 ≤ B) (h : ∀ M', FB M M' C → (∀ k, k < 39 → mm_I M' 7 11 (C + k) = mm_I M 7 11 (B + k)) → post none M') : ∀ (m v : Nat) (M1 : mm_M), v + m = 39 → LyM M1 → FB M M1 C → (∀ k, k < v → mm_I M1 7 11 (C + k) = mm_I M 7 11 (B + k)) → pK d 105 post 1 [some (.inr (.inr (6, 0))), some (.inl (nI B)), some (.inl (nI C)), some (.inl (nI v))] [] M1 (0, 0) := by
  intro m
  induction m with
  | zero =>
    intro v M1 hv hL hF hk
    have e : v = 39 := by omega
    subst e
    rw [eK_105_1]
    simp (disch := omega) only [eK_105_0, eK_105_2, pw_bipush, pw_goto, pw_iconst, pw_nop0, pw_return_, qw_aload_n0, qw_gf_b, qw_gf_i, qw_gf_r, qw_iadd, qw_iaload, qw_iastore, qw_if_icmp_ge, qw_iinc3, qw_iload_n1, qw_iload_n2, qw_iload_n3, qw_istore_n3, mm_rf_c, mm_rt_v, mm_rt_i, mm_rt_r, mm_alc_n, mm_alc_c, mm_rc_n, mm_rc_c, mm_wd_n, mm_wd_i, mm_wd_l, mm_wd_r, reduceCtorEq, false_implies, implies_true, true_implies, true_or, or_true, false_or, or_false, not_false_eq_true, mm_nl_n, mm_nl_i, mm_nl_r, mm_args_n, mm_args_i, mm_args_l, mm_args_r, mm_pad_0, mm_pad_n, mm_pad_c, List.length_cons, List.length_nil, List.nil_append, List.cons_append, Nat.zero_le, Nat.sub_zero, true_and, and_true, Nat.reduceAdd, Nat.reduceLeDiff, Nat.reduceLT, Nat.reduceSub, Nat.lt_irrefl, Nat.zero_add, Nat.add_zero, Nat.le_refl, k_20, k_10, k_01, ↓mm_if_T, ↓mm_if_F, ↓if10, ↓if00, not_true_eq_false, tf_01, ↓mm_if_tf, ↓mm_if_tn, ↓mm_if_nn, ↓mm_if_t (show (39 : Int32) ≤ nI 39 by decide)]
    exact h M1 hF hk
  | succ m ih =>
    intro v M1 hv hL hF hk
    have l1 := hL.1.2.2.2.2.2.2.1
    have l2 : mm_L M1 7 11 = 468 := hL.2.2.2.2.2.2.2.1
    have hlt : ¬ (39 : Int32) ≤ nI v := nI_ge (b := 39) (by omega) (by omega)
    rw [eK_105_1]
    simp (disch := omega) only [eK_105_0, eK_105_2, pw_bipush, pw_goto, pw_iconst, pw_nop0, pw_return_, qw_aload_n0, qw_gf_b, qw_gf_i, qw_gf_r, qw_iadd, qw_iaload, qw_iastore, qw_if_icmp_ge, qw_iinc3, qw_iload_n1, qw_iload_n2, qw_iload_n3, qw_istore_n3, mm_rf_c, mm_rt_v, mm_rt_i, mm_rt_r, mm_alc_n, mm_alc_c, mm_rc_n, mm_rc_c, mm_wd_n, mm_wd_i, mm_wd_l, mm_wd_r, reduceCtorEq, false_implies, implies_true, true_implies, true_or, or_true, false_or, or_false, not_false_eq_true, mm_nl_n, mm_nl_i, mm_nl_r, mm_args_n, mm_args_i, mm_args_l, mm_args_r, mm_pad_0, mm_pad_n, mm_pad_c, List.length_cons, List.length_nil, List.nil_append, List.cons_append, Nat.zero_le, Nat.sub_zero, true_and, and_true, Nat.reduceAdd, Nat.reduceLeDiff, Nat.reduceLT, Nat.reduceSub, Nat.lt_irrefl, Nat.zero_add, Nat.add_zero, Nat.le_refl, k_20, k_10, k_01, ↓mm_if_T, ↓mm_if_F, ↓if10, ↓if00, not_true_eq_false, tf_01, ↓mm_if_tf, ↓mm_if_tn, ↓mm_if_nn, ↓mm_if_f hlt, l1, l2, nI_1, nI_c7, nI_c8, nI_c15, nI_c22, nI_c29, nI_c36, nI_c361, nI_c38, nI_add, vi_, ci_, mm_L_s, mm_R_s, mm_I_c, mm_I_i, mm_I_k, mm_I_s]
    refine ih (v + 1) _ (by omega) (LyM_2 rfl hL) (FB_s hF (by omega)) (fun k hk2 => ?_)
    by_cases e : k = v
    · subst e
      rw [mm_I_s, hF.2 7 11 (B + k) (by omega)]
    · rw [mm_I_k (by omega)]
      exact hk k (by omega)
theorem RB_cp {M M' : mm_M} {B C n : Nat} {X : Sx} (hn : n ≤ 7) (hR : RB M B n X) (h : ∀ k, k < 39 → mm_I M' 7 11 (C + k) = mm_I M 7 11 (B + k)) : RB M' C n X := by
  obtain ⟨h1, h2, h3, h4, h5⟩ := hR
  refine ⟨fun w hw => ?_, ?_, ?_, ?_, ?_⟩
  · obtain ⟨a, b, c, d, e⟩ := h1 w hw
    rw [Nat.add_assoc] at b c d e
    rw [Nat.add_assoc, Nat.add_assoc, Nat.add_assoc, Nat.add_assoc, h _ (by omega), h _ (by omega), h _ (by omega), h _ (by omega), h _ (by omega)]
    exact ⟨a, b, c, d, e⟩
  · rw [h _ (by omega)]; exact h2
  · rw [h _ (by omega)]; exact h3
  · rw [h _ (by omega)]; exact h4
  · rw [h _ (by omega)]; exact h5
theorem r_105 (d : Nat) {M : mm_M} {post : mm_Post} {B C : Nat} (hL : LyM M) (hB : B ≤ 429) (hC : C ≤ 429) (hne : B + 39 ≤ C ∨ C + 39 ≤ B) (h : ∀ M', FB M M' C → (∀ k, k < 39 → mm_I M' 7 11 (C + k) = mm_I M 7 11 (B + k)) → post none M') : pC (d + 1) 105 [.inr (.inr (6, 0)), .inl (nI B), .inl (nI C)] M post := by
  have := k_105 d hB hC hne h 39 0 M (by omega) hL (FB_rf M C) (fun k hk => by omega)
  simp (disch := omega) only [eC_105, eK_105_0, pw_iconst, pw_nop0, qw_istore_n3, mm_rf_c, mm_rt_v, mm_rt_i, mm_rt_r, mm_alc_n, mm_alc_c, mm_rc_n, mm_rc_c, mm_wd_n, mm_wd_i, mm_wd_l, mm_wd_r, reduceCtorEq, false_implies, implies_true, true_implies, true_or, or_true, false_or, or_false, not_false_eq_true, mm_nl_n, mm_nl_i, mm_nl_r, mm_args_n, mm_args_i, mm_args_l, mm_args_r, mm_pad_0, mm_pad_n, mm_pad_c, List.length_cons, List.length_nil, List.nil_append, List.cons_append, Nat.zero_le, Nat.sub_zero, true_and, and_true, Nat.reduceAdd, Nat.reduceLeDiff, Nat.reduceLT, Nat.reduceSub, Nat.lt_irrefl, Nat.zero_add, Nat.add_zero, Nat.le_refl, k_20, k_10, k_01, ↓mm_if_T, ↓mm_if_F, ↓if10, ↓if00, not_true_eq_false, tf_01, ↓mm_if_tf, ↓mm_if_tn, ↓mm_if_nn]
  exact this

