/-! THE REFERENCE: best -/
theorem g_ot_n {A : Nat → Nat → Int32} {w : Nat} {p f : Int32} : ∀ n, ∃ j, j ≤ n ∧ g_ot A w p f n = nI j
  | 0 => ⟨0, Nat.le_refl 0, rfl⟩
  | n + 1 => by
    obtain ⟨j, hj, e⟩ := g_ot_n (A := A) (w := w) (p := p) (f := f) n
    unfold g_ot
    by_cases c : (¬ n = w ∧ (¬ f = 0 ∨ A n 4 = 0)) ∧ 1 ≤ f_lf (A w 8) p (A n 1)
    · rw [if_pos c, e, nI_1]; exact ⟨j + 1, by omega, rfl⟩
    · rw [if_neg c, e]; exact ⟨j, by omega, rfl⟩
theorem g_ot_c {A A' : Nat → Nat → Int32} {w : Nat} {p f : Int32} (h8 : A' w 8 = A w 8) : ∀ n, (∀ v, v < n → A' v 4 = A v 4 ∧ A' v 1 = A v 1) → g_ot A' w p f n = g_ot A w p f n
  | 0, _ => rfl
  | n + 1, h => by
    have ih := g_ot_c (p := p) (f := f) h8 n (fun v hv => h v (by omega))
    unfold g_ot
    rw [(h n (by omega)).1, (h n (by omega)).2, h8, ih]
def nv (A : Nat → Nat → Int32) (n w k : Nat) : Int32 := if g_hh A n w (f_lf (A w 8) (nI (k / 24)) (A w 1)) (k % 24) = 0 then 99 else g_ot A w (nI (k / 24)) 0 n
def rb (A : Nat → Nat → Int32) (n w : Nat) : Nat → Int32 × Int32
  | 0 => (-4, 99)
  | k + 1 => if nv A n w k < (rb A n w k).2 then (nI k, nv A n w k) else rb A n w k
theorem nv_le {A : Nat → Nat → Int32} {n w k : Nat} (hn : n ≤ 7) : nv A n w k ≤ 99 := by
  unfold nv
  by_cases c : g_hh A n w (f_lf (A w 8) (nI (k / 24)) (A w 1)) (k % 24) = 0
  · rw [if_pos c]; decide
  · rw [if_neg c]
    obtain ⟨j, hj, e⟩ := g_ot_n (A := A) (w := w) (p := nI (k / 24)) (f := 0) n
    rw [e]; exact nI_le (b := 99) (by omega) (by omega)
theorem rb_le {A : Nat → Nat → Int32} {n w : Nat} (hn : n ≤ 7) : ∀ k, (rb A n w k).2 ≤ 99
  | 0 => by show (99 : Int32) ≤ 99; decide
  | k + 1 => by
    unfold rb
    by_cases c : nv A n w k < (rb A n w k).2
    · rw [if_pos c]; exact nv_le hn
    · rw [if_neg c]; exact rb_le hn k
theorem rb_row {A : Nat → Nat → Int32} {n w p : Nat} (hn : n ≤ 7) : ∀ m h, h + m = 24 →
    (fh_s (g_hh A n w (f_lf (A w 8) (nI p) (A w 1))) m = -4 ∧ rb A n w (24 * p + 24) = rb A n w (24 * p + h)) ∨
    (∃ h', h' ≤ 23 ∧ fh_s (g_hh A n w (f_lf (A w 8) (nI p) (A w 1))) m = nI h' ∧ (g_ot A w (nI p) 0 n < (rb A n w (24 * p + h)).2 → rb A n w (24 * p + 24) = (nI (24 * p + h'), g_ot A w (nI p) 0 n)) ∧ (¬ g_ot A w (nI p) 0 n < (rb A n w (24 * p + h)).2 → rb A n w (24 * p + 24) = rb A n w (24 * p + h)))
  | 0, h, hh => Or.inl ⟨rfl, by rw [show h = 24 by omega]⟩
  | m + 1, h, hh => by
    have ih := rb_row (A := A) (w := w) (p := p) hn m (h + 1) (by omega)
    have ek : (24 * p + h) / 24 = p := by omega
    have em : (24 * p + h) % 24 = h := by omega
    have eh : 23 - m = h := by omega
    have e1 : rb A n w (24 * p + (h + 1)) = if nv A n w (24 * p + h) < (rb A n w (24 * p + h)).2 then (nI (24 * p + h), nv A n w (24 * p + h)) else rb A n w (24 * p + h) := rfl
    have e2 : nv A n w (24 * p + h) = if g_hh A n w (f_lf (A w 8) (nI p) (A w 1)) h = 0 then 99 else g_ot A w (nI p) 0 n := by unfold nv; rw [ek, em]
    have e3 : fh_s (g_hh A n w (f_lf (A w 8) (nI p) (A w 1))) (m + 1) = if g_hh A n w (f_lf (A w 8) (nI p) (A w 1)) h = 0 then fh_s (g_hh A n w (f_lf (A w 8) (nI p) (A w 1))) m else nI h := by rw [← eh]; rfl
    have hle := rb_le (A := A) (w := w) hn (24 * p + h)
    by_cases c : g_hh A n w (f_lf (A w 8) (nI p) (A w 1)) h = 0
    · rw [if_pos c] at e2 e3
      rw [e2, if_neg (Int32.not_lt.mpr hle)] at e1
      rw [e3, ← e1]
      exact ih
    · rw [if_neg c] at e2 e3
      rw [e2] at e1
      right
      refine ⟨h, by omega, e3, fun q => ?_, fun q => ?_⟩
      · rw [if_pos q] at e1
        rcases ih with ⟨_, z⟩ | ⟨h', _, _, _, z⟩
        · rw [z, e1]
        · rw [z (by rw [e1]; exact Int32.lt_irrefl), e1]
      · rw [if_neg q] at e1
        rw [← e1]
        rcases ih with ⟨_, z⟩ | ⟨h', _, _, _, z⟩
        · exact z
        · exact z (by rw [e1]; exact q)
theorem rb_fb {A : Nat → Nat → Int32} {n w : Nat} (hn : n ≤ 7) : ∀ p, p ≤ 41 → (fb_s A n w p = (-4, -4, -4) ∧ rb A n w (24 * p) = (-4, 99)) ∨ ∃ bp bh j, bp ≤ 40 ∧ bh ≤ 23 ∧ j ≤ 7 ∧ fb_s A n w p = (nI bp, nI bh, nI j) ∧ rb A n w (24 * p) = (nI (24 * bp + bh), nI j)
  | 0, _ => Or.inl ⟨rfl, rfl⟩
  | p + 1, hp => by
    have ih := rb_fb (A := A) (w := w) hn p (by omega)
    have row := rb_row (A := A) (w := w) (p := p) hn 24 0 (by omega)
    obtain ⟨j0, hj0, ej⟩ := g_ot_n (A := A) (w := w) (p := nI p) (f := 0) n
    simp only [Nat.add_zero] at row
    have er : 24 * (p + 1) = 24 * p + 24 := by omega
    have n4 : ∀ k, k ≤ 23 → ¬ nI k = -4 := fun k hk z => by
      have := congrArg Int32.toInt z
      rw [nI_toInt (by omega), show (-4 : Int32).toInt = -4 by decide] at this
      omega
    rw [er]
    have efb : fb_s A n w (p + 1) = if (fb_s A n w p).2.2 = -4 ∨ g_ot A w (nI p) 0 n < (fb_s A n w p).2.2 then (if fh_s (g_hh A n w (f_lf (A w 8) (nI p) (A w 1))) 24 = -4 then fb_s A n w p else (nI p, fh_s (g_hh A n w (f_lf (A w 8) (nI p) (A w 1))) 24, g_ot A w (nI p) 0 n)) else fb_s A n w p := rfl
    rcases row with ⟨r1, r2⟩ | ⟨h', r0, r1, r2, r3⟩
    · have e : fb_s A n w (p + 1) = fb_s A n w p := by
        rw [efb, r1, if_pos rfl]
        by_cases c : (fb_s A n w p).2.2 = -4 ∨ g_ot A w (nI p) 0 n < (fb_s A n w p).2.2
        · rw [if_pos c]
        · rw [if_neg c]
      rw [e, r2]
      exact ih
    · rcases ih with ⟨i1, i2⟩ | ⟨bp, bh, j, b1, b2, b3, i1, i2⟩
      · right
        refine ⟨p, h', j0, by omega, r0, by omega, ?_, ?_⟩
        · rw [efb, i1, if_pos (Or.inl rfl), r1, if_neg (n4 h' r0), ej]
        · rw [r2 (by rw [i2, ej]; exact nI_lt (b := 99) (by omega) (by omega)), ej]
      · have nj : ¬ nI j = -4 := n4 j (by omega)
        by_cases c : g_ot A w (nI p) 0 n < nI j
        · right
          refine ⟨p, h', j0, by omega, r0, by omega, ?_, ?_⟩
          · rw [efb, i1, if_pos (Or.inr c), r1, if_neg (n4 h' r0), ej]
          · rw [r2 (by rw [i2]; exact c), ej]
        · right
          refine ⟨bp, bh, j, b1, b2, b3, ?_, ?_⟩
          · rw [efb, i1, if_neg (fun z => z.elim nj c)]
          · rw [r3 (by rw [i2]; exact c), i2]

def Ey (n w : Nat) (A A' : Nat → Nat → Int32) : Prop := WF n A' ∧ (∀ v, ¬ v = w → ∀ k, A' v k = A v k) ∧ (∀ k, ¬ k = 5 → k < 9 → A' w k = A w k) ∧ 1 ≤ A' w 5
theorem Ey_ha {n w : Nat} {A A' : Nat → Nat → Int32} (hw : w < n) (h : Ey n w A A') {p q : Int32} (hp : 0 ≤ p ∧ p ≤ 40) (hq : 0 ≤ q ∧ q ≤ 23) : Ey n w A (g_ha A' w p q) := by
  refine ⟨WF_ha h.1 hw h.2.2.2 hp hq, fun v hv k => ?_, fun k h5 hk => ?_, ?_⟩
  · unfold g_ha
    simp (disch := omega) only [up_w]
    exact h.2.1 v hv k
  · unfold g_ha
    simp (disch := omega) only [up_k]
    exact h.2.2.1 k h5 hk
  · unfold g_ha
    rw [up_s]; decide
theorem Ey_k {n w : Nat} {A A' : Nat → Nat → Int32} (h : Ey n w A A') : ∀ v k, k < 5 → A' v k = A v k := fun v k hk => by
  by_cases e : v = w
  · rw [e]; exact h.2.2.1 k (by omega) (by omega)
  · exact h.2.1 v e k
theorem g_hd_ha {n w : Nat} {A A' : Nat → Nat → Int32} (h : Ey n w A A') (p : Int32) (k : Nat) : g_hd (g_ha A' w p (nI k)) n w 1 = g_hh A n w (f_lf (A w 8) p (A w 1)) k := by
  have e0 : (g_ha A' w p (nI k)) w 0 = A w 0 := by unfold g_ha; simp (disch := omega) only [up_k]; exact h.2.2.1 0 (by omega) (by omega)
  have e1 : (g_ha A' w p (nI k)) w 1 = A w 1 := by unfold g_ha; simp (disch := omega) only [up_k]; exact h.2.2.1 1 (by omega) (by omega)
  have e5 : (g_ha A' w p (nI k)) w 5 = 2 := by unfold g_ha; simp (disch := omega) only [up_k, up_s]
  have e7 : (g_ha A' w p (nI k)) w 7 = A w 7 := by unfold g_ha; simp (disch := omega) only [up_k]; exact h.2.2.1 7 (by omega) (by omega)
  have e8 : (g_ha A' w p (nI k)) w 8 = A w 8 := by unfold g_ha; simp (disch := omega) only [up_k]; exact h.2.2.1 8 (by omega) (by omega)
  have e9 : (g_ha A' w p (nI k)) w 9 = p := by unfold g_ha; simp (disch := omega) only [up_k, up_s]
  have e10 : (g_ha A' w p (nI k)) w 10 = nI k := by unfold g_ha; simp (disch := omega) only [up_k, up_s]
  have el : g_lo (g_ha A' w p (nI k)) w (nI k) n = g_lo A w (nI k) n := g_lo_c e1 n (fun v _ hv j => by unfold g_ha; simp (disch := omega) only [up_w]; exact h.2.1 v hv j)
  unfold g_hd g_hh g_at
  simp only [e0, e1, e5, e7, e8, e9, e10, el, true_and]
theorem c451 (w : Nat) : 451 + nI w = nI (429 + 22 + w) := nI_add 451 w
theorem c458 (w : Nat) : 458 + nI w = nI (429 + 29 + w) := nI_add 458 w
def Iy (M M1 : mm_M) (n w : Nat) (X : Sx) : Prop := LyM M1 ∧ FB M M1 429 ∧ ∃ A', RB M1 429 n ((A', X.1.2), X.2) ∧ Ey n w X.1.1 A'

set_option maxHeartbeats 8000000 in
theorem k_149 (d : Nat) {n w : Nat} {X : Sx} {M : mm_M} {post : mm_Post} (hn : n ≤ 7) (hw : w < n) (hM : RM M n X.1.1) (y : Int32) (h : ∀ M' u, FB M M' 429 → pK (d + 4) 149 post 11 [some (.inr (.inr (6, 0))), some (.inl (nI w)), some (.inl y), some (.inl (rb X.1.1 n w 984).1), some (.inl (rb X.1.1 n w 984).2), some (.inl (nI 984)), u] [] M' (0, 0)) : ∀ (m k : Nat) (u : Option mm_V) (M1 : mm_M), k + m = 984 → Iy M M1 n w X → pK (d + 4) 149 post 4 [some (.inr (.inr (6, 0))), some (.inl (nI w)), some (.inl y), some (.inl (rb X.1.1 n w k).1), some (.inl (rb X.1.1 n w k).2), some (.inl (nI k)), u] [] M1 (0, 0) := by
  intro m
  induction m with
  | zero =>
    intro k u M1 hk hI
    have e : k = 984 := by omega
    subst e
    rw [eK_149_4]
    simp (disch := omega) only [pw_bipush, pw_goto, pw_iconst, pw_sipush, qw_aload_n0, qw_gf_b, qw_gf_i, qw_gf_r, qw_iadd, qw_iastore, qw_idiv, qw_if_eq, qw_if_icmp_ge, qw_iload5, qw_iload_n1, qw_invokevirtual4, qw_irem, mm_rf_c, mm_rt_v, mm_rt_i, mm_rt_r, mm_alc_n, mm_alc_c, mm_rc_n, mm_rc_c, mm_wd_n, mm_wd_i, mm_wd_l, mm_wd_r, reduceCtorEq, false_implies, implies_true, true_implies, true_or, or_true, false_or, or_false, not_false_eq_true, mm_nl_n, mm_nl_i, mm_nl_r, mm_args_n, mm_args_i, mm_args_l, mm_args_r, mm_pad_0, mm_pad_n, mm_pad_c, List.length_cons, List.length_nil, List.nil_append, List.cons_append, Nat.zero_le, Nat.sub_zero, true_and, and_true, Nat.reduceAdd, Nat.reduceLeDiff, Nat.reduceLT, Nat.reduceSub, Nat.lt_irrefl, Nat.zero_add, Nat.add_zero, Nat.le_refl, k_20, k_10, k_01, ↓mm_if_T, ↓mm_if_F, ↓if10, ↓if00, not_true_eq_false, tf_01, ↓mm_if_tf, ↓mm_if_tn, ↓mm_if_nn, ↓mm_if_t (show (984 : Int32) ≤ nI 984 by decide)]
    exact h M1 _ hI.2.1
  | succ m ih =>
    intro k u M1 hk hI
    obtain ⟨hL, hF, A', hR, hE⟩ := id hI
    have l1 := hL.1.2.2.2.2.2.2.1
    have l2 : mm_L M1 7 11 = 468 := hL.2.2.2.2.2.2.2.1
    have hlt : ¬ (984 : Int32) ≤ nI k := nI_ge (b := 984) (by omega) (by omega)
    have hd24 : nI k / 24 = nI (k / 24) := pk_div (d := 24) (by omega) (by omega) (by omega)
    have hm24 : nI k - nI (k / 24) * 24 = nI (k % 24) := by rw [← hd24]; exact pk_rem (d := 24) (by omega) (by omega) (by omega)
    have nz24 : ¬ (24 : Int32) = 0 := by decide
    have hp : 0 ≤ nI (k / 24) ∧ nI (k / 24) ≤ 40 := ⟨nI_pos' (by omega), nI_le (b := 40) (by omega) (by omega)⟩
    have hq : 0 ≤ nI (k % 24) ∧ nI (k % 24) ≤ 23 := ⟨nI_pos' (by omega), nI_le (b := 23) (by omega) (by omega)⟩
    have key := fun u M1 => ih (k + 1) u M1 (by omega)
    have hun : rb X.1.1 n w (k + 1) = if nv X.1.1 n w k < (rb X.1.1 n w k).2 then (nI k, nv X.1.1 n w k) else rb X.1.1 n w k := rfl
    rw [hun] at key
    have n0 := (wf_5 hE.1 hw).mp hE.2.2.2
    have R2 := RB_ha (show 429 ≤ 429 by omega) hn hR hw n0 (nI (k / 24)) (nI (k % 24))
    have E2 := Ey_ha hw hE hp hq
    have hF2 : FB M (mm_sI (mm_sI M1 7 11 (429 + 22 + w) (nI (k / 24))) 7 11 (429 + 29 + w) (nI (k % 24))) 429 := FB_s (FB_s hF (by omega)) (by omega)
    have hL2 : LyM (mm_sI (mm_sI M1 7 11 (429 + 22 + w) (nI (k / 24))) 7 11 (429 + 29 + w) (nI (k % 24))) := LyM_2 rfl hL
    have I2 : Iy M (mm_sI (mm_sI M1 7 11 (429 + 22 + w) (nI (k / 24))) 7 11 (429 + 29 + w) (nI (k % 24))) n w X := ⟨hL2, hF2, _, R2, E2⟩
    have M2 : RM (mm_sI (mm_sI M1 7 11 (429 + 22 + w) (nI (k / 24))) 7 11 (429 + 29 + w) (nI (k % 24))) n (g_ha A' w (nI (k / 24)) (nI (k % 24))) := RM_c (RM_B hM hF2) (fun v hv j hj => Ey_k E2 v j (by omega))
    have o1 := fun post => y_125 (post := post) d hL2 hn M2 R2 E2.1 hw 1
    dsimp only at o1
    rw [g_hd_ha hE] at o1
    have e9 : (g_ha A' w (nI (k / 24)) (nI (k % 24))) w 9 = nI (k / 24) := by unfold g_ha; simp (disch := omega) only [up_k, up_s]
    have h5 : (g_ha A' w (nI (k / 24)) (nI (k % 24))) w 5 = 2 := by unfold g_ha; simp (disch := omega) only [up_k, up_s]
    have o2 := fun post => y_138 (post := post) (d + 1) hL2 hn M2 R2 E2.1 hw h5 1 0 (by decide)
    dsimp only at o2
    rw [e9, g_ot_c (E2.2.2.1 8 (by omega) (by omega)) n (fun v _ => ⟨Ey_k E2 v 4 (by omega), Ey_k E2 v 1 (by omega)⟩)] at o2
    have env : nv X.1.1 n w k = if g_hh X.1.1 n w (f_lf (X.1.1 w 8) (nI (k / 24)) (X.1.1 w 1)) (k % 24) = 0 then 99 else g_ot X.1.1 w (nI (k / 24)) 0 n := rfl
    generalize rb X.1.1 n w k = Q at *
    by_cases c1 : g_hh X.1.1 n w (f_lf (X.1.1 w 8) (nI (k / 24)) (X.1.1 w 1)) (k % 24) = 0
    · rw [if_pos c1] at env
      rw [env] at key
      by_cases c2 : (99 : Int32) < Q.2
      · rw [if_pos c2] at key
        have c2' := Int32.not_le.mpr c2
        rw [eK_149_4]
        simp (disch := omega) only [eK_149_5, eK_149_6, eK_149_7, eK_149_8, eK_149_9, eK_149_10, pw_bipush, pw_goto, pw_iconst, pw_nop0, pw_sipush, qw_aload_n0, qw_gf_b, qw_gf_i, qw_gf_r, qw_iadd, qw_iastore, qw_idiv, qw_if_eq, qw_if_icmp_ge, qw_iinc5, qw_iload4, qw_iload5, qw_iload6, qw_iload_n1, qw_iload_n3, qw_invokevirtual4, qw_irem, qw_istore4, qw_istore6, qw_istore_n3, mm_rf_c, mm_rt_v, mm_rt_i, mm_rt_r, mm_alc_n, mm_alc_c, mm_rc_n, mm_rc_c, mm_wd_n, mm_wd_i, mm_wd_l, mm_wd_r, reduceCtorEq, false_implies, implies_true, true_implies, true_or, or_true, false_or, or_false, not_false_eq_true, mm_nl_n, mm_nl_i, mm_nl_r, mm_args_n, mm_args_i, mm_args_l, mm_args_r, mm_pad_0, mm_pad_n, mm_pad_c, List.length_cons, List.length_nil, List.nil_append, List.cons_append, Nat.zero_le, Nat.sub_zero, true_and, and_true, Nat.reduceAdd, Nat.reduceLeDiff, Nat.reduceLT, Nat.reduceSub, Nat.lt_irrefl, Nat.zero_add, Nat.add_zero, Nat.le_refl, k_20, k_10, k_01, ↓mm_if_T, ↓mm_if_F, ↓if10, ↓if00, not_true_eq_false, tf_01, ↓mm_if_tf, ↓mm_if_tn, ↓mm_if_nn, ↓mm_if_f hlt, l1, l2, c451, c458, vi_, ci_, mm_L_s, mm_R_s, hd24, hm24, nz24, o1, o2, nI_1, ↓mm_if_t c1, ↓mm_if_f c2']
        exact key _ _ I2
      · rw [if_neg c2] at key
        have c2' := Int32.not_lt.mp c2
        rw [eK_149_4]
        simp (disch := omega) only [eK_149_5, eK_149_6, eK_149_7, eK_149_8, eK_149_9, eK_149_10, pw_bipush, pw_goto, pw_iconst, pw_nop0, pw_sipush, qw_aload_n0, qw_gf_b, qw_gf_i, qw_gf_r, qw_iadd, qw_iastore, qw_idiv, qw_if_eq, qw_if_icmp_ge, qw_iinc5, qw_iload4, qw_iload5, qw_iload6, qw_iload_n1, qw_iload_n3, qw_invokevirtual4, qw_irem, qw_istore4, qw_istore6, qw_istore_n3, mm_rf_c, mm_rt_v, mm_rt_i, mm_rt_r, mm_alc_n, mm_alc_c, mm_rc_n, mm_rc_c, mm_wd_n, mm_wd_i, mm_wd_l, mm_wd_r, reduceCtorEq, false_implies, implies_true, true_implies, true_or, or_true, false_or, or_false, not_false_eq_true, mm_nl_n, mm_nl_i, mm_nl_r, mm_args_n, mm_args_i, mm_args_l, mm_args_r, mm_pad_0, mm_pad_n, mm_pad_c, List.length_cons, List.length_nil, List.nil_append, List.cons_append, Nat.zero_le, Nat.sub_zero, true_and, and_true, Nat.reduceAdd, Nat.reduceLeDiff, Nat.reduceLT, Nat.reduceSub, Nat.lt_irrefl, Nat.zero_add, Nat.add_zero, Nat.le_refl, k_20, k_10, k_01, ↓mm_if_T, ↓mm_if_F, ↓if10, ↓if00, not_true_eq_false, tf_01, ↓mm_if_tf, ↓mm_if_tn, ↓mm_if_nn, ↓mm_if_f hlt, l1, l2, c451, c458, vi_, ci_, mm_L_s, mm_R_s, hd24, hm24, nz24, o1, o2, nI_1, ↓mm_if_t c1, ↓mm_if_t c2']
        exact key _ _ I2
    · rw [if_neg c1] at env
      rw [env] at key
      by_cases c2 : g_ot X.1.1 w (nI (k / 24)) 0 n < Q.2
      · rw [if_pos c2] at key
        have c2' := Int32.not_le.mpr c2
        rw [eK_149_4]
        simp (disch := omega) only [eK_149_5, eK_149_6, eK_149_7, eK_149_8, eK_149_9, eK_149_10, pw_bipush, pw_goto, pw_iconst, pw_nop0, pw_sipush, qw_aload_n0, qw_gf_b, qw_gf_i, qw_gf_r, qw_iadd, qw_iastore, qw_idiv, qw_if_eq, qw_if_icmp_ge, qw_iinc5, qw_iload4, qw_iload5, qw_iload6, qw_iload_n1, qw_iload_n3, qw_invokevirtual4, qw_irem, qw_istore4, qw_istore6, qw_istore_n3, mm_rf_c, mm_rt_v, mm_rt_i, mm_rt_r, mm_alc_n, mm_alc_c, mm_rc_n, mm_rc_c, mm_wd_n, mm_wd_i, mm_wd_l, mm_wd_r, reduceCtorEq, false_implies, implies_true, true_implies, true_or, or_true, false_or, or_false, not_false_eq_true, mm_nl_n, mm_nl_i, mm_nl_r, mm_args_n, mm_args_i, mm_args_l, mm_args_r, mm_pad_0, mm_pad_n, mm_pad_c, List.length_cons, List.length_nil, List.nil_append, List.cons_append, Nat.zero_le, Nat.sub_zero, true_and, and_true, Nat.reduceAdd, Nat.reduceLeDiff, Nat.reduceLT, Nat.reduceSub, Nat.lt_irrefl, Nat.zero_add, Nat.add_zero, Nat.le_refl, k_20, k_10, k_01, ↓mm_if_T, ↓mm_if_F, ↓if10, ↓if00, not_true_eq_false, tf_01, ↓mm_if_tf, ↓mm_if_tn, ↓mm_if_nn, ↓mm_if_f hlt, l1, l2, c451, c458, vi_, ci_, mm_L_s, mm_R_s, hd24, hm24, nz24, o1, o2, nI_1, ↓mm_if_f c1, ↓mm_if_f c2']
        exact key _ _ I2
      · rw [if_neg c2] at key
        have c2' := Int32.not_lt.mp c2
        rw [eK_149_4]
        simp (disch := omega) only [eK_149_5, eK_149_6, eK_149_7, eK_149_8, eK_149_9, eK_149_10, pw_bipush, pw_goto, pw_iconst, pw_nop0, pw_sipush, qw_aload_n0, qw_gf_b, qw_gf_i, qw_gf_r, qw_iadd, qw_iastore, qw_idiv, qw_if_eq, qw_if_icmp_ge, qw_iinc5, qw_iload4, qw_iload5, qw_iload6, qw_iload_n1, qw_iload_n3, qw_invokevirtual4, qw_irem, qw_istore4, qw_istore6, qw_istore_n3, mm_rf_c, mm_rt_v, mm_rt_i, mm_rt_r, mm_alc_n, mm_alc_c, mm_rc_n, mm_rc_c, mm_wd_n, mm_wd_i, mm_wd_l, mm_wd_r, reduceCtorEq, false_implies, implies_true, true_implies, true_or, or_true, false_or, or_false, not_false_eq_true, mm_nl_n, mm_nl_i, mm_nl_r, mm_args_n, mm_args_i, mm_args_l, mm_args_r, mm_pad_0, mm_pad_n, mm_pad_c, List.length_cons, List.length_nil, List.nil_append, List.cons_append, Nat.zero_le, Nat.sub_zero, true_and, and_true, Nat.reduceAdd, Nat.reduceLeDiff, Nat.reduceLT, Nat.reduceSub, Nat.lt_irrefl, Nat.zero_add, Nat.add_zero, Nat.le_refl, k_20, k_10, k_01, ↓mm_if_T, ↓mm_if_F, ↓if10, ↓if00, not_true_eq_false, tf_01, ↓mm_if_tf, ↓mm_if_tn, ↓mm_if_nn, ↓mm_if_f hlt, l1, l2, c451, c458, vi_, ci_, mm_L_s, mm_R_s, hd24, hm24, nz24, o1, o2, nI_1, ↓mm_if_f c1, ↓mm_if_t c2']
        exact key _ _ I2

theorem k_149e (d : Nat) {n w : Nat} {A : Nat → Nat → Int32} (hn : n ≤ 7) {M : mm_M} {post : mm_Post} (y : Int32) (u : Option mm_V) (h : post (some (.inl (if y = 0 then (fb_s A n w 41).1 else if y = 1 then (fb_s A n w 41).2.1 else (fb_s A n w 41).2.2))) M) : pK d 149 post 11 [some (.inr (.inr (6, 0))), some (.inl (nI w)), some (.inl y), some (.inl (rb A n w 984).1), some (.inl (rb A n w 984).2), some (.inl (nI 984)), u] [] M (0, 0) := by
  have nz24 : ¬ (24 : Int32) = 0 := by decide
  rcases rb_fb (A := A) (w := w) hn 41 (by omega) with ⟨f, r⟩ | ⟨bp, bh, j, b1, b2, b3, f, r⟩
  · rw [show 24 * 41 = 984 from rfl] at r
    rw [f] at h
    rw [r]
    have e : (if y = 0 then (-4 : Int32) else if y = 1 then -4 else -4) = -4 := by
      by_cases c : y = 0
      · rw [if_pos c]
      · rw [if_neg c]
        by_cases c1 : y = 1
        · rw [if_pos c1]
        · rw [if_neg c1]
    dsimp only at h
    rw [e] at h
    rw [eK_149_11]
    simp (disch := omega) only [eK_149_15, pw_bipush, pw_goto, qw_if_ge, qw_iload_n3, qw_ireturn, mm_rf_c, mm_rt_v, mm_rt_i, mm_rt_r, mm_alc_n, mm_alc_c, mm_rc_n, mm_rc_c, mm_wd_n, mm_wd_i, mm_wd_l, mm_wd_r, reduceCtorEq, false_implies, implies_true, true_implies, true_or, or_true, false_or, or_false, not_false_eq_true, mm_nl_n, mm_nl_i, mm_nl_r, mm_args_n, mm_args_i, mm_args_l, mm_args_r, mm_pad_0, mm_pad_n, mm_pad_c, List.length_cons, List.length_nil, List.nil_append, List.cons_append, Nat.zero_le, Nat.sub_zero, true_and, and_true, Nat.reduceAdd, Nat.reduceLeDiff, Nat.reduceLT, Nat.reduceSub, Nat.lt_irrefl, Nat.zero_add, Nat.add_zero, Nat.le_refl, k_20, k_10, k_01, ↓mm_if_T, ↓mm_if_F, ↓if10, ↓if00, not_true_eq_false, tf_01, ↓mm_if_tf, ↓mm_if_tn, ↓mm_if_nn, ↓mm_if_f (show ¬ (0 : Int32) ≤ -4 by decide)]
    exact h
  · rw [show 24 * 41 = 984 from rfl] at r
    rw [f] at h
    rw [r]
    dsimp only at h
    have hge : (0 : Int32) ≤ nI (24 * bp + bh) := nI_pos' (by omega)
    have hd24 : nI (24 * bp + bh) / 24 = nI bp := by rw [show (24 : Int32) = nI 24 from rfl, pk_div (by omega) (by omega) (by omega), show (24 * bp + bh) / 24 = bp by omega]
    have hm24 : nI (24 * bp + bh) - nI bp * 24 = nI bh := by
      rw [← hd24, show (24 : Int32) = nI 24 from rfl, pk_rem (by omega) (by omega) (by omega), show (24 * bp + bh) % 24 = bh by omega]
    by_cases c : y = 0
    · rw [if_pos c] at h
      rw [eK_149_11]
      simp (disch := omega) only [eK_149_12, eK_149_13, eK_149_14, eK_149_15, pw_bipush, pw_goto, pw_iconst, pw_nop0, qw_idiv, qw_if_ge, qw_if_icmp_ne, qw_if_ne, qw_iload4, qw_iload_n2, qw_iload_n3, qw_irem, qw_ireturn, mm_rf_c, mm_rt_v, mm_rt_i, mm_rt_r, mm_alc_n, mm_alc_c, mm_rc_n, mm_rc_c, mm_wd_n, mm_wd_i, mm_wd_l, mm_wd_r, reduceCtorEq, false_implies, implies_true, true_implies, true_or, or_true, false_or, or_false, not_false_eq_true, mm_nl_n, mm_nl_i, mm_nl_r, mm_args_n, mm_args_i, mm_args_l, mm_args_r, mm_pad_0, mm_pad_n, mm_pad_c, List.length_cons, List.length_nil, List.nil_append, List.cons_append, Nat.zero_le, Nat.sub_zero, true_and, and_true, Nat.reduceAdd, Nat.reduceLeDiff, Nat.reduceLT, Nat.reduceSub, Nat.lt_irrefl, Nat.zero_add, Nat.add_zero, Nat.le_refl, k_20, k_10, k_01, ↓mm_if_T, ↓mm_if_F, ↓if10, ↓if00, not_true_eq_false, tf_01, ↓mm_if_tf, ↓mm_if_tn, ↓mm_if_nn, ↓mm_if_t hge, ↓mm_if_t c, nz24, hd24]
      exact h
    rw [if_neg c] at h
    by_cases c1 : y = 1
    · rw [if_pos c1] at h
      rw [eK_149_11]
      simp (disch := omega) only [eK_149_12, eK_149_13, eK_149_14, eK_149_15, pw_bipush, pw_goto, pw_iconst, pw_nop0, qw_idiv, qw_if_ge, qw_if_icmp_ne, qw_if_ne, qw_iload4, qw_iload_n2, qw_iload_n3, qw_irem, qw_ireturn, mm_rf_c, mm_rt_v, mm_rt_i, mm_rt_r, mm_alc_n, mm_alc_c, mm_rc_n, mm_rc_c, mm_wd_n, mm_wd_i, mm_wd_l, mm_wd_r, reduceCtorEq, false_implies, implies_true, true_implies, true_or, or_true, false_or, or_false, not_false_eq_true, mm_nl_n, mm_nl_i, mm_nl_r, mm_args_n, mm_args_i, mm_args_l, mm_args_r, mm_pad_0, mm_pad_n, mm_pad_c, List.length_cons, List.length_nil, List.nil_append, List.cons_append, Nat.zero_le, Nat.sub_zero, true_and, and_true, Nat.reduceAdd, Nat.reduceLeDiff, Nat.reduceLT, Nat.reduceSub, Nat.lt_irrefl, Nat.zero_add, Nat.add_zero, Nat.le_refl, k_20, k_10, k_01, ↓mm_if_T, ↓mm_if_F, ↓if10, ↓if00, not_true_eq_false, tf_01, ↓mm_if_tf, ↓mm_if_tn, ↓mm_if_nn, ↓mm_if_t hge, ↓mm_if_f c, ↓mm_if_t c1, nz24, hd24, hm24]
      exact h
    rw [if_neg c1] at h
    rw [eK_149_11]
    simp (disch := omega) only [eK_149_12, eK_149_13, eK_149_14, eK_149_15, pw_bipush, pw_goto, pw_iconst, pw_nop0, qw_idiv, qw_if_ge, qw_if_icmp_ne, qw_if_ne, qw_iload4, qw_iload_n2, qw_iload_n3, qw_irem, qw_ireturn, mm_rf_c, mm_rt_v, mm_rt_i, mm_rt_r, mm_alc_n, mm_alc_c, mm_rc_n, mm_rc_c, mm_wd_n, mm_wd_i, mm_wd_l, mm_wd_r, reduceCtorEq, false_implies, implies_true, true_implies, true_or, or_true, false_or, or_false, not_false_eq_true, mm_nl_n, mm_nl_i, mm_nl_r, mm_args_n, mm_args_i, mm_args_l, mm_args_r, mm_pad_0, mm_pad_n, mm_pad_c, List.length_cons, List.length_nil, List.nil_append, List.cons_append, Nat.zero_le, Nat.sub_zero, true_and, and_true, Nat.reduceAdd, Nat.reduceLeDiff, Nat.reduceLT, Nat.reduceSub, Nat.lt_irrefl, Nat.zero_add, Nat.add_zero, Nat.le_refl, k_20, k_10, k_01, ↓mm_if_T, ↓mm_if_F, ↓if10, ↓if00, not_true_eq_false, tf_01, ↓mm_if_tf, ↓mm_if_tn, ↓mm_if_nn, ↓mm_if_t hge, ↓mm_if_f c, ↓mm_if_f c1]
    exact h
theorem r_149 (d : Nat) {M : mm_M} {post : mm_Post} {n : Nat} {X : Sx} {a : Nat} {P : Nat → Sx} {b : Nat} {K : Nat → Sx} (hJ : J1 M n X a P b K) (hn : n ≤ 7) (ha : a ≤ 8) (hb : b ≤ 2) (hW : WF n X.1.1) (x y : Int32) (h : ∀ M', J1 M' n X a P b K → FY M M' → post (some (.inl (G67 n X x y))) M') : pC (d + 5) 149 [.inr (.inr (6, 0)), .inl x, .inl y] M post := by
  obtain ⟨hL, hM, hR, h9, hP, h10, hK⟩ := id hJ
  unfold G67 at h
  by_cases c1 : isw n x
  · by_cases c2 : 0 ≤ y ∧ y ≤ 2
    · rw [if_pos ⟨c1, c2⟩] at h
      obtain ⟨w, hw, rfl⟩ := isw_of hn c1
      obtain ⟨v1, v2, v3⟩ := nI_v7 hw hn
      rw [v2] at h
      by_cases c4 : 1 ≤ X.1.1 w 5
      · rw [if_pos c4] at h
        simp (disch := omega) only [eC_149, eK_149_0, eK_149_1, eK_149_2, eK_149_3, pw_bipush, pw_iconst, pw_lconst, pw_ldc2_w, pw_nop0, pw_sipush, qw_aload_n0, qw_i2l, qw_if_eq, qw_if_ne, qw_iload_n1, qw_iload_n2, qw_invokestatic3, qw_invokevirtual2, qw_invokevirtual3, qw_ireturn, qw_istore4, qw_istore5, qw_istore_n3, mm_rf_c, mm_rt_v, mm_rt_i, mm_rt_r, mm_alc_n, mm_alc_c, mm_rc_n, mm_rc_c, mm_wd_n, mm_wd_i, mm_wd_l, mm_wd_r, reduceCtorEq, false_implies, implies_true, true_implies, true_or, or_true, false_or, or_false, not_false_eq_true, mm_nl_n, mm_nl_i, mm_nl_r, mm_args_n, mm_args_i, mm_args_l, mm_args_r, mm_pad_0, mm_pad_n, mm_pad_c, List.length_cons, List.length_nil, List.nil_append, List.cons_append, Nat.zero_le, Nat.sub_zero, true_and, and_true, Nat.reduceAdd, Nat.reduceLeDiff, Nat.reduceLT, Nat.reduceSub, Nat.lt_irrefl, Nat.zero_add, Nat.add_zero, Nat.le_refl, k_20, k_10, k_01, ↓mm_if_T, ↓mm_if_F, ↓if10, ↓if00, not_true_eq_false, tf_01, ↓mm_if_tf, ↓mm_if_tn, ↓mm_if_nn, r_106 (d + 2) hM.1, r_97 (d + 3) y 0 2, ↓mm_if_t c1, ↓mm_if_t c2, z_121 (d + 3) hL hn hM hR hW hw, ↓mm_if_t c4]
        refine r_105 (B := 0) (C := 429) (d + 3) hL (by omega) (by omega) (by omega) (fun M1 hF hc => ?_)
        have := k_149 d hn hw hM y (M := M) (post := post) (fun M' u hF => k_149e (d + 4) hn y u (h M' (J1_t hJ hn ha hb hF) (FY_B hF))) 984 0 none M1 (by omega) ⟨LyM_2 hF.1 hL, hF, X.1.1, RB_cp hn hR hc, hW, fun _ _ _ => rfl, fun _ _ _ => rfl, c4⟩
        simp (disch := omega) only [pw_bipush, pw_iconst, pw_nop0, pw_sipush, qw_aload_n0, qw_invokevirtual3, qw_istore4, qw_istore5, qw_istore_n3, mm_rf_c, mm_rt_v, mm_rt_i, mm_rt_r, mm_alc_n, mm_alc_c, mm_rc_n, mm_rc_c, mm_wd_n, mm_wd_i, mm_wd_l, mm_wd_r, reduceCtorEq, false_implies, implies_true, true_implies, true_or, or_true, false_or, or_false, not_false_eq_true, mm_nl_n, mm_nl_i, mm_nl_r, mm_args_n, mm_args_i, mm_args_l, mm_args_r, mm_pad_0, mm_pad_n, mm_pad_c, List.length_cons, List.length_nil, List.nil_append, List.cons_append, Nat.zero_le, Nat.sub_zero, true_and, and_true, Nat.reduceAdd, Nat.reduceLeDiff, Nat.reduceLT, Nat.reduceSub, Nat.lt_irrefl, Nat.zero_add, Nat.add_zero, Nat.le_refl, k_20, k_10, k_01, ↓mm_if_T, ↓mm_if_F, ↓if10, ↓if00, not_true_eq_false, tf_01, ↓mm_if_tf, ↓mm_if_tn, ↓mm_if_nn]
        exact this
      · rw [if_neg c4] at h
        simp (disch := omega) only [eC_149, eK_149_0, eK_149_1, eK_149_2, eK_149_3, pw_bipush, pw_iconst, pw_lconst, pw_ldc2_w, pw_nop0, pw_sipush, qw_aload_n0, qw_i2l, qw_if_eq, qw_if_ne, qw_iload_n1, qw_iload_n2, qw_invokestatic3, qw_invokevirtual2, qw_invokevirtual3, qw_ireturn, qw_istore4, qw_istore5, qw_istore_n3, mm_rf_c, mm_rt_v, mm_rt_i, mm_rt_r, mm_alc_n, mm_alc_c, mm_rc_n, mm_rc_c, mm_wd_n, mm_wd_i, mm_wd_l, mm_wd_r, reduceCtorEq, false_implies, implies_true, true_implies, true_or, or_true, false_or, or_false, not_false_eq_true, mm_nl_n, mm_nl_i, mm_nl_r, mm_args_n, mm_args_i, mm_args_l, mm_args_r, mm_pad_0, mm_pad_n, mm_pad_c, List.length_cons, List.length_nil, List.nil_append, List.cons_append, Nat.zero_le, Nat.sub_zero, true_and, and_true, Nat.reduceAdd, Nat.reduceLeDiff, Nat.reduceLT, Nat.reduceSub, Nat.lt_irrefl, Nat.zero_add, Nat.add_zero, Nat.le_refl, k_20, k_10, k_01, ↓mm_if_T, ↓mm_if_F, ↓if10, ↓if00, not_true_eq_false, tf_01, ↓mm_if_tf, ↓mm_if_tn, ↓mm_if_nn, r_106 (d + 2) hM.1, r_97 (d + 3) y 0 2, ↓mm_if_t c1, ↓mm_if_t c2, z_121 (d + 3) hL hn hM hR hW hw, ↓mm_if_f c4]
        exact h M hJ (FY_rf M)
    · rw [if_neg (fun z => c2 z.2)] at h
      simp (disch := omega) only [eC_149, eK_149_0, eK_149_1, pw_iconst, pw_lconst, pw_ldc2_w, pw_nop0, qw_aload_n0, qw_i2l, qw_if_eq, qw_if_ne, qw_iload_n1, qw_iload_n2, qw_invokestatic3, qw_invokevirtual2, qw_ireturn, mm_rf_c, mm_rt_v, mm_rt_i, mm_rt_r, mm_alc_n, mm_alc_c, mm_rc_n, mm_rc_c, mm_wd_n, mm_wd_i, mm_wd_l, mm_wd_r, reduceCtorEq, false_implies, implies_true, true_implies, true_or, or_true, false_or, or_false, not_false_eq_true, mm_nl_n, mm_nl_i, mm_nl_r, mm_args_n, mm_args_i, mm_args_l, mm_args_r, mm_pad_0, mm_pad_n, mm_pad_c, List.length_cons, List.length_nil, List.nil_append, List.cons_append, Nat.zero_le, Nat.sub_zero, true_and, and_true, Nat.reduceAdd, Nat.reduceLeDiff, Nat.reduceLT, Nat.reduceSub, Nat.lt_irrefl, Nat.zero_add, Nat.add_zero, Nat.le_refl, k_20, k_10, k_01, ↓mm_if_T, ↓mm_if_F, ↓if10, ↓if00, not_true_eq_false, tf_01, ↓mm_if_tf, ↓mm_if_tn, ↓mm_if_nn, r_106 (d + 2) hM.1, r_97 (d + 3) y 0 2, ↓mm_if_t c1, ↓mm_if_f c2]
      exact h M hJ (FY_rf M)
  · rw [if_neg (fun z => c1 z.1)] at h
    simp (disch := omega) only [eC_149, eK_149_0, eK_149_1, pw_iconst, pw_lconst, pw_ldc2_w, pw_nop0, qw_aload_n0, qw_i2l, qw_if_eq, qw_if_ne, qw_iload_n1, qw_iload_n2, qw_invokestatic3, qw_invokevirtual2, qw_ireturn, mm_rf_c, mm_rt_v, mm_rt_i, mm_rt_r, mm_alc_n, mm_alc_c, mm_rc_n, mm_rc_c, mm_wd_n, mm_wd_i, mm_wd_l, mm_wd_r, reduceCtorEq, false_implies, implies_true, true_implies, true_or, or_true, false_or, or_false, not_false_eq_true, mm_nl_n, mm_nl_i, mm_nl_r, mm_args_n, mm_args_i, mm_args_l, mm_args_r, mm_pad_0, mm_pad_n, mm_pad_c, List.length_cons, List.length_nil, List.nil_append, List.cons_append, Nat.zero_le, Nat.sub_zero, true_and, and_true, Nat.reduceAdd, Nat.reduceLeDiff, Nat.reduceLT, Nat.reduceSub, Nat.lt_irrefl, Nat.zero_add, Nat.add_zero, Nat.le_refl, k_20, k_10, k_01, ↓mm_if_T, ↓mm_if_F, ↓if10, ↓if00, not_true_eq_false, tf_01, ↓mm_if_tf, ↓mm_if_tn, ↓mm_if_nn, r_106 (d + 2) hM.1, ↓mm_if_f c1]
    exact h M hJ (FY_rf M)

