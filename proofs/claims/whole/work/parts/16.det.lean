/-! THE SMALL MACHINE has one way: two posts hold together, and none cannot hold -/
theorem mm_pI_2 {st : List mm_V} {k k' k2 : Int32 → List mm_V → Prop} (h : ∀ x s, k x s → k' x s → k2 x s) (q : mm_pI st k) (q' : mm_pI st k') : mm_pI st k2 := by
  unfold mm_pI at *
  split at q <;> first | exact h _ _ q q' | exact q.elim
theorem mm_pL_2 {st : List mm_V} {k k' k2 : Int64 → List mm_V → Prop} (h : ∀ x s, k x s → k' x s → k2 x s) (q : mm_pL st k) (q' : mm_pL st k') : mm_pL st k2 := by
  unfold mm_pL at *
  split at q <;> first | exact h _ _ q q' | exact q.elim
theorem mm_pA_2 {st : List mm_V} {k k' k2 : Nat × Nat → List mm_V → Prop} (h : ∀ x s, k x s → k' x s → k2 x s) (q : mm_pA st k) (q' : mm_pA st k') : mm_pA st k2 := by
  unfold mm_pA at *
  split at q <;> first | exact h _ _ q q' | exact q.elim
theorem mm_pR_2 {c : Nat} {st : List mm_V} {k k' k2 : Nat → List mm_V → Prop} (h : ∀ x s, k x s → k' x s → k2 x s) (q : mm_pR c st k) (q' : mm_pR c st k') : mm_pR c st k2 := mm_pA_2 (fun _ _ z z' => ⟨z.1, h _ _ z.2 z'.2⟩) q q'
theorem mm_p1_2 {st : List mm_V} {k k' k2 : mm_V → List mm_V → Prop} (h : ∀ x s, k x s → k' x s → k2 x s) (q : mm_p1 st k) (q' : mm_p1 st k') : mm_p1 st k2 := by
  unfold mm_p1 at *
  split at q <;> first | exact h _ _ q q' | exact q.elim
theorem mm_pN_2 {k k' k2 : List mm_V → List mm_V → Prop} (h : ∀ x s, k x s → k' x s → k2 x s) : ∀ (n : Nat) (acc st : List mm_V), mm_pN n acc st k → mm_pN n acc st k' → mm_pN n acc st k2
  | 0, _, _, q, q' => h _ _ q q'
  | n + 1, acc, [], q, _ => q.elim
  | n + 1, acc, v :: s, q, q' => mm_pN_2 h n (v :: acc) s q q'
theorem mm_lI_2 {o : Option mm_V} {k k' k2 : Int32 → Prop} (h : ∀ x, k x → k' x → k2 x) (q : mm_lI o k) (q' : mm_lI o k') : mm_lI o k2 := by
  unfold mm_lI at *
  split at q <;> first | exact h _ q q' | exact q.elim
theorem mm_lL_2 {o : Option mm_V} {k k' k2 : Int64 → Prop} (h : ∀ x, k x → k' x → k2 x) (q : mm_lL o k) (q' : mm_lL o k') : mm_lL o k2 := by
  unfold mm_lL at *
  split at q <;> first | exact h _ q q' | exact q.elim
theorem mm_lA_2 {o : Option mm_V} {k k' k2 : Nat × Nat → Prop} (h : ∀ x, k x → k' x → k2 x) (q : mm_lA o k) (q' : mm_lA o k') : mm_lA o k2 := by
  unfold mm_lA at *
  split at q <;> first | exact h _ q q' | exact q.elim
theorem mm_rf_2 {o : Option Nat} {c' : Nat} {k k' k2 : mm_V → Prop} (h : ∀ x, k x → k' x → k2 x) (q : mm_rf o c' k) (q' : mm_rf o c' k') : mm_rf o c' k2 := by
  unfold mm_rf at *
  split at q <;> first | exact h _ q q' | exact q.elim
theorem mm_gf_2 {o : Option (Option Nat)} {M : mm_M} {c i b : Nat} {k k' k2 : mm_V → Prop} (h : ∀ x, k x → k' x → k2 x) (q : mm_gf o M c i b k) (q' : mm_gf o M c i b k') : mm_gf o M c i b k2 := by
  revert q q'
  match o with
  | none => exact fun q q' => h _ q q'
  | some none => exact fun q q' => h _ q q'
  | some (some c') =>
    simp only [mm_gf_r]
    exact fun q q' => mm_rf_2 h q q'
theorem mm_pf_2 {o : Option (Option Nat)} {st : List mm_V} {M : mm_M} {c b : Nat} {k k' k2 : mm_M → List mm_V → Prop} (h : ∀ M s, k M s → k' M s → k2 M s) (q : mm_pf o st M c b k) (q' : mm_pf o st M c b k') : mm_pf o st M c b k2 := by
  revert q q'
  match o with
  | none => exact fun q q' => mm_pI_2 (fun _ _ q q' => mm_pR_2 (fun _ _ q q' => h _ _ q q') q q') q q'
  | some none => exact fun q q' => mm_pI_2 (fun _ _ q q' => mm_pR_2 (fun _ _ q q' => ⟨q.1, h _ _ q.2 q'.2⟩) q q') q q'
  | some (some c') =>
    simp only [mm_pf_r]
    exact fun q q' => mm_pR_2 (fun _ _ q q' => mm_pR_2 (fun _ _ q q' => h _ _ q q') q q') q q'
theorem mm_rt_2 {o : Option (Option Nat)} {r : Option mm_V} {k k' k2 : List mm_V → Prop} (h : ∀ x, k x → k' x → k2 x) (q : mm_rt o r k) (q' : mm_rt o r k') : mm_rt o r k2 := by
  unfold mm_rt at *
  split at q <;> first | exact h _ q q' | exact ⟨q.1, h _ q.2 q'.2⟩ | exact q.elim
theorem mm_if_2 {c A B A' B' A2 B2 : Prop} (ha : A → A' → A2) (hb : B → B' → B2) (q : mm_if c A B) (q' : mm_if c A' B') : mm_if c A2 B2 := ⟨fun z => ha (q.1 z) (q'.1 z), fun z => hb (q.2 z) (q'.2 z)⟩
theorem mm_sw_2 {d : Nat} {x : Int32} {K K' K2 : Nat → Prop} (h : ∀ j, K j → K' j → K2 j) : ∀ (ts : List (Int32 × Nat)), mm_sw ts d x K → mm_sw ts d x K' → mm_sw ts d x K2
  | [], q, q' => h _ q q'
  | _ :: t, q, q' => mm_if_2 (h _) (mm_sw_2 h t) q q'
theorem mm_w_2 {call : Nat → List mm_V → mm_M → mm_Post → Prop} (hc : ∀ k as M (P P' : mm_Post), (∀ r M, P r M → P' r M) → call k as M P → call k as M P') (hd : ∀ k as M (P P' : mm_Post), call k as M P → call k as M P' → call k as M (fun r M => P r M ∧ P' r M)) {J J' J2 : Nat → mm_LS → List mm_V → mm_M → mm_B → Prop} (hJ : ∀ j ls st M bu, J j ls st M bu → J' j ls st M bu → J2 j ls st M bu) {P P' P2 : mm_Post} (hP : ∀ r M, P r M → P' r M → P2 r M) :
    ∀ (c : List mm_Ins) (ls : mm_LS) (st : List mm_V) (M : mm_M) (bu : mm_B), mm_w call J P c ls st M bu → mm_w call J' P' c ls st M bu → mm_w call J2 P2 c ls st M bu := by
  intro c
  induction c with
  | nil => intro ls st M bu q q'; exact q
  | cons q0 c ih =>
    obtain ⟨pc, len, ins, a, b, o, v, ts⟩ := q0
    intro ls st M bu q q'
    cases ins
    case nop =>
      revert q q'
      match a with
      | 0 => exact fun q q' => hJ _ _ _ _ _ q q'
      | 1 => exact fun q q' => mm_pI_2 (fun _ _ q q' => mm_pI_2 (fun _ _ q q' => ⟨q.1, ih _ _ _ _ q.2 q'.2⟩) q q') q q'
      | 2 => exact fun q q' => mm_pA_2 (fun _ _ q q' => ⟨q.1, ih _ _ _ _ q.2 q'.2⟩) q q'
      | 3 =>
        simp only [mm_w]
        exact fun q q' => mm_pR_2 (fun _ _ q q' => ⟨q.1, ih _ _ _ _ q.2 q'.2⟩) q q'
      | 4 =>
        simp only [mm_w]
        exact fun q q' => mm_pI_2 (fun _ _ q q' => mm_pR_2 (fun _ _ q q' => ⟨q.1, q.2.1, ih _ _ _ _ q.2.2 q'.2.2⟩) q q') q q'
      | 5 => exact fun q q' => ⟨q.1, ih _ _ _ _ q.2 q'.2⟩
      | _ + 6 => exact fun q _ => q.elim
    all_goals simp only [mm_w] at q q' ⊢
    all_goals first
      | exact ih _ _ _ _ q q'
      | exact hJ _ _ _ _ _ q q'
      | exact mm_lI_2 (fun _ q q' => ih _ _ _ _ q q') q q'
      | exact mm_lL_2 (fun _ q q' => ih _ _ _ _ q q') q q'
      | exact mm_lA_2 (fun _ q q' => ih _ _ _ _ q q') q q'
      | exact mm_lI_2 (fun _ q q' => ⟨q.1, q.2.1, ih _ _ _ _ q.2.2 q'.2.2⟩) q q'
      | exact mm_pI_2 (fun _ _ q q' => ⟨q.1, q.2.1, ih _ _ _ _ q.2.2 q'.2.2⟩) q q'
      | exact mm_pL_2 (fun _ _ q q' => ⟨q.1, q.2.1, ih _ _ _ _ q.2.2 q'.2.2⟩) q q'
      | exact mm_pA_2 (fun _ _ q q' => ⟨q.1, q.2.1, ih _ _ _ _ q.2.2 q'.2.2⟩) q q'
      | exact mm_pI_2 (fun _ _ q q' => mm_pI_2 (fun _ _ q q' => ih _ _ _ _ q q') q q') q q'
      | exact mm_pI_2 (fun _ _ q q' => mm_pI_2 (fun _ _ q q' => ⟨q.1, ih _ _ _ _ q.2 q'.2⟩) q q') q q'
      | exact mm_pI_2 (fun _ _ q q' => ih _ _ _ _ q q') q q'
      | exact mm_pL_2 (fun _ _ q q' => mm_pL_2 (fun _ _ q q' => ih _ _ _ _ q q') q q') q q'
      | exact mm_pL_2 (fun _ _ q q' => mm_pL_2 (fun _ _ q q' => ⟨q.1, ih _ _ _ _ q.2 q'.2⟩) q q') q q'
      | exact mm_pL_2 (fun _ _ q q' => ih _ _ _ _ q q') q q'
      | exact mm_p1_2 (fun _ _ q q' => ih _ _ _ _ q q') q q'
      | exact mm_p1_2 (fun _ _ q q' => mm_p1_2 (fun _ _ q q' => ih _ _ _ _ q q') q q') q q'
      | exact mm_pI_2 (fun _ _ q q' => mm_if_2 (hJ _ _ _ _ _) (ih _ _ _ _) q q') q q'
      | exact mm_pI_2 (fun _ _ q q' => mm_pI_2 (fun _ _ q q' => mm_if_2 (hJ _ _ _ _ _) (ih _ _ _ _) q q') q q') q q'
      | exact mm_pI_2 (fun _ _ q q' => mm_sw_2 (fun _ q q' => hJ _ _ _ _ _ q q') _ q q') q q'
      | exact mm_pR_2 (fun _ _ q q' => mm_gf_2 (fun _ q q' => ih _ _ _ _ q q') q q') q q'
      | exact mm_pf_2 (fun _ _ q q' => ih _ _ _ _ q q') q q'
      | exact mm_pI_2 (fun _ _ q q' => mm_pR_2 (fun _ _ q q' => ⟨q.1, ih _ _ _ _ q.2 q'.2⟩) q q') q q'
      | exact mm_pI_2 (fun _ _ q q' => mm_pR_2 (fun _ _ q q' => ⟨q.1, mm_rf_2 (fun _ q q' => ih _ _ _ _ q q') q.2 q'.2⟩) q q') q q'
      | exact mm_pI_2 (fun _ _ q q' => mm_pI_2 (fun _ _ q q' => mm_pR_2 (fun _ _ q q' => ⟨q.1, ih _ _ _ _ q.2 q'.2⟩) q q') q q') q q'
      | exact mm_pR_2 (fun _ _ q q' => mm_pI_2 (fun _ _ q q' => mm_pR_2 (fun _ _ q q' => ⟨q.1, ih _ _ _ _ q.2 q'.2⟩) q q') q q') q q'
      | exact mm_pR_2 (fun _ _ q q' => ih _ _ _ _ q q') q q'
      | exact ⟨q.1, q.2.1, ih _ _ _ _ q.2.2 q'.2.2⟩
      | exact mm_pI_2 (fun _ _ q q' => ⟨q.1, q.2.1, q.2.2.1, q.2.2.2.1, ih _ _ _ _ q.2.2.2.2 q'.2.2.2.2⟩) q q'
      | exact mm_pN_2 (fun _ _ q q' => ⟨q.1, q.2.1, q.2.2.1, q.2.2.2.1, hc _ _ _ _ _ (fun _ _ z => mm_rt_2 (fun _ q q' => ih _ _ _ _ q q') z.1 z.2) (hd _ _ _ _ _ q.2.2.2.2 q'.2.2.2.2)⟩) _ _ _ q q'
      | exact mm_pI_2 (fun _ _ q q' => ⟨q.1, q.2.1, hP _ _ q.2.2 q'.2.2⟩) q q'
      | exact mm_pA_2 (fun _ _ q q' => ⟨q.1, hP _ _ q.2 q'.2⟩) q q'
      | exact ⟨q.1, hP _ _ q.2 q'.2⟩
theorem mm_gf_e {o : Option (Option Nat)} {M : mm_M} {c i b : Nat} {k : mm_V → Prop} (q : mm_gf o M c i b k) : ∃ x, k x := by
  revert q
  match o with
  | none => exact fun q => ⟨_, q⟩
  | some none => exact fun q => ⟨_, q⟩
  | some (some c') =>
    simp only [mm_gf_r]
    exact fun q => by obtain ⟨j, -, h⟩ := mm_rf_e q; exact ⟨_, h⟩
theorem mm_pf_e {o : Option (Option Nat)} {st : List mm_V} {M : mm_M} {c b : Nat} {k : mm_M → List mm_V → Prop} (q : mm_pf o st M c b k) : ∃ M' s, k M' s := by
  revert q
  match o with
  | none => exact fun q => by obtain ⟨x, s, -, q⟩ := mm_pI_e q; obtain ⟨i, s, -, q⟩ := mm_pR_e q; exact ⟨_, _, q⟩
  | some none => exact fun q => by obtain ⟨x, s, -, q⟩ := mm_pI_e q; obtain ⟨i, s, -, q⟩ := mm_pR_e q; exact ⟨_, _, q.2⟩
  | some (some c') =>
    simp only [mm_pf_r]
    exact fun q => by obtain ⟨x, s, -, q⟩ := mm_pR_e q; obtain ⟨i, s, -, q⟩ := mm_pR_e q; exact ⟨_, _, q⟩
theorem mm_if_n {c A B : Prop} (ha : ¬ A) (hb : ¬ B) (q : mm_if c A B) : False := by
  by_cases h : c
  · exact ha (q.1 h)
  · exact hb (q.2 h)
theorem mm_sw_n0 {d : Nat} {x : Int32} {K : Nat → Prop} (h : ∀ j, ¬ K j) (ts : List (Int32 × Nat)) (q : mm_sw ts d x K) : False := by
  rcases sn_sw_e q with ⟨r, -, -, q⟩ | ⟨-, q⟩
  · exact h _ q
  · exact h _ q
theorem mm_w_0 {call : Nat → List mm_V → mm_M → mm_Post → Prop} (hc : ∀ k as M (P P' : mm_Post), (∀ r M, P r M → P' r M) → call k as M P → call k as M P') (hd : ∀ k as M, ¬ call k as M (fun _ _ => False)) :
    ∀ (c : List mm_Ins) (ls : mm_LS) (st : List mm_V) (M : mm_M) (bu : mm_B), mm_w call (fun _ _ _ _ _ => False) (fun _ _ => False) c ls st M bu → False := by
  intro c
  induction c with
  | nil => intro ls st M bu q; exact q
  | cons q0 c ih =>
    obtain ⟨pc, len, ins, a, b, o, v, ts⟩ := q0
    intro ls st M bu q
    cases ins
    case nop =>
      revert q
      match a with
      | 0 => exact fun q => q
      | 1 => exact fun q => by obtain ⟨x, s, -, q⟩ := mm_pI_e q; obtain ⟨x, s, -, q⟩ := mm_pI_e q; exact ih _ _ _ _ q.2
      | 2 => exact fun q => by obtain ⟨x, s, -, q⟩ := mm_pA_e q; exact ih _ _ _ _ q.2
      | 3 =>
        simp only [mm_w]
        exact fun q => by obtain ⟨x, s, -, q⟩ := mm_pR_e q; exact ih _ _ _ _ q.2
      | 4 =>
        simp only [mm_w]
        exact fun q => by obtain ⟨x, s, -, q⟩ := mm_pI_e q; obtain ⟨x, s, -, q⟩ := mm_pR_e q; exact ih _ _ _ _ q.2.2
      | 5 => exact fun q => ih _ _ _ _ q.2
      | _ + 6 => exact fun q => q
    case ireturn =>
      simp only [mm_w] at q
      obtain ⟨x, s, -, q2⟩ := mm_pI_e q
      exact q2.2.2
    case areturn =>
      simp only [mm_w] at q
      obtain ⟨x, s, -, q2⟩ := mm_pA_e q
      exact q2.2
    case return_ =>
      simp only [mm_w] at q
      exact q.2
    all_goals simp only [mm_w] at q
    all_goals first
      | exact ih _ _ _ _ q
      | exact q
      | (obtain ⟨x, -, q⟩ := mm_lI_e q; exact ih _ _ _ _ q)
      | (obtain ⟨x, -, q⟩ := mm_lL_e q; exact ih _ _ _ _ q)
      | (obtain ⟨x, -, q⟩ := mm_lA_e q; exact ih _ _ _ _ q)
      | (obtain ⟨x, -, q⟩ := mm_lI_e q; exact ih _ _ _ _ q.2.2)
      | (obtain ⟨x, s, -, q⟩ := mm_pI_e q; exact ih _ _ _ _ q.2.2)
      | (obtain ⟨x, s, -, q⟩ := mm_pL_e q; exact ih _ _ _ _ q.2.2)
      | (obtain ⟨x, s, -, q⟩ := mm_pA_e q; exact ih _ _ _ _ q.2.2)
      | (obtain ⟨x, s, -, q⟩ := mm_pI_e q; obtain ⟨x, s, -, q⟩ := mm_pI_e q; exact ih _ _ _ _ q)
      | (obtain ⟨x, s, -, q⟩ := mm_pI_e q; obtain ⟨x, s, -, q⟩ := mm_pI_e q; exact ih _ _ _ _ q.2)
      | (obtain ⟨x, s, -, q⟩ := mm_pI_e q; exact ih _ _ _ _ q)
      | (obtain ⟨x, s, -, q⟩ := mm_pL_e q; obtain ⟨x, s, -, q⟩ := mm_pL_e q; exact ih _ _ _ _ q)
      | (obtain ⟨x, s, -, q⟩ := mm_pL_e q; obtain ⟨x, s, -, q⟩ := mm_pL_e q; exact ih _ _ _ _ q.2)
      | (obtain ⟨x, s, -, q⟩ := mm_pL_e q; exact ih _ _ _ _ q)
      | (obtain ⟨x, s, -, -, q⟩ := mm_p1_e q; exact ih _ _ _ _ q)
      | (obtain ⟨x, s, -, -, q⟩ := mm_p1_e q; obtain ⟨x, s, -, -, q⟩ := mm_p1_e q; exact ih _ _ _ _ q)
      | (obtain ⟨x, s, -, q⟩ := mm_pI_e q; exact mm_if_n id (ih _ _ _ _) q)
      | (obtain ⟨x, s, -, q⟩ := mm_pI_e q; obtain ⟨x, s, -, q⟩ := mm_pI_e q; exact mm_if_n id (ih _ _ _ _) q)
      | (obtain ⟨x, s, -, q⟩ := mm_pI_e q; exact mm_sw_n0 (fun _ => id) _ q)
      | (obtain ⟨x, s, -, q⟩ := mm_pR_e q; obtain ⟨x, q⟩ := mm_gf_e q; exact ih _ _ _ _ q)
      | (obtain ⟨M2, s, q⟩ := mm_pf_e q; exact ih _ _ _ _ q)
      | (obtain ⟨x, s, -, q⟩ := mm_pI_e q; obtain ⟨x, s, -, q⟩ := mm_pR_e q; exact ih _ _ _ _ q.2)
      | (obtain ⟨x, s, -, q⟩ := mm_pI_e q; obtain ⟨x, s, -, q⟩ := mm_pR_e q; obtain ⟨j, -, q⟩ := mm_rf_e q.2; exact ih _ _ _ _ q)
      | (obtain ⟨x, s, -, q⟩ := mm_pI_e q; obtain ⟨x, s, -, q⟩ := mm_pI_e q; obtain ⟨x, s, -, q⟩ := mm_pR_e q; exact ih _ _ _ _ q.2)
      | (obtain ⟨x, s, -, q⟩ := mm_pR_e q; obtain ⟨x, s, -, q⟩ := mm_pI_e q; obtain ⟨x, s, -, q⟩ := mm_pR_e q; exact ih _ _ _ _ q.2)
      | (obtain ⟨x, s, -, q⟩ := mm_pR_e q; exact ih _ _ _ _ q)
      | exact ih _ _ _ _ q.2.2
      | (obtain ⟨x, s, -, q⟩ := mm_pI_e q; exact ih _ _ _ _ q.2.2.2.2)
      | (obtain ⟨x, s, -, -, q⟩ := mm_pN_e _ _ _ q; exact hd _ _ _ (hc _ _ _ _ _ (fun _ _ z => ih _ _ _ _ (mm_rt_e z)) q.2.2.2.2))
theorem mm_call_2 (al : Nat → mm_B) (B : Nat → Nat → List mm_Ins) (mx : Nat → Nat) : ∀ (d k : Nat) (as : List mm_V) (M : mm_M) (P P' : mm_Post), mm_call al B mx d k as M P → mm_call al B mx d k as M P' → mm_call al B mx d k as M (fun r M => P r M ∧ P' r M)
  | 0, _, _, _, _, _, q, _ => q
  | d + 1, k, as, M, P, P', q, q' => by
    refine ⟨q.1, ?_⟩
    have h1 := q.2 (fun j ls st M bu => mm_blk (mm_call al B mx d) (B k) P' j ls st M bu → mm_blk (mm_call al B mx d) (B k) (fun r M => P r M ∧ P' r M) j ls st M bu) (fun j ls st M bu hw hb => ?_)
    · exact h1 q'.2
    · have hb' := mm_blk_out (mm_call_m al B mx d) hb
      exact mm_blk_in (mm_call_m al B mx d) (mm_w_2 (mm_call_m al B mx d) (mm_call_2 al B mx d) (fun _ _ _ _ _ z z' => z z') (fun _ _ z z' => ⟨z, z'⟩) _ _ _ _ _ hw hb')
theorem mm_call_0 (al : Nat → mm_B) (B : Nat → Nat → List mm_Ins) (mx : Nat → Nat) : ∀ (d k : Nat) (as : List mm_V) (M : mm_M), ¬ mm_call al B mx d k as M (fun _ _ => False)
  | 0, _, _, _, q => q
  | d + 1, k, as, M, q => q.2 (fun _ _ _ _ _ => False) (fun j ls st M bu hw => mm_w_0 (mm_call_m al B mx d) (mm_call_0 al B mx d) _ _ _ _ _ hw)
/-- what a call answers is one thing -/
theorem pC_one {d k : Nat} {as : List mm_V} {M : mm_M} {r : Option mm_V} {M' : mm_M} (h : ∀ post : mm_Post, post r M' → pC d k as M post) (post : mm_Post) : pC d k as M post = post r M' := by
  refine propext ⟨fun q => ?_, h post⟩
  have h1 := mm_call_2 pAl pB pMx d k as M _ _ q (h (fun r2 M2 => r2 = r ∧ M2 = M') ⟨rfl, rfl⟩)
  have h2 := mm_call_m pAl pB pMx d k as M _ (fun _ _ => post r M') (fun r2 M2 z => by obtain ⟨z1, z2, z3⟩ := z; subst z2; subst z3; exact z1) h1
  by_cases hp : post r M'
  · exact hp
  · exact absurd (mm_call_m pAl pB pMx d k as M _ (fun _ _ => False) (fun _ _ z => hp z) h2) (mm_call_0 pAl pB pMx d k as M)

