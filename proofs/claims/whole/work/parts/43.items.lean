/-! THE CLASS: items of the text -/
/-- alike, but for what no bell has -/
def Eqv (n : Nat) (A B : Nat → Nat → Int32) : Prop := ∀ w, w < n → (∀ k, k < 6 → A w k = B w k) ∧ (¬ A w 5 = 0 → ∀ k, k < 11 → A w k = B w k)
theorem Eqv_rf (n : Nat) (A : Nat → Nat → Int32) : Eqv n A A := fun _ _ => ⟨fun _ _ => rfl, fun _ _ _ => rfl⟩
def a_w (A : Nat → Nat → Int32) (n : Nat) (a : Nat → Int32) : Nat → Nat → Int32 := up (up (up (up (up (up A n 0 (a 0)) n 1 (a 1)) n 2 (a 2)) n 3 0) n 4 0) n 5 0
def a_b (A : Nat → Nat → Int32) (w : Nat) (a : Nat → Int32) : Nat → Nat → Int32 := up (up (up (up (up (up (up A w 6 (a 1)) w 7 (a 2)) w 8 (f_lo (a 1) (a 2))) w 5 1) w 9 (a 3)) w 10 (a 4)) w 5 2
def p_it (L : Nat → Int32) (p : Nat) (Z : Nat × St) : Option ((Nat × St) × Nat) :=
  if L p = 119 then match p_ns L 3 3 (fun _ => 0) (p + 1) with
    | none => none
    | some (a, q) => if (0 ≤ a 0 ∧ a 0 ≤ 3) ∧ (0 ≤ a 1 ∧ a 1 ≤ 40) ∧ (1 ≤ a 2 ∧ a 2 ≤ 20) ∧ Z.1 < 7 then some ((Z.1 + 1, (a_w Z.2.1 Z.1 a, Z.2.2)), q) else none
  else if L p = 109 then match p_ns L 2 2 (fun _ => 0) (p + 1) with
    | none => none
    | some (a, q) => some ((Z.1, (Z.2.1, (a 0, a 1))), q)
  else if L p = 98 then match p_ns L 5 5 (fun _ => 0) (p + 1) with
    | none => none
    | some (a, q) => if (isw Z.1 (a 0) ∧ ¬ 1 ≤ Z.2.1 (a 0).toNatClampNeg 5) ∧ (1 ≤ a 1 ∧ a 1 ≤ 30) ∧ (0 ≤ a 2 ∧ a 2 ≤ 30) ∧ (0 ≤ a 3 ∧ a 3 ≤ 40) ∧ (0 ≤ a 4 ∧ a 4 ≤ 23) then some ((Z.1, (a_b Z.2.1 (a 0).toNatClampNeg a, Z.2.2)), q) else none
  else none
theorem b7_dg : ∀ x : Int32, 48 ≤ x ∧ x ≤ 57 → ∃ k, k ≤ 9 ∧ x = nI (48 + k) := by
  intro x h
  obtain ⟨N, hN, rfl⟩ := nI_of2 (M := 57) (n := 57) (by decide) (Int32.not_lt.mpr (Int32.le_trans (by decide) h.1)) h.2
  have := (nI_leI (a := 48) (by omega) (by omega)).mp h.1
  exact ⟨N - 48, by omega, by rw [show 48 + (N - 48) = N by omega]⟩
theorem p_n_v {L : Nat → Int32} {p : Nat} {v : Int32} {q : Nat} (h : p_n L p = some (v, q)) : (∃ k, k ≤ 99 ∧ v = nI k) ∧ p < q ∧ q ≤ p + 2 := by
  unfold p_n at h
  split at h
  · rename_i h1
    obtain ⟨k, hk, e⟩ := b7_dg _ h1
    split at h
    · rename_i h2
      obtain ⟨k', hk', e'⟩ := b7_dg _ h2
      simp only [Option.some.injEq, Prod.mk.injEq] at h
      refine ⟨⟨10 * k + k', by omega, ?_⟩, by omega, by omega⟩
      rw [← h.1, e, e', show nI (48 + k) - 48 = nI k from (pk_sub (b := 48) (by omega)).trans (by rw [show 48 + k - 48 = k by omega]), show (10 : Int32) * nI k = nI (10 * k) from pk_mul 10 k, nI_add, show nI (10 * k + (48 + k')) - 48 = nI (10 * k + k') from (pk_sub (b := 48) (by omega)).trans (by rw [show 10 * k + (48 + k') - 48 = 10 * k + k' by omega])]
    · simp only [Option.some.injEq, Prod.mk.injEq] at h
      refine ⟨⟨k, by omega, ?_⟩, by omega, by omega⟩
      rw [← h.1, e]
      exact (pk_sub (b := 48) (by omega)).trans (by rw [show 48 + k - 48 = k by omega])
  · exact absurd h (by simp)
theorem p_ns_v {t : Nat} {lt : Nat → Int32} {many : Nat} : ∀ (m : Nat) (a : Nat → Int32) (p : Nat) (a' : Nat → Int32) (q : Nat), p_ns (lL t lt) many m a p = some (a', q) → (∀ i, ∃ k, k ≤ 99 ∧ a i = nI k) → (∀ i, ∃ k, k ≤ 99 ∧ a' i = nI k) ∧ p ≤ q ∧ (0 < m → q ≤ t)
  | 0, a, p, a', q, h, ha => by
    simp only [p_ns, Option.some.injEq, Prod.mk.injEq] at h
    rw [← h.1]
    exact ⟨ha, by omega, by omega⟩
  | m + 1, a, p, a', q, h, ha => by
    unfold p_ns at h
    split at h
    · exact absurd h (by simp)
    · rename_i v q1 hv
      obtain ⟨hk, l1, l2⟩ := p_n_v hv
      by_cases hs : lL t lt q1 = (if m = 0 then 59 else 44)
      · rw [if_pos hs] at h
        obtain ⟨r1, r2, r3⟩ := p_ns_v m _ _ _ _ h (fun i => by
          unfold fu
          split
          · exact hk
          · exact ha i)
        refine ⟨r1, by omega, fun _ => ?_⟩
        by_cases m0 : m = 0
        · subst m0
          simp only [p_ns, Option.some.injEq, Prod.mk.injEq] at h
          have : q1 < t := by
            by_cases z : q1 < t
            · exact z
            · unfold lL at hs
              rw [if_neg z, if_pos rfl] at hs
              exact absurd hs (by decide)
          omega
        · exact r3 (by omega)
      · rw [if_neg hs] at h
        exact absurd h (by simp)

