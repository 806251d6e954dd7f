/-! THE CLASS: what is told is well formed -/
theorem WF_E {n : Nat} {A B : Nat → Nat → Int32} (h : WF n B) (e : Eqv n A B) : WF n A := by
  intro w hw
  obtain ⟨e1, e2⟩ := e w hw
  obtain ⟨h1, h2, h3, h4, h5, h6⟩ := h w hw
  rw [← e1 0 (by omega)] at h1
  rw [← e1 1 (by omega)] at h2
  rw [← e1 4 (by omega)] at h3
  rw [← e1 5 (by omega)] at h4 h5 h6
  refine ⟨h1, h2, h3, h4, fun z => ?_, fun z => ?_⟩
  · rw [e2 z 6 (by omega), e2 z 7 (by omega), e2 z 8 (by omega)]; exact h5 z
  · have z0 : ¬ A w 5 = 0 := by rw [z]; decide
    rw [e2 z0 9 (by omega), e2 z0 10 (by omega)]; exact h6 z
theorem WF_aw {n : Nat} {A : Nat → Nat → Int32} {a : Nat → Int32} (h : WF n A) (h0 : 0 ≤ a 0 ∧ a 0 ≤ 3) (h1 : 0 ≤ a 1 ∧ a 1 ≤ 40) : WF (n + 1) (a_w A n a) := by
  intro w hw
  by_cases e : w = n
  · subst e
    simp [a_w, up, h0, h1]
  · have hB : ∀ k, a_w A n a w k = A w k := fun k => by simp [a_w, up, e]
    simp only [hB]
    exact h w (by omega)
theorem WF_ab {n x : Nat} {A : Nat → Nat → Int32} {a : Nat → Int32} (h : WF n A) (h1 : 1 ≤ a 1 ∧ a 1 ≤ 30) (h2 : 0 ≤ a 2 ∧ a 2 ≤ 30) (h3 : 0 ≤ a 3 ∧ a 3 ≤ 40) (h4 : 0 ≤ a 4 ∧ a 4 ≤ 23) : WF n (a_b A x a) := by
  intro w hw
  have q := h w hw
  by_cases e : w = x
  · subst e
    simp [a_b, up, h1, h2, h3, h4, q.1, q.2.1, q.2.2.1]
  · have hB : ∀ k, a_b A x a w k = A w k := fun k => by simp [a_b, up, e]
    simp only [hB]
    exact q
theorem WF_it {L : Nat → Int32} {p : Nat} {Z Z' : Nat × St} {q : Nat} (h : p_it L p Z = some (Z', q)) (hW : WF Z.1 Z.2.1) : WF Z'.1 Z'.2.1 := by
  unfold p_it at h
  split at h
  · split at h
    · exact absurd h (by simp)
    · split at h
      · rename_i hv
        simp only [Option.some.injEq, Prod.mk.injEq] at h
        rw [← h.1]
        exact WF_aw hW hv.1 hv.2.1
      · exact absurd h (by simp)
  · split at h
    · split at h
      · exact absurd h (by simp)
      · simp only [Option.some.injEq, Prod.mk.injEq] at h
        rw [← h.1]
        exact hW
    · split at h
      · split at h
        · exact absurd h (by simp)
        · split at h
          · rename_i hv
            simp only [Option.some.injEq, Prod.mk.injEq] at h
            rw [← h.1]
            exact WF_ab hW hv.2.1 hv.2.2.1 hv.2.2.2.1 hv.2.2.2.2
          · exact absurd h (by simp)
      · exact absurd h (by simp)
theorem WF_rd {L : Nat → Int32} {t : Nat} : ∀ (m p : Nat) (Z Z' : Nat × St), p_rd L t m p Z = .inl Z' → WF Z.1 Z.2.1 → WF Z'.1 Z'.2.1
  | 0, p, Z, Z', h, hW => by
    simp only [p_rd, Sum.inl.injEq] at h
    rw [← h]; exact hW
  | m + 1, p, Z, Z', h, hW => by
    unfold p_rd at h
    split at h
    · split at h
      · exact absurd h (by simp)
      · rename_i hi
        exact WF_rd m _ _ _ h (WF_it hi hW)
    · simp only [Sum.inl.injEq] at h
      rw [← h]; exact hW

