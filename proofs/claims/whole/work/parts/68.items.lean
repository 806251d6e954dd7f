/-! THE REFERENCE: items of the text -/
abbrev R3 : Type := Int32 × Nat × Bool
abbrev RI : Type := Nat × Bool × (Nat × St)
def v2_ (a b : Int32) : Nat → Int32 := fu (fu (fun _ => 0) 0 a) 1 b
def v3_ (a b c : Int32) : Nat → Int32 := fu (fu (fu (fun _ => 0) 0 a) 1 b) 2 c
def v5_ (a b c d e : Int32) : Nat → Int32 := fu (fu (fu (fu (fu (fun _ => 0) 0 a) 1 b) 2 c) 3 d) 4 e
def nx_ (L : Nat → Int32) (r : R3) (lo hi : Int32) : R3 := rM r.2.2 L r.2.1 lo hi
def w1_ (L : Nat → Int32) (p : Nat) (Z : Nat × St) : R3 := if Z.1 = 7 then (0, p, true) else rN L p 0 3
def w4_ (Z : Nat × St) (r1 r2 r3 : R3) : RI := (r3.2.1, r3.2.2, (Z.1 + 1, (a_w Z.2.1 Z.1 (v3_ r1.1 r2.1 r3.1), Z.2.2)))
def w3_ (L : Nat → Int32) (Z : Nat × St) (r1 r2 : R3) : RI := w4_ Z r1 r2 (nx_ L r2 1 20)
def w2_ (L : Nat → Int32) (Z : Nat × St) (r1 : R3) : RI := w3_ L Z r1 (nx_ L r1 0 40)
def wi (L : Nat → Int32) (p : Nat) (Z : Nat × St) : RI := w2_ L Z (w1_ L p Z)
def m2_ (Z : Nat × St) (r1 r2 : R3) : RI := (r2.2.1, r2.2.2, (Z.1, (Z.2.1, (r1.1, r2.1))))
def m1_ (L : Nat → Int32) (Z : Nat × St) (r1 : R3) : RI := m2_ Z r1 (nx_ L r1 0 99)
def mi (L : Nat → Int32) (p : Nat) (Z : Nat × St) : RI := m1_ L Z (rN L p 0 99)
def b5_ (Z : Nat × St) (r1 r2 r3 r4 r5 : R3) : RI := (r5.2.1, r5.2.2 || decide (1 ≤ Z.2.1 r1.1.toNatClampNeg 5), (Z.1, (a_b Z.2.1 r1.1.toNatClampNeg (v5_ r1.1 r2.1 r3.1 r4.1 r5.1), Z.2.2)))
def b4_ (L : Nat → Int32) (Z : Nat × St) (r1 r2 r3 r4 : R3) : RI := b5_ Z r1 r2 r3 r4 (nx_ L r4 0 23)
def b3_ (L : Nat → Int32) (Z : Nat × St) (r1 r2 r3 : R3) : RI := b4_ L Z r1 r2 r3 (nx_ L r3 0 40)
def b2_ (L : Nat → Int32) (Z : Nat × St) (r1 r2 : R3) : RI := b3_ L Z r1 r2 (nx_ L r2 0 30)
def b1_ (L : Nat → Int32) (Z : Nat × St) (r1 : R3) : RI := b2_ L Z r1 (nx_ L r1 1 30)
def bi (L : Nat → Int32) (p : Nat) (Z : Nat × St) : RI := b1_ L Z (rN L p 0 (nI Z.1 - 1))
def ii (L : Nat → Int32) (l : Int32) (p : Nat) (Z : Nat × St) : RI := if l = 119 then wi L p Z else if l = 98 then bi L p Z else if l = 109 then mi L p Z else (p, true, Z)
theorem rN_k {L : Nat → Int32} {p : Nat} {lo hi : Int32} (h : (rN L p lo hi).2.2 = false) : p_n L p = some ((rN L p lo hi).1, (rN L p lo hi).2.1) ∧ lo ≤ (rN L p lo hi).1 ∧ (rN L p lo hi).1 ≤ hi := rN_ok (by rw [← h])
theorem nx_k {L : Nat → Int32} {r : R3} {lo hi : Int32} (h : (nx_ L r lo hi).2.2 = false) : r.2.2 = false ∧ L r.2.1 = 44 ∧ p_n L (r.2.1 + 1) = some ((nx_ L r lo hi).1, (nx_ L r lo hi).2.1) ∧ lo ≤ (nx_ L r lo hi).1 ∧ (nx_ L r lo hi).1 ≤ hi := rM_ok (by rw [← h]; rfl)
theorem nx_of {L : Nat → Int32} {v0 : Int32} {q0 q : Nat} {lo hi v : Int32} (h4 : L q0 = 44) (h : p_n L (q0 + 1) = some (v, q)) (hd : ¬ dg (L q)) (hv : lo ≤ v ∧ v ≤ hi) : nx_ L (v0, q0, false) lo hi = (v, q, false) := rM_of h4 h hd hv
theorem wi_eq {L : Nat → Int32} {p : Nat} {Z : Nat × St} (hl : L p = 119) (h7 : Z.1 ≤ 7) : p_it L p Z = if (wi L (p + 1) Z).2.1 = false ∧ L (wi L (p + 1) Z).1 = 59 then some ((wi L (p + 1) Z).2.2, (wi L (p + 1) Z).1 + 1) else none := by
  by_cases c : (wi L (p + 1) Z).2.1 = false ∧ L (wi L (p + 1) Z).1 = 59
  · rw [if_pos c]
    unfold wi w2_ w3_ w4_ at *
    obtain ⟨c1, c2⟩ := c
    dsimp only at c1 c2
    obtain ⟨k2, l2, n3, g3⟩ := nx_k c1
    obtain ⟨k1, l1, n2, g2⟩ := nx_k k2
    unfold w1_ at *
    by_cases e7 : Z.1 = 7
    · rw [if_pos e7] at k1; exact absurd k1 (by simp)
    · rw [if_neg e7] at *
      obtain ⟨n1, g1⟩ := rN_k k1
      unfold p_it
      rw [if_pos hl, ns_s n1 (by rw [if_neg (by omega)]; exact l1), ns_s n2 (by rw [if_neg (by omega)]; exact l2), ns_s n3 (by rw [if_pos rfl]; exact c2)]
      show (if _ then _ else _) = _
      rw [if_pos ⟨g1, g2, g3, by omega⟩]
      rfl
  · rw [if_neg c]
    unfold p_it
    rw [if_pos hl]
    cases e : p_ns L 3 3 (fun _ => 0) (p + 1) with
    | none => rfl
    | some r =>
      obtain ⟨a, q⟩ := r
      dsimp only
      by_cases cc : (0 ≤ a 0 ∧ a 0 ≤ 3) ∧ (0 ≤ a 1 ∧ a 1 ≤ 40) ∧ (1 ≤ a 2 ∧ a 2 ≤ 20) ∧ Z.1 < 7
      · exfalso
        obtain ⟨v0, q0, n0, s0, e⟩ := ns_inv e
        obtain ⟨v1, q1, n1, s1, e⟩ := ns_inv e
        obtain ⟨v2, q2, n2, s2, e⟩ := ns_inv e
        rw [if_neg (by omega)] at s0 s1
        rw [if_pos rfl] at s2
        have ea : a = v3_ v0 v1 v2 := (congrArg (fun z => z.1) (Option.some.inj e)).symm
        rw [ea] at cc
        obtain ⟨g0, g1, g2, g7⟩ := cc
        apply c
        unfold wi w1_
        rw [if_neg (by omega), rN_of n0 (nd44 s0) g0]
        unfold w2_
        rw [nx_of s0 n1 (nd44 s1) g1]
        unfold w3_
        rw [nx_of s1 n2 (nd59 s2) g2]
        exact ⟨rfl, s2⟩
      · rw [if_neg cc]
theorem mi_eq {L : Nat → Int32} {p : Nat} {Z : Nat × St} (hl : L p = 109) : p_it L p Z = if (mi L (p + 1) Z).2.1 = false ∧ L (mi L (p + 1) Z).1 = 59 then some ((mi L (p + 1) Z).2.2, (mi L (p + 1) Z).1 + 1) else none := by
  have h119 : ¬ L p = 119 := by rw [hl]; decide
  by_cases c : (mi L (p + 1) Z).2.1 = false ∧ L (mi L (p + 1) Z).1 = 59
  · rw [if_pos c]
    unfold mi m1_ m2_ at *
    obtain ⟨c1, c2⟩ := c
    dsimp only at c1 c2
    obtain ⟨k1, l1, n2, g2⟩ := nx_k c1
    obtain ⟨n1, g1⟩ := rN_k k1
    unfold p_it
    rw [if_neg h119, if_pos hl, ns_s n1 (by rw [if_neg (by omega)]; exact l1), ns_s n2 (by rw [if_pos rfl]; exact c2)]
    rfl
  · rw [if_neg c]
    unfold p_it
    rw [if_neg h119, if_pos hl]
    cases e : p_ns L 2 2 (fun _ => 0) (p + 1) with
    | none => rfl
    | some r =>
      obtain ⟨a, q⟩ := r
      exfalso
      obtain ⟨v0, q0, n0, s0, e⟩ := ns_inv e
      obtain ⟨v1, q1, n1, s1, e⟩ := ns_inv e
      rw [if_neg (by omega)] at s0
      rw [if_pos rfl] at s1
      obtain ⟨⟨k0, hk0, e0⟩, _⟩ := p_n_v n0
      obtain ⟨⟨k1, hk1, e1⟩, _⟩ := p_n_v n1
      apply c
      unfold mi
      rw [rN_of n0 (nd44 s0) (by rw [e0]; exact ⟨nI_pos' (by omega), nI_le (b := 99) (by omega) (by omega)⟩)]
      unfold m1_
      rw [nx_of s0 n1 (nd59 s1) (by rw [e1]; exact ⟨nI_pos' (by omega), nI_le (b := 99) (by omega) (by omega)⟩)]
      exact ⟨rfl, s1⟩
theorem bi_eq {L : Nat → Int32} {p : Nat} {Z : Nat × St} (hl : L p = 98) : p_it L p Z = if (bi L (p + 1) Z).2.1 = false ∧ L (bi L (p + 1) Z).1 = 59 then some ((bi L (p + 1) Z).2.2, (bi L (p + 1) Z).1 + 1) else none := by
  have h119 : ¬ L p = 119 := by rw [hl]; decide
  have h109 : ¬ L p = 109 := by rw [hl]; decide
  by_cases c : (bi L (p + 1) Z).2.1 = false ∧ L (bi L (p + 1) Z).1 = 59
  · rw [if_pos c]
    unfold bi b1_ b2_ b3_ b4_ b5_ at *
    obtain ⟨c1, c2⟩ := c
    dsimp only at c1 c2
    rw [Bool.or_eq_false_iff] at c1
    obtain ⟨c1, c3⟩ := c1
    have c3 := of_decide_eq_false c3
    obtain ⟨k4, l4, n5, g5⟩ := nx_k c1
    obtain ⟨k3, l3, n4, g4⟩ := nx_k k4
    obtain ⟨k2, l2, n3, g3⟩ := nx_k k3
    obtain ⟨k1, l1, n2, g2⟩ := nx_k k2
    obtain ⟨n1, g1⟩ := rN_k k1
    unfold p_it
    rw [if_neg h119, if_neg h109, if_pos hl, ns_s n1 (by rw [if_neg (by omega)]; exact l1), ns_s n2 (by rw [if_neg (by omega)]; exact l2), ns_s n3 (by rw [if_neg (by omega)]; exact l3), ns_s n4 (by rw [if_neg (by omega)]; exact l4), ns_s n5 (by rw [if_pos rfl]; exact c2)]
    show (if _ then _ else _) = _
    rw [if_pos ⟨⟨g1, c3⟩, g2, g3, g4, g5⟩]
    rfl
  · rw [if_neg c]
    unfold p_it
    rw [if_neg h119, if_neg h109, if_pos hl]
    cases e : p_ns L 5 5 (fun _ => 0) (p + 1) with
    | none => rfl
    | some r =>
      obtain ⟨a, q⟩ := r
      dsimp only
      by_cases cc : (isw Z.1 (a 0) ∧ ¬ 1 ≤ Z.2.1 (a 0).toNatClampNeg 5) ∧ (1 ≤ a 1 ∧ a 1 ≤ 30) ∧ (0 ≤ a 2 ∧ a 2 ≤ 30) ∧ (0 ≤ a 3 ∧ a 3 ≤ 40) ∧ (0 ≤ a 4 ∧ a 4 ≤ 23)
      · exfalso
        obtain ⟨v0, q0, n0, s0, e⟩ := ns_inv e
        obtain ⟨v1, q1, n1, s1, e⟩ := ns_inv e
        obtain ⟨v2, q2, n2, s2, e⟩ := ns_inv e
        obtain ⟨v3, q3, n3, s3, e⟩ := ns_inv e
        obtain ⟨v4, q4, n4, s4, e⟩ := ns_inv e
        rw [if_neg (by omega)] at s0 s1 s2 s3
        rw [if_pos rfl] at s4
        have ea : a = v5_ v0 v1 v2 v3 v4 := (congrArg (fun z => z.1) (Option.some.inj e)).symm
        rw [ea] at cc
        obtain ⟨⟨g0, gb⟩, g1, g2, g3, g4⟩ := cc
        apply c
        unfold bi
        rw [rN_of n0 (nd44 s0) g0]
        unfold b1_
        rw [nx_of s0 n1 (nd44 s1) g1]
        unfold b2_
        rw [nx_of s1 n2 (nd44 s2) g2]
        unfold b3_
        rw [nx_of s2 n3 (nd44 s3) g3]
        unfold b4_
        rw [nx_of s3 n4 (nd59 s4) g4]
        refine ⟨?_, s4⟩
        show (false || decide (1 ≤ Z.2.1 v0.toNatClampNeg 5)) = false
        rw [Bool.false_or]
        exact decide_eq_false gb
      · rw [if_neg cc]
theorem ii_eq {L : Nat → Int32} {p : Nat} {Z : Nat × St} (h7 : Z.1 ≤ 7) : p_it L p Z = if (ii L (L p) (p + 1) Z).2.1 = false ∧ L (ii L (L p) (p + 1) Z).1 = 59 then some ((ii L (L p) (p + 1) Z).2.2, (ii L (L p) (p + 1) Z).1 + 1) else none := by
  unfold ii
  by_cases c1 : L p = 119
  · rw [if_pos c1]; exact wi_eq c1 h7
  rw [if_neg c1]
  by_cases c2 : L p = 98
  · rw [if_pos c2]; exact bi_eq c2
  rw [if_neg c2]
  by_cases c3 : L p = 109
  · rw [if_pos c3]; exact mi_eq c3
  · rw [if_neg c3, if_neg (fun z => absurd z.1 (by simp))]
    unfold p_it
    rw [if_neg c1, if_neg c3, if_neg c2]
theorem nx_q {L : Nat → Int32} {r : R3} {lo hi : Int32} : (nx_ L r lo hi).2.1 ≤ r.2.1 + 4 := rM_q

