/-! THE WORLD of the small machine in the heap: kinds 0 to 6 objects, 7 int[], 8 byte[], 9 Street[], 10 Wrong[], 11 the script, 12 the text constant -/
def sn_v (ad : Nat → Nat → Nat) : mm_V → Value
  | .inl x => .int x
  | .inr (.inl x) => .long x
  | .inr (.inr q) => .ref (ad q.1 q.2)
def sn_ok (M : mm_M) : mm_V → Prop
  | .inr (.inr q) => q.2 < mm_N M q.1
  | _ => True
/-- which kind a place refers to -/
def sn_rt (c k : Nat) : Option Nat := if c = 9 then some 2 else if c = 10 then some 4 else (sn_ft c k).join
def sn_val (ad : Nat → Nat → Nat) (M : mm_M) (c i k : Nat) : Value := match sn_rt c k with
  | some c' => va_rf ((mm_R M c i k).map (ad c'))
  | none => .int (mm_I M c i k)
def sn_at (c : Nat) : FieldType := if c = 7 then .int else if c = 8 then .byte else if c = 9 then .object RX2 else .object RX4
def sn_at1 (D : va_G) (ad : Nat → Nat → Nat) (M : mm_M) (U : State) (H : Heap) (c i : Nat) : Prop :=
  if c < 7 then t_OB (ad c i) (D.1 c) (sn_NF c) (D.2 c) H (sn_val ad M c i)
  else ∃ cA : ClassId, H[ad c i]? = some (arrV cA (mm_L M c i) (sn_val ad M c i)) ∧ ArrOfT U cA (sn_at c) ∧ va_RA U cA (sn_at c)
def sn_str (a0 q : Nat) (U : State) (H : Heap) : Prop :=
  (∃ tx : String, vk_R RX5 47 tx q U) ∧ (∃ qv : Nat, vk_S 1 [mm_txt.length] [mm_txt] (fun _ => q) (fun _ => qv) (fun q => a0 ≤ q) U H) ∧ va_Z "java/lang/String" "COMPACT_STRINGS" "Z" (.int 1) (fun q => a0 ≤ q) U H ∧ va_Zq "jdk/internal/util/Preconditions" "SIOOBE_FORMATTER" "Ljava/util/function/BiFunction;" (fun q => a0 ≤ q) U H
/-- what stays as it is: the tables' facts -/
def sn_F (D : va_G) (U : State) : Prop := va_K D sn_cl [] U ∧ (∀ q ∈ tb_nl, va_Nw (.methodLinkNest (sn_R q.1) q.2.1 (pY q.2.2) RX5) U) ∧ va_AO RX2 U ∧ va_AO RX4 U
/-- the cells -/
def sn_H (a0 : Nat) (D : va_G) (ad : Nat → Nat → Nat) (M : mm_M) (U : State) (H : Heap) : Prop :=
  a0 ≤ H.size ∧ (∀ c i, c < 11 → i < mm_N M c → sn_at1 D ad M U H c i) ∧ (∀ i, i < mm_N M 11 → va_X (ad 11 i) (mm_L M 11 i) (mm_I M 11 i) U H ∧ ad 11 i < a0) ∧ (∀ i, i < mm_N M 12 → sn_str a0 (ad 12 i) U H) ∧
  (∀ c i c' i', c < 11 → c' < 11 → i < mm_N M c → i' < mm_N M c' → ad c i = ad c' i' → c = c' ∧ i = i') ∧ (∀ c i, c < 11 → i < mm_N M c → a0 ≤ ad c i) ∧
  (∀ c i k c' j, sn_rt c k = some c' → i < mm_N M c → mm_R M c i k = some j → j < mm_N M c')
theorem sn_at1_lt {D : va_G} {ad : Nat → Nat → Nat} {M : mm_M} {U : State} {H : Heap} {c i : Nat} (h : sn_at1 D ad M U H c i) : ad c i < H.size := by
  unfold sn_at1 at h
  split at h
  · obtain ⟨cell, h1, -⟩ := h
    exact (Array.getElem?_eq_some_iff.mp h1).1
  · obtain ⟨cA, h1, -⟩ := h
    exact (Array.getElem?_eq_some_iff.mp h1).1
theorem sn_at1_kept {D : va_G} {ad ad' : Nat → Nat → Nat} {M M' : mm_M} {U : State} {H H' : Heap} {c i : Nat} (h : sn_at1 D ad M U H c i) (hq : H'[ad c i]? = H[ad c i]?) (ha : ad' c i = ad c i) (hv : sn_val ad' M' c i = sn_val ad M c i) (hL : mm_L M' c i = mm_L M c i) : sn_at1 D ad' M' U H' c i := by
  unfold sn_at1 at *
  rw [ha, hv, hL]
  split at h
  · rename_i hc
    rw [if_pos hc]
    exact h.kept hq
  · rename_i hc
    rw [if_neg hc, hq]
    exact h
theorem sn_at1_moved {D : va_G} {ad : Nat → Nat → Nat} {M : mm_M} {u U : State} {H : Heap} {c i : Nat} (hvm : u.vm.Alike U.vm) (h : sn_at1 D ad M u H c i) : sn_at1 D ad M U H c i := by
  unfold sn_at1 at *
  split at h
  · rename_i hc
    rw [if_pos hc]
    exact h
  · rename_i hc
    rw [if_neg hc]
    obtain ⟨cA, h1, h2, h3⟩ := h
    exact ⟨cA, h1, arrOfT_moved hvm h2, h3.moved hvm⟩
theorem sn_str_kept {a0 q : Nat} {U : State} {H H' : Heap} (h : sn_str a0 q U H) (hq : ∀ x, x < a0 → H'[x]? = H[x]?) : sn_str a0 q U H' := by
  obtain ⟨h1, ⟨qv, h2⟩, h3, h4⟩ := h
  have k : ∀ a : Nat, a < H.size → ¬ (fun q => a0 ≤ q) a → H'[a]? = H[a]? := fun a _ h => hq a (Nat.not_le.mp h)
  exact ⟨h1, ⟨qv, h2.kept k⟩, h3.kept k, h4.kept k⟩
/-- string facts at another state: the constant's own word from where it stood -/
theorem sn_str_moved {a0 q : Nat} {u U : State} {H : Heap} (hvm : u.vm.Alike U.vm) (hr : ∃ tx : String, vk_R RX5 47 tx q U) (h : sn_str a0 q u H) : sn_str a0 q U H := by
  obtain ⟨-, ⟨qv, h2⟩, h3, h4⟩ := h
  exact ⟨hr, ⟨qv, h2.moved hvm⟩, h3.moved hvm, h4.moved hvm⟩
theorem sn_F_warm {D : va_G} {s U : State} (hW : s.WarmedH U.vm) (h : sn_F D s) : sn_F D U :=
  ⟨va_K.moved hW.alike h.1, fun q hq => va_Nw.warmM hW (h.2.1 q hq), va_AO.moved hW.alike h.2.2.1, va_AO.moved hW.alike h.2.2.2⟩
theorem sn_F_same {D : va_G} {s U : State} (hW : s.vm = U.vm) (h : sn_F D s) : sn_F D U :=
  have ha : s.vm.Alike U.vm := by rw [← hW]; exact Vm.Alike.refl _
  ⟨va_K.moved ha h.1, fun q hq => va_Nw.same rfl hW (h.2.1 q hq), va_AO.moved ha h.2.2.1, va_AO.moved ha h.2.2.2⟩
theorem sn_H_moved {a0 : Nat} {D : va_G} {ad : Nat → Nat → Nat} {M : mm_M} {u U : State} {H : Heap} (hvm : u.vm.Alike U.vm) (hr : ∀ q, (∃ tx : String, vk_R RX5 47 tx q u) → ∃ tx : String, vk_R RX5 47 tx q U) (h : sn_H a0 D ad M u H) : sn_H a0 D ad M U H :=
  ⟨h.1, fun c i hc hi => sn_at1_moved hvm (h.2.1 c i hc hi), fun i hi => ⟨(h.2.2.1 i hi).1.moved hvm, (h.2.2.1 i hi).2⟩, fun i hi => sn_str_moved hvm (hr _ (h.2.2.2.1 i hi).1) (h.2.2.2.1 i hi), h.2.2.2.2⟩
theorem sn_H_warm {a0 : Nat} {D : va_G} {ad : Nat → Nat → Nat} {M : mm_M} {s U : State} {H : Heap} (hW : s.WarmedH U.vm) (h : sn_H a0 D ad M s H) : sn_H a0 D ad M U H :=
  sn_H_moved hW.alike (fun _ ⟨tx, hx⟩ => ⟨tx, hx.warm hW⟩) h
theorem sn_H_same {a0 : Nat} {D : va_G} {ad : Nat → Nat → Nat} {M : mm_M} {s U : State} {H : Heap} (hW : s.vm = U.vm) (h : sn_H a0 D ad M s H) : sn_H a0 D ad M U H :=
  sn_H_moved (by rw [← hW]; exact Vm.Alike.refl _) (fun _ ⟨tx, hx⟩ => ⟨tx, hx.same hW.symm⟩) h
/-- what was there is there -/
def sn_E (M0 : mm_M) (ad0 : Nat → Nat → Nat) (M : mm_M) (ad : Nat → Nat → Nat) : Prop := (∀ c i, i < mm_N M0 c → ad c i = ad0 c i ∧ i < mm_N M c) ∧ mm_N M 12 = mm_N M0 12
theorem sn_E_rf (M : mm_M) (ad : Nat → Nat → Nat) : sn_E M ad M ad := ⟨fun _ _ h => ⟨rfl, h⟩, rfl⟩
theorem sn_E_tr {M0 M1 M2 : mm_M} {ad0 ad1 ad2 : Nat → Nat → Nat} (h : sn_E M0 ad0 M1 ad1) (h' : sn_E M1 ad1 M2 ad2) : sn_E M0 ad0 M2 ad2 := ⟨fun c i hi => ⟨((h'.1 c i (h.1 c i hi).2).1).trans (h.1 c i hi).1, (h'.1 c i (h.1 c i hi).2).2⟩, h'.2.trans h.2⟩
theorem sn_E_v {M M' : mm_M} {ad ad' : Nat → Nat → Nat} (h : sn_E M ad M' ad') {v : mm_V} (hv : sn_ok M v) : sn_v ad' v = sn_v ad v ∧ sn_ok M' v := by
  match v, hv with
  | .inl x, _ => exact ⟨rfl, trivial⟩
  | .inr (.inl x), _ => exact ⟨rfl, trivial⟩
  | .inr (.inr q), hv => exact ⟨by show Value.ref _ = Value.ref _; rw [(h.1 q.1 q.2 hv).1], (h.1 q.1 q.2 hv).2⟩
theorem sn_E_st {M M' : mm_M} {ad ad' : Nat → Nat → Nat} (h : sn_E M ad M' ad') : ∀ {st : List mm_V}, (∀ v ∈ st, sn_ok M v) → st.map (sn_v ad') = st.map (sn_v ad) ∧ ∀ v ∈ st, sn_ok M' v := by
  intro st hs
  refine ⟨List.map_congr_left fun v hv => (sn_E_v h (hs v hv)).1, fun v hv => (sn_E_v h (hs v hv)).2⟩
-- locals
def sn_lv (ad : Nat → Nat → Nat) : Nat → mm_LS → List (Nat × Value)
  | _, [] => []
  | n, none :: l => sn_lv ad (n + 1) l
  | n, some v :: l => (n, sn_v ad v) :: sn_lv ad (n + 1) l
theorem sn_lv_mem (ad : Nat → Nat → Nat) : ∀ (l : mm_LS) (n i : Nat) (w : Value), (i, w) ∈ sn_lv ad n l ↔ ∃ v, n ≤ i ∧ mm_at l (i - n) = some v ∧ w = sn_v ad v := by
  intro l
  induction l with
  | nil => intro n i w; simp [sn_lv, mm_at]
  | cons o l ih =>
    intro n i w
    have key : (∃ v, n + 1 ≤ i ∧ mm_at l (i - (n + 1)) = some v ∧ w = sn_v ad v) ↔ (i ≠ n ∧ ∃ v, n ≤ i ∧ mm_at (o :: l) (i - n) = some v ∧ w = sn_v ad v) := by
      constructor
      · rintro ⟨v, h1, h2, h3⟩
        refine ⟨by omega, v, by omega, ?_, h3⟩
        rw [show i - n = (i - (n + 1)) + 1 by omega]
        exact h2
      · rintro ⟨h0, v, h1, h2, h3⟩
        refine ⟨v, by omega, ?_, h3⟩
        rw [show i - n = (i - (n + 1)) + 1 by omega] at h2
        exact h2
    cases o with
    | none =>
      show (i, w) ∈ sn_lv ad (n + 1) l ↔ _
      rw [ih, key]
      constructor
      · exact fun h => h.2
      · rintro ⟨v, h1, h2, h3⟩
        refine ⟨fun e => ?_, v, h1, h2, h3⟩
        subst e
        rw [Nat.sub_self] at h2
        cases h2
    | some u =>
      show (i, w) ∈ (n, sn_v ad u) :: sn_lv ad (n + 1) l ↔ _
      rw [List.mem_cons, ih, key]
      constructor
      · rintro (h | h)
        · cases h
          exact ⟨u, Nat.le_refl _, by rw [Nat.sub_self]; rfl, rfl⟩
        · exact h.2
      · rintro ⟨v, h1, h2, h3⟩
        by_cases e : i = n
        · subst e
          rw [Nat.sub_self] at h2
          cases h2
          exact Or.inl (by rw [h3])
        · exact Or.inr ⟨e, v, h1, h2, h3⟩
/-- the locals are as the list has them -/
def sn_LS (ad : Nat → Nat → Nat) (nL : Nat) (ls : mm_LS) (L : Array Slot) : Prop := ls.length = nL ∧ lv_has L nL (sn_lv ad 0 ls)
theorem sn_LS_at {ad : Nat → Nat → Nat} {nL : Nat} {ls : mm_LS} {L : Array Slot} (h : sn_LS ad nL ls L) {i : Nat} {v : mm_V} (hv : mm_at ls i = some v) : L[i]? = some (.val (sn_v ad v)) :=
  h.2.2.2 (i, sn_v ad v) ((sn_lv_mem ad ls 0 i _).mpr ⟨v, Nat.zero_le _, hv, rfl⟩)
theorem sn_set_len : ∀ (ls : mm_LS) (i : Nat) (w : Option mm_V), (mm_set ls i w).length = ls.length
  | [], _, _ => rfl
  | _ :: _, 0, _ => rfl
  | _ :: l, n + 1, w => congrArg (· + 1) (sn_set_len l n w)
theorem sn_set_at : ∀ (ls : mm_LS) (i j : Nat) (w : Option mm_V), i < ls.length → mm_at (mm_set ls i w) j = if j = i then w else mm_at ls j
  | [], i, j, w, h => absurd h (Nat.not_lt_zero _)
  | _ :: _, 0, 0, w, _ => rfl
  | _ :: _, 0, j + 1, w, _ => by rw [if_neg (by omega)]; rfl
  | _ :: _, i + 1, 0, w, _ => by rw [if_neg (by omega)]; rfl
  | _ :: l, i + 1, j + 1, w, h => by
    show mm_at (mm_set l i w) j = _
    rw [sn_set_at l i j w (Nat.lt_of_succ_lt_succ h)]
    by_cases e : j = i
    · rw [if_pos e, if_pos (by omega)]
    · rw [if_neg e, if_neg (by omega)]
      rfl
theorem sn_v_cat (ad : Nat → Nat → Nat) (v : mm_V) : (sn_v ad v).category = match v with | .inr (.inl _) => 2 | _ => 1 := by
  match v with
  | .inl x => rfl
  | .inr (.inl x) => rfl
  | .inr (.inr q) => rfl
theorem sn_cat_nl {ad : Nat → Nat → Nat} {v : mm_V} (h : mm_nl (some v)) : (sn_v ad v).category = 1 := by
  match v, h with
  | .inl x, _ => rfl
  | .inr (.inr q), _ => rfl
theorem sn_LS_sub {ad : Nat → Nat → Nat} {nL : Nat} {ls : mm_LS} {L : Array Slot} (hl : ls.length = nL) {lv : List (Nat × Value)} (h : lv_has L nL lv) (hs : ∀ i v, mm_at ls i = some v → (i, sn_v ad v) ∈ lv) : sn_LS ad nL ls L := by
  refine ⟨hl, h.1, h.2.1, fun q hq => ?_⟩
  obtain ⟨i, w⟩ := q
  obtain ⟨v, -, h2, h3⟩ := (sn_lv_mem ad ls 0 i w).mp hq
  rw [h3]
  exact h.2.2 _ (hs i v h2)
theorem sn_LS_1 {ad : Nat → Nat → Nat} {nL : Nat} {ls : mm_LS} {L' : Array Slot} (hl : ls.length = nL) {i : Nat} {v : mm_V} (hi : i < ls.length) (hn : mm_nl (mm_at ls (i - 1))) (h : lv_has L' nL ((i, sn_v ad v) :: (sn_lv ad 0 ls).filter (fun q => !(q.1 == i) && !(q.1 + 1 == i && q.2.category == 2)))) : sn_LS ad nL (mm_set ls i (some v)) L' := by
  refine sn_LS_sub (by rw [sn_set_len]; exact hl) h fun j u hu => ?_
  rw [sn_set_at _ _ _ _ hi] at hu
  by_cases e : j = i
  · rw [if_pos e] at hu
    cases hu
    rw [e]
    exact List.mem_cons_self
  · rw [if_neg e] at hu
    refine List.mem_cons_of_mem _ (List.mem_filter.mpr ⟨(sn_lv_mem ad ls 0 j _).mpr ⟨u, Nat.zero_le _, hu, rfl⟩, ?_⟩)
    by_cases e2 : j + 1 = i
    · subst e2
      rw [Nat.add_sub_cancel, hu] at hn
      have := sn_cat_nl (ad := ad) hn
      simp [this]
    · simp [e, e2]
theorem sn_LS_2 {ad : Nat → Nat → Nat} {nL : Nat} {ls : mm_LS} {L' : Array Slot} (hl : ls.length = nL) {i : Nat} {v : mm_V} (hi : i + 1 < ls.length) (hn : mm_nl (mm_at ls (i - 1))) (h : lv_has L' nL ((i, sn_v ad v) :: (sn_lv ad 0 ls).filter (fun q => !(q.1 == i) && (!(q.1 == i + 1) && !(q.1 + 1 == i && q.2.category == 2))))) : sn_LS ad nL (mm_set (mm_set ls i (some v)) (i + 1) none) L' := by
  refine sn_LS_sub (by rw [sn_set_len, sn_set_len]; exact hl) h fun j u hu => ?_
  rw [sn_set_at _ _ _ _ (by rw [sn_set_len]; exact hi)] at hu
  by_cases e0 : j = i + 1
  · rw [if_pos e0] at hu
    cases hu
  rw [if_neg e0, sn_set_at _ _ _ _ (by omega)] at hu
  by_cases e : j = i
  · rw [if_pos e] at hu
    cases hu
    rw [e]
    exact List.mem_cons_self
  · rw [if_neg e] at hu
    refine List.mem_cons_of_mem _ (List.mem_filter.mpr ⟨(sn_lv_mem ad ls 0 j _).mpr ⟨u, Nat.zero_le _, hu, rfl⟩, ?_⟩)
    by_cases e2 : j + 1 = i
    · subst e2
      rw [Nat.add_sub_cancel, hu] at hn
      have := sn_cat_nl (ad := ad) hn
      simp [this]
      omega
    · simp [e, e2, e0]
theorem sn_LS_ad {ad ad' : Nat → Nat → Nat} {nL : Nat} {ls : mm_LS} {L : Array Slot} (h : sn_LS ad nL ls L) (he : ∀ i v, mm_at ls i = some v → sn_v ad' v = sn_v ad v) : sn_LS ad' nL ls L :=
  sn_LS_sub h.1 h.2 fun i v hv => by
    rw [he i v hv]
    exact (sn_lv_mem ad ls 0 i _).mpr ⟨v, Nat.zero_le _, hv, rfl⟩
/-- a cell was written -/
theorem sn_H_upd {a0 : Nat} {D : va_G} {ad : Nat → Nat → Nat} {M M' : mm_M} {U : State} {H H' : Heap} (h : sn_H a0 D ad M U H) {c0 i0 : Nat} (hc : c0 < 11) (hi : i0 < mm_N M c0) (hN : ∀ c, mm_N M' c = mm_N M c) (hL : ∀ c i, mm_L M' c i = mm_L M c i)
    (hI : ∀ c i k, ¬ (c = c0 ∧ i = i0) → mm_I M' c i k = mm_I M c i k) (hR : ∀ c i k, ¬ (c = c0 ∧ i = i0) → mm_R M' c i k = mm_R M c i k) (hz : H'.size = H.size) (oq : ∀ q, q ≠ ad c0 i0 → H'[q]? = H[q]?) (hn : sn_at1 D ad M' U H' c0 i0)
    (hv : ∀ k c' j, sn_rt c0 k = some c' → mm_R M' c0 i0 k = some j → j < mm_N M c') : sn_H a0 D ad M' U H' := by
  obtain ⟨h1, h2, h3, h4, h5, h6, h7⟩ := h
  have hlo := h6 c0 i0 hc hi
  refine ⟨by rw [hz]; exact h1, ?_, ?_, ?_, ?_, ?_, ?_⟩
  · intro c i hc' hi'
    rw [hN] at hi'
    by_cases e : c = c0 ∧ i = i0
    · obtain ⟨rfl, rfl⟩ := e
      exact hn
    · refine sn_at1_kept (h2 c i hc' hi') (oq _ (fun z => e (h5 c i c0 i0 hc' hc hi' hi z))) rfl ?_ (hL c i)
      funext k
      unfold sn_val
      rw [hI c i k e, hR c i k e]
  · intro i hi'
    rw [hN] at hi'
    obtain ⟨g1, g2⟩ := h3 i hi'
    have : mm_I M' 11 i = mm_I M 11 i := funext fun k => hI 11 i k (fun z => by omega)
    rw [hL, this]
    exact ⟨g1.kept (oq _ (by omega)), g2⟩
  · intro i hi'
    rw [hN] at hi'
    exact sn_str_kept (h4 i hi') (fun x hx => oq x (by omega))
  · intro c i c' i' q1 q2 q3 q4
    rw [hN] at q3 q4
    exact h5 c i c' i' q1 q2 q3 q4
  · intro c i q1 q2
    rw [hN] at q2
    exact h6 c i q1 q2
  · intro c i k c' j q1 q2 q3
    rw [hN] at q2 ⊢
    by_cases e : c = c0 ∧ i = i0
    · obtain ⟨rfl, rfl⟩ := e
      exact hv k c' j q1 q3
    · rw [hR c i k e] at q3
      exact h7 c i k c' j q1 q2 q3
def sn_ad (ad : Nat → Nat → Nat) (c0 i0 q : Nat) : Nat → Nat → Nat := fun c i => if c = c0 ∧ i = i0 then q else ad c i
theorem sn_E_new (M : mm_M) (ad : Nat → Nat → Nat) (c0 len q : Nat) (hc : c0 < 11) : sn_E M ad (mm_nw M c0 len) (sn_ad ad c0 (mm_N M c0) q) := by
  refine ⟨?_, by rw [mm_N_nw, if_neg (by omega)]⟩
  intro c i hi
  refine ⟨?_, ?_⟩
  · unfold sn_ad
    rw [if_neg]
    rintro ⟨rfl, rfl⟩
    omega
  · rw [mm_N_nw]
    by_cases e : c = c0
    · rw [if_pos e, ← e]; omega
    · rw [if_neg e]; exact hi
/-- a cell was made -/
theorem sn_H_new {a0 : Nat} {D : va_G} {ad : Nat → Nat → Nat} {M : mm_M} {U : State} {H H' : Heap} (h : sn_H a0 D ad M U H) {c0 len : Nat} (hc : c0 < 11) (hz : H'.size = H.size + 1) (oq : ∀ q, q < H.size → H'[q]? = H[q]?)
    (hn : sn_at1 D (sn_ad ad c0 (mm_N M c0) H.size) (mm_nw M c0 len) U H' c0 (mm_N M c0)) : sn_H a0 D (sn_ad ad c0 (mm_N M c0) H.size) (mm_nw M c0 len) U H' := by
  obtain ⟨h1, h2, h3, h4, h5, h6, h7⟩ := h
  have hE := (sn_E_new M ad c0 len H.size hc).1
  have hNc : ∀ c i, i < mm_N (mm_nw M c0 len) c → (c = c0 ∧ i = mm_N M c0) ∨ (¬ (c = c0 ∧ i = mm_N M c0) ∧ i < mm_N M c) := by
    intro c i hi
    rw [mm_N_nw] at hi
    by_cases e : c = c0
    · subst e
      rw [if_pos rfl] at hi
      by_cases e2 : i = mm_N M c
      · exact Or.inl ⟨rfl, e2⟩
      · exact Or.inr ⟨fun z => e2 z.2, by omega⟩
    · rw [if_neg e] at hi
      exact Or.inr ⟨fun z => e z.1, hi⟩
  have had : ∀ c i, ¬ (c = c0 ∧ i = mm_N M c0) → sn_ad ad c0 (mm_N M c0) H.size c i = ad c i := fun c i e => by unfold sn_ad; rw [if_neg e]
  have hadn : sn_ad ad c0 (mm_N M c0) H.size c0 (mm_N M c0) = H.size := by unfold sn_ad; rw [if_pos ⟨rfl, rfl⟩]
  refine ⟨by omega, ?_, ?_, ?_, ?_, ?_, ?_⟩
  · intro c i hc' hi'
    rcases hNc c i hi' with ⟨rfl, rfl⟩ | ⟨e, hi2⟩
    · exact hn
    · refine sn_at1_kept (h2 c i hc' hi2) (oq _ (sn_at1_lt (h2 c i hc' hi2))) (had c i e) ?_ ?_
      · funext k
        unfold sn_val
        rw [mm_I_nw, if_neg e, mm_R_nw, if_neg e]
        cases hr : sn_rt c k with
        | none => rfl
        | some c' =>
          show va_rf _ = va_rf _
          cases hj : mm_R M c i k with
          | none => rfl
          | some j => exact congrArg (fun z => va_rf (some z)) (hE c' j (h7 c i k c' j hr hi2 hj)).1
      · rw [mm_L_nw, if_neg e]
  · intro i hi'
    rcases hNc 11 i hi' with ⟨e, -⟩ | ⟨e, hi2⟩
    · omega
    · obtain ⟨g1, g2⟩ := h3 i hi2
      have : mm_I (mm_nw M c0 len) 11 i = mm_I M 11 i := funext fun k => by rw [mm_I_nw, if_neg e]
      rw [mm_L_nw, if_neg e, this, had 11 i e]
      exact ⟨g1.kept (oq _ (by omega)), g2⟩
  · intro i hi'
    rcases hNc 12 i hi' with ⟨e, -⟩ | ⟨e, hi2⟩
    · omega
    · rw [had 12 i e]
      exact sn_str_kept (h4 i hi2) (fun x hx => oq x (by omega))
  · intro c i c' i' q1 q2 q3 q4 q5
    rcases hNc c i q3 with ⟨e1, e2⟩ | ⟨e, hi2⟩ <;> rcases hNc c' i' q4 with ⟨e3, e4⟩ | ⟨e', hi2'⟩
    · exact ⟨e1.trans e3.symm, e2.trans e4.symm⟩
    · subst e1; subst e2
      rw [hadn, had c' i' e'] at q5
      have := sn_at1_lt (h2 c' i' q2 hi2')
      omega
    · subst e3; subst e4
      rw [hadn, had c i e] at q5
      have := sn_at1_lt (h2 c i q1 hi2)
      omega
    · rw [had c i e, had c' i' e'] at q5
      exact h5 c i c' i' q1 q2 hi2 hi2' q5
  · intro c i q1 q2
    rcases hNc c i q2 with ⟨rfl, rfl⟩ | ⟨e, hi2⟩
    · rw [hadn]; exact h1
    · rw [had c i e]; exact h6 c i q1 hi2
  · intro c i k c' j q1 q2 q3
    rcases hNc c i q2 with ⟨rfl, rfl⟩ | ⟨e, hi2⟩
    · rw [mm_R_nw, if_pos ⟨rfl, rfl⟩] at q3
      cases q3
    · rw [mm_R_nw, if_neg e] at q3
      exact (hE c' j (h7 c i k c' j q1 hi2 q3)).2
