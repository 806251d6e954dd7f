/-! ROWS over the world of the small machine -/
theorem sn_val_sI {ad : Nat → Nat → Nat} {M : mm_M} {c0 i0 k : Nat} {x : Int32} (h : sn_rt c0 k = none) : sn_val ad (mm_sI M c0 i0 k x) c0 i0 = updV (sn_val ad M c0 i0) k (.int x) := by
  funext j
  unfold sn_val updV
  by_cases e : j = k
  · subst e
    rw [h, if_pos rfl]
    simp [mm_I_sI]
  · rw [if_neg e, mm_R_sI, mm_I_sI, if_neg (fun z => e z.2.2)]
theorem sn_val_sR {ad : Nat → Nat → Nat} {M : mm_M} {c0 i0 k j c' : Nat} (h : sn_rt c0 k = some c') : sn_val ad (mm_sR M c0 i0 k (some j)) c0 i0 = updV (sn_val ad M c0 i0) k (.ref (ad c' j)) := by
  funext n
  unfold sn_val updV
  by_cases e : n = k
  · subst e
    rw [h, if_pos rfl]
    simp [mm_R_sR, va_rf]
  · rw [if_neg e, mm_I_sR, mm_R_sR, if_neg (fun z => e z.2.2)]
theorem sn_cl_at : ∀ c, c < 7 → sn_cl[c]? = some (sn_R c, sn_T c, sn_NF c) := by
  intro c h
  match c, h with
  | 0, _ => rfl
  | 1, _ => rfl
  | 2, _ => rfl
  | 3, _ => rfl
  | 4, _ => rfl
  | 5, _ => rfl
  | 6, _ => rfl
  | q + 7, h => exact absurd h (by omega)
theorem sn_ly : ∀ c, c < 7 → ∀ w ∈ u_ws (sn_R c) (sn_T c) (sn_NF c), w ∈ sn_gw := by
  intro c h
  have key : ∀ {C : String} {T : u_T} {N : Nat}, (∀ w ∈ u_ws C T N, w ∈ lw_tbl) → ∀ w ∈ u_ws C T N, w ∈ sn_gw := by
    intro C T N h w hw
    refine List.mem_filter.mpr ⟨h w hw, ?_⟩
    obtain ⟨k, -, rfl⟩ := List.mem_map.mp hw
    unfold u_lay
    split <;> rfl
  match c, h with
  | 0, _ => exact key tb_ly0
  | 1, _ => exact key tb_ly1
  | 2, _ => exact key tb_ly2
  | 3, _ => exact key tb_ly3
  | 4, _ => exact key tb_ly4
  | 5, _ => exact key tb_ly5
  | 6, _ => exact key tb_ly6
  | q + 7, h => exact absurd h (by omega)
theorem sn_tyok : ∀ c, c < 7 → ∀ k, k < sn_NF c → parseFieldDescriptor ((sn_T c) k).2.2.1 = some (sn_ty c k) := by
  intro c h
  match c, h with
  | 0, _ => exact tyX0_ok
  | 1, _ => exact tyX1_ok
  | 2, _ => exact tyX2_ok
  | 3, _ => exact tyX3_ok
  | 4, _ => exact tyX4_ok
  | 5, _ => exact tyX5_ok
  | 6, _ => exact tyX6_ok
  | q + 7, h => exact absurd h (by omega)
theorem sn_nmok : ∀ c, c < 7 → ∀ a, a < sn_NF c → ∀ b, b < sn_NF c → a ≠ b → ((sn_T c) a).2.1 ≠ ((sn_T c) b).2.1 := by
  intro c h
  match c, h with
  | 0, _ => exact nmX0
  | 1, _ => exact nmX1
  | 2, _ => exact nmX2
  | 3, _ => exact nmX3
  | 4, _ => exact nmX4
  | 5, _ => exact nmX5
  | 6, _ => exact nmX6
  | q + 7, h => exact absurd h (by omega)
theorem sn_inst : ∀ c, c < 7 → Cond.instantiable (sn_R c) (sn_NF c) ∈ lw_tbl := by
  intro c h
  match c, h with
  | 0, _ => exact tb_in0
  | 1, _ => exact tb_in1
  | 2, _ => exact tb_in2
  | 3, _ => exact tb_in3
  | 4, _ => exact tb_in4
  | 5, _ => exact tb_in5
  | 6, _ => exact tb_in6
  | q + 7, h => exact absurd h (by omega)
def sn_ftb (o : Option (Option Nat)) (t : FieldType) : Bool := match o, t with
  | none, .int => true
  | some none, .boolean => true
  | some (some _), .object _ => true
  | some (some _), .array _ => true
  | _, _ => false
theorem sn_ftok : ∀ c, c < 7 → ∀ k, k < sn_NF c → sn_ftb (sn_ft c k) (sn_ty c k) = true := by decide +kernel
theorem sn_rt7 {c k : Nat} (h : c < 7) : sn_rt c k = (sn_ft c k).join := by
  unfold sn_rt
  rw [if_neg (by omega), if_neg (by omega)]
theorem sn_ft7 (c k : Nat) (h : 7 ≤ c) : sn_ft c k = none := by
  have e : sn_fts.getD c [] = [] := by
    rw [List.getD_eq_getElem?_getD, List.getElem?_eq_none (by show sn_fts.length ≤ c; exact h)]
    rfl
  unfold sn_ft
  rw [e]
  rfl
theorem sn_rtA {c k : Nat} (h : 7 ≤ c) (h9 : c ≠ 9) (h10 : c ≠ 10) : sn_rt c k = none := by
  unfold sn_rt
  rw [if_neg h9, if_neg h10, sn_ft7 c k h]
  rfl
/-- which values a field takes -/
theorem sn_fit {c k : Nat} (hc : c < 7) (hk : k < sn_NF c) {v : Value} (h : (sn_ft c k = none ∧ ∃ x, v = .int x) ∨ (sn_ft c k = some none ∧ ∃ x, v = .int x ∧ (x = 0 ∨ x = 1)) ∨ (∃ c', sn_ft c k = some (some c') ∧ ∃ a, v = .ref a)) : narrow (sn_ty c k) v = v ∧ fits (sn_ty c k) v = true := by
  have h0 := sn_ftok c hc k hk
  rcases h with ⟨e, x, rfl⟩ | ⟨e, x, rfl, hx⟩ | ⟨c', e, a, rfl⟩
  · rw [e] at h0
    generalize sn_ty c k = t at h0 ⊢
    match t, h0 with
    | .int, _ => exact ⟨rfl, rfl⟩
  · rw [e] at h0
    generalize sn_ty c k = t at h0 ⊢
    match t, h0 with
    | .boolean, _ =>
      rcases hx with rfl | rfl
      · exact ⟨by decide, by decide⟩
      · exact ⟨by decide, by decide⟩
  · rw [e] at h0
    generalize sn_ty c k = t at h0 ⊢
    match t, h0 with
    | .object n, _ => exact ⟨rfl, rfl⟩
    | .array n, _ => exact ⟨rfl, rfl⟩
theorem sn_dflt {ad : Nat → Nat → Nat} {M : mm_M} {c len : Nat} (hc : c < 7) {k : Nat} (hk : k < sn_NF c) : defaultValue (sn_ty c k) = sn_val ad (mm_nw M c len) c (mm_N M c) k := by
  have h0 := sn_ftok c hc k hk
  unfold sn_val
  rw [sn_rt7 hc, mm_I_nw, if_pos ⟨rfl, rfl⟩, mm_R_nw, if_pos ⟨rfl, rfl⟩]
  generalize sn_ty c k = t at h0 ⊢
  generalize sn_ft c k = o at h0 ⊢
  match o, t, h0 with
  | none, .int, _ => rfl
  | some none, .boolean, _ => rfl
  | some (some _), .object _, _ => rfl
  | some (some _), .array _, _ => rfl
theorem sn_cat_sum (ad : Nat → Nat → Nat) : ∀ st : List mm_V, ((st.map (sn_v ad)).map fun v => v.category).sum = mm_wd st
  | [] => rfl
  | .inl x :: s => by
    rw [List.map_cons, List.map_cons, List.sum_cons, sn_cat_sum ad s, mm_wd_i]
    show 1 + _ = _
    omega
  | .inr (.inl x) :: s => by
    rw [List.map_cons, List.map_cons, List.sum_cons, sn_cat_sum ad s, mm_wd_l]
    show 2 + _ = _
    omega
  | .inr (.inr q) :: s => by
    rw [List.map_cons, List.map_cons, List.sum_cons, sn_cat_sum ad s, mm_wd_r]
    show 1 + _ = _
    omega
section SNR
variable {p : Program} {l : Launch} {e : Env} {R : Room} {s : State} {m : MethodId} {args : Array Value} {below : List Frame} {meth : Method} {c : Code} {H : Heap} {locs : List Loc} {cells slots : Nat} {Q : State → Prop}
variable {cc : ByteArray} {pc : Nat} {L : Array Slot} {rest : List Value} {D : va_G} {a0 : Nat} {ad : Nat → Nat → Nat} {M : mm_M} {own : String}
theorem sn_getf (hexec : p.tables.exec = Jvm.exec) (hb : c.code = cc) (hgw : ∀ w ∈ sn_gw, w.before args s = true) (hown : s.vm.findClass own = some m.cls) (hF : sn_F D s) (h : sn_H a0 D ad M s H) {c0 i0 k idx : Nat} (hc : c0 < 7) (hk : k < sn_NF c0) (hi : i0 < mm_N M c0)
    (hl : Cond.fieldLink own idx ((sn_T c0) k).1 ((sn_T c0) k).2.1 ((sn_T c0) k).2.2.1 ∈ sn_gw) (hdg : decode cc pc = .ok (.getfield idx, 3))
    (kk : W p l e R s m args below meth c H locs cells slots Q (F0 m (pc + 3) L (sn_val ad M c0 i0 k :: rest))) : W p l e R s m args below meth c H locs cells slots Q (F0 m pc L (.ref (ad c0 i0) :: rest)) := by
  have h1 := h.2.1 c0 i0 (by omega) hi
  unfold sn_at1 at h1
  rw [if_pos hc] at h1
  obtain ⟨cell, q1, q2, q3, q4⟩ := h1
  obtain ⟨hS, hfc, kC, hkC, hkind⟩ := hF.1.1 c0 _ (sn_cl_at c0 hc)
  obtain ⟨cf, kf, fi, f, hi2, hsl⟩ := hS k hk
  refine W.getf hexec hb hown (hgw _ hl) hi2 (u_facts hfc hkC (u_lays hgw (sn_ly c0 hc) hk) hi2).1 q1 (by rw [q3]; exact fun h => by cases h) (v := sn_val ad M c0 i0 k) ?_ rfl rfl hdg kk
  rw [hsl, q4 k hk]
theorem sn_putf (hexec : p.tables.exec = Jvm.exec) (hb : c.code = cc) (hgw : ∀ w ∈ sn_gw, w.before args s = true) (hown : s.vm.findClass own = some m.cls) (hF : sn_F D s) (h : sn_H a0 D ad M s H) (hS0 : va_S (fun q => a0 ≤ q) s.heap H locs) {c0 i0 k idx : Nat} (hc : c0 < 7) (hk : k < sn_NF c0) (hi : i0 < mm_N M c0)
    (hl : Cond.fieldLink own idx ((sn_T c0) k).1 ((sn_T c0) k).2.1 ((sn_T c0) k).2.2.1 ∈ sn_gw) (hfin : ((sn_T c0) k).2.2.2 = false ∨ (meth.name = "<init>" ∧ ((sn_T c0) k).1 = own)) {v : Value} (hfv : narrow (sn_ty c0 k) v = v ∧ fits (sn_ty c0 k) v = true) (hdg : decode cc pc = .ok (.putfield idx, 3)) {M' : mm_M}
    (hN : ∀ c, mm_N M' c = mm_N M c) (hL : ∀ c i, mm_L M' c i = mm_L M c i) (hI : ∀ c i k, ¬ (c = c0 ∧ i = i0) → mm_I M' c i k = mm_I M c i k) (hR : ∀ c i k, ¬ (c = c0 ∧ i = i0) → mm_R M' c i k = mm_R M c i k) (hv : ∀ k c' j, sn_rt c0 k = some c' → mm_R M' c0 i0 k = some j → j < mm_N M c') (hval : sn_val ad M' c0 i0 = updV (sn_val ad M c0 i0) k v)
    (kk : ∀ (H1 : Heap) (locs1 : List Loc), sn_H a0 D ad M' s H1 → va_S (fun q => a0 ≤ q) s.heap H1 locs1 → W p l e R s m args below meth c H1 locs1 cells slots Q (F0 m (pc + 3) L rest)) : W p l e R s m args below meth c H locs cells slots Q (F0 m pc L (v :: .ref (ad c0 i0) :: rest)) := by
  have h1 := h.2.1 c0 i0 (by omega) hi
  unfold sn_at1 at h1
  rw [if_pos hc] at h1
  obtain ⟨cell, q1, q2, q3, q4⟩ := h1
  have hcl := sn_cl_at c0 hc
  have hap := va_apart (own := own) hgw (sn_ly c0 hc) (sn_ty c0) (sn_tyok c0 hc) (sn_nmok c0 hc) hF.1 hcl
  obtain ⟨hS, hfc, kC, hkC, hkind⟩ := hF.1.1 c0 _ hcl
  obtain ⟨cf, kf, fi, f, hi2, hsl⟩ := hS k hk
  have hst := (u_facts hfc hkC (u_lays hgw (sn_ly c0 hc) hk) hi2).1
  have fin : ∀ H' : Heap, H'[ad c0 i0]? = some (cell.setSlot f.slot v) → H'.size = H.size → (∀ q, q ≠ ad c0 i0 → H'[q]? = H[q]?) → sn_H a0 D ad M' s H' := by
    intro H' e1 e2 e3
    refine sn_H_upd h (by omega) hi hN hL hI hR e2 e3 ?_ hv
    unfold sn_at1
    rw [if_pos hc, hval]
    rw [hsl] at e1
    exact ⟨_, e1, q2, q3, t_set q4 hap hk v⟩
  have hA : (fun q => a0 ≤ q) (ad c0 i0) := h.2.2.2.2.2.1 c0 i0 (by omega) hi
  have hlay := hgw _ (sn_ly c0 hc _ (u_in_lay hk))
  unfold u_lay at hlay
  cases hf2 : ((sn_T c0) k).2.2.2 with
  | false =>
    rw [if_neg (by rw [hf2]; decide)] at hlay
    have h6 := u_store hfc hkC hkind hlay hi2 (sn_tyok c0 hc k hk) hfv.1 hfv.2
    refine W.putK hexec hb (f := f) ⟨hown, hgw _ hl, ⟨_, _, _, hi2⟩, hst⟩ (by rw [q2]; exact h6) q1 q3 (by rw [hsl]; exact k2_hasslot (q4 k hk)) rfl rfl hdg fun H' e1 e2 e3 => ?_
    exact kk H' _ (fin H' e1 e2 e3) (hS0.put e2 e3 hA)
  | true =>
    rcases hfin with hfin | ⟨hin2, hdecl⟩
    · rw [hf2] at hfin; cases hfin
    rw [if_pos hf2] at hlay
    have hcf : m.cls = cf := by
      obtain ⟨_, _, c', _, _, _, -, -, hf', -, -, -, hown2, -⟩ := Cond.laysFinal_spec hlay
      have e1 : c' = cf := by have := hi2.symm.trans hf'; simp at this; exact this.1.symm
      rw [hdecl] at hown2
      rw [← e1]; exact Option.some.inj (hown.symm.trans hown2)
    have h6 := u_fits hfc hkC hkind (Or.inr hlay) hi2 (sn_tyok c0 hc k hk) hfv.1 hfv.2
    refine W.putFinK hexec hb hown (hgw _ hl) hi2 hst hcf hin2 (by rw [q2]; exact h6) q1 q3 (by rw [hsl]; exact k2_hasslot (q4 k hk)) rfl rfl hdg fun H' e1 e2 e3 => ?_
    exact kk H' _ (fin H' e1 e2 e3) (hS0.put e2 e3 hA)
theorem sn_arr (h : sn_H a0 D ad M s H) {c0 i0 : Nat} (hc : 7 ≤ c0) (hc2 : c0 < 11) (hi : i0 < mm_N M c0) : ∃ cA : ClassId, H[ad c0 i0]? = some (arrV cA (mm_L M c0 i0) (sn_val ad M c0 i0)) ∧ ArrOfT s cA (sn_at c0) ∧ va_RA s cA (sn_at c0) := by
  have h1 := h.2.1 c0 i0 hc2 hi
  unfold sn_at1 at h1
  rw [if_neg (by omega)] at h1
  exact h1
theorem sn_iald (hexec : p.tables.exec = Jvm.exec) (hb : c.code = cc) (h : sn_H a0 D ad M s H) {i0 : Nat} (hi : i0 < mm_N M 7) {x : Int32} (hin : vp_in x (mm_L M 7 i0)) (hdg : decode cc pc = .ok (.iaload, 1))
    (kk : W p l e R s m args below meth c H locs cells slots Q (F0 m (pc + 1) L (.int (mm_I M 7 i0 x.toNatClampNeg) :: rest))) : W p l e R s m args below meth c H locs cells slots Q (F0 m pc L (.int x :: .ref (ad 7 i0) :: rest)) := by
  obtain ⟨cA, h1, h2, h3⟩ := sn_arr h (c0 := 7) (by omega) (by omega) hi
  have hlt : x.toNatClampNeg < mm_L M 7 i0 := Nat.not_le.mp fun q => hin (Or.inr q)
  refine W.iald (v := .int (mm_I M 7 i0 x.toNatClampNeg)) hexec hb h1 (h2 _ _) (fun q => by cases q) (by rw [arrV_size]; exact hin) ?_ rfl rfl hdg kk
  rw [arrV_read _ _ hlt]
  unfold sn_val
  rw [sn_rtA (by omega) (by omega) (by omega)]
theorem sn_bald (hexec : p.tables.exec = Jvm.exec) (hb : c.code = cc) (h : sn_H a0 D ad M s H) {i0 : Nat} (hi : i0 < mm_N M 8) {x : Int32} (hin : vp_in x (mm_L M 8 i0)) (hdg : decode cc pc = .ok (.baload, 1))
    (kk : W p l e R s m args below meth c H locs cells slots Q (F0 m (pc + 1) L (.int (mm_I M 8 i0 x.toNatClampNeg) :: rest))) : W p l e R s m args below meth c H locs cells slots Q (F0 m pc L (.int x :: .ref (ad 8 i0) :: rest)) := by
  obtain ⟨cA, h1, h2, h3⟩ := sn_arr h (c0 := 8) (by omega) (by omega) hi
  have hlt : x.toNatClampNeg < mm_L M 8 i0 := Nat.not_le.mp fun q => hin (Or.inr q)
  refine W.bald (v := .int (mm_I M 8 i0 x.toNatClampNeg)) hexec hb h1 (h2 _ _) (fun q => by cases q) (by rw [arrV_size]; exact hin) ?_ rfl rfl hdg kk
  rw [arrV_read _ _ hlt]
  unfold sn_val
  rw [sn_rtA (by omega) (by omega) (by omega)]
theorem sn_aald (hexec : p.tables.exec = Jvm.exec) (hb : c.code = cc) (h : sn_H a0 D ad M s H) {a b i0 j : Nat} (hab : (a = 9 ∧ b = 2) ∨ (a = 10 ∧ b = 4)) (hi : i0 < mm_N M a) {x : Int32} (hin : vp_in x (mm_L M a i0)) (hj : mm_R M a i0 x.toNatClampNeg = some j) (hdg : decode cc pc = .ok (.aaload, 1))
    (kk : W p l e R s m args below meth c H locs cells slots Q (F0 m (pc + 1) L (.ref (ad b j) :: rest))) : W p l e R s m args below meth c H locs cells slots Q (F0 m pc L (.int x :: .ref (ad a i0) :: rest)) := by
  obtain ⟨cA, h1, h2, h3⟩ := sn_arr h (c0 := a) (by omega) (by omega) hi
  have hlt : x.toNatClampNeg < mm_L M a i0 := Nat.not_le.mp fun q => hin (Or.inr q)
  have href : (sn_at a).isReference = true := by
    rcases hab with ⟨rfl, -⟩ | ⟨rfl, -⟩ <;> rfl
  refine W.aald (v := .ref (ad b j)) (ty := sn_at a) hexec hb h1 (h2 _ _) href (fun q => by cases q) (by rw [arrV_size]; exact hin) ?_ rfl rfl hdg kk
  rw [arrV_read _ _ hlt]
  unfold sn_val
  have hrt : sn_rt a x.toNatClampNeg = some b := by
    rcases hab with ⟨rfl, rfl⟩ | ⟨rfl, rfl⟩ <;> rfl
  rw [hrt, hj]
  rfl
theorem sn_iast (hexec : p.tables.exec = Jvm.exec) (hb : c.code = cc) (h : sn_H a0 D ad M s H) (hS0 : va_S (fun q => a0 ≤ q) s.heap H locs) {i0 : Nat} (hi : i0 < mm_N M 7) {x y : Int32} (hin : vp_in x (mm_L M 7 i0)) (hdg : decode cc pc = .ok (.iastore, 1))
    (kk : ∀ (H1 : Heap) (locs1 : List Loc), sn_H a0 D ad (mm_sI M 7 i0 x.toNatClampNeg y) s H1 → va_S (fun q => a0 ≤ q) s.heap H1 locs1 → W p l e R s m args below meth c H1 locs1 cells slots Q (F0 m (pc + 1) L rest)) : W p l e R s m args below meth c H locs cells slots Q (F0 m pc L (.int y :: .int x :: .ref (ad 7 i0) :: rest)) := by
  obtain ⟨cA, h1, h2, h3⟩ := sn_arr h (c0 := 7) (by omega) (by omega) hi
  refine W.iast hexec hb h1 (h2 _ _) (fun q => by cases q) (by rw [arrV_size]; exact hin) rfl rfl hdg fun H1 e1 e2 e3 => ?_
  refine kk H1 _ (sn_H_upd h (by omega) hi (fun _ => rfl) (fun _ _ => rfl) (fun c i k hn => ?_) (fun _ _ _ _ => rfl) e2 e3 ?_ (fun k c' j hr hj => h.2.2.2.2.2.2 7 i0 k c' j hr hi hj)) (hS0.put e2 e3 (h.2.2.2.2.2.1 7 i0 (by omega) hi))
  · rw [mm_I_sI, if_neg (fun z => hn ⟨z.1, z.2.1⟩)]
  · unfold sn_at1
    rw [if_neg (by omega)]
    refine ⟨cA, ?_, h2, h3⟩
    rw [e1, arrV_store, mm_L_sI, sn_val_sI (sn_rtA (by omega) (by omega) (by omega))]
theorem sn_bast (hexec : p.tables.exec = Jvm.exec) (hb : c.code = cc) (h : sn_H a0 D ad M s H) (hS0 : va_S (fun q => a0 ≤ q) s.heap H locs) {i0 : Nat} (hi : i0 < mm_N M 8) {x y : Int32} (hin : vp_in x (mm_L M 8 i0)) (hdg : decode cc pc = .ok (.bastore, 1))
    (kk : ∀ (H1 : Heap) (locs1 : List Loc), sn_H a0 D ad (mm_sI M 8 i0 x.toNatClampNeg (vp_nar .byte y)) s H1 → va_S (fun q => a0 ≤ q) s.heap H1 locs1 → W p l e R s m args below meth c H1 locs1 cells slots Q (F0 m (pc + 1) L rest)) : W p l e R s m args below meth c H locs cells slots Q (F0 m pc L (.int y :: .int x :: .ref (ad 8 i0) :: rest)) := by
  obtain ⟨cA, h1, h2, h3⟩ := sn_arr h (c0 := 8) (by omega) (by omega) hi
  refine W.bast hexec hb h1 (h2 _ _) (fun q => by cases q) (by rw [arrV_size]; exact hin) rfl rfl hdg fun H1 e1 e2 e3 => ?_
  refine kk H1 _ (sn_H_upd h (by omega) hi (fun _ => rfl) (fun _ _ => rfl) (fun c i k hn => ?_) (fun _ _ _ _ => rfl) e2 e3 ?_ (fun k c' j hr hj => h.2.2.2.2.2.2 8 i0 k c' j hr hi hj)) (hS0.put e2 e3 (h.2.2.2.2.2.1 8 i0 (by omega) hi))
  · rw [mm_I_sI, if_neg (fun z => hn ⟨z.1, z.2.1⟩)]
  · unfold sn_at1
    rw [if_neg (by omega)]
    refine ⟨cA, ?_, h2, h3⟩
    rw [e1, arrV_store, mm_L_sI, sn_val_sI (sn_rtA (by omega) (by omega) (by omega))]
    rfl
theorem sn_aast (hexec : p.tables.exec = Jvm.exec) (hb : c.code = cc) (hF : sn_F D s) (h : sn_H a0 D ad M s H) (hS0 : va_S (fun q => a0 ≤ q) s.heap H locs) {a b i0 j : Nat} (hab : (a = 9 ∧ b = 2) ∨ (a = 10 ∧ b = 4)) (hi : i0 < mm_N M a) (hj : j < mm_N M b) {x : Int32} (hin : vp_in x (mm_L M a i0)) (hdg : decode cc pc = .ok (.aastore, 1))
    (kk : ∀ (H1 : Heap) (locs1 : List Loc), sn_H a0 D ad (mm_sR M a i0 x.toNatClampNeg (some j)) s H1 → va_S (fun q => a0 ≤ q) s.heap H1 locs1 → W p l e R s m args below meth c H1 locs1 cells slots Q (F0 m (pc + 1) L rest)) : W p l e R s m args below meth c H locs cells slots Q (F0 m pc L (.ref (ad b j) :: .int x :: .ref (ad a i0) :: rest)) := by
  obtain ⟨cA, h1, h2, h3⟩ := sn_arr h (c0 := a) (by omega) (by omega) hi
  have hlt : x.toNatClampNeg < mm_L M a i0 := Nat.not_le.mp fun q => hin (Or.inr q)
  have h0 : ¬ x < 0 := fun q => hin (Or.inl q)
  have hb7 : b < 7 := by omega
  have hv := h.2.1 b j (by omega) hj
  unfold sn_at1 at hv
  rw [if_pos hb7] at hv
  obtain ⟨cellV, g1, g2, g3, -⟩ := hv
  have hcls := (hF.1.1 b _ (sn_cl_at b hb7)).2
  have hra : va_RA s cA (.object (sn_R b)) := by
    rcases hab with ⟨rfl, rfl⟩ | ⟨rfl, rfl⟩ <;> exact h3
  obtain ⟨kA, comp, k1, k2, k3, -⟩ := hra
  have hcomp : comp = D.1 b := Option.some.inj (k3.symm.trans hcls.1)
  subst hcomp
  obtain ⟨kC, hkC, -⟩ := id hcls.2
  have hrt : ∀ k, sn_rt a k = some b := by
    intro k
    rcases hab with ⟨rfl, rfl⟩ | ⟨rfl, rfl⟩ <;> rfl
  refine W.aast hexec hb h1 (fun q h => by cases h) (fun h => by cases h) k1 k2 rfl hkC ⟨h0, by rw [arrV_size]; exact hlt⟩ g1 (fun q h => by rw [g3] at h; cases h) (by rw [g2]; exact hkC) (by rw [g2]; exact va_assign hcls) rfl rfl hdg fun H1 e1 e2 e3 => ?_
  refine kk H1 _ (sn_H_upd h (by omega) hi (fun _ => rfl) (fun _ _ => rfl) (fun _ _ _ _ => rfl) (fun c i k hn => ?_) e2 e3 ?_ (fun k c' j' hr hj' => ?_)) (hS0.put e2 e3 (h.2.2.2.2.2.1 a i0 (by omega) hi))
  · rw [mm_R_sR, if_neg (fun z => hn ⟨z.1, z.2.1⟩)]
  · unfold sn_at1
    rw [if_neg (by omega)]
    refine ⟨cA, ?_, h2, h3⟩
    rw [e1, arrV_store, mm_L_sR, sn_val_sR (hrt _)]
  · rw [mm_R_sR] at hj'
    by_cases ek : k = x.toNatClampNeg
    · rw [if_pos ⟨rfl, rfl, ek⟩] at hj'
      cases hj'
      rw [hrt k] at hr
      cases hr
      exact hj
    · rw [if_neg (fun z => ek z.2.2)] at hj'
      exact h.2.2.2.2.2.2 a i0 k c' j' hr hi hj'
theorem sn_S_new {A : Nat → Prop} {H0 H H1 : Heap} {locs : List Loc} (hS : va_S A H0 H locs) (hz : H1.size = H.size + 1) (o1 : ∀ q, q < H.size → H1[q]? = H[q]?) : va_S A H0 H1 locs :=
  ⟨Nat.le_trans hS.1 (by omega), fun x h1 h2 => (o1 x (Nat.lt_of_lt_of_le h1 hS.1)).trans (hS.2.1 x h1 h2), hS.2.2⟩
theorem sn_new (hexec : p.tables.exec = Jvm.exec) (hb : c.code = cc) (hgw : ∀ w ∈ sn_gw, w.before args s = true) (hown : s.vm.findClass own = some m.cls) (hF : sn_F D s) (h : sn_H a0 D ad M s H) (hS0 : va_S (fun q => a0 ≤ q) s.heap H locs) {c0 idx : Nat} (hc : c0 < 7)
    (hl : Cond.classLink own idx (sn_R c0) ∈ sn_gw) (hins : Cond.instantiable (sn_R c0) (sn_NF c0) ∈ sn_gw) (hini : Cond.initialized (sn_R c0) ∈ sn_gw) (hcells : cells + 1 ≤ R.cells) (hslots : slots + sn_NF c0 ≤ R.slots) (hdg : decode cc pc = .ok (.new idx, 3))
    (kk : ∀ (H1 : Heap), sn_H a0 D (sn_ad ad c0 (mm_N M c0) H.size) (mm_nw M c0 0) s H1 → va_S (fun q => a0 ≤ q) s.heap H1 locs → W p l e R s m args below meth c H1 locs (cells + 1) (slots + sn_NF c0) Q (F0 m (pc + 3) L (.ref H.size :: rest))) : W p l e R s m args below meth c H locs cells slots Q (F0 m pc L rest) := by
  have hKn := hF.1.1 c0 _ (sn_cl_at c0 hc)
  refine W.newcK hexec hb hown (hgw _ hl) (hgw _ hins) (hgw _ hini) rfl hdg hcells hslots hKn.2.1 rfl fun H1 kC hkC e1 z1 o1 => ?_
  refine kk H1 (sn_H_new h (by omega) z1 o1 ?_) (sn_S_new hS0 z1 o1)
  unfold sn_at1
  rw [if_pos hc]
  have ea : sn_ad ad c0 (mm_N M c0) H.size c0 (mm_N M c0) = H.size := by unfold sn_ad; rw [if_pos ⟨rfl, rfl⟩]
  rw [ea]
  exact (u_born (sn_ty c0) hgw (sn_ly c0 hc) hKn hkC e1 (sn_tyok c0 hc)).to (fun k hk => sn_dflt hc hk)
theorem sn_newa (hexec : p.tables.exec = Jvm.exec) (hb : c.code = cc) (h : sn_H a0 D ad M s H) (hS0 : va_S (fun q => a0 ≤ q) s.heap H locs) {a : Nat} {t : ArrayType} (hta : (t = .int ∧ a = 7) ∨ (t = .byte ∧ a = 8)) (harr : (Cond.arrayClass (newarray.typeOf t)).before args s = true) {n : Int32} (hn : ¬ n < 0) (hbig : n.toNatClampNeg ≤ 1000)
    (hcells : cells + 1 ≤ R.cells) (hslots : slots + n.toNatClampNeg ≤ R.slots) (hdg : decode cc pc = .ok (.newarray t, 2))
    (kk : ∀ (H1 : Heap), sn_H a0 D (sn_ad ad a (mm_N M a) H.size) (mm_nw M a n.toNatClampNeg) s H1 → va_S (fun q => a0 ≤ q) s.heap H1 locs → W p l e R s m args below meth c H1 locs (cells + 1) (slots + n.toNatClampNeg) Q (F0 m (pc + 2) L (.ref H.size :: rest))) : W p l e R s m args below meth c H locs cells slots Q (F0 m pc L (.int n :: rest)) := by
  refine va_newaK hexec hb harr rfl hdg rfl hn rfl ?_ hcells hslots rfl fun H1 cA e1 z1 o1 hAr hNm => ?_
  · rcases hta with ⟨rfl, -⟩ | ⟨rfl, -⟩
    · show n.toNatClampNeg * 4 ≤ _; omega
    · show n.toNatClampNeg * 1 ≤ _; omega
  refine kk H1 (sn_H_new h (by omega) z1 o1 ?_) (sn_S_new hS0 z1 o1)
  unfold sn_at1
  rw [if_neg (by omega)]
  have ea : sn_ad ad a (mm_N M a) H.size a (mm_N M a) = H.size := by unfold sn_ad; rw [if_pos ⟨rfl, rfl⟩]
  have hval : sn_val (sn_ad ad a (mm_N M a) H.size) (mm_nw M a n.toNatClampNeg) a (mm_N M a) = fun _ => defaultValue (newarray.typeOf t) := by
    funext k
    unfold sn_val
    rw [sn_rtA (by omega) (by omega) (by omega), mm_I_nw, if_pos ⟨rfl, rfl⟩]
    rcases hta with ⟨rfl, -⟩ | ⟨rfl, -⟩ <;> rfl
  rw [ea, hval, mm_L_nw, if_pos ⟨rfl, rfl⟩]
  refine ⟨cA, e1, ?_, ?_⟩
  · rcases hta with ⟨rfl, rfl⟩ | ⟨rfl, rfl⟩ <;> exact hAr
  · rcases hta with ⟨rfl, rfl⟩ | ⟨rfl, rfl⟩ <;> exact hNm
theorem sn_newq (hexec : p.tables.exec = Jvm.exec) (hb : c.code = cc) (hgw : ∀ w ∈ sn_gw, w.before args s = true) (hown : s.vm.findClass own = some m.cls) (hF : sn_F D s) (h : sn_H a0 D ad M s H) (hS0 : va_S (fun q => a0 ≤ q) s.heap H locs) {a b idx : Nat} (hab : (a = 9 ∧ b = 2) ∨ (a = 10 ∧ b = 4)) (hl : Cond.classLink own idx (sn_R b) ∈ sn_gw) {n : Int32} (hn : ¬ n < 0) (hbig : n.toNatClampNeg ≤ 1000)
    (hcells : cells + 1 ≤ R.cells) (hslots : slots + n.toNatClampNeg ≤ R.slots) (hdg : decode cc pc = .ok (.anewarray idx, 3))
    (kk : ∀ (H1 : Heap), sn_H a0 D (sn_ad ad a (mm_N M a) H.size) (mm_nw M a n.toNatClampNeg) s H1 → va_S (fun q => a0 ≤ q) s.heap H1 locs → W p l e R s m args below meth c H1 locs (cells + 1) (slots + n.toNatClampNeg) Q (F0 m (pc + 3) L (.ref H.size :: rest))) : W p l e R s m args below meth c H locs cells slots Q (F0 m pc L (.int n :: rest)) := by
  have hover : va_AO (sn_R b) s := by
    rcases hab with ⟨-, rfl⟩ | ⟨-, rfl⟩
    · exact hF.2.2.1
    · exact hF.2.2.2
  refine W.anew hexec hb hown (hgw _ hl) (va_AO.use hover) rfl hdg rfl hn (by omega) hcells hslots fun cA kA comp f1 f2 f3 f4 => ?_
  generalize hH1 : H.push ({ cls := cA, slots := Array.replicate n.toNatClampNeg .null, vm := .none } : Cell) = H1
  have z1 : H1.size = H.size + 1 := by rw [← hH1, Array.size_push]
  have e1 : H1[H.size]? = some (arrV cA n.toNatClampNeg (fun _ => .null)) := by rw [← hH1, Array.getElem?_push_size, ← arrV_new]
  have o1 : ∀ q : Nat, q < H.size → H1[q]? = H[q]? := fun q hq => by rw [← hH1, Array.getElem?_push, if_neg (Nat.ne_of_lt hq)]
  have hAr : ArrOfT s cA (.object (sn_R b)) := fun N z => ⟨(fun k h => by cases h), kA, f2, comp, f3⟩
  refine kk H1 (sn_H_new h (by omega) z1 o1 ?_) (sn_S_new hS0 z1 o1)
  unfold sn_at1
  rw [if_neg (by omega)]
  have ea : sn_ad ad a (mm_N M a) H.size a (mm_N M a) = H.size := by unfold sn_ad; rw [if_pos ⟨rfl, rfl⟩]
  have hval : sn_val (sn_ad ad a (mm_N M a) H.size) (mm_nw M a n.toNatClampNeg) a (mm_N M a) = fun _ => .null := by
    funext k
    unfold sn_val
    have hrt : sn_rt a k = some b := by
      rcases hab with ⟨rfl, rfl⟩ | ⟨rfl, rfl⟩ <;> rfl
    rw [hrt, mm_R_nw, if_pos ⟨rfl, rfl⟩]
    rfl
  rw [ea, hval, mm_L_nw, if_pos ⟨rfl, rfl⟩]
  have hra : va_RA s cA (.object (sn_R b)) := ⟨kA, comp, f2, f3, f4, f1⟩
  refine ⟨cA, e1, ?_, ?_⟩
  · rcases hab with ⟨rfl, rfl⟩ | ⟨rfl, rfl⟩ <;> exact hAr
  · rcases hab with ⟨rfl, rfl⟩ | ⟨rfl, rfl⟩ <;> exact hra
end SNR
