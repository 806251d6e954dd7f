/-! SOUNDNESS, an instruction at a time -/
def sn_SL (l : Launch) : Prop := ∀ (a0 : Nat) (D : va_G) (ad : Nat → Nat → Nat) (M : mm_M) (i : Nat), i < mm_N M 12 → Met l yJ0_length_8abf5 (Cond.code yJ0_length_8abf5 cJ0_length_8abf5 1 (some .int) :: sn_gw) { frames := 7, cells := 0, slots := 0, locals := 400 } (sn_Pc a0 D ad M [.inr (.inr (12, i))]) (sn_Qc a0 D ad M (fun r M' => r = some (.inl (nI mm_txt.length)) ∧ M' = M)) 0 0 (fun q => a0 ≤ q)
def sn_SC (l : Launch) : Prop := ∀ (a0 : Nat) (D : va_G) (ad : Nat → Nat → Nat) (M : mm_M) (i : Nat) (x : Int32), i < mm_N M 12 → vp_in x mm_txt.length → Met l yJ0_charAt_5068e (Cond.code yJ0_charAt_5068e cJ0_charAt_5068e 2 (some .char) :: sn_gw) { frames := 7, cells := 0, slots := 0, locals := 400 } (sn_Pc a0 D ad M [.inr (.inr (12, i)), .inl x]) (sn_Qc a0 D ad M (fun r M' => r = some (.inl (mm_txt.getD x.toNatClampNeg 0)) ∧ M' = M)) 0 0 (fun q => a0 ≤ q)
def sn_Z (a0 : Nat) (D : va_G) (M0 : mm_M) (ad0 : Nat → Nat → Nat) (s : State) (R : Room) (nL : Nat) (ad : Nat → Nat → Nat) (M : mm_M) (ls : mm_LS) (st : List mm_V) (bu : mm_B) (H : Heap) (locs : List Loc) (cells slots : Nat) (L : Array Slot) : Prop :=
  (∀ v ∈ st, sn_ok M v) ∧ sn_H a0 D ad M s H ∧ va_S (fun q => a0 ≤ q) s.heap H locs ∧ sn_E M0 ad0 M ad ∧ (∀ i v, mm_at ls i = some v → sn_ok M v) ∧ sn_LS ad nL ls L ∧ cells + bu.1 ≤ R.cells ∧ slots + bu.2 ≤ R.slots
theorem sn_tl {α : Type} {P : α → Prop} {a : α} {s : List α} (h : ∀ v ∈ a :: s, P v) : ∀ v ∈ s, P v := fun v hv => h v (List.mem_cons_of_mem _ hv)
theorem sn_cs {α : Type} {P : α → Prop} {a : α} {s : List α} (ha : P a) (h : ∀ v ∈ s, P v) : ∀ v ∈ a :: s, P v := fun v hv => by
  rcases List.mem_cons.mp hv with rfl | hv
  · exact ha
  · exact h v hv
def sn_ret (k pc : Nat) (r : Option mm_V) : Prop := (decode (pCd k) pc = .ok (.ireturn, 1) ∧ ∃ x, r = some (.inl x) ∧ (pRet k = some .int ∨ (pRet k = some .boolean ∧ (x = 0 ∨ x = 1)))) ∨ (decode (pCd k) pc = .ok (.areturn, 1) ∧ pRet k = some (.object RX2) ∧ ∃ q, r = some (.inr (.inr q))) ∨ (decode (pCd k) pc = .ok (.return_, 1) ∧ pRet k = none ∧ r = none)
theorem sn_inid : ∀ c, c < 7 → Cond.initialized (sn_R c) ∈ lw_tbl := by
  intro c h
  match c, h with
  | 0, _ => exact tb_id0
  | 1, _ => exact tb_id1
  | 2, _ => exact tb_id2
  | 3, _ => exact tb_id3
  | 4, _ => exact tb_id4
  | 5, _ => exact tb_id5
  | 6, _ => exact tb_id6
  | q + 7, h => exact absurd h (by omega)
section SNX
variable {p : Program} {l : Launch} {e : Env} {R : Room} {s : State} {m : MethodId} {args : Array Value} {below : List Frame} {meth : Method} {c : Code} {Q : State → Prop} {D : va_G} {a0 : Nat} {M0 : mm_M} {ad0 : Nat → Nat → Nat} {k d : Nat} {post : mm_Post}
/-- what the instructions take as given -/
def sn_K (p : Program) (l : Launch) (e : Env) (R : Room) (s : State) (m : MethodId) (args : Array Value) (below : List Frame) (meth : Method) (c : Code) (Q : State → Prop) (D : va_G) (a0 : Nat) (M0 : mm_M) (ad0 : Nat → Nat → Nat) (k d : Nat) (post : mm_Post) : Prop :=
  k < 167 ∧ p.tables.exec = Jvm.exec ∧ c.code = pCd k ∧ c.maxLocals = pMx k ∧ s.vm.findClass (sn_R (pOc k)) = some m.cls ∧ (∀ w ∈ sn_gw, w.before args s = true) ∧ sn_F D s ∧ (pSt k = 2 → meth.name = "<init>") ∧ d + 9 ≤ R.frames ∧ 64 * (d + 9) ≤ R.locals ∧ sn_Met l d ∧ sn_SL l ∧ sn_SC l ∧
  (∀ (pc : Nat) (L : Array Slot) (r : Option mm_V) (M : mm_M) (ad : Nat → Nat → Nat) (H : Heap) (locs : List Loc) (cells slots : Nat), sn_ret k pc r → post r M → (∀ v, r = some v → sn_ok M v) → sn_H a0 D ad M s H → va_S (fun q => a0 ≤ q) s.heap H locs → sn_E M0 ad0 M ad → cells ≤ R.cells → slots ≤ R.slots → W p l e R s m args below meth c H locs cells slots Q (F0 m pc L ((r.map (sn_v ad)).toList)))
/-- an instruction list is sound -/
def sn_OK (p : Program) (l : Launch) (e : Env) (R : Room) (s : State) (m : MethodId) (args : Array Value) (below : List Frame) (meth : Method) (c : Code) (Q : State → Prop) (D : va_G) (a0 : Nat) (M0 : mm_M) (ad0 : Nat → Nat → Nat) (k : Nat) (pc : Nat) (ls : mm_LS) (st : List mm_V) (M : mm_M) (bu : mm_B) : Prop :=
  ∀ (ad : Nat → Nat → Nat) (H : Heap) (locs : List Loc) (cells slots : Nat) (L : Array Slot), sn_Z a0 D M0 ad0 s R (pMx k) ad M ls st bu H locs cells slots L → W p l e R s m args below meth c H locs cells slots Q (F0 m pc L (st.map (sn_v ad)))
theorem sn_cnd {x y : Int32} {op : Jvm.ClassFile.Cond} {pc tgt k : Nat} {off : Int} {H : Heap} {locs : List Loc} {cells slots : Nat} {L : Array Slot} {rest : List Value} (hx : p.tables.exec = Jvm.exec) (hb : c.code = pCd k) (hdg : decode (pCd k) pc = .ok (.if_icmp op off, 3)) (ht : (pc : Int) + off = (tgt : Int)) (kt : mm_cmp op x y → W p l e R s m args below meth c H locs cells slots Q (F0 m tgt L rest)) (kf : ¬ mm_cmp op x y → W p l e R s m args below meth c H locs cells slots Q (F0 m (pc + 3) L rest)) : W p l e R s m args below meth c H locs cells slots Q (F0 m pc L (.int y :: .int x :: rest)) := by
  cases op
  · exact lv_icmp_eq hx hb hdg ht kt kf
  · exact lv_icmp_ne hx hb hdg ht kt (fun h => kf (fun z => z h))
  · exact lv_icmp_lt hx hb hdg ht kt kf
  · exact lv_icmp_ge hx hb hdg ht kt kf
  · exact lv_icmp_gt hx hb hdg ht kt kf
  · exact lv_icmp_le hx hb hdg ht kt kf
theorem sn_cn0 {x : Int32} {op : Jvm.ClassFile.Cond} {pc tgt k : Nat} {off : Int} {H : Heap} {locs : List Loc} {cells slots : Nat} {L : Array Slot} {rest : List Value} (hx : p.tables.exec = Jvm.exec) (hb : c.code = pCd k) (hdg : decode (pCd k) pc = .ok (.ifCond op off, 3)) (ht : (pc : Int) + off = (tgt : Int)) (kt : mm_cmp op x 0 → W p l e R s m args below meth c H locs cells slots Q (F0 m tgt L rest)) (kf : ¬ mm_cmp op x 0 → W p l e R s m args below meth c H locs cells slots Q (F0 m (pc + 3) L rest)) : W p l e R s m args below meth c H locs cells slots Q (F0 m pc L (.int x :: rest)) := by
  cases op
  · exact lv_if_eq hx hb hdg ht kt kf
  · exact lv_if_ne hx hb hdg ht kt (fun h => kf (fun z => z h))
  · exact lv_if_lt hx hb hdg ht kt kf
  · exact lv_if_ge hx hb hdg ht kt kf
  · exact lv_if_gt hx hb hdg ht kt kf
  · exact lv_if_le hx hb hdg ht kt kf
theorem sn_sw_e {ts : List (Int32 × Nat)} {dd : Nat} {x : Int32} {K : Nat → Prop} : mm_sw ts dd x K → (∃ q ∈ ts, q.1 = x ∧ K q.2) ∨ ((∀ q ∈ ts, q.1 ≠ x) ∧ K dd) := by
  induction ts with
  | nil => exact fun h => Or.inr ⟨fun _ h => absurd h List.not_mem_nil, h⟩
  | cons q t ih =>
    intro h
    by_cases hq : x = q.1
    · exact Or.inl ⟨q, List.mem_cons_self, hq.symm, h.1 hq⟩
    · rcases ih (h.2 hq) with ⟨r, h1, h2⟩ | ⟨h1, h2⟩
      · exact Or.inl ⟨r, List.mem_cons_of_mem _ h1, h2⟩
      · refine Or.inr ⟨fun r hr => ?_, h2⟩
        rcases List.mem_cons.mp hr with rfl | hr
        · exact fun z => hq z.symm
        · exact h1 r hr
theorem sn_tsw_in {pc k : Nat} {lo : Int} : ∀ (fs : List Int) (ts : List (Int32 × Nat)) (n : Int), sn_tsw pc k lo fs ts n = true → (∀ q ∈ ts, ∃ (t : Nat) (f : Int), fs[t]? = some f ∧ q.1.toInt = lo + n + t ∧ (pc : Int) + f = (pPc k q.2 : Int)) ∧ ∀ (t : Nat), t < fs.length → ∃ q ∈ ts, q.1.toInt = lo + n + t
  | [], [], n, _ => ⟨fun _ h => absurd h List.not_mem_nil, fun t h => absurd h (Nat.not_lt_zero _)⟩
  | f :: fs, q :: ts, n, h => by
    unfold sn_tsw at h
    simp only [Bool.and_eq_true, decide_eq_true_eq] at h
    obtain ⟨⟨h1, h2⟩, h3⟩ := h
    obtain ⟨g1, g2⟩ := sn_tsw_in fs ts (n + 1) h3
    refine ⟨fun r hr => ?_, fun t ht => ?_⟩
    · rcases List.mem_cons.mp hr with rfl | hr
      · exact ⟨0, f, rfl, by omega, h2⟩
      · obtain ⟨t, f', e1, e2, e3⟩ := g1 r hr
        exact ⟨t + 1, f', e1, by omega, e3⟩
    · cases t with
      | zero => exact ⟨q, List.mem_cons_self, by omega⟩
      | succ t =>
        obtain ⟨r, e1, e2⟩ := g2 t (Nat.lt_of_succ_lt_succ ht)
        exact ⟨r, List.mem_cons_of_mem _ e1, by omega⟩
  | [], _ :: _, _, h => by cases h
  | _ :: _, [], _, h => by cases h
theorem sn_lsw_in {pc k : Nat} {dflt : Int} {x : Int32} : ∀ (fs : List (Int × Int)) (ts : List (Int32 × Nat)), sn_lsw pc k fs ts = true → ∀ K : Nat → Prop, ∀ dd : Nat, (pc : Int) + dflt = (pPc k dd : Int) → mm_sw ts dd x K → ∃ j, (pc : Int) + Op.lookupswitch.offset fs dflt x.toInt = (pPc k j : Int) ∧ K j
  | [], [], _, K, dd, hd, hw => ⟨dd, hd, hw⟩
  | f :: fs, q :: ts, h, K, dd, hd, hw => by
    unfold sn_lsw at h
    simp only [Bool.and_eq_true, decide_eq_true_eq] at h
    obtain ⟨⟨h1, h2⟩, h3⟩ := h
    by_cases hq : x = q.1
    · refine ⟨q.2, ?_, hw.1 hq⟩
      have e1 : f.1 = x.toInt := by rw [hq]; exact h1.symm
      obtain ⟨f1, f2⟩ := f
      have e2 : Op.lookupswitch.offset ((f1, f2) :: fs) dflt x.toInt = f2 := by
        simp only at e1
        simp [Op.lookupswitch.offset, e1]
      rw [e2]
      exact h2
    · obtain ⟨j, g1, g2⟩ := sn_lsw_in fs ts h3 K dd hd (hw.2 hq)
      refine ⟨j, ?_, g2⟩
      obtain ⟨f1, f2⟩ := f
      rw [lv_osw hq h1]
      exact g1
  | [], _ :: _, h, _, _, _, _ => by cases h
  | _ :: _, [], h, _, _, _, _ => by cases h

set_option maxHeartbeats 8000000 in
set_option maxRecDepth 100000 in
theorem sn_code (C0 : sn_K p l e R s m args below meth c Q D a0 M0 ad0 k d post) (X : Nat → mm_LS → List mm_V → mm_M → mm_B → Prop) (hX : ∀ j ls st M bu, X j ls st M bu → sn_OK p l e R s m args below meth c Q D a0 M0 ad0 k (pPc k j) ls st M bu) :
    ∀ (code : List mm_Ins) (pc : Nat), sn_chkL k code = true → (∀ q t, code = q :: t → q.1 = pc) → ∀ (ls : mm_LS) (st : List mm_V) (M : mm_M) (bu : mm_B), mm_w (mm_call pAl pB pMx d) X post code ls st M bu → sn_OK p l e R s m args below meth c Q D a0 M0 ad0 k pc ls st M bu := by
  obtain ⟨hk, hx, hb, hml, hown, hgw, hF, hin, hfr, hlo, hM, hSL, hSC, hret⟩ := C0
  intro code
  induction code with
  | nil => intro pc _ _ ls st M bu hw; exact False.elim hw
  | cons q code ih =>
    obtain ⟨pc0, len, ins, a, b, o, v, ts⟩ := q
    intro pc hck hpc ls st M bu hw
    have hpc0 : pc0 = pc := hpc _ _ rfl
    subst hpc0
    obtain ⟨hq, hcl, hnx⟩ := sn_chkL_c hck
    dsimp only at hnx
    have nx := ih (pc0 + len) hcl hnx
    intro ad H locs cells slots L hZ
    obtain ⟨hst, hH, hS, hE, hlk, hL, hc1, hc2⟩ := id hZ
    cases ins
    case nop =>
      revert hw hq
      match a with
      | 0 =>
        intro hw hq
        have hq' : pc0 = pPc k b := of_decide_eq_true hq
        rw [hq']
        exact hX b ls st M bu hw ad H locs cells slots L hZ
      | 1 =>
        intro hw hq
        have hq' := hq
        simp only [sn_chk, Bool.and_eq_true, decide_eq_true_eq] at hq'
        simp only [mm_w] at hw
        obtain ⟨hd, rfl, hl⟩ := hq'
        obtain ⟨y, s1, rfl, hw_1⟩ := mm_pI_e hw
        obtain ⟨x, s1, rfl, hwd, hw_2⟩ := mm_pI_e hw_1
        have hl' := tb_mx_ok (pOc k, b) hl
        refine va_mmax hx hb (by rw [hml]; exact hL.2.1.symm) hown (hgw _ (sn_gw_in hl' rfl)) (hgw _ (sn_gw_in tb_max_s rfl)) (hgw _ (sn_gw_in tb_max_i rfl)) (hgw _ (sn_gw_in tb_max_c rfl)) (by omega) ?_ (by omega) (by omega) hd (nx _ _ _ _ hw_2 ad H locs cells slots L ⟨sn_cs trivial (sn_tl (sn_tl hst)), hH, hS, hE, hlk, hL, hc1, hc2⟩)
        have := sn_cat_sum ad s1
        omega
      | 2 =>
        intro hw hq
        have hq' := hq
        simp only [sn_chk, Bool.and_eq_true, decide_eq_true_eq] at hq'
        simp only [mm_w] at hw
        obtain ⟨hd, rfl, hl⟩ := hq'
        obtain ⟨q, s1, rfl, hwd, hw_1⟩ := mm_pA_e hw
        have hl' := tb_oi_ok (pOc k, b) hl
        refine W.objInit hx hb hown (hgw _ (sn_gw_in hl' rfl)) (hgw _ (sn_gw_in tb_oin_i rfl)) (hgw _ (sn_gw_in tb_oin_c rfl)) rfl (by rw [hml]; exact hL.2.1) rfl hd (by omega) ?_ (nx _ _ _ _ hw_1 ad H locs cells slots L ⟨sn_tl hst, hH, hS, hE, hlk, hL, hc1, hc2⟩)
        have h1 := sn_cat_sum ad s1
        have h2 : 2 * (F0 m pc0 L (List.map (sn_v ad) (Sum.inr (Sum.inr q) :: s1))).monitorRoom + ((List.map (sn_v ad) s1).map fun v => v.category).sum ≤ 8 := lv_room (by omega)
        omega
      | 3 =>
        intro hw hq
        have hq' := hq
        simp only [sn_chk, Bool.and_eq_true, decide_eq_true_eq] at hq'
        simp only [mm_w] at hw
        obtain ⟨hd, rfl, hoc, rfl⟩ := hq'
        obtain ⟨i, s1, rfl, hwd, hw_1⟩ := mm_pR_e hw
        have hi : i < mm_N M 12 := hst _ List.mem_cons_self
        rw [hoc] at hown
        refine sn_cont (mc := 0) (ms := 0) (a := (Value.ref (ad 12 i) :: []).toArray) (rest := s1.map (sn_v ad)) (gg_V (n := 0) (As := []) (host := "") (hSL a0 D ad M i hi) hx hb hml hown hgw sn_good (sn_gw_in tb_sl.1 rfl) (Or.inl (sn_gw_in tb_sl.2.1 rfl)) (sn_gw_in tb_sl.2.2.1 rfl) (sn_gw_in tb_sl.2.2.2.1 rfl) (sn_gw_in tb_sl.2.2.2.2 rfl) rfl rfl ⟨by decide +kernel, by decide +kernel, by decide +kernel⟩ ⟨by show 7 + 1 ≤ _; omega, by show 8 + (1 + 11) + 400 ≤ _; omega⟩ ⟨sn_blind _ _ _ _ _, ?_, sn_pre hF hH rfl⟩ rfl hL.2.1 rfl (by rw [sn_cat_sum]; exact hwd) hd ⟨by omega, by omega⟩) hH hS ?_
        · obtain ⟨-, ⟨qv, hk1⟩, -, -⟩ := hH.2.2.2.1 i hi
          obtain ⟨cell, h1, h2, h3, -⟩ := (hk1.1 0 (by omega)).1
          exact ⟨cell, h1, h2, h3⟩
        · rintro r M' ad' H1 locs1 ⟨rfl, rfl⟩ hH1 hE1 hok hS1
          have e1 := sn_E_st hE1 (sn_tl hst)
          have hz := nx _ _ _ _ hw_1 ad' H1 locs1 (cells + 0) (slots + 0) L ⟨sn_cs trivial e1.2, hH1, hS1, sn_E_tr hE hE1, fun i v h => (sn_E_v hE1 (hlk i v h)).2, sn_LS_ad hL (fun i v h => (sn_E_v hE1 (hlk i v h)).1), by omega, by omega⟩
          rw [List.map_cons, e1.1] at hz
          exact hz
      | 4 =>
        intro hw hq
        have hq' := hq
        simp only [sn_chk, Bool.and_eq_true, decide_eq_true_eq] at hq'
        simp only [mm_w] at hw
        obtain ⟨hd, rfl, hoc, rfl⟩ := hq'
        obtain ⟨x, s1, rfl, hw_1⟩ := mm_pI_e hw
        obtain ⟨i, s1, rfl, hwd, hvp, hw_2⟩ := mm_pR_e hw_1
        have hi : i < mm_N M 12 := hst _ (List.mem_cons_of_mem _ List.mem_cons_self)
        rw [hoc] at hown
        refine sn_cont (mc := 0) (ms := 0) (a := (Value.ref (ad 12 i) :: [Value.int x]).toArray) (rest := s1.map (sn_v ad)) (gg_V (n := 1) (As := [Value.int x]) (host := "") (hSC a0 D ad M i x hi hvp) hx hb hml hown hgw sn_good (sn_gw_in tb_sc.1 rfl) (Or.inl (sn_gw_in tb_sc.2.1 rfl)) (sn_gw_in tb_sc.2.2.1 rfl) (sn_gw_in tb_sc.2.2.2.1 rfl) (sn_gw_in tb_sc.2.2.2.2 rfl) rfl rfl ⟨by decide +kernel, by decide +kernel, by decide +kernel⟩ ⟨by show 7 + 1 ≤ _; omega, by show 8 + (2 + 11) + 400 ≤ _; omega⟩ ⟨sn_blind _ _ _ _ _, ?_, sn_pre hF hH rfl⟩ rfl hL.2.1 rfl (by rw [sn_cat_sum]; exact hwd) hd ⟨by omega, by omega⟩) hH hS ?_
        · obtain ⟨-, ⟨qv, hk1⟩, -, -⟩ := hH.2.2.2.1 i hi
          obtain ⟨cell, h1, h2, h3, -⟩ := (hk1.1 0 (by omega)).1
          exact ⟨cell, h1, h2, h3⟩
        · rintro r M' ad' H1 locs1 ⟨rfl, rfl⟩ hH1 hE1 hok hS1
          have e1 := sn_E_st hE1 (sn_tl (sn_tl hst))
          have hz := nx _ _ _ _ hw_2 ad' H1 locs1 (cells + 0) (slots + 0) L ⟨sn_cs trivial e1.2, hH1, hS1, sn_E_tr hE hE1, fun i v h => (sn_E_v hE1 (hlk i v h)).2, sn_LS_ad hL (fun i v h => (sn_E_v hE1 (hlk i v h)).1), by omega, by omega⟩
          rw [List.map_cons, e1.1] at hz
          exact hz
      | 5 =>
        intro hw hq
        have hq' := hq
        simp only [sn_chk, Bool.and_eq_true, decide_eq_true_eq] at hq'
        simp only [mm_w] at hw
        obtain ⟨hd, rfl, hoc, rfl⟩ := hq'
        obtain ⟨hN, hw_1⟩ := hw
        obtain ⟨⟨tx, hvk⟩, -⟩ := hH.2.2.2.1 0 hN
        rw [hoc] at hown
        exact va_ldcS hx hb hown hvk hd (nx _ _ _ _ hw_1 ad H locs cells slots L ⟨sn_cs hN hst, hH, hS, hE, hlk, hL, hc1, hc2⟩)
      | _ + 6 =>
        intro hw hq
        exact False.elim hw
    case iconst n =>
      have hq' : (decide (decode (pCd k) pc0 = .ok (.iconst n, len)) && sn_chk2 k pc0 len (.iconst n) a b o v ts) = true := hq
      simp only [sn_chk2, Bool.and_eq_true, Bool.or_eq_true, decide_eq_true_eq] at hq'
      simp only [mm_w] at hw
      obtain ⟨hd, rfl, hv⟩ := hq'
      exact lv_iconst hx hb hd hv (nx _ _ _ _ hw ad H locs cells slots L ⟨sn_cs trivial hst, hH, hS, hE, hlk, hL, hc1, hc2⟩)
    case bipush n =>
      have hq' : (decide (decode (pCd k) pc0 = .ok (.bipush n, len)) && sn_chk2 k pc0 len (.bipush n) a b o v ts) = true := hq
      simp only [sn_chk2, Bool.and_eq_true, Bool.or_eq_true, decide_eq_true_eq] at hq'
      simp only [mm_w] at hw
      obtain ⟨hd, rfl, hv⟩ := hq'
      exact lv_bipush hx hb hd hv (nx _ _ _ _ hw ad H locs cells slots L ⟨sn_cs trivial hst, hH, hS, hE, hlk, hL, hc1, hc2⟩)
    case sipush n =>
      have hq' : (decide (decode (pCd k) pc0 = .ok (.sipush n, len)) && sn_chk2 k pc0 len (.sipush n) a b o v ts) = true := hq
      simp only [sn_chk2, Bool.and_eq_true, Bool.or_eq_true, decide_eq_true_eq] at hq'
      simp only [mm_w] at hw
      obtain ⟨hd, rfl, hv⟩ := hq'
      exact lv_sipush hx hb hd hv (nx _ _ _ _ hw ad H locs cells slots L ⟨sn_cs trivial hst, hH, hS, hE, hlk, hL, hc1, hc2⟩)
    case lconst n =>
      have hq' : (decide (decode (pCd k) pc0 = .ok (.lconst n, len)) && sn_chk2 k pc0 len (.lconst n) a b o v ts) = true := hq
      simp only [sn_chk2, Bool.and_eq_true, Bool.or_eq_true, decide_eq_true_eq] at hq'
      simp only [mm_w] at hw
      obtain ⟨hd, rfl, hv⟩ := hq'
      exact lv_lconst hx hb hd hv (nx _ _ _ _ hw ad H locs cells slots L ⟨sn_cs trivial hst, hH, hS, hE, hlk, hL, hc1, hc2⟩)
    case ldc_w n =>
      have hq' : (decide (decode (pCd k) pc0 = .ok (.ldc_w n, len)) && sn_chk2 k pc0 len (.ldc_w n) a b o v ts) = true := hq
      simp only [sn_chk2, Bool.and_eq_true, Bool.or_eq_true, decide_eq_true_eq] at hq'
      simp only [mm_w] at hw
      obtain ⟨hd, rfl, hv⟩ := hq'
      have h7 := tb_ci_ok (pOc k, n, v) hv
      exact lv_ldcw hx hb hown (hgw _ (sn_gw_in h7 rfl)) hd (nx _ _ _ _ hw ad H locs cells slots L ⟨sn_cs trivial hst, hH, hS, hE, hlk, hL, hc1, hc2⟩)
    case ldc2_w n =>
      have hq' : (decide (decode (pCd k) pc0 = .ok (.ldc2_w n, len)) && sn_chk2 k pc0 len (.ldc2_w n) a b o v ts) = true := hq
      simp only [sn_chk2, Bool.and_eq_true, Bool.or_eq_true, decide_eq_true_eq] at hq'
      simp only [mm_w] at hw
      obtain ⟨hd, rfl, hv⟩ := hq'
      have h7 := tb_cl_ok (pOc k, n, v) hv
      exact lv_ldc2 hx hb hown (hgw _ (sn_gw_in h7 rfl)) hd (nx _ _ _ _ hw ad H locs cells slots L ⟨sn_cs trivial hst, hH, hS, hE, hlk, hL, hc1, hc2⟩)
    case iload n =>
      have hq' : (decide (decode (pCd k) pc0 = .ok (.iload n, len)) && sn_chk2 k pc0 len (.iload n) a b o v ts) = true := hq
      simp only [sn_chk2, Bool.and_eq_true, Bool.or_eq_true, decide_eq_true_eq] at hq'
      simp only [mm_w] at hw
      obtain ⟨hd, rfl, rfl⟩ := hq'
      obtain ⟨x, hx1, hw_1⟩ := mm_lI_e hw
      exact lv_iload hx hb hd (sn_LS_at hL hx1) (nx _ _ _ _ hw_1 ad H locs cells slots L ⟨sn_cs (hlk _ _ hx1) hst, hH, hS, hE, hlk, hL, hc1, hc2⟩)
    case iload_n n =>
      have hq' : (decide (decode (pCd k) pc0 = .ok (.iload_n n, len)) && sn_chk2 k pc0 len (.iload_n n) a b o v ts) = true := hq
      simp only [sn_chk2, Bool.and_eq_true, Bool.or_eq_true, decide_eq_true_eq] at hq'
      simp only [mm_w] at hw
      obtain ⟨hd, rfl, hv⟩ := hq'
      obtain ⟨x, hx1, hw_1⟩ := mm_lI_e hw
      exact lv_iload_n hx hb hd hv (sn_LS_at hL hx1) (nx _ _ _ _ hw_1 ad H locs cells slots L ⟨sn_cs (hlk _ _ hx1) hst, hH, hS, hE, hlk, hL, hc1, hc2⟩)
    case lload n =>
      have hq' : (decide (decode (pCd k) pc0 = .ok (.lload n, len)) && sn_chk2 k pc0 len (.lload n) a b o v ts) = true := hq
      simp only [sn_chk2, Bool.and_eq_true, Bool.or_eq_true, decide_eq_true_eq] at hq'
      simp only [mm_w] at hw
      obtain ⟨hd, rfl, rfl⟩ := hq'
      obtain ⟨x, hx1, hw_1⟩ := mm_lL_e hw
      exact lv_lload hx hb hd (sn_LS_at hL hx1) (nx _ _ _ _ hw_1 ad H locs cells slots L ⟨sn_cs (hlk _ _ hx1) hst, hH, hS, hE, hlk, hL, hc1, hc2⟩)
    case lload_n n =>
      have hq' : (decide (decode (pCd k) pc0 = .ok (.lload_n n, len)) && sn_chk2 k pc0 len (.lload_n n) a b o v ts) = true := hq
      simp only [sn_chk2, Bool.and_eq_true, Bool.or_eq_true, decide_eq_true_eq] at hq'
      simp only [mm_w] at hw
      obtain ⟨hd, rfl, hv⟩ := hq'
      obtain ⟨x, hx1, hw_1⟩ := mm_lL_e hw
      exact lv_lload_n hx hb hd hv (sn_LS_at hL hx1) (nx _ _ _ _ hw_1 ad H locs cells slots L ⟨sn_cs (hlk _ _ hx1) hst, hH, hS, hE, hlk, hL, hc1, hc2⟩)
    case aload n =>
      have hq' : (decide (decode (pCd k) pc0 = .ok (.aload n, len)) && sn_chk2 k pc0 len (.aload n) a b o v ts) = true := hq
      simp only [sn_chk2, Bool.and_eq_true, Bool.or_eq_true, decide_eq_true_eq] at hq'
      simp only [mm_w] at hw
      obtain ⟨hd, rfl, rfl⟩ := hq'
      obtain ⟨x, hx1, hw_1⟩ := mm_lA_e hw
      exact lv_aload hx hb hd (sn_LS_at hL hx1) (nx _ _ _ _ hw_1 ad H locs cells slots L ⟨sn_cs (hlk _ _ hx1) hst, hH, hS, hE, hlk, hL, hc1, hc2⟩)
    case aload_n n =>
      have hq' : (decide (decode (pCd k) pc0 = .ok (.aload_n n, len)) && sn_chk2 k pc0 len (.aload_n n) a b o v ts) = true := hq
      simp only [sn_chk2, Bool.and_eq_true, Bool.or_eq_true, decide_eq_true_eq] at hq'
      simp only [mm_w] at hw
      obtain ⟨hd, rfl, hv⟩ := hq'
      obtain ⟨x, hx1, hw_1⟩ := mm_lA_e hw
      exact lv_aload_n hx hb hd hv (sn_LS_at hL hx1) (nx _ _ _ _ hw_1 ad H locs cells slots L ⟨sn_cs (hlk _ _ hx1) hst, hH, hS, hE, hlk, hL, hc1, hc2⟩)
    case istore n =>
      have hq' : (decide (decode (pCd k) pc0 = .ok (.istore n, len)) && sn_chk2 k pc0 len (.istore n) a b o v ts) = true := hq
      simp only [sn_chk2, Bool.and_eq_true, Bool.or_eq_true, decide_eq_true_eq] at hq'
      simp only [mm_w] at hw
      obtain ⟨hd, rfl, hv⟩ := hq'
      rw [hv] at hd
      obtain ⟨x, s1, rfl, ha, hn, hw_1⟩ := mm_pI_e hw
      have hlk2 : ∀ i v, mm_at (mm_set ls a (some (.inl x))) i = some v → sn_ok M v := fun i u hu => by
        rw [sn_set_at _ _ _ _ ha] at hu
        split at hu
        · cases hu; exact trivial
        · exact hlk i u hu
      refine lv_istore hx hb hd hL.2 (by rw [← hL.1]; exact ha) rfl (fun L' hL' => ?_)
      exact nx _ _ _ _ hw_1 ad H locs cells slots L' ⟨sn_tl hst, hH, hS, hE, hlk2, sn_LS_1 (v := .inl x) hL.1 ha hn hL', hc1, hc2⟩
    case istore_n n =>
      have hq' : (decide (decode (pCd k) pc0 = .ok (.istore_n n, len)) && sn_chk2 k pc0 len (.istore_n n) a b o v ts) = true := hq
      simp only [sn_chk2, Bool.and_eq_true, Bool.or_eq_true, decide_eq_true_eq] at hq'
      simp only [mm_w] at hw
      obtain ⟨hd, rfl, hv⟩ := hq'
      obtain ⟨x, s1, rfl, ha, hn, hw_1⟩ := mm_pI_e hw
      have hlk2 : ∀ i v, mm_at (mm_set ls a (some (.inl x))) i = some v → sn_ok M v := fun i u hu => by
        rw [sn_set_at _ _ _ _ ha] at hu
        split at hu
        · cases hu; exact trivial
        · exact hlk i u hu
      refine lv_istore_n hx hb hd hv hL.2 (by rw [← hL.1]; exact ha) rfl (fun L' hL' => ?_)
      exact nx _ _ _ _ hw_1 ad H locs cells slots L' ⟨sn_tl hst, hH, hS, hE, hlk2, sn_LS_1 (v := .inl x) hL.1 ha hn hL', hc1, hc2⟩
    case astore n =>
      have hq' : (decide (decode (pCd k) pc0 = .ok (.astore n, len)) && sn_chk2 k pc0 len (.astore n) a b o v ts) = true := hq
      simp only [sn_chk2, Bool.and_eq_true, Bool.or_eq_true, decide_eq_true_eq] at hq'
      simp only [mm_w] at hw
      obtain ⟨hd, rfl, hv⟩ := hq'
      rw [hv] at hd
      obtain ⟨x, s1, rfl, ha, hn, hw_1⟩ := mm_pA_e hw
      have hlk2 : ∀ i v, mm_at (mm_set ls a (some (.inr (.inr x)))) i = some v → sn_ok M v := fun i u hu => by
        rw [sn_set_at _ _ _ _ ha] at hu
        split at hu
        · cases hu; exact hst _ List.mem_cons_self
        · exact hlk i u hu
      refine lv_astore hx hb hd hL.2 (by rw [← hL.1]; exact ha) rfl (fun L' hL' => ?_)
      exact nx _ _ _ _ hw_1 ad H locs cells slots L' ⟨sn_tl hst, hH, hS, hE, hlk2, sn_LS_1 (v := .inr (.inr x)) hL.1 ha hn hL', hc1, hc2⟩
    case astore_n n =>
      have hq' : (decide (decode (pCd k) pc0 = .ok (.astore_n n, len)) && sn_chk2 k pc0 len (.astore_n n) a b o v ts) = true := hq
      simp only [sn_chk2, Bool.and_eq_true, Bool.or_eq_true, decide_eq_true_eq] at hq'
      simp only [mm_w] at hw
      obtain ⟨hd, rfl, hv⟩ := hq'
      obtain ⟨x, s1, rfl, ha, hn, hw_1⟩ := mm_pA_e hw
      have hlk2 : ∀ i v, mm_at (mm_set ls a (some (.inr (.inr x)))) i = some v → sn_ok M v := fun i u hu => by
        rw [sn_set_at _ _ _ _ ha] at hu
        split at hu
        · cases hu; exact hst _ List.mem_cons_self
        · exact hlk i u hu
      refine lv_astore_n hx hb hd hv hL.2 (by rw [← hL.1]; exact ha) rfl (fun L' hL' => ?_)
      exact nx _ _ _ _ hw_1 ad H locs cells slots L' ⟨sn_tl hst, hH, hS, hE, hlk2, sn_LS_1 (v := .inr (.inr x)) hL.1 ha hn hL', hc1, hc2⟩
    case lstore n =>
      have hq' : (decide (decode (pCd k) pc0 = .ok (.lstore n, len)) && sn_chk2 k pc0 len (.lstore n) a b o v ts) = true := hq
      simp only [sn_chk2, Bool.and_eq_true, Bool.or_eq_true, decide_eq_true_eq] at hq'
      simp only [mm_w] at hw
      obtain ⟨hd, rfl, hv⟩ := hq'
      rw [hv] at hd
      obtain ⟨x, s1, rfl, ha, hn, hw_1⟩ := mm_pL_e hw
      have hlk2 : ∀ i v, mm_at (mm_set (mm_set ls a (some (.inr (.inl x)))) (a + 1) none) i = some v → sn_ok M v := fun i u hu => by
        rw [sn_set_at _ _ _ _ (by rw [sn_set_len]; exact ha)] at hu
        split at hu
        · cases hu
        · rw [sn_set_at _ _ _ _ (by omega)] at hu
          split at hu
          · cases hu; exact trivial
          · exact hlk i u hu
      refine lv_lstore hx hb hd hL.2 (by rw [← hL.1]; exact ha) rfl (fun L' hL' => ?_)
      exact nx _ _ _ _ hw_1 ad H locs cells slots L' ⟨sn_tl hst, hH, hS, hE, hlk2, sn_LS_2 (v := .inr (.inl x)) hL.1 ha hn hL', hc1, hc2⟩
    case lstore_n n =>
      have hq' : (decide (decode (pCd k) pc0 = .ok (.lstore_n n, len)) && sn_chk2 k pc0 len (.lstore_n n) a b o v ts) = true := hq
      simp only [sn_chk2, Bool.and_eq_true, Bool.or_eq_true, decide_eq_true_eq] at hq'
      simp only [mm_w] at hw
      obtain ⟨hd, rfl, hv⟩ := hq'
      obtain ⟨x, s1, rfl, ha, hn, hw_1⟩ := mm_pL_e hw
      have hlk2 : ∀ i v, mm_at (mm_set (mm_set ls a (some (.inr (.inl x)))) (a + 1) none) i = some v → sn_ok M v := fun i u hu => by
        rw [sn_set_at _ _ _ _ (by rw [sn_set_len]; exact ha)] at hu
        split at hu
        · cases hu
        · rw [sn_set_at _ _ _ _ (by omega)] at hu
          split at hu
          · cases hu; exact trivial
          · exact hlk i u hu
      refine lv_lstore_n hx hb hd hv hL.2 (by rw [← hL.1]; exact ha) rfl (fun L' hL' => ?_)
      exact nx _ _ _ _ hw_1 ad H locs cells slots L' ⟨sn_tl hst, hH, hS, hE, hlk2, sn_LS_2 (v := .inr (.inl x)) hL.1 ha hn hL', hc1, hc2⟩
    case iinc n z =>
      have hq' : (decide (decode (pCd k) pc0 = .ok (.iinc n z, len)) && sn_chk2 k pc0 len (.iinc n z) a b o v ts) = true := hq
      simp only [sn_chk2, Bool.and_eq_true, Bool.or_eq_true, decide_eq_true_eq] at hq'
      simp only [mm_w] at hw
      obtain ⟨hd, rfl, hna, hv⟩ := hq'
      rw [hna] at hd
      obtain ⟨x, hx1, ha, hn, hw_1⟩ := mm_lI_e hw
      have hlk2 : ∀ i u, mm_at (mm_set ls a (some (.inl (x + v)))) i = some u → sn_ok M u := fun i u hu => by
        rw [sn_set_at _ _ _ _ ha] at hu
        split at hu
        · cases hu; exact trivial
        · exact hlk i u hu
      obtain ⟨kk, hkk⟩ := List.getElem?_of_mem ((sn_lv_mem ad ls 0 a (.int x)).mpr ⟨.inl x, Nat.zero_le _, hx1, rfl⟩)
      refine lv_iinc hx hb hd hL.2 hkk (by rw [hv]) (by rw [← hL.1]; exact ha) rfl (fun L' hL' => ?_)
      exact nx _ _ _ _ hw_1 ad H locs cells slots L' ⟨hst, hH, hS, hE, hlk2, sn_LS_1 (v := .inl (x + v)) hL.1 ha hn hL', hc1, hc2⟩
    case iadd =>
      have hq' : (decide (decode (pCd k) pc0 = .ok (.iadd, len)) && sn_chk2 k pc0 len (.iadd) a b o v ts) = true := hq
      simp only [sn_chk2, Bool.and_eq_true, Bool.or_eq_true, decide_eq_true_eq] at hq'
      simp only [mm_w] at hw
      obtain ⟨hd, rfl⟩ := hq'
      obtain ⟨y, s1, rfl, hw_1⟩ := mm_pI_e hw
      obtain ⟨x, s1, rfl, hw_2⟩ := mm_pI_e hw_1
      exact lv_iadd hx hb hd (nx _ _ _ _ hw_2 ad H locs cells slots L ⟨sn_cs trivial (sn_tl (sn_tl hst)), hH, hS, hE, hlk, hL, hc1, hc2⟩)
    case isub =>
      have hq' : (decide (decode (pCd k) pc0 = .ok (.isub, len)) && sn_chk2 k pc0 len (.isub) a b o v ts) = true := hq
      simp only [sn_chk2, Bool.and_eq_true, Bool.or_eq_true, decide_eq_true_eq] at hq'
      simp only [mm_w] at hw
      obtain ⟨hd, rfl⟩ := hq'
      obtain ⟨y, s1, rfl, hw_1⟩ := mm_pI_e hw
      obtain ⟨x, s1, rfl, hw_2⟩ := mm_pI_e hw_1
      exact lv_isub hx hb hd (nx _ _ _ _ hw_2 ad H locs cells slots L ⟨sn_cs trivial (sn_tl (sn_tl hst)), hH, hS, hE, hlk, hL, hc1, hc2⟩)
    case imul =>
      have hq' : (decide (decode (pCd k) pc0 = .ok (.imul, len)) && sn_chk2 k pc0 len (.imul) a b o v ts) = true := hq
      simp only [sn_chk2, Bool.and_eq_true, Bool.or_eq_true, decide_eq_true_eq] at hq'
      simp only [mm_w] at hw
      obtain ⟨hd, rfl⟩ := hq'
      obtain ⟨y, s1, rfl, hw_1⟩ := mm_pI_e hw
      obtain ⟨x, s1, rfl, hw_2⟩ := mm_pI_e hw_1
      exact lv_imul hx hb hd (nx _ _ _ _ hw_2 ad H locs cells slots L ⟨sn_cs trivial (sn_tl (sn_tl hst)), hH, hS, hE, hlk, hL, hc1, hc2⟩)
    case iand =>
      have hq' : (decide (decode (pCd k) pc0 = .ok (.iand, len)) && sn_chk2 k pc0 len (.iand) a b o v ts) = true := hq
      simp only [sn_chk2, Bool.and_eq_true, Bool.or_eq_true, decide_eq_true_eq] at hq'
      simp only [mm_w] at hw
      obtain ⟨hd, rfl⟩ := hq'
      obtain ⟨y, s1, rfl, hw_1⟩ := mm_pI_e hw
      obtain ⟨x, s1, rfl, hw_2⟩ := mm_pI_e hw_1
      exact lv_iand hx hb hd (nx _ _ _ _ hw_2 ad H locs cells slots L ⟨sn_cs trivial (sn_tl (sn_tl hst)), hH, hS, hE, hlk, hL, hc1, hc2⟩)
    case ior =>
      have hq' : (decide (decode (pCd k) pc0 = .ok (.ior, len)) && sn_chk2 k pc0 len (.ior) a b o v ts) = true := hq
      simp only [sn_chk2, Bool.and_eq_true, Bool.or_eq_true, decide_eq_true_eq] at hq'
      simp only [mm_w] at hw
      obtain ⟨hd, rfl⟩ := hq'
      obtain ⟨y, s1, rfl, hw_1⟩ := mm_pI_e hw
      obtain ⟨x, s1, rfl, hw_2⟩ := mm_pI_e hw_1
      exact lv_ior hx hb hd (nx _ _ _ _ hw_2 ad H locs cells slots L ⟨sn_cs trivial (sn_tl (sn_tl hst)), hH, hS, hE, hlk, hL, hc1, hc2⟩)
    case ishl =>
      have hq' : (decide (decode (pCd k) pc0 = .ok (.ishl, len)) && sn_chk2 k pc0 len (.ishl) a b o v ts) = true := hq
      simp only [sn_chk2, Bool.and_eq_true, Bool.or_eq_true, decide_eq_true_eq] at hq'
      simp only [mm_w] at hw
      obtain ⟨hd, rfl⟩ := hq'
      obtain ⟨y, s1, rfl, hw_1⟩ := mm_pI_e hw
      obtain ⟨x, s1, rfl, hw_2⟩ := mm_pI_e hw_1
      exact lv_ishl hx hb hd (nx _ _ _ _ hw_2 ad H locs cells slots L ⟨sn_cs trivial (sn_tl (sn_tl hst)), hH, hS, hE, hlk, hL, hc1, hc2⟩)
    case ishr =>
      have hq' : (decide (decode (pCd k) pc0 = .ok (.ishr, len)) && sn_chk2 k pc0 len (.ishr) a b o v ts) = true := hq
      simp only [sn_chk2, Bool.and_eq_true, Bool.or_eq_true, decide_eq_true_eq] at hq'
      simp only [mm_w] at hw
      obtain ⟨hd, rfl⟩ := hq'
      obtain ⟨y, s1, rfl, hw_1⟩ := mm_pI_e hw
      obtain ⟨x, s1, rfl, hw_2⟩ := mm_pI_e hw_1
      exact lv_ishr hx hb hd (nx _ _ _ _ hw_2 ad H locs cells slots L ⟨sn_cs trivial (sn_tl (sn_tl hst)), hH, hS, hE, hlk, hL, hc1, hc2⟩)
    case iushr =>
      have hq' : (decide (decode (pCd k) pc0 = .ok (.iushr, len)) && sn_chk2 k pc0 len (.iushr) a b o v ts) = true := hq
      simp only [sn_chk2, Bool.and_eq_true, Bool.or_eq_true, decide_eq_true_eq] at hq'
      simp only [mm_w] at hw
      obtain ⟨hd, rfl⟩ := hq'
      obtain ⟨y, s1, rfl, hw_1⟩ := mm_pI_e hw
      obtain ⟨x, s1, rfl, hw_2⟩ := mm_pI_e hw_1
      exact lv_iushr hx hb hd rfl (nx _ _ _ _ hw_2 ad H locs cells slots L ⟨sn_cs trivial (sn_tl (sn_tl hst)), hH, hS, hE, hlk, hL, hc1, hc2⟩)
    case idiv =>
      have hq' : (decide (decode (pCd k) pc0 = .ok (.idiv, len)) && sn_chk2 k pc0 len (.idiv) a b o v ts) = true := hq
      simp only [sn_chk2, Bool.and_eq_true, Bool.or_eq_true, decide_eq_true_eq] at hq'
      simp only [mm_w] at hw
      obtain ⟨hd, rfl⟩ := hq'
      obtain ⟨y, s1, rfl, hw_1⟩ := mm_pI_e hw
      obtain ⟨x, s1, rfl, hne, hw_2⟩ := mm_pI_e hw_1
      exact lv_idiv hx hb hd hne (nx _ _ _ _ hw_2 ad H locs cells slots L ⟨sn_cs trivial (sn_tl (sn_tl hst)), hH, hS, hE, hlk, hL, hc1, hc2⟩)
    case irem =>
      have hq' : (decide (decode (pCd k) pc0 = .ok (.irem, len)) && sn_chk2 k pc0 len (.irem) a b o v ts) = true := hq
      simp only [sn_chk2, Bool.and_eq_true, Bool.or_eq_true, decide_eq_true_eq] at hq'
      simp only [mm_w] at hw
      obtain ⟨hd, rfl⟩ := hq'
      obtain ⟨y, s1, rfl, hw_1⟩ := mm_pI_e hw
      obtain ⟨x, s1, rfl, hne, hw_2⟩ := mm_pI_e hw_1
      exact lv_irem hx hb hd hne (nx _ _ _ _ hw_2 ad H locs cells slots L ⟨sn_cs trivial (sn_tl (sn_tl hst)), hH, hS, hE, hlk, hL, hc1, hc2⟩)
    case ladd =>
      have hq' : (decide (decode (pCd k) pc0 = .ok (.ladd, len)) && sn_chk2 k pc0 len (.ladd) a b o v ts) = true := hq
      simp only [sn_chk2, Bool.and_eq_true, Bool.or_eq_true, decide_eq_true_eq] at hq'
      simp only [mm_w] at hw
      obtain ⟨hd, rfl⟩ := hq'
      obtain ⟨y, s1, rfl, hw_1⟩ := mm_pL_e hw
      obtain ⟨x, s1, rfl, hw_2⟩ := mm_pL_e hw_1
      exact lv_ladd hx hb hd (nx _ _ _ _ hw_2 ad H locs cells slots L ⟨sn_cs trivial (sn_tl (sn_tl hst)), hH, hS, hE, hlk, hL, hc1, hc2⟩)
    case lmul =>
      have hq' : (decide (decode (pCd k) pc0 = .ok (.lmul, len)) && sn_chk2 k pc0 len (.lmul) a b o v ts) = true := hq
      simp only [sn_chk2, Bool.and_eq_true, Bool.or_eq_true, decide_eq_true_eq] at hq'
      simp only [mm_w] at hw
      obtain ⟨hd, rfl⟩ := hq'
      obtain ⟨y, s1, rfl, hw_1⟩ := mm_pL_e hw
      obtain ⟨x, s1, rfl, hw_2⟩ := mm_pL_e hw_1
      exact lv_lmul hx hb hd (nx _ _ _ _ hw_2 ad H locs cells slots L ⟨sn_cs trivial (sn_tl (sn_tl hst)), hH, hS, hE, hlk, hL, hc1, hc2⟩)
    case lrem =>
      have hq' : (decide (decode (pCd k) pc0 = .ok (.lrem, len)) && sn_chk2 k pc0 len (.lrem) a b o v ts) = true := hq
      simp only [sn_chk2, Bool.and_eq_true, Bool.or_eq_true, decide_eq_true_eq] at hq'
      simp only [mm_w] at hw
      obtain ⟨hd, rfl⟩ := hq'
      obtain ⟨y, s1, rfl, hw_1⟩ := mm_pL_e hw
      obtain ⟨x, s1, rfl, hne, hw_2⟩ := mm_pL_e hw_1
      exact lv_lrem hx hb hd hne (nx _ _ _ _ hw_2 ad H locs cells slots L ⟨sn_cs trivial (sn_tl (sn_tl hst)), hH, hS, hE, hlk, hL, hc1, hc2⟩)
    case lcmp =>
      have hq' : (decide (decode (pCd k) pc0 = .ok (.lcmp, len)) && sn_chk2 k pc0 len (.lcmp) a b o v ts) = true := hq
      simp only [sn_chk2, Bool.and_eq_true, Bool.or_eq_true, decide_eq_true_eq] at hq'
      simp only [mm_w] at hw
      obtain ⟨hd, rfl⟩ := hq'
      obtain ⟨y, s1, rfl, hw_1⟩ := mm_pL_e hw
      obtain ⟨x, s1, rfl, hw_2⟩ := mm_pL_e hw_1
      exact W.lcmp hx hb hd (nx _ _ _ _ hw_2 ad H locs cells slots L ⟨sn_cs trivial (sn_tl (sn_tl hst)), hH, hS, hE, hlk, hL, hc1, hc2⟩)
    case i2l =>
      have hq' : (decide (decode (pCd k) pc0 = .ok (.i2l, len)) && sn_chk2 k pc0 len (.i2l) a b o v ts) = true := hq
      simp only [sn_chk2, Bool.and_eq_true, Bool.or_eq_true, decide_eq_true_eq] at hq'
      simp only [mm_w] at hw
      obtain ⟨hd, rfl⟩ := hq'
      obtain ⟨x, s1, rfl, hw_1⟩ := mm_pI_e hw
      exact lv_i2l hx hb hd rfl (nx _ _ _ _ hw_1 ad H locs cells slots L ⟨sn_cs trivial (sn_tl hst), hH, hS, hE, hlk, hL, hc1, hc2⟩)
    case l2i =>
      have hq' : (decide (decode (pCd k) pc0 = .ok (.l2i, len)) && sn_chk2 k pc0 len (.l2i) a b o v ts) = true := hq
      simp only [sn_chk2, Bool.and_eq_true, Bool.or_eq_true, decide_eq_true_eq] at hq'
      simp only [mm_w] at hw
      obtain ⟨hd, rfl⟩ := hq'
      obtain ⟨x, s1, rfl, hw_1⟩ := mm_pL_e hw
      exact lv_l2i hx hb hd rfl (nx _ _ _ _ hw_1 ad H locs cells slots L ⟨sn_cs trivial (sn_tl hst), hH, hS, hE, hlk, hL, hc1, hc2⟩)
    case i2b =>
      have hq' : (decide (decode (pCd k) pc0 = .ok (.i2b, len)) && sn_chk2 k pc0 len (.i2b) a b o v ts) = true := hq
      simp only [sn_chk2, Bool.and_eq_true, Bool.or_eq_true, decide_eq_true_eq] at hq'
      simp only [mm_w] at hw
      obtain ⟨hd, rfl⟩ := hq'
      obtain ⟨x, s1, rfl, hw_1⟩ := mm_pI_e hw
      exact lv_i2b hx hb hd rfl (nx _ _ _ _ hw_1 ad H locs cells slots L ⟨sn_cs trivial (sn_tl hst), hH, hS, hE, hlk, hL, hc1, hc2⟩)
    case dup =>
      have hq' : (decide (decode (pCd k) pc0 = .ok (.dup, len)) && sn_chk2 k pc0 len (.dup) a b o v ts) = true := hq
      simp only [sn_chk2, Bool.and_eq_true, Bool.or_eq_true, decide_eq_true_eq] at hq'
      simp only [mm_w] at hw
      obtain ⟨hd, rfl⟩ := hq'
      obtain ⟨x, s1, rfl, hn, hw_1⟩ := mm_p1_e hw
      exact lv_dup hx hb hd (sn_cat_nl hn) (nx _ _ _ _ hw_1 ad H locs cells slots L ⟨sn_cs (hst _ List.mem_cons_self) hst, hH, hS, hE, hlk, hL, hc1, hc2⟩)
    case dup2 =>
      have hq' : (decide (decode (pCd k) pc0 = .ok (.dup2, len)) && sn_chk2 k pc0 len (.dup2) a b o v ts) = true := hq
      simp only [sn_chk2, Bool.and_eq_true, Bool.or_eq_true, decide_eq_true_eq] at hq'
      simp only [mm_w] at hw
      obtain ⟨hd, rfl⟩ := hq'
      obtain ⟨x, s1, rfl, hn, hw_1⟩ := mm_p1_e hw
      obtain ⟨y, s1, rfl, hn2, hw_2⟩ := mm_p1_e hw_1
      exact lv_dup2_11 hx hb hd (sn_cat_nl hn) (sn_cat_nl hn2) (nx _ _ _ _ hw_2 ad H locs cells slots L ⟨sn_cs (hst _ List.mem_cons_self) (sn_cs (hst _ (List.mem_cons_of_mem _ List.mem_cons_self)) hst), hH, hS, hE, hlk, hL, hc1, hc2⟩)
    case pop =>
      have hq' : (decide (decode (pCd k) pc0 = .ok (.pop, len)) && sn_chk2 k pc0 len (.pop) a b o v ts) = true := hq
      simp only [sn_chk2, Bool.and_eq_true, Bool.or_eq_true, decide_eq_true_eq] at hq'
      simp only [mm_w] at hw
      obtain ⟨hd, rfl⟩ := hq'
      obtain ⟨x, s1, rfl, hn, hw_1⟩ := mm_p1_e hw
      exact lv_pop hx hb hd (sn_cat_nl hn) (nx _ _ _ _ hw_1 ad H locs cells slots L ⟨sn_tl hst, hH, hS, hE, hlk, hL, hc1, hc2⟩)
    case ifCond op off =>
      have hq' : (decide (decode (pCd k) pc0 = .ok (.ifCond op off, len)) && sn_chk2 k pc0 len (.ifCond op off) a b o v ts) = true := hq
      simp only [sn_chk2, Bool.and_eq_true, Bool.or_eq_true, decide_eq_true_eq] at hq'
      simp only [mm_w] at hw
      obtain ⟨hd, rfl, ht⟩ := hq'
      obtain ⟨x, s1, rfl, hw_1⟩ := mm_pI_e hw
      exact sn_cn0 hx hb hd ht (fun h => hX a ls s1 M bu (hw_1.1 h) ad H locs cells slots L ⟨sn_tl hst, hH, hS, hE, hlk, hL, hc1, hc2⟩) (fun h => nx _ _ _ _ (hw_1.2 h) ad H locs cells slots L ⟨sn_tl hst, hH, hS, hE, hlk, hL, hc1, hc2⟩)
    case if_icmp op off =>
      have hq' : (decide (decode (pCd k) pc0 = .ok (.if_icmp op off, len)) && sn_chk2 k pc0 len (.if_icmp op off) a b o v ts) = true := hq
      simp only [sn_chk2, Bool.and_eq_true, Bool.or_eq_true, decide_eq_true_eq] at hq'
      simp only [mm_w] at hw
      obtain ⟨hd, rfl, ht⟩ := hq'
      obtain ⟨y, s1, rfl, hw_1⟩ := mm_pI_e hw
      obtain ⟨x, s1, rfl, hw_2⟩ := mm_pI_e hw_1
      exact sn_cnd hx hb hd ht (fun h => hX a ls s1 M bu (hw_2.1 h) ad H locs cells slots L ⟨sn_tl (sn_tl hst), hH, hS, hE, hlk, hL, hc1, hc2⟩) (fun h => nx _ _ _ _ (hw_2.2 h) ad H locs cells slots L ⟨sn_tl (sn_tl hst), hH, hS, hE, hlk, hL, hc1, hc2⟩)
    case goto off =>
      have hq' : (decide (decode (pCd k) pc0 = .ok (.goto off, len)) && sn_chk2 k pc0 len (.goto off) a b o v ts) = true := hq
      simp only [sn_chk2, Bool.and_eq_true, Bool.or_eq_true, decide_eq_true_eq] at hq'
      simp only [mm_w] at hw
      obtain ⟨hd, rfl, ht⟩ := hq'
      exact lv_goto hx hb hd ht (hX a ls st M bu hw ad H locs cells slots L hZ)
    case tableswitch dflt lo hi offs =>
      have hq' : (decide (decode (pCd k) pc0 = .ok (.tableswitch dflt lo hi offs, len)) && sn_chk2 k pc0 len (.tableswitch dflt lo hi offs) a b o v ts) = true := hq
      simp only [sn_chk2, Bool.and_eq_true, Bool.or_eq_true, decide_eq_true_eq] at hq'
      simp only [mm_w] at hw
      obtain ⟨hd, ht, hhi, hts⟩ := hq'
      obtain ⟨x, s1, rfl, hw_1⟩ := mm_pI_e hw
      obtain ⟨g1, g2⟩ := sn_tsw_in _ _ _ hts
      rcases sn_sw_e hw_1 with ⟨q, hq1, rfl, hw_9⟩ | ⟨hno, hw_9⟩
      · obtain ⟨t, f, e1, e2, e3⟩ := g1 q hq1
        have hlt : t < offs.size := by
          have := (List.getElem?_eq_some_iff.mp e1).1
          simpa using this
        refine lv_tableIn hx hb hd (by omega) (by omega) (off := f) ?_ e3 (hX q.2 ls s1 M bu hw_9 ad H locs cells slots L ⟨sn_tl hst, hH, hS, hE, hlk, hL, hc1, hc2⟩)
        have : (q.1.toInt - lo).toNat = t := by omega
        rw [this, ← Array.getElem?_toList]
        exact e1
      · refine lv_tableOut hx hb hd ?_ ht (hX a ls s1 M bu hw_9 ad H locs cells slots L ⟨sn_tl hst, hH, hS, hE, hlk, hL, hc1, hc2⟩)
        by_cases h1 : x.toInt < lo
        · exact Or.inl h1
        · refine Or.inr ?_
          by_cases h2 : hi < x.toInt
          · exact h2
          · exfalso
            obtain ⟨q, e1, e2⟩ := g2 (x.toInt - lo).toNat (by rw [Array.length_toList]; omega)
            exact hno q e1 (Int32.toInt_inj.mp (by omega))
    case lookupswitch dflt ps =>
      have hq' : (decide (decode (pCd k) pc0 = .ok (.lookupswitch dflt ps, len)) && sn_chk2 k pc0 len (.lookupswitch dflt ps) a b o v ts) = true := hq
      simp only [sn_chk2, Bool.and_eq_true, Bool.or_eq_true, decide_eq_true_eq] at hq'
      simp only [mm_w] at hw
      obtain ⟨hd, ht, hsrt, hts⟩ := hq'
      obtain ⟨x, s1, rfl, hw_1⟩ := mm_pI_e hw
      obtain ⟨j, e1, hw_2⟩ := sn_lsw_in _ _ hts _ _ ht hw_1
      exact lv_lookup hx hb hd hsrt rfl e1 (hX j ls s1 M bu hw_2 ad H locs cells slots L ⟨sn_tl hst, hH, hS, hE, hlk, hL, hc1, hc2⟩)
    case getfield n =>
      have hq' : (decide (decode (pCd k) pc0 = .ok (.getfield n, len)) && sn_chk2 k pc0 len (.getfield n) a b o v ts) = true := hq
      simp only [sn_chk2, Bool.and_eq_true, Bool.or_eq_true, decide_eq_true_eq] at hq'
      simp only [mm_w] at hw
      obtain ⟨hd, rfl, ha, hbb, ho, hl⟩ := hq'
      obtain ⟨i, s1, rfl, hw_1⟩ := mm_pR_e hw
      have hi : i < mm_N M a := hst _ List.mem_cons_self
      have h7 := tb_fl_ok (pOc k, n, a, b) hl
      refine sn_getf hx hb hgw hown hF hH ha hbb hi (sn_gw_in h7 rfl) hd ?_
      revert hw_1 ho
      match o with
      | none =>
        intro ho hw
        have hv : sn_val ad M a i b = .int (mm_I M a i b) := by unfold sn_val; rw [sn_rt7 ha, ← ho]; rfl
        rw [hv]
        exact nx _ _ _ _ hw ad H locs cells slots L ⟨sn_cs trivial (sn_tl hst), hH, hS, hE, hlk, hL, hc1, hc2⟩
      | some none =>
        intro ho hw
        have hv : sn_val ad M a i b = .int (mm_I M a i b) := by unfold sn_val; rw [sn_rt7 ha, ← ho]; rfl
        rw [hv]
        exact nx _ _ _ _ hw ad H locs cells slots L ⟨sn_cs trivial (sn_tl hst), hH, hS, hE, hlk, hL, hc1, hc2⟩
      | some (some c') =>
        intro ho hw
        simp only [mm_gf_r] at hw
        obtain ⟨j, hj, hw_1⟩ := mm_rf_e hw
        have hrt : sn_rt a b = some c' := by rw [sn_rt7 ha, ← ho]; rfl
        have hv : sn_val ad M a i b = .ref (ad c' j) := by unfold sn_val; rw [hrt, hj]; rfl
        rw [hv]
        have hjj : j < mm_N M c' := hH.2.2.2.2.2.2 a i b c' j hrt hi hj
        exact nx _ _ _ _ hw_1 ad H locs cells slots L ⟨sn_cs (a := (.inr (.inr (c', j)) : mm_V)) hjj (sn_tl hst), hH, hS, hE, hlk, hL, hc1, hc2⟩
    case putfield n =>
      have hq' : (decide (decode (pCd k) pc0 = .ok (.putfield n, len)) && sn_chk2 k pc0 len (.putfield n) a b o v ts) = true := hq
      simp only [sn_chk2, Bool.and_eq_true, Bool.or_eq_true, decide_eq_true_eq] at hq'
      simp only [mm_w] at hw
      obtain ⟨hd, rfl, ha, hbb, ho, hl, hfin⟩ := hq'
      have h7 := tb_fl_ok (pOc k, n, a, b) hl
      have hfin2 : ((sn_T a) b).2.2.2 = false ∨ (meth.name = "<init>" ∧ ((sn_T a) b).1 = sn_R (pOc k)) := by
        rcases hfin with hf | ⟨hf, -, hf2⟩
        · exact Or.inl (by simpa using hf)
        · exact Or.inr ⟨hin hf, hf2⟩
      have hnI : ∀ (i : Nat) (x : Int32) c' i' k', ¬ (c' = a ∧ i' = i) → mm_I (mm_sI M a i b x) c' i' k' = mm_I M c' i' k' := fun i x c' i' k' hn => by rw [mm_I_sI, if_neg (fun z => hn ⟨z.1, z.2.1⟩)]
      revert hw ho
      match o with
      | none =>
        intro hw ho
        obtain ⟨x, s1, rfl, hw_1⟩ := mm_pI_e hw
        obtain ⟨i, s1, rfl, hw_2⟩ := mm_pR_e hw_1
        have hi : i < mm_N M a := hst _ (List.mem_cons_of_mem _ List.mem_cons_self)
        have hrt : sn_rt a b = none := by rw [sn_rt7 ha, ← ho]; rfl
        refine sn_putf hx hb hgw hown hF hH hS ha hbb hi (sn_gw_in h7 rfl) hfin2 (sn_fit ha hbb (Or.inl ⟨ho.symm, x, rfl⟩)) hd (M' := mm_sI M a i b x) (fun _ => rfl) (fun _ _ => rfl) (hnI i x) (fun _ _ _ _ => rfl) (fun k' c' j hr hj => hH.2.2.2.2.2.2 a i k' c' j hr hi hj) (sn_val_sI hrt) (fun H1 locs1 hH1 hS1 => ?_)
        exact nx _ _ _ _ hw_2 ad H1 locs1 cells slots L ⟨sn_tl (sn_tl hst), hH1, hS1, hE, hlk, hL, hc1, hc2⟩
      | some none =>
        intro hw ho
        obtain ⟨x, s1, rfl, hw_1⟩ := mm_pI_e hw
        obtain ⟨i, s1, rfl, hx01, hw_2⟩ := mm_pR_e hw_1
        have hi : i < mm_N M a := hst _ (List.mem_cons_of_mem _ List.mem_cons_self)
        have hrt : sn_rt a b = none := by rw [sn_rt7 ha, ← ho]; rfl
        refine sn_putf hx hb hgw hown hF hH hS ha hbb hi (sn_gw_in h7 rfl) hfin2 (sn_fit ha hbb (Or.inr (Or.inl ⟨ho.symm, x, rfl, hx01⟩))) hd (M' := mm_sI M a i b x) (fun _ => rfl) (fun _ _ => rfl) (hnI i x) (fun _ _ _ _ => rfl) (fun k' c' j hr hj => hH.2.2.2.2.2.2 a i k' c' j hr hi hj) (sn_val_sI hrt) (fun H1 locs1 hH1 hS1 => ?_)
        exact nx _ _ _ _ hw_2 ad H1 locs1 cells slots L ⟨sn_tl (sn_tl hst), hH1, hS1, hE, hlk, hL, hc1, hc2⟩
      | some (some c') =>
        intro hw ho
        simp only [mm_w, mm_pf_r] at hw
        obtain ⟨j, s1, rfl, hw_1⟩ := mm_pR_e hw
        obtain ⟨i, s1, rfl, hw_2⟩ := mm_pR_e hw_1
        have hi : i < mm_N M a := hst _ (List.mem_cons_of_mem _ List.mem_cons_self)
        have hj : j < mm_N M c' := hst _ List.mem_cons_self
        have hrt : sn_rt a b = some c' := by rw [sn_rt7 ha, ← ho]; rfl
        refine sn_putf hx hb hgw hown hF hH hS ha hbb hi (sn_gw_in h7 rfl) hfin2 (sn_fit ha hbb (Or.inr (Or.inr ⟨c', ho.symm, ad c' j, rfl⟩))) hd (M' := mm_sR M a i b (some j)) (fun _ => rfl) (fun _ _ => rfl) (fun _ _ _ _ => rfl) (fun c1 i1 k1 hn => by rw [mm_R_sR, if_neg (fun z => hn ⟨z.1, z.2.1⟩)]) (fun k' c1 j1 hr hj1 => ?_) (sn_val_sR hrt) (fun H1 locs1 hH1 hS1 => ?_)
        · rw [mm_R_sR] at hj1
          by_cases ek : k' = b
          · rw [if_pos ⟨rfl, rfl, ek⟩] at hj1
            cases hj1
            rw [ek, hrt] at hr
            cases hr
            exact hj
          · rw [if_neg (fun z => ek z.2.2)] at hj1
            exact hH.2.2.2.2.2.2 a i k' c1 j1 hr hi hj1
        · exact nx _ _ _ _ hw_2 ad H1 locs1 cells slots L ⟨sn_tl (sn_tl hst), hH1, hS1, hE, hlk, hL, hc1, hc2⟩
    case iaload =>
      have hq' : (decide (decode (pCd k) pc0 = .ok (.iaload, len)) && sn_chk2 k pc0 len (.iaload) a b o v ts) = true := hq
      simp only [sn_chk2, Bool.and_eq_true, Bool.or_eq_true, decide_eq_true_eq] at hq'
      simp only [mm_w] at hw
      obtain ⟨hd, rfl, haa⟩ := hq'
      obtain ⟨x, s1, rfl, hw_1⟩ := mm_pI_e hw
      obtain ⟨i, s1, rfl, hvp, hw_2⟩ := mm_pR_e hw_1
      have hi : i < mm_N M a := hst _ (List.mem_cons_of_mem _ List.mem_cons_self)
      rcases haa with rfl | rfl
      · exact sn_iald hx hb hH hi hvp hd (nx _ _ _ _ hw_2 ad H locs cells slots L ⟨sn_cs trivial (sn_tl (sn_tl hst)), hH, hS, hE, hlk, hL, hc1, hc2⟩)
      · obtain ⟨⟨scr, h1, h2, h3, h4, h5⟩, -⟩ := hH.2.2.1 i hi
        have hlt : x.toNatClampNeg < mm_L M 11 i := Nat.not_le.mp fun q => hvp (Or.inr q)
        exact W.iald (v := .int (mm_I M 11 i x.toNatClampNeg)) hx hb h1 h2 h3 (by rw [h4]; exact hvp) (h5 _ hlt) rfl rfl hd (nx _ _ _ _ hw_2 ad H locs cells slots L ⟨sn_cs trivial (sn_tl (sn_tl hst)), hH, hS, hE, hlk, hL, hc1, hc2⟩)
    case baload =>
      have hq' : (decide (decode (pCd k) pc0 = .ok (.baload, len)) && sn_chk2 k pc0 len (.baload) a b o v ts) = true := hq
      simp only [sn_chk2, Bool.and_eq_true, Bool.or_eq_true, decide_eq_true_eq] at hq'
      simp only [mm_w] at hw
      obtain ⟨hd, rfl⟩ := hq'
      obtain ⟨x, s1, rfl, hw_1⟩ := mm_pI_e hw
      obtain ⟨i, s1, rfl, hvp, hw_2⟩ := mm_pR_e hw_1
      have hi : i < mm_N M 8 := hst _ (List.mem_cons_of_mem _ List.mem_cons_self)
      exact sn_bald hx hb hH hi hvp hd (nx _ _ _ _ hw_2 ad H locs cells slots L ⟨sn_cs trivial (sn_tl (sn_tl hst)), hH, hS, hE, hlk, hL, hc1, hc2⟩)
    case aaload =>
      have hq' : (decide (decode (pCd k) pc0 = .ok (.aaload, len)) && sn_chk2 k pc0 len (.aaload) a b o v ts) = true := hq
      simp only [sn_chk2, Bool.and_eq_true, Bool.or_eq_true, decide_eq_true_eq] at hq'
      simp only [mm_w] at hw
      obtain ⟨hd, rfl, hab⟩ := hq'
      obtain ⟨x, s1, rfl, hw_1⟩ := mm_pI_e hw
      obtain ⟨i, s1, rfl, hvp, hw_2⟩ := mm_pR_e hw_1
      have hi : i < mm_N M a := hst _ (List.mem_cons_of_mem _ List.mem_cons_self)
      obtain ⟨j, hj, hw_3⟩ := mm_rf_e hw_2
      have hrt : sn_rt a x.toNatClampNeg = some b := by
        rcases hab with ⟨rfl, rfl⟩ | ⟨rfl, rfl⟩ <;> rfl
      have hjj : j < mm_N M b := hH.2.2.2.2.2.2 a i _ b j hrt hi hj
      exact sn_aald hx hb hH hab hi hvp hj hd (nx _ _ _ _ hw_3 ad H locs cells slots L ⟨sn_cs (a := (.inr (.inr (b, j)) : mm_V)) hjj (sn_tl (sn_tl hst)), hH, hS, hE, hlk, hL, hc1, hc2⟩)
    case iastore =>
      have hq' : (decide (decode (pCd k) pc0 = .ok (.iastore, len)) && sn_chk2 k pc0 len (.iastore) a b o v ts) = true := hq
      simp only [sn_chk2, Bool.and_eq_true, Bool.or_eq_true, decide_eq_true_eq] at hq'
      simp only [mm_w] at hw
      obtain ⟨hd, rfl⟩ := hq'
      obtain ⟨y, s1, rfl, hw_1⟩ := mm_pI_e hw
      obtain ⟨x, s1, rfl, hw_2⟩ := mm_pI_e hw_1
      obtain ⟨i, s1, rfl, hvp, hw_3⟩ := mm_pR_e hw_2
      have hi : i < mm_N M 7 := hst _ (List.mem_cons_of_mem _ (List.mem_cons_of_mem _ List.mem_cons_self))
      exact sn_iast hx hb hH hS hi hvp hd (fun H1 locs1 hH1 hS1 => nx _ _ _ _ hw_3 ad H1 locs1 cells slots L ⟨sn_tl (sn_tl (sn_tl hst)), hH1, hS1, hE, hlk, hL, hc1, hc2⟩)
    case bastore =>
      have hq' : (decide (decode (pCd k) pc0 = .ok (.bastore, len)) && sn_chk2 k pc0 len (.bastore) a b o v ts) = true := hq
      simp only [sn_chk2, Bool.and_eq_true, Bool.or_eq_true, decide_eq_true_eq] at hq'
      simp only [mm_w] at hw
      obtain ⟨hd, rfl⟩ := hq'
      obtain ⟨y, s1, rfl, hw_1⟩ := mm_pI_e hw
      obtain ⟨x, s1, rfl, hw_2⟩ := mm_pI_e hw_1
      obtain ⟨i, s1, rfl, hvp, hw_3⟩ := mm_pR_e hw_2
      have hi : i < mm_N M 8 := hst _ (List.mem_cons_of_mem _ (List.mem_cons_of_mem _ List.mem_cons_self))
      exact sn_bast hx hb hH hS hi hvp hd (fun H1 locs1 hH1 hS1 => nx _ _ _ _ hw_3 ad H1 locs1 cells slots L ⟨sn_tl (sn_tl (sn_tl hst)), hH1, hS1, hE, hlk, hL, hc1, hc2⟩)
    case aastore =>
      have hq' : (decide (decode (pCd k) pc0 = .ok (.aastore, len)) && sn_chk2 k pc0 len (.aastore) a b o v ts) = true := hq
      simp only [sn_chk2, Bool.and_eq_true, Bool.or_eq_true, decide_eq_true_eq] at hq'
      simp only [mm_w] at hw
      obtain ⟨hd, rfl, hab⟩ := hq'
      obtain ⟨j, s1, rfl, hw_1⟩ := mm_pR_e hw
      obtain ⟨x, s1, rfl, hw_2⟩ := mm_pI_e hw_1
      obtain ⟨i, s1, rfl, hvp, hw_3⟩ := mm_pR_e hw_2
      have hi : i < mm_N M a := hst _ (List.mem_cons_of_mem _ (List.mem_cons_of_mem _ List.mem_cons_self))
      have hj : j < mm_N M b := hst _ List.mem_cons_self
      exact sn_aast hx hb hF hH hS hab hi hj hvp hd (fun H1 locs1 hH1 hS1 => nx _ _ _ _ hw_3 ad H1 locs1 cells slots L ⟨sn_tl (sn_tl (sn_tl hst)), hH1, hS1, hE, hlk, hL, hc1, hc2⟩)
    case arraylength =>
      have hq' : (decide (decode (pCd k) pc0 = .ok (.arraylength, len)) && sn_chk2 k pc0 len (.arraylength) a b o v ts) = true := hq
      simp only [sn_chk2, Bool.and_eq_true, Bool.or_eq_true, decide_eq_true_eq] at hq'
      simp only [mm_w] at hw
      obtain ⟨hd, rfl, rfl⟩ := hq'
      obtain ⟨i, s1, rfl, hw_1⟩ := mm_pR_e hw
      have hi : i < mm_N M 11 := hst _ List.mem_cons_self
      obtain ⟨⟨scr, h1, h2, h3, h4, h5⟩, -⟩ := hH.2.2.1 i hi
      exact W.alen (n := Int32.ofNat (mm_L M 11 i)) hx hb h1 h2 (by rw [h4] <;> rfl) rfl rfl hd (nx _ _ _ _ hw_1 ad H locs cells slots L ⟨sn_cs trivial (sn_tl hst), hH, hS, hE, hlk, hL, hc1, hc2⟩)
    case new n =>
      have hq' : (decide (decode (pCd k) pc0 = .ok (.new n, len)) && sn_chk2 k pc0 len (.new n) a b o v ts) = true := hq
      simp only [sn_chk2, Bool.and_eq_true, Bool.or_eq_true, decide_eq_true_eq] at hq'
      simp only [mm_w] at hw
      obtain ⟨hd, rfl, ha, hbb, hl⟩ := hq'
      obtain ⟨hw1, hw2, hw_1⟩ := hw
      subst hbb
      have h7 := tb_kl_ok (pOc k, n, a) hl
      refine sn_new hx hb hgw hown hF hH hS ha (sn_gw_in h7 rfl) (sn_gw_in (sn_inst a ha) rfl) (sn_gw_in (sn_inid a ha) rfl) (by omega) (by omega) hd (fun H1 hH1 hS1 => ?_)
      · have hE1 := sn_E_new M ad a 0 H.size (by omega)
        have e1 := sn_E_st hE1 hst
        have hnn : mm_N M a < mm_N (mm_nw M a 0) a := by rw [mm_N_nw, if_pos rfl]; omega
        have hz := nx _ _ _ _ hw_1 (sn_ad ad a (mm_N M a) H.size) H1 locs (cells + 1) (slots + sn_NF a) L ⟨sn_cs (a := (.inr (.inr (a, mm_N M a)) : mm_V)) hnn e1.2, hH1, hS1, sn_E_tr hE hE1, fun i v h => (sn_E_v hE1 (hlk i v h)).2, sn_LS_ad hL (fun i v h => (sn_E_v hE1 (hlk i v h)).1), by simp only; omega, by simp only; omega⟩
        have e2 : sn_v (sn_ad ad a (mm_N M a) H.size) (.inr (.inr (a, mm_N M a))) = .ref H.size := by
          show Value.ref (sn_ad ad a (mm_N M a) H.size a (mm_N M a)) = _
          unfold sn_ad
          rw [if_pos ⟨rfl, rfl⟩]
        rw [List.map_cons, e1.1, e2] at hz
        exact hz
    case newarray t =>
      have hq' : (decide (decode (pCd k) pc0 = .ok (.newarray t, len)) && sn_chk2 k pc0 len (.newarray t) a b o v ts) = true := hq
      simp only [sn_chk2, Bool.and_eq_true, Bool.or_eq_true, decide_eq_true_eq] at hq'
      simp only [mm_w] at hw
      obtain ⟨hd, rfl, hta⟩ := hq'
      obtain ⟨x, s1, rfl, hn0, hw1, hw2, hw3, hw_1⟩ := mm_pI_e hw
      have harr : (Cond.arrayClass (newarray.typeOf t)).before args s = true := by
        rcases hta with ⟨rfl, -⟩ | ⟨rfl, -⟩
        · exact hgw _ (sn_gw_in tb_ai rfl)
        · exact hgw _ (sn_gw_in tb_ab rfl)
      refine sn_newa hx hb hH hS hta harr hn0 hw3 (by omega) (by omega) hd (fun H1 hH1 hS1 => ?_)
      · have hE1 := sn_E_new M ad a x.toNatClampNeg H.size (by omega)
        have e1 := sn_E_st hE1 (sn_tl hst)
        have hnn : mm_N M a < mm_N (mm_nw M a x.toNatClampNeg) a := by rw [mm_N_nw, if_pos rfl]; omega
        have hz := nx _ _ _ _ hw_1 (sn_ad ad a (mm_N M a) H.size) H1 locs (cells + 1) (slots + x.toNatClampNeg) L ⟨sn_cs (a := (.inr (.inr (a, mm_N M a)) : mm_V)) hnn e1.2, hH1, hS1, sn_E_tr hE hE1, fun i v h => (sn_E_v hE1 (hlk i v h)).2, sn_LS_ad hL (fun i v h => (sn_E_v hE1 (hlk i v h)).1), by simp only; omega, by simp only; omega⟩
        have e2 : sn_v (sn_ad ad a (mm_N M a) H.size) (.inr (.inr (a, mm_N M a))) = .ref H.size := by
          show Value.ref (sn_ad ad a (mm_N M a) H.size a (mm_N M a)) = _
          unfold sn_ad
          rw [if_pos ⟨rfl, rfl⟩]
        rw [List.map_cons, e1.1, e2] at hz
        exact hz
    case anewarray n =>
      have hq' : (decide (decode (pCd k) pc0 = .ok (.anewarray n, len)) && sn_chk2 k pc0 len (.anewarray n) a b o v ts) = true := hq
      simp only [sn_chk2, Bool.and_eq_true, Bool.or_eq_true, decide_eq_true_eq] at hq'
      simp only [mm_w] at hw
      obtain ⟨hd, rfl, hta⟩ := hq'
      obtain ⟨x, s1, rfl, hn0, hw1, hw2, hw3, hw_1⟩ := mm_pI_e hw
      have hab : ∃ b', ((a = 9 ∧ b' = 2) ∨ (a = 10 ∧ b' = 4)) ∧ Cond.classLink (sn_R (pOc k)) n (sn_R b') ∈ sn_gw := by
        rcases hta with ⟨rfl, hl⟩ | ⟨rfl, hl⟩
        · exact ⟨2, Or.inl ⟨rfl, rfl⟩, sn_gw_in (tb_kl_ok (pOc k, n, 2) hl) rfl⟩
        · exact ⟨4, Or.inr ⟨rfl, rfl⟩, sn_gw_in (tb_kl_ok (pOc k, n, 4) hl) rfl⟩
      obtain ⟨b', hab, hl⟩ := hab
      refine sn_newq hx hb hgw hown hF hH hS hab hl hn0 hw3 (by omega) (by omega) hd (fun H1 hH1 hS1 => ?_)
      · have hE1 := sn_E_new M ad a x.toNatClampNeg H.size (by omega)
        have e1 := sn_E_st hE1 (sn_tl hst)
        have hnn : mm_N M a < mm_N (mm_nw M a x.toNatClampNeg) a := by rw [mm_N_nw, if_pos rfl]; omega
        have hz := nx _ _ _ _ hw_1 (sn_ad ad a (mm_N M a) H.size) H1 locs (cells + 1) (slots + x.toNatClampNeg) L ⟨sn_cs (a := (.inr (.inr (a, mm_N M a)) : mm_V)) hnn e1.2, hH1, hS1, sn_E_tr hE hE1, fun i v h => (sn_E_v hE1 (hlk i v h)).2, sn_LS_ad hL (fun i v h => (sn_E_v hE1 (hlk i v h)).1), by simp only; omega, by simp only; omega⟩
        have e2 : sn_v (sn_ad ad a (mm_N M a) H.size) (.inr (.inr (a, mm_N M a))) = .ref H.size := by
          show Value.ref (sn_ad ad a (mm_N M a) H.size a (mm_N M a)) = _
          unfold sn_ad
          rw [if_pos ⟨rfl, rfl⟩]
        rw [List.map_cons, e1.1, e2] at hz
        exact hz
    case invokevirtual n =>
      have hq' : (decide (decode (pCd k) pc0 = .ok (.invokevirtual n, len)) && sn_chk2 k pc0 len (.invokevirtual n) a b o v ts) = true := hq
      simp only [sn_chk2, Bool.and_eq_true, Bool.or_eq_true, decide_eq_true_eq] at hq'
      simp only [mm_w] at hw
      obtain ⟨hd, rfl, hcl2⟩ := hq'
      obtain ⟨as, s1, rfl, hlen, hrc, hwd, hb1, hb2, hw_1⟩ := mm_pN_e b [] st hw
      rw [List.append_nil] at hrc hw_1
      have hokA : ∀ v ∈ as.reverse, sn_ok M v := fun v hv => hst v (List.mem_append_left _ (List.mem_reverse.mp hv))
      have hokS : ∀ v ∈ s1, sn_ok M v := fun v hv => hst v (List.mem_append_right _ hv)
      obtain ⟨aa, hrun⟩ := sn_run (L := L) (pc := pc0) (s1 := s1) (as := as.reverse) (e := e) (below := below) (meth := meth) (locs := locs) (cells := cells) (slots := slots) hM hk hx hb hml hown hgw hF hH hfr hlo hcl2 (by rw [List.length_reverse]; exact hlen) hrc hwd (by omega) (by omega) hokA hw_1 hL.2.1 (Or.inl ⟨rfl, hd⟩)
      rw [List.reverse_reverse] at hrun
      refine sn_cont hrun hH hS (fun r M' ad' H1 locs1 hP hH1 hE1 hok hS1 => ?_)
      have hw2 := mm_rt_e hP
      have e1 := sn_E_st hE1 hokS
      have hz := nx _ _ _ _ hw2 ad' H1 locs1 (cells + (mm_alc ts).1) (slots + (mm_alc ts).2) L ⟨fun v hv => ?_, hH1, hS1, sn_E_tr hE hE1, fun i v h => (sn_E_v hE1 (hlk i v h)).2, sn_LS_ad hL (fun i v h => (sn_E_v hE1 (hlk i v h)).1), by simp only; omega, by simp only; omega⟩
      · rw [List.map_append, e1.1] at hz
        have e3 : r.toList.map (sn_v ad') = (r.map (sn_v ad')).toList := by cases r <;> rfl
        rw [e3] at hz
        exact hz
      · rcases List.mem_append.mp hv with h | h
        · exact hok v (by simpa using h)
        · exact e1.2 v h
    case invokestatic n =>
      have hq' : (decide (decode (pCd k) pc0 = .ok (.invokestatic n, len)) && sn_chk2 k pc0 len (.invokestatic n) a b o v ts) = true := hq
      simp only [sn_chk2, Bool.and_eq_true, Bool.or_eq_true, decide_eq_true_eq] at hq'
      simp only [mm_w] at hw
      obtain ⟨hd, rfl, hcl2⟩ := hq'
      obtain ⟨as, s1, rfl, hlen, hrc, hwd, hb1, hb2, hw_1⟩ := mm_pN_e b [] st hw
      rw [List.append_nil] at hrc hw_1
      have hokA : ∀ v ∈ as.reverse, sn_ok M v := fun v hv => hst v (List.mem_append_left _ (List.mem_reverse.mp hv))
      have hokS : ∀ v ∈ s1, sn_ok M v := fun v hv => hst v (List.mem_append_right _ hv)
      obtain ⟨aa, hrun⟩ := sn_run (L := L) (pc := pc0) (s1 := s1) (as := as.reverse) (e := e) (below := below) (meth := meth) (locs := locs) (cells := cells) (slots := slots) hM hk hx hb hml hown hgw hF hH hfr hlo hcl2 (by rw [List.length_reverse]; exact hlen) hrc hwd (by omega) (by omega) hokA hw_1 hL.2.1 (Or.inr (Or.inl ⟨rfl, hd⟩))
      rw [List.reverse_reverse] at hrun
      refine sn_cont hrun hH hS (fun r M' ad' H1 locs1 hP hH1 hE1 hok hS1 => ?_)
      have hw2 := mm_rt_e hP
      have e1 := sn_E_st hE1 hokS
      have hz := nx _ _ _ _ hw2 ad' H1 locs1 (cells + (mm_alc ts).1) (slots + (mm_alc ts).2) L ⟨fun v hv => ?_, hH1, hS1, sn_E_tr hE hE1, fun i v h => (sn_E_v hE1 (hlk i v h)).2, sn_LS_ad hL (fun i v h => (sn_E_v hE1 (hlk i v h)).1), by simp only; omega, by simp only; omega⟩
      · rw [List.map_append, e1.1] at hz
        have e3 : r.toList.map (sn_v ad') = (r.map (sn_v ad')).toList := by cases r <;> rfl
        rw [e3] at hz
        exact hz
      · rcases List.mem_append.mp hv with h | h
        · exact hok v (by simpa using h)
        · exact e1.2 v h
    case invokespecial n =>
      have hq' : (decide (decode (pCd k) pc0 = .ok (.invokespecial n, len)) && sn_chk2 k pc0 len (.invokespecial n) a b o v ts) = true := hq
      simp only [sn_chk2, Bool.and_eq_true, Bool.or_eq_true, decide_eq_true_eq] at hq'
      simp only [mm_w] at hw
      obtain ⟨hd, rfl, hcl2⟩ := hq'
      obtain ⟨as, s1, rfl, hlen, hrc, hwd, hb1, hb2, hw_1⟩ := mm_pN_e b [] st hw
      rw [List.append_nil] at hrc hw_1
      have hokA : ∀ v ∈ as.reverse, sn_ok M v := fun v hv => hst v (List.mem_append_left _ (List.mem_reverse.mp hv))
      have hokS : ∀ v ∈ s1, sn_ok M v := fun v hv => hst v (List.mem_append_right _ hv)
      obtain ⟨aa, hrun⟩ := sn_run (L := L) (pc := pc0) (s1 := s1) (as := as.reverse) (e := e) (below := below) (meth := meth) (locs := locs) (cells := cells) (slots := slots) hM hk hx hb hml hown hgw hF hH hfr hlo hcl2 (by rw [List.length_reverse]; exact hlen) hrc hwd (by omega) (by omega) hokA hw_1 hL.2.1 (Or.inr (Or.inr ⟨rfl, hd⟩))
      rw [List.reverse_reverse] at hrun
      refine sn_cont hrun hH hS (fun r M' ad' H1 locs1 hP hH1 hE1 hok hS1 => ?_)
      have hw2 := mm_rt_e hP
      have e1 := sn_E_st hE1 hokS
      have hz := nx _ _ _ _ hw2 ad' H1 locs1 (cells + (mm_alc ts).1) (slots + (mm_alc ts).2) L ⟨fun v hv => ?_, hH1, hS1, sn_E_tr hE hE1, fun i v h => (sn_E_v hE1 (hlk i v h)).2, sn_LS_ad hL (fun i v h => (sn_E_v hE1 (hlk i v h)).1), by simp only; omega, by simp only; omega⟩
      · rw [List.map_append, e1.1] at hz
        have e3 : r.toList.map (sn_v ad') = (r.map (sn_v ad')).toList := by cases r <;> rfl
        rw [e3] at hz
        exact hz
      · rcases List.mem_append.mp hv with h | h
        · exact hok v (by simpa using h)
        · exact e1.2 v h
    case ireturn =>
      have hq' : (decide (decode (pCd k) pc0 = .ok (.ireturn, len)) && sn_chk2 k pc0 len (.ireturn) a b o v ts) = true := hq
      simp only [sn_chk2, Bool.and_eq_true, Bool.or_eq_true, decide_eq_true_eq] at hq'
      simp only [mm_w] at hw
      obtain ⟨hd, rfl, hoo⟩ := hq'
      obtain ⟨x, s1, rfl, rfl, hx01, hw_1⟩ := mm_pI_e hw
      refine hret pc0 L (some (.inl x)) M ad H locs cells slots (Or.inl ⟨hd, x, rfl, ?_⟩) hw_1 (fun v h => by cases h; exact trivial) hH hS hE (by omega) (by omega)
      rcases hoo with ⟨-, hr⟩ | ⟨ho, hr⟩
      · exact Or.inl hr
      · exact Or.inr ⟨hr, hx01 ho⟩
    case areturn =>
      have hq' : (decide (decode (pCd k) pc0 = .ok (.areturn, len)) && sn_chk2 k pc0 len (.areturn) a b o v ts) = true := hq
      simp only [sn_chk2, Bool.and_eq_true, Bool.or_eq_true, decide_eq_true_eq] at hq'
      simp only [mm_w] at hw
      obtain ⟨hd, rfl, hr⟩ := hq'
      obtain ⟨x, s1, rfl, rfl, hw_1⟩ := mm_pA_e hw
      exact hret pc0 L (some (.inr (.inr x))) M ad H locs cells slots (Or.inr (Or.inl ⟨hd, hr, x, rfl⟩)) hw_1 (fun v h => by cases h; exact hst _ List.mem_cons_self) hH hS hE (by omega) (by omega)
    case return_ =>
      have hq' : (decide (decode (pCd k) pc0 = .ok (.return_, len)) && sn_chk2 k pc0 len (.return_) a b o v ts) = true := hq
      simp only [sn_chk2, Bool.and_eq_true, Bool.or_eq_true, decide_eq_true_eq] at hq'
      simp only [mm_w] at hw
      obtain ⟨hd, rfl, hr⟩ := hq'
      obtain ⟨rfl, hw_1⟩ := hw
      exact hret pc0 L none M ad H locs cells slots (Or.inr (Or.inr ⟨hd, hr, rfl⟩)) hw_1 (fun v h => by cases h) hH hS hE (by omega) (by omega)
    all_goals exact False.elim hw
end SNX
