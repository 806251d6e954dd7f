/-! SOUNDNESS of calls, by how deep they go -/
theorem sn_pad_at : ∀ (n : Nat) (l : mm_LS) (i : Nat) (v : mm_V), mm_at (mm_pad n l) i = some v → mm_at l i = some v
  | 0, l, i, v, h => by cases h
  | n + 1, [], 0, v, h => by cases h
  | n + 1, [], i + 1, v, h => by
    have := sn_pad_at n [] i v h
    cases this
  | n + 1, o :: l, 0, v, h => h
  | n + 1, o :: l, i + 1, v, h => sn_pad_at n l i v h
theorem sn_pad_len : ∀ (n : Nat) (l : mm_LS), (mm_pad n l).length = n
  | 0, _ => rfl
  | n + 1, [] => congrArg (· + 1) (sn_pad_len n [])
  | n + 1, _ :: l => congrArg (· + 1) (sn_pad_len n l)
theorem sn_args_at (ad : Nat → Nat → Nat) : ∀ (as : List mm_V) (o i : Nat) (v : mm_V), mm_at (mm_args as) i = some v → (i + o, sn_v ad v) ∈ lv_args o (as.map (sn_v ad)) ∧ v ∈ as
  | [], o, i, v, h => by cases h
  | .inl x :: s, o, 0, v, h => by
    cases h
    exact ⟨by rw [Nat.zero_add]; exact List.mem_cons_self, List.mem_cons_self⟩
  | .inl x :: s, o, i + 1, v, h => by
    have h2 := sn_args_at ad s (o + 1) i v h
    refine ⟨List.mem_cons_of_mem _ ?_, List.mem_cons_of_mem _ h2.2⟩
    rw [show i + 1 + o = i + (o + 1) by omega]
    exact h2.1
  | .inr (.inr q) :: s, o, 0, v, h => by
    cases h
    exact ⟨by rw [Nat.zero_add]; exact List.mem_cons_self, List.mem_cons_self⟩
  | .inr (.inr q) :: s, o, i + 1, v, h => by
    have h2 := sn_args_at ad s (o + 1) i v h
    refine ⟨List.mem_cons_of_mem _ ?_, List.mem_cons_of_mem _ h2.2⟩
    rw [show i + 1 + o = i + (o + 1) by omega]
    exact h2.1
  | .inr (.inl x) :: s, o, 0, v, h => by
    cases h
    exact ⟨by rw [Nat.zero_add]; exact List.mem_cons_self, List.mem_cons_self⟩
  | .inr (.inl x) :: s, o, 1, v, h => by cases h
  | .inr (.inl x) :: s, o, i + 2, v, h => by
    have h2 := sn_args_at ad s (o + 2) i v h
    refine ⟨List.mem_cons_of_mem _ ?_, List.mem_cons_of_mem _ h2.2⟩
    rw [show i + 2 + o = i + (o + 2) by omega]
    exact h2.1
theorem sn_args_len (ad : Nat → Nat → Nat) : ∀ as : List mm_V, (lg_sl (as.map (sn_v ad))).length = (mm_args as).length
  | [] => rfl
  | .inl x :: s => by
    have h := sn_args_len ad s
    show ([Slot.val (.int x)] ++ lg_sl (s.map (sn_v ad))).length = _
    simp [mm_args, h]
  | .inr (.inr q) :: s => by
    have h := sn_args_len ad s
    show ([Slot.val (.ref _)] ++ lg_sl (s.map (sn_v ad))).length = _
    simp [mm_args, h]
  | .inr (.inl x) :: s => by
    have h := sn_args_len ad s
    show ([Slot.val (.long x), .second] ++ lg_sl (s.map (sn_v ad))).length = _
    simp [mm_args, h]
theorem sn_ckb {k : Nat} (hk : k < 167) (j : Nat) : sn_chkL k (pB k j) = true ∧ ∀ q t, pB k j = q :: t → q.1 = pPc k j := by
  have h := ck k hk
  by_cases hj : j < (pBs.getD k []).length
  · have h1 := List.all_eq_true.mp h j (List.mem_range.mpr hj)
    rw [Bool.and_eq_true] at h1
    refine ⟨h1.1, fun q t e => ?_⟩
    have h2 := h1.2
    rw [e] at h2
    exact of_decide_eq_true h2
  · have e : pB k j = [] := by
      unfold pB
      rw [List.getD_eq_getElem?_getD, List.getElem?_eq_none (Nat.not_lt.mp hj)]
      rfl
    rw [e]
    exact ⟨rfl, fun _ _ h => by cases h⟩
theorem sn_pc0 : ∀ k, k < 167 → pPc k 0 = 0 := by decide +kernel
theorem sn_st2 : ∀ k, k < 166 → pSt k = 2 → (pY k).name = "<init>" := by decide +kernel
section SNM
variable {p : Program} {l : Launch} {e : Env} {R : Room} {s : State} {m : MethodId} {args : Array Value} {below : List Frame} {meth : Method} {c : Code} {Q : State → Prop} {D : va_G} {a0 : Nat} {M0 : mm_M} {ad0 : Nat → Nat → Nat} {k d : Nat} {post : mm_Post}
/-- a method's body, from any block -/
theorem sn_body (C0 : sn_K p l e R s m args below meth c Q D a0 M0 ad0 k d post) {j : Nat} {ls : mm_LS} {st : List mm_V} {M : mm_M} {bu : mm_B} (h : mm_blk (mm_call pAl pB pMx d) (pB k) post j ls st M bu) : sn_OK p l e R s m args below meth c Q D a0 M0 ad0 k (pPc k j) ls st M bu :=
  h (fun j ls st M bu => sn_OK p l e R s m args below meth c Q D a0 M0 ad0 k (pPc k j) ls st M bu) (fun j ls st M bu hw => sn_code C0 _ (fun _ _ _ _ _ h => h) (pB k j) (pPc k j) (sn_ckb C0.1 j).1 (sn_ckb C0.1 j).2 ls st M bu hw)
/-- from its entry -/
theorem sn_entry (C0 : sn_K p l e R s m args below meth c Q D a0 M0 ad0 k d post) {as : List mm_V} (hlen : (mm_args as).length ≤ pMx k) (h : mm_blk (mm_call pAl pB pMx d) (pB k) post 0 (mm_pad (pMx k) (mm_args as)) [] M0 (pAl k)) (hok : ∀ v ∈ as, sn_ok M0 v) (hH : sn_H a0 D ad0 M0 s s.heap) (hc1 : (pAl k).1 ≤ R.cells) (hc2 : (pAl k).2 ≤ R.slots) :
    W p l e R s m args below meth c s.heap [] 0 0 Q (entryFrame m (as.map (sn_v ad0)).toArray (pMx k)) := by
  rw [lg_entry_eq]
  have hl := lv_entry (as.map (sn_v ad0)) (n := pMx k) (by rw [sn_args_len]; exact hlen)
  generalize (lg_sl (as.map (sn_v ad0)) ++ List.replicate (pMx k - (lg_sl (as.map (sn_v ad0))).length) Slot.unset).toArray = L at hl ⊢
  have hLS : sn_LS ad0 (pMx k) (mm_pad (pMx k) (mm_args as)) L := sn_LS_sub (sn_pad_len _ _) hl fun i v hv => by
    have h2 := (sn_args_at ad0 as 0 i v (sn_pad_at _ _ i v hv)).1
    exact h2
  have hb := sn_body C0 h ad0 s.heap [] 0 0 L ⟨fun _ h => absurd h List.not_mem_nil, hH, va_S.rf, sn_E_rf _ _, fun i v hv => hok v (sn_args_at ad0 as 0 i v (sn_pad_at _ _ i v hv)).2, hLS, by omega, by omega⟩
  rw [sn_pc0 k C0.1] at hb
  exact hb
end SNM
set_option maxHeartbeats 4000000 in
theorem sn_met (l : Launch) (hSL : sn_SL l) (hSC : sn_SC l) : ∀ d, sn_Met l d := by
  intro d
  induction d with
  | zero => intro k as M post hk h; exact False.elim h
  | succ d ih =>
    intro k as M post hk hcall hok a0 D ad
    obtain ⟨hlen, hblk⟩ := hcall
    have hk7 : k < 167 := Nat.lt_succ_of_lt hk
    obtain ⟨y1, y2, y3, y4, y5, y6, y7⟩ := tb_y k hk
    refine Met.ofW (cc := pCd k) (maxL := pMx k) (ret := pRet k) (ws' := sn_gw) y4 rfl ?_
    intro p e s m args below meth c s₁ B hml hv
    obtain ⟨rfl, hF, hH⟩ := hv
    have hx := B.exec
    have hb := B.bytes
    have hr := B.returns
    have hts := atoms_spec (ws := pWs k) B.pre
    have hown : s.vm.findClass (pY k).cls = some m.cls := findClass_of_methodNamed B.named
    have hlocks := B.notSynchronized
    have hnm : meth.name = (pY k).name := (name_of_methodNamed B.named B.method).1
    rw [y5] at hown
    refine sn_entry (D := D) (a0 := a0) (M0 := M) (ad0 := ad) (d := d) (post := post) ⟨hk7, hx, hb, hml, hown, fun w hw => hts w (List.mem_cons_of_mem _ hw), hF, fun h2 => hnm.trans (sn_st2 k hk h2), ?_, ?_, ih, hSL, hSC, ?_⟩ hlen hblk hok hH (Nat.le_refl _) (Nat.le_refl _)
    · show d + 9 ≤ d + 1 + 8; omega
    · show 64 * (d + 9) ≤ 64 * (d + 1 + 8); omega
    · intro pc L r M' ad' H locs cells slots hret hp hokr hH' hS hE hc1 hc2
      refine W.widen (k := (pAl k).1) (n := (pAl k).2) hc1 hc2 ?_
      have hq : ∀ t : State, t.heap = H → s.WarmedH t.vm → sn_Qc a0 D ad M post (as.map (sn_v ad)).toArray s (.returned (r.map (sn_v ad'))) t := fun t ht hW => ⟨r, M', ad', rfl, hp, by rw [ht]; exact sn_H_warm hW hH', hE, hokr, hS.F ht⟩
      rcases hret with ⟨hd, x, rfl, hrt⟩ | ⟨hd, hrt, q, rfl⟩ | ⟨hd, hrt, rfl⟩
      · rcases hrt with hrt | ⟨hrt, hx01⟩
        · exact W.iret hx hb (hr.trans hrt) hq hS.2.2 hd hlocks
        · refine W.zret hx hb (hr.trans hrt) ?_ hq hS.2.2 hd hlocks
          rcases hx01 with rfl | rfl <;> decide
      · exact W.aret hx hb (hr.trans hrt) (Or.inl ⟨_, rfl⟩) (Or.inr ⟨_, rfl⟩) hq hS.2.2 hd hlocks
      · exact W.vret hx hb (hr.trans hrt) hq hS.2.2 hd hlocks
