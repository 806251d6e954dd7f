/-! THE TEXT CONSTANT: length() and charAt(i), by the JDK's own code -/
theorem st_same {a0 q : Nat} {s U : State} (hW : s.vm = U.vm) {H : Heap} (h : sn_str a0 q s H) : sn_str a0 q U H := sn_str_moved (by rw [← hW]; exact Vm.Alike.refl _) (by obtain ⟨⟨tx, hx⟩, -⟩ := h; exact ⟨tx, hx.same hW.symm⟩) h
theorem st_warm {a0 q : Nat} {s U : State} (hW : s.WarmedH U.vm) {H : Heap} (h : sn_str a0 q s H) : sn_str a0 q U H := sn_str_moved hW.alike (by obtain ⟨⟨tx, hx⟩, -⟩ := h; exact ⟨tx, hx.warm hW⟩) h
def st_P (a0 q : Nat) (av : List Value) : Array Value → State → Prop := fun v U => v = av.toArray ∧ sn_str a0 q U U.heap
theorem st_blind (a0 q : Nat) (av : List Value) : FrameBlind (st_P a0 q av) := fun _ U _ _ h => ⟨h.1, st_same (s := U) rfl h.2⟩
def st_rm (f n : Nat) : Room := { frames := f, cells := 0, slots := 0, locals := n }
section STC
variable {p : Program} {l : Launch} {e : Env} {R : Room} {s : State} {m : MethodId} {args : Array Value} {below : List Frame} {meth : Method} {c : Code} {H : Heap} {locs : List Loc} {cells slots : Nat} {Q : State → Prop} {pc : Nat} {L : Array Slot} {rest st0 : List Value} {a : Array Value}
theorem st_cont {P : Int32 → Prop} (hr : va_Run p l e R s m args below meth c H locs cells slots 0 0 (F0 m pc L st0) rest (vp_Si P a) (fun _ => False)) (kk : ∀ r : Int32, P r → W p l e R s m args below meth c H locs cells slots Q (F0 m (pc + 3) L (.int r :: rest))) : W p l e R s m args below meth c H locs cells slots Q (F0 m pc L st0) := by
  intro T hT X
  obtain ⟨v, st₀, t, T', L', h0, X', hL, e1, e2, ⟨r, hv, hp, hh⟩, st⟩ := hr T hT X
  cases hv
  have hL0 : L' = [] := by
    cases L' with
    | nil => rfl
    | cons x y => exact (hL x List.mem_cons_self).elim
  subst hL0
  rw [List.append_nil] at X'
  obtain ⟨t2, a1, b1⟩ := kk r hp T' (by rw [e1, hh]; exact h0) X'
  exact ⟨t2, st t2 a1, b1⟩
theorem st_contv (hr : va_Run p l e R s m args below meth c H locs cells slots 0 0 (F0 m pc L st0) rest (va_Sv (fun _ => True) a) (fun _ => False)) (kk : W p l e R s m args below meth c H locs cells slots Q (F0 m (pc + 3) L rest)) : W p l e R s m args below meth c H locs cells slots Q (F0 m pc L st0) := by
  intro T hT X
  obtain ⟨v, st₀, t, T', L', h0, X', hL, e1, e2, ⟨hv, -, hh⟩, st⟩ := hr T hT X
  cases hv
  have hL0 : L' = [] := by
    cases L' with
    | nil => rfl
    | cons x y => exact (hL x List.mem_cons_self).elim
  subst hL0
  rw [List.append_nil] at X'
  obtain ⟨t2, a1, b1⟩ := kk T' (by rw [e1, hh]; exact h0) X'
  exact ⟨t2, st t2 a1, b1⟩
end STC
set_option maxHeartbeats 1000000 in
theorem st_coder (l : Launch) (a0 q : Nat)  : Met l yJ0_coder_7d493 (Cond.code yJ0_coder_7d493 cJ0_coder_7d493 1 (some .byte) :: sn_gw) (st_rm 1 40) (st_P a0 q [.ref q]) (vp_Si (fun r => r = 0)) 0 0 (fun _ => False) := by
  refine Met.ofW (cc := cJ0_coder_7d493) (maxL := 1) (ret := (some .byte)) (by decide +kernel) rfl ?_
  intro p e s m args below meth c s₁ B hml hv
  obtain ⟨rfl, hs⟩ := hv
  have hx := B.exec
  have hb := B.bytes
  have hr := B.returns
  have hts := atoms_spec (ws := Cond.code yJ0_coder_7d493 cJ0_coder_7d493 1 (some .byte) :: sn_gw) B.pre
  have hgw : ∀ w ∈ sn_gw, w.before _ s = true := fun w h => hts w (List.mem_cons_of_mem _ h)
  have hown : s.vm.findClass "java/lang/String" = some m.cls := findClass_of_methodNamed B.named
  have hlocks := B.notSynchronized
  have hSr : va_S (fun q => a0 ≤ q) s.heap s.heap [] := va_S.rf
  obtain ⟨hvk, ⟨qv, hS⟩, hZ, hZq⟩ := id hs
  have hS0 := hS.1 0 (by omega)
  have hl := lv_entry ([.ref q]) (n := 1) (Nat.le_of_ble_eq_true rfl)
  rw [lg_entry_eq]
  generalize (lg_sl ([.ref q]) ++ List.replicate (1 - (lg_sl ([.ref q])).length) Slot.unset).toArray = ls at hl ⊢
  refine va_gets hx hb hZ hSr hown (hgw _ js_fa) (fun _ h => h) dJ0_coder_7d493_0 ?_
  refine lv_if_eq (tgt := 13) hx hb dJ0_coder_7d493_3 (by decide) (fun h => absurd h (by decide)) (fun _ => ?_)
  refine lv_aload_n hx hb dJ0_coder_7d493_6 rfl (lv_at hl 0 rfl) ?_
  refine vk_getf hx hb hS0.2.1 hSr hown (hgw _ js_fb) (fun _ h => h) dJ0_coder_7d493_7 ?_
  refine lv_goto (tgt := 14) hx hb dJ0_coder_7d493_10 (by decide) ?_
  exact W.zret hx hb hr (by decide) (fun t ht hW => ⟨0, rfl, rfl, ht⟩) (fun q h => by cases h) dJ0_coder_7d493_14 hlocks
set_option maxHeartbeats 1000000 in
theorem st_isL (l : Launch) (a0 q : Nat)  : Met l yJ0_isLatin1_aae02 (Cond.code yJ0_isLatin1_aae02 cJ0_isLatin1_aae02 1 (some .boolean) :: sn_gw) (st_rm 1 40) (st_P a0 q [.ref q]) (vp_Si (fun r => r = 1)) 0 0 (fun _ => False) := by
  refine Met.ofW (cc := cJ0_isLatin1_aae02) (maxL := 1) (ret := (some .boolean)) (by decide +kernel) rfl ?_
  intro p e s m args below meth c s₁ B hml hv
  obtain ⟨rfl, hs⟩ := hv
  have hx := B.exec
  have hb := B.bytes
  have hr := B.returns
  have hts := atoms_spec (ws := Cond.code yJ0_isLatin1_aae02 cJ0_isLatin1_aae02 1 (some .boolean) :: sn_gw) B.pre
  have hgw : ∀ w ∈ sn_gw, w.before _ s = true := fun w h => hts w (List.mem_cons_of_mem _ h)
  have hown : s.vm.findClass "java/lang/String" = some m.cls := findClass_of_methodNamed B.named
  have hlocks := B.notSynchronized
  have hSr : va_S (fun q => a0 ≤ q) s.heap s.heap [] := va_S.rf
  obtain ⟨hvk, ⟨qv, hS⟩, hZ, hZq⟩ := id hs
  have hS0 := hS.1 0 (by omega)
  have hl := lv_entry ([.ref q]) (n := 1) (Nat.le_of_ble_eq_true rfl)
  rw [lg_entry_eq]
  generalize (lg_sl ([.ref q]) ++ List.replicate (1 - (lg_sl ([.ref q])).length) Slot.unset).toArray = ls at hl ⊢
  refine va_gets hx hb hZ hSr hown (hgw _ js_fa) (fun _ h => h) dJ0_isLatin1_aae02_0 ?_
  refine lv_if_eq (tgt := 17) hx hb dJ0_isLatin1_aae02_3 (by decide) (fun h => absurd h (by decide)) (fun _ => ?_)
  refine lv_aload_n hx hb dJ0_isLatin1_aae02_6 rfl (lv_at hl 0 rfl) ?_
  refine vk_getf hx hb hS0.2.1 hSr hown (hgw _ js_fb) (fun _ h => h) dJ0_isLatin1_aae02_7 ?_
  refine lv_if_ne (tgt := 17) hx hb dJ0_isLatin1_aae02_10 (by decide) (fun h => absurd rfl h) (fun _ => ?_)
  refine lv_iconst (v := 1) hx hb dJ0_isLatin1_aae02_13 (by decide) ?_
  refine lv_goto (tgt := 18) hx hb dJ0_isLatin1_aae02_14 (by decide) ?_
  exact W.zret hx hb hr (by decide) (fun t ht hW => ⟨1, rfl, rfl, ht⟩) (fun q h => by cases h) dJ0_isLatin1_aae02_18 hlocks
set_option maxHeartbeats 1000000 in
theorem st_ck3n (l : Launch) (a0 q : Nat) (i n : Int32) (h0 : ¬ i < 0) (h1 : i < n) : Met l yJ3_checkIndex_8e157 (Cond.code yJ3_checkIndex_8e157 cJ3_checkIndex_8e157 3 (some .int) :: sn_gw) (st_rm 1 40) (st_P a0 q [.int i, .int n, .null]) (vp_Si (fun r => r = i)) 0 0 (fun _ => False) := by
  refine Met.ofW (cc := cJ3_checkIndex_8e157) (maxL := 3) (ret := (some .int)) (by decide +kernel) rfl ?_
  intro p e s m args below meth c s₁ B hml hv
  obtain ⟨rfl, hs⟩ := hv
  have hx := B.exec
  have hb := B.bytes
  have hr := B.returns
  have hts := atoms_spec (ws := Cond.code yJ3_checkIndex_8e157 cJ3_checkIndex_8e157 3 (some .int) :: sn_gw) B.pre
  have hgw : ∀ w ∈ sn_gw, w.before _ s = true := fun w h => hts w (List.mem_cons_of_mem _ h)
  have hown : s.vm.findClass "jdk/internal/util/Preconditions" = some m.cls := findClass_of_methodNamed B.named
  have hlocks := B.notSynchronized
  have hSr : va_S (fun q => a0 ≤ q) s.heap s.heap [] := va_S.rf
  obtain ⟨hvk, ⟨qv, hS⟩, hZ, hZq⟩ := id hs
  have hS0 := hS.1 0 (by omega)
  have hl := lv_entry ([.int i, .int n, .null]) (n := 3) (Nat.le_of_ble_eq_true rfl)
  rw [lg_entry_eq]
  generalize (lg_sl ([.int i, .int n, .null]) ++ List.replicate (3 - (lg_sl ([.int i, .int n, .null])).length) Slot.unset).toArray = ls at hl ⊢
  refine lv_iload_n hx hb dJ3_checkIndex_8e157_0 rfl (lv_at hl 0 rfl) ?_
  refine lv_if_lt (tgt := 9) hx hb dJ3_checkIndex_8e157_1 (by decide) (fun h => absurd h h0) (fun _ => ?_)
  refine lv_iload_n hx hb dJ3_checkIndex_8e157_4 rfl (lv_at hl 0 rfl) ?_
  refine lv_iload_n hx hb dJ3_checkIndex_8e157_5 rfl (lv_at hl 1 rfl) ?_
  refine lv_icmp_lt (tgt := 16) hx hb dJ3_checkIndex_8e157_6 (by decide) (fun _ => ?_) (fun h => absurd h1 h)
  refine lv_iload_n hx hb dJ3_checkIndex_8e157_16 rfl (lv_at hl 0 rfl) ?_
  exact W.iret hx hb hr (fun t ht hW => ⟨i, rfl, rfl, ht⟩) (fun q h => by cases h) dJ3_checkIndex_8e157_17 hlocks
set_option maxHeartbeats 1000000 in
theorem st_ck3r (l : Launch) (a0 q : Nat) (t : Nat) (i n : Int32) (h0 : ¬ i < 0) (h1 : i < n) : Met l yJ3_checkIndex_8e157 (Cond.code yJ3_checkIndex_8e157 cJ3_checkIndex_8e157 3 (some .int) :: sn_gw) (st_rm 1 40) (st_P a0 q [.int i, .int n, .ref t]) (vp_Si (fun r => r = i)) 0 0 (fun _ => False) := by
  refine Met.ofW (cc := cJ3_checkIndex_8e157) (maxL := 3) (ret := (some .int)) (by decide +kernel) rfl ?_
  intro p e s m args below meth c s₁ B hml hv
  obtain ⟨rfl, hs⟩ := hv
  have hx := B.exec
  have hb := B.bytes
  have hr := B.returns
  have hts := atoms_spec (ws := Cond.code yJ3_checkIndex_8e157 cJ3_checkIndex_8e157 3 (some .int) :: sn_gw) B.pre
  have hgw : ∀ w ∈ sn_gw, w.before _ s = true := fun w h => hts w (List.mem_cons_of_mem _ h)
  have hown : s.vm.findClass "jdk/internal/util/Preconditions" = some m.cls := findClass_of_methodNamed B.named
  have hlocks := B.notSynchronized
  have hSr : va_S (fun q => a0 ≤ q) s.heap s.heap [] := va_S.rf
  obtain ⟨hvk, ⟨qv, hS⟩, hZ, hZq⟩ := id hs
  have hS0 := hS.1 0 (by omega)
  have hl := lv_entry ([.int i, .int n, .ref t]) (n := 3) (Nat.le_of_ble_eq_true rfl)
  rw [lg_entry_eq]
  generalize (lg_sl ([.int i, .int n, .ref t]) ++ List.replicate (3 - (lg_sl ([.int i, .int n, .ref t])).length) Slot.unset).toArray = ls at hl ⊢
  refine lv_iload_n hx hb dJ3_checkIndex_8e157_0 rfl (lv_at hl 0 rfl) ?_
  refine lv_if_lt (tgt := 9) hx hb dJ3_checkIndex_8e157_1 (by decide) (fun h => absurd h h0) (fun _ => ?_)
  refine lv_iload_n hx hb dJ3_checkIndex_8e157_4 rfl (lv_at hl 0 rfl) ?_
  refine lv_iload_n hx hb dJ3_checkIndex_8e157_5 rfl (lv_at hl 1 rfl) ?_
  refine lv_icmp_lt (tgt := 16) hx hb dJ3_checkIndex_8e157_6 (by decide) (fun _ => ?_) (fun h => absurd h1 h)
  refine lv_iload_n hx hb dJ3_checkIndex_8e157_16 rfl (lv_at hl 0 rfl) ?_
  exact W.iret hx hb hr (fun t ht hW => ⟨i, rfl, rfl, ht⟩) (fun q h => by cases h) dJ3_checkIndex_8e157_17 hlocks
set_option maxHeartbeats 1000000 in
theorem st_ck0 (l : Launch) (a0 q : Nat) (i n : Int32) (h0 : ¬ i < 0) (h1 : i < n) : Met l yJ0_checkIndex_df160 (Cond.code yJ0_checkIndex_df160 cJ0_checkIndex_df160 2 none :: sn_gw) (st_rm 2 80) (st_P a0 q [.int i, .int n]) (va_Sv (fun _ => True)) 0 0 (fun _ => False) := by
  refine Met.ofW (cc := cJ0_checkIndex_df160) (maxL := 2) (ret := none) (by decide +kernel) rfl ?_
  intro p e s m args below meth c s₁ B hml hv
  obtain ⟨rfl, hs⟩ := hv
  have hx := B.exec
  have hb := B.bytes
  have hr := B.returns
  have hts := atoms_spec (ws := Cond.code yJ0_checkIndex_df160 cJ0_checkIndex_df160 2 none :: sn_gw) B.pre
  have hgw : ∀ w ∈ sn_gw, w.before _ s = true := fun w h => hts w (List.mem_cons_of_mem _ h)
  have hown : s.vm.findClass "java/lang/String" = some m.cls := findClass_of_methodNamed B.named
  have hlocks := B.notSynchronized
  have hSr : va_S (fun q => a0 ≤ q) s.heap s.heap [] := va_S.rf
  obtain ⟨hvk, ⟨qv, hS⟩, hZ, hZq⟩ := id hs
  have hS0 := hS.1 0 (by omega)
  have hl := lv_entry ([.int i, .int n]) (n := 2) (Nat.le_of_ble_eq_true rfl)
  rw [lg_entry_eq]
  generalize (lg_sl ([.int i, .int n]) ++ List.replicate (2 - (lg_sl ([.int i, .int n])).length) Slot.unset).toArray = ls at hl ⊢
  refine lv_iload_n hx hb dJ0_checkIndex_df160_0 rfl (lv_at hl 0 rfl) ?_
  refine lv_iload_n hx hb dJ0_checkIndex_df160_1 rfl (lv_at hl 1 rfl) ?_
  rcases hZq with hZq | ⟨t, hZq⟩
  · refine va_gets hx hb hZq hSr hown (hgw _ js_fd) (fun _ h => h) dJ0_checkIndex_df160_2 ?_
    refine st_cont (gg_S (n := 3) (As := [.int i, .int n, .null]) (host := "") (rest := []) (nL := _) (st_ck3n l a0 q i n h0 h1) hx hb hml hown hgw sn_good js_ck3_c (Or.inl js_le) js_ck3_s js_ck3_n rfl rfl ⟨by decide +kernel, by decide +kernel, by decide +kernel⟩ ⟨by decide, by decide⟩ ⟨st_blind _ _ _, fun U hU hW => ⟨rfl, by rw [hU]; exact st_warm hW hs⟩⟩ rfl hl.1 rfl (by decide) dJ0_checkIndex_df160_5 ⟨by decide, by decide⟩) (fun r hr1 => ?_)
    refine lv_pop hx hb dJ0_checkIndex_df160_8 rfl ?_
    exact W.vret hx hb hr (fun t ht hW => ⟨rfl, trivial, ht⟩) (fun q h => by cases h) dJ0_checkIndex_df160_9 hlocks
  · refine va_gets hx hb hZq hSr hown (hgw _ js_fd) (fun _ h => h) dJ0_checkIndex_df160_2 ?_
    refine st_cont (gg_S (n := 3) (As := [.int i, .int n, .ref t]) (host := "") (rest := []) (nL := _) (st_ck3r l a0 q t i n h0 h1) hx hb hml hown hgw sn_good js_ck3_c (Or.inl js_le) js_ck3_s js_ck3_n rfl rfl ⟨by decide +kernel, by decide +kernel, by decide +kernel⟩ ⟨by decide, by decide⟩ ⟨st_blind _ _ _, fun U hU hW => ⟨rfl, by rw [hU]; exact st_warm hW hs⟩⟩ rfl hl.1 rfl (by decide) dJ0_checkIndex_df160_5 ⟨by decide, by decide⟩) (fun r hr1 => ?_)
    refine lv_pop hx hb dJ0_checkIndex_df160_8 rfl ?_
    exact W.vret hx hb hr (fun t ht hW => ⟨rfl, trivial, ht⟩) (fun q h => by cases h) dJ0_checkIndex_df160_9 hlocks
theorem st_ch : ∀ n, n < mm_txt.length → ((mm_txt.getD n 0 &&& 255).toUInt32 % 65536).toInt32 = mm_txt.getD n 0 ∧ narrow .char (.int (mm_txt.getD n 0)) = .int (mm_txt.getD n 0) := by decide +kernel
set_option maxHeartbeats 1000000 in
theorem st_ch1 (l : Launch) (a0 q qx : Nat) (i : Int32) (hi : vp_in i mm_txt.length) : Met l yJ1_charAt_3b067 (Cond.code yJ1_charAt_3b067 cJ1_charAt_3b067 2 (some .char) :: sn_gw) (st_rm 3 120) (fun v U => v = [Value.ref qx, .int i].toArray ∧ sn_str a0 q U U.heap ∧ vk_S 1 [mm_txt.length] [mm_txt] (fun _ => q) (fun _ => qx) (fun q => a0 ≤ q) U U.heap) (vp_Si (fun r => r = mm_txt.getD i.toNatClampNeg 0)) 0 0 (fun _ => False) := by
  refine Met.ofW (cc := cJ1_charAt_3b067) (maxL := 2) (ret := (some .char)) (by decide +kernel) rfl ?_
  intro p e s m args below meth c s₁ B hml hv
  obtain ⟨rfl, hs, hSx⟩ := hv
  have hx := B.exec
  have hb := B.bytes
  have hr := B.returns
  have hts := atoms_spec (ws := Cond.code yJ1_charAt_3b067 cJ1_charAt_3b067 2 (some .char) :: sn_gw) B.pre
  have hgw : ∀ w ∈ sn_gw, w.before _ s = true := fun w h => hts w (List.mem_cons_of_mem _ h)
  have hown : s.vm.findClass "java/lang/StringLatin1" = some m.cls := findClass_of_methodNamed B.named
  have hlocks := B.notSynchronized
  have hSr : va_S (fun q => a0 ≤ q) s.heap s.heap [] := va_S.rf
  obtain ⟨hvk, ⟨qv, hS⟩, hZ, hZq⟩ := id hs
  have hS0 := hSx.1 0 (by omega)
  have hl := lv_entry ([.ref qx, .int i]) (n := 2) (Nat.le_of_ble_eq_true rfl)
  rw [lg_entry_eq]
  generalize (lg_sl ([.ref qx, .int i]) ++ List.replicate (2 - (lg_sl ([.ref qx, .int i])).length) Slot.unset).toArray = ls at hl ⊢
  have hT : va_T .byte qx mm_txt.length (fun j => .int (mm_txt.getD j 0)) (fun q => a0 ≤ q) s s.heap := hS0.2.2.2
  have hlt : i.toNatClampNeg < mm_txt.length := Nat.not_le.mp fun q => hi (Or.inr q)
  have h0 : ¬ i < 0 := fun q => hi (Or.inl q)
  have h1 : i < Int32.ofNat mm_txt.length := by
    obtain ⟨j, hj, rfl⟩ := vp_in_of hi (by decide)
    exact nI_lt hj (by decide)
  have hch : ((mm_txt.getD i.toNatClampNeg 0 &&& 255).toUInt32 % 65536).toInt32 = mm_txt.getD i.toNatClampNeg 0 ∧ narrow .char (.int (mm_txt.getD i.toNatClampNeg 0)) = .int (mm_txt.getD i.toNatClampNeg 0) := st_ch _ hlt
  refine lv_iload_n hx hb dJ1_charAt_3b067_0 rfl (lv_at hl 1 rfl) ?_
  refine lv_aload_n hx hb dJ1_charAt_3b067_1 rfl (lv_at hl 0 rfl) ?_
  refine va_tlen hx hb hT hSr rfl dJ1_charAt_3b067_2 ?_
  refine st_contv (gg_S (n := 2) (As := [.int i, .int (Int32.ofNat mm_txt.length)]) (host := "") (rest := []) (nL := _) (st_ck0 l a0 q i (Int32.ofNat mm_txt.length) h0 h1) hx hb hml hown hgw sn_good js_ck0_c (Or.inl js_ld) js_ck0_s js_ck0_n rfl rfl ⟨by decide +kernel, by decide +kernel, by decide +kernel⟩ ⟨by decide, by decide⟩ ⟨st_blind _ _ _, fun U hU hW => ⟨rfl, by rw [hU]; exact st_warm hW hs⟩⟩ rfl hl.1 rfl (by decide) dJ1_charAt_3b067_3 ⟨by decide, by decide⟩) ?_
  refine lv_aload_n hx hb dJ1_charAt_3b067_6 rfl (lv_at hl 0 rfl) ?_
  refine lv_iload_n hx hb dJ1_charAt_3b067_7 rfl (lv_at hl 1 rfl) ?_
  refine va_tb hx hb hT hSr hi rfl dJ1_charAt_3b067_8 ?_
  refine lv_sipush (v := 255) hx hb dJ1_charAt_3b067_9 (by decide) ?_
  refine lv_iand hx hb dJ1_charAt_3b067_12 ?_
  refine lv_i2c hx hb dJ1_charAt_3b067_13 hch.1 ?_
  exact W.zret hx hb hr hch.2 (fun t ht hW => ⟨_, rfl, rfl, ht⟩) (fun q h => by cases h) dJ1_charAt_3b067_14 hlocks
set_option maxHeartbeats 1000000 in
theorem st_SL (l : Launch) : sn_SL l := by
  intro a0 D ad M i hi
  refine Met.ofW (cc := cJ0_length_8abf5) (maxL := 1) (ret := some .int) (by decide +kernel) rfl ?_
  intro p e s m args below meth c s₁ B hml hv
  obtain ⟨rfl, hF, hH⟩ := hv
  have hs := hH.2.2.2.1 i hi
  have hx := B.exec
  have hb := B.bytes
  have hr := B.returns
  have hts := atoms_spec (ws := Cond.code yJ0_length_8abf5 cJ0_length_8abf5 1 (some .int) :: sn_gw) B.pre
  have hgw : ∀ w ∈ sn_gw, w.before _ s = true := fun w h => hts w (List.mem_cons_of_mem _ h)
  have hown : s.vm.findClass "java/lang/String" = some m.cls := findClass_of_methodNamed B.named
  have hlocks := B.notSynchronized
  have hSr : va_S (fun q => a0 ≤ q) s.heap s.heap [] := va_S.rf
  obtain ⟨hvk, ⟨qv, hS⟩, hZ, hZq⟩ := id hs
  have hS0 := hS.1 0 (by omega)
  have hl := lv_entry ([Value.ref (ad 12 i)]) (n := 1) (Nat.le_of_ble_eq_true rfl)
  show W _ _ _ _ _ _ _ _ _ _ _ _ _ _ _ (entryFrame m ([Value.ref (ad 12 i)] : List Value).toArray 1)
  rw [lg_entry_eq]
  generalize (lg_sl ([Value.ref (ad 12 i)]) ++ List.replicate (1 - (lg_sl ([Value.ref (ad 12 i)])).length) Slot.unset).toArray = ls at hl ⊢
  have hT : va_T .byte qv mm_txt.length (fun j => .int (mm_txt.getD j 0)) (fun q => a0 ≤ q) s s.heap := hS0.2.2.2
  refine lv_aload_n hx hb dJ0_length_8abf5_0 rfl (lv_at hl 0 rfl) ?_
  refine vk_getf hx hb hS0.2.2.1 hSr hown (hgw _ js_fc) (fun _ h => h) dJ0_length_8abf5_1 ?_
  refine va_tlen hx hb hT hSr rfl dJ0_length_8abf5_4 ?_
  refine lv_aload_n hx hb dJ0_length_8abf5_5 rfl (lv_at hl 0 rfl) ?_
  obtain ⟨cell, g1, g2, g3, -⟩ := hS0.1
  refine st_cont (gg_V (n := 0) (As := []) (host := "") (rest := [Value.int (Int32.ofNat mm_txt.length)]) (st_coder l a0 (ad 12 i)) hx hb hml hown hgw sn_good js_coder_c (Or.inl js_la) js_coder_i js_coder_v js_coder_n rfl rfl ⟨by decide +kernel, by decide +kernel, by decide +kernel⟩ ⟨by decide, by decide⟩ ⟨st_blind _ _ _, ⟨cell, g1, g2, g3⟩, fun U hU hW => ⟨rfl, by rw [hU]; exact st_warm hW hs⟩⟩ rfl hl.1 rfl (by decide) dJ0_length_8abf5_6 ⟨by decide, by decide⟩) (fun r hr1 => ?_)
  subst hr1
  refine lv_ishr hx hb dJ0_length_8abf5_9 ?_
  have e1 : Int32.ofNat mm_txt.length >>> ((0 : Int32) &&& 31) = nI mm_txt.length := by decide
  rw [e1]
  exact W.iret hx hb hr (fun t ht hW => ⟨some (.inl (nI mm_txt.length)), M, ad, rfl, ⟨rfl, rfl⟩, by rw [ht]; exact sn_H_warm hW hH, sn_E_rf _ _, fun v h => by cases h; exact trivial, hSr.F ht⟩) (fun q h => by cases h) dJ0_length_8abf5_10 hlocks
set_option maxHeartbeats 1000000 in
theorem st_SC (l : Launch) : sn_SC l := by
  intro a0 D ad M i x hi hvp
  refine Met.ofW (cc := cJ0_charAt_5068e) (maxL := 2) (ret := some .char) (by decide +kernel) rfl ?_
  intro p e s m args below meth c s₁ B hml hv
  obtain ⟨rfl, hF, hH⟩ := hv
  have hs := hH.2.2.2.1 i hi
  have hx := B.exec
  have hb := B.bytes
  have hr := B.returns
  have hts := atoms_spec (ws := Cond.code yJ0_charAt_5068e cJ0_charAt_5068e 2 (some .char) :: sn_gw) B.pre
  have hgw : ∀ w ∈ sn_gw, w.before _ s = true := fun w h => hts w (List.mem_cons_of_mem _ h)
  have hown : s.vm.findClass "java/lang/String" = some m.cls := findClass_of_methodNamed B.named
  have hlocks := B.notSynchronized
  have hSr : va_S (fun q => a0 ≤ q) s.heap s.heap [] := va_S.rf
  obtain ⟨hvk, ⟨qv, hS⟩, hZ, hZq⟩ := id hs
  have hS0 := hS.1 0 (by omega)
  have hl := lv_entry ([Value.ref (ad 12 i), .int x]) (n := 2) (Nat.le_of_ble_eq_true rfl)
  show W _ _ _ _ _ _ _ _ _ _ _ _ _ _ _ (entryFrame m ([Value.ref (ad 12 i), .int x] : List Value).toArray 2)
  rw [lg_entry_eq]
  generalize (lg_sl ([Value.ref (ad 12 i), .int x]) ++ List.replicate (2 - (lg_sl ([Value.ref (ad 12 i), .int x])).length) Slot.unset).toArray = ls at hl ⊢
  have hch := st_ch x.toNatClampNeg (Nat.not_le.mp fun q => hvp (Or.inr q))
  refine lv_aload_n hx hb dJ0_charAt_5068e_0 rfl (lv_at hl 0 rfl) ?_
  obtain ⟨cell, g1, g2, g3, -⟩ := hS0.1
  refine st_cont (gg_V (n := 0) (As := []) (host := "") (rest := []) (st_isL l a0 (ad 12 i)) hx hb hml hown hgw sn_good js_isL_c (Or.inl js_lb) js_isL_i js_isL_v js_isL_n rfl rfl ⟨by decide +kernel, by decide +kernel, by decide +kernel⟩ ⟨by decide, by decide⟩ ⟨st_blind _ _ _, ⟨cell, g1, g2, g3⟩, fun U hU hW => ⟨rfl, by rw [hU]; exact st_warm hW hs⟩⟩ rfl hl.1 rfl (by decide) dJ0_charAt_5068e_1 ⟨by decide, by decide⟩) (fun r hr1 => ?_)
  subst hr1
  refine lv_if_eq (tgt := 16) hx hb dJ0_charAt_5068e_4 (by decide) (fun h => absurd h (by decide)) (fun _ => ?_)
  refine lv_aload_n hx hb dJ0_charAt_5068e_7 rfl (lv_at hl 0 rfl) ?_
  refine vk_getf hx hb hS0.2.2.1 hSr hown (hgw _ js_fc) (fun _ h => h) dJ0_charAt_5068e_8 ?_
  refine lv_iload_n hx hb dJ0_charAt_5068e_11 rfl (lv_at hl 1 rfl) ?_
  refine st_cont (gg_S (n := 2) (As := [.ref qv, .int x]) (host := "") (rest := []) (st_ch1 l a0 (ad 12 i) qv x hvp) hx hb hml hown hgw sn_good js_ch1_c (Or.inl js_lc) js_ch1_s js_ch1_n rfl rfl ⟨by decide +kernel, by decide +kernel, by decide +kernel⟩ ⟨by decide, by decide⟩ ⟨fun _ U _ _ h => ⟨h.1, st_same (s := U) rfl h.2.1, h.2.2.moved (u := U) (Vm.Alike.refl U.vm)⟩, fun U hU hW => ⟨rfl, by rw [hU]; exact st_warm hW hs, by rw [hU]; exact hS.moved hW.alike⟩⟩ rfl hl.1 rfl (by decide) dJ0_charAt_5068e_12 ⟨by decide, by decide⟩) (fun r hr1 => ?_)
  subst hr1
  exact W.zret hx hb hr hch.2 (fun t ht hW => ⟨some (.inl (mm_txt.getD x.toNatClampNeg 0)), M, ad, rfl, ⟨rfl, rfl⟩, by rw [ht]; exact sn_H_warm hW hH, sn_E_rf _ _, fun v h => by cases h; exact trivial, hSr.F ht⟩) (fun q h => by cases h) dJ0_charAt_5068e_15 hlocks
