/-! SOUNDNESS of the small machine: its calls are contracts of the machine's methods -/
def sn_Pc (a0 : Nat) (D : va_G) (ad : Nat → Nat → Nat) (M : mm_M) (as : List mm_V) : Array Value → State → Prop := fun v U => v = (as.map (sn_v ad)).toArray ∧ sn_F D U ∧ sn_H a0 D ad M U U.heap
def sn_Qc (a0 : Nat) (D : va_G) (ad : Nat → Nat → Nat) (M : mm_M) (post : mm_Post) : Array Value → State → Outcome → State → Prop := fun _ st oc t => ∃ (r : Option mm_V) (M' : mm_M) (ad' : Nat → Nat → Nat), oc = .returned (r.map (sn_v ad')) ∧ post r M' ∧ sn_H a0 D ad' M' t t.heap ∧ sn_E M ad M' ad' ∧ (∀ v, r = some v → sn_ok M' v) ∧ va_F (fun q => a0 ≤ q) st t
def pWs (k : Nat) : List Cond := .code (pY k) (pCd k) (pMx k) (pRet k) :: sn_gw
def pRm (d k : Nat) : Room := { frames := d + 8, cells := (pAl k).1, slots := (pAl k).2, locals := 64 * (d + 8) }
def sn_Met (l : Launch) (d : Nat) : Prop := ∀ (k : Nat) (as : List mm_V) (M : mm_M) (post : mm_Post), k < 166 → mm_call pAl pB pMx d k as M post → (∀ v ∈ as, sn_ok M v) → ∀ (a0 : Nat) (D : va_G) (ad : Nat → Nat → Nat), Met l (pY k) (pWs k) (pRm d k) (sn_Pc a0 D ad M as) (sn_Qc a0 D ad M post) (pAl k).1 (pAl k).2 (fun q => a0 ≤ q)
theorem sn_H_back {a0 : Nat} {D : va_G} {ad ad' : Nat → Nat → Nat} {M M' : mm_M} {s t : State} {H H1 : Heap} (h : sn_H a0 D ad M s H) (h' : sn_H a0 D ad' M' t H1) (hE : sn_E M ad M' ad') (hvm : s.vm.Alike t.vm) (hq : ∀ q, q < a0 → H1[q]? = H[q]?) : sn_H a0 D ad' M' s H1 := by
  refine ⟨h'.1, fun c i hc hi => sn_at1_moved hvm.symm (h'.2.1 c i hc hi), fun i hi => ⟨(h'.2.2.1 i hi).1.moved hvm.symm, (h'.2.2.1 i hi).2⟩, fun i hi => ?_, h'.2.2.2.2⟩
  rw [hE.2] at hi
  rw [(hE.1 12 i hi).1]
  exact sn_str_kept (h.2.2.2.1 i hi) hq
-- taking apart
theorem mm_pI_e {st : List mm_V} {k : Int32 → List mm_V → Prop} (h : mm_pI st k) : ∃ x s, st = .inl x :: s ∧ k x s := by
  unfold mm_pI at h
  split at h
  · exact ⟨_, _, rfl, h⟩
  · exact h.elim
theorem mm_pL_e {st : List mm_V} {k : Int64 → List mm_V → Prop} (h : mm_pL st k) : ∃ x s, st = .inr (.inl x) :: s ∧ k x s := by
  unfold mm_pL at h
  split at h
  · exact ⟨_, _, rfl, h⟩
  · exact h.elim
theorem mm_pA_e {st : List mm_V} {k : Nat × Nat → List mm_V → Prop} (h : mm_pA st k) : ∃ x s, st = .inr (.inr x) :: s ∧ k x s := by
  unfold mm_pA at h
  split at h
  · exact ⟨_, _, rfl, h⟩
  · exact h.elim
theorem mm_pR_e {c : Nat} {st : List mm_V} {k : Nat → List mm_V → Prop} (h : mm_pR c st k) : ∃ i s, st = .inr (.inr (c, i)) :: s ∧ k i s := by
  obtain ⟨⟨c', i⟩, s, hs, hc, h2⟩ := mm_pA_e h
  subst hc
  exact ⟨i, s, hs, h2⟩
theorem mm_p1_e {st : List mm_V} {k : mm_V → List mm_V → Prop} (h : mm_p1 st k) : ∃ x s, st = x :: s ∧ mm_nl (some x) ∧ k x s := by
  unfold mm_p1 at h
  split at h
  · exact ⟨_, _, rfl, trivial, h⟩
  · exact ⟨_, _, rfl, trivial, h⟩
  · exact h.elim
theorem mm_lI_e {o : Option mm_V} {k : Int32 → Prop} (h : mm_lI o k) : ∃ x, o = some (.inl x) ∧ k x := by
  unfold mm_lI at h
  split at h
  · exact ⟨_, rfl, h⟩
  · exact h.elim
theorem mm_lL_e {o : Option mm_V} {k : Int64 → Prop} (h : mm_lL o k) : ∃ x, o = some (.inr (.inl x)) ∧ k x := by
  unfold mm_lL at h
  split at h
  · exact ⟨_, rfl, h⟩
  · exact h.elim
theorem mm_lA_e {o : Option mm_V} {k : Nat × Nat → Prop} (h : mm_lA o k) : ∃ x, o = some (.inr (.inr x)) ∧ k x := by
  unfold mm_lA at h
  split at h
  · exact ⟨_, rfl, h⟩
  · exact h.elim
theorem mm_rf_e {o : Option Nat} {c' : Nat} {K : mm_V → Prop} (h : mm_rf o c' K) : ∃ j, o = some j ∧ K (.inr (.inr (c', j))) := by
  unfold mm_rf at h
  split at h
  · exact ⟨_, rfl, h⟩
  · exact h.elim
theorem mm_pN_e {k : List mm_V → List mm_V → Prop} : ∀ (n : Nat) (acc st : List mm_V), mm_pN n acc st k → ∃ as s, st = as ++ s ∧ as.length = n ∧ k (as.reverse ++ acc) s
  | 0, acc, st, h => ⟨[], st, rfl, rfl, h⟩
  | n + 1, acc, [], h => h.elim
  | n + 1, acc, v :: st, h => by
    obtain ⟨as, s, h1, h2, h3⟩ := mm_pN_e n (v :: acc) st h
    refine ⟨v :: as, s, by rw [h1]; rfl, by simp [h2], ?_⟩
    simpa using h3
theorem mm_rt_e {o : Option (Option Nat)} {r : Option mm_V} {K : List mm_V → Prop} (h : mm_rt o r K) : K r.toList := by
  unfold mm_rt at h
  split at h
  · exact h
  · exact h
  · exact h.2
  · exact h.elim
theorem sn_chkL_c {k : Nat} {q : mm_Ins} {c : List mm_Ins} (h : sn_chkL k (q :: c) = true) : sn_chk k q = true ∧ sn_chkL k c = true ∧ ∀ q' t, c = q' :: t → q'.1 = q.1 + q.2.1 := by
  cases c with
  | nil => exact ⟨h, rfl, fun _ _ h => by cases h⟩
  | cons q' t =>
    have h' : (sn_chk k q && (decide (q'.1 = q.1 + q.2.1) && sn_chkL k (q' :: t))) = true := h
    simp only [Bool.and_eq_true, decide_eq_true_eq] at h'
    refine ⟨h'.1, h'.2.2, fun a b e => ?_⟩
    cases e
    exact h'.2.1
theorem sn_gw_in {w : Cond} (h : w ∈ lw_tbl) (g : goodWord w = true) : w ∈ sn_gw := List.mem_filter.mpr ⟨h, g⟩
theorem sn_good : ∀ w ∈ sn_gw, (w.onTables && w.keeps) = true ∨ ∃ ty, w = .arrayClass ty := fun w h => good_of_word (List.mem_filter.mp h).2
theorem sn_GI {ws : List Cond} (h : ∀ w ∈ ws, w ∈ sn_gw) : GoodIn sn_gw ws := fun w hw => ⟨h w hw, sn_good w (h w hw)⟩
theorem sn_ws_in {k : Nat} (h : k < 166) : ∀ w ∈ pWs k, w ∈ sn_gw := by
  intro w hw
  rcases List.mem_cons.mp hw with rfl | hw
  · exact sn_gw_in (tb_y k h).1 rfl
  · exact hw
theorem sn_ini : ∀ k, k < 166 → pSt k = 2 → pRet k = none := by decide +kernel
section SNC
variable {p : Program} {l : Launch} {e : Env} {R : Room} {s : State} {m : MethodId} {args : Array Value} {below : List Frame} {meth : Method} {c : Code} {H : Heap} {locs : List Loc} {cells slots : Nat} {Q : State → Prop}
variable {cc : ByteArray} {pc : Nat} {L : Array Slot} {rest st0 : List Value} {D : va_G} {a0 : Nat} {ad : Nat → Nat → Nat} {M : mm_M} {own : String} {mc ms : Nat} {a : Array Value} {P : mm_Post}
theorem sn_cont (hr : va_Run p l e R s m args below meth c H locs cells slots mc ms (F0 m pc L st0) rest (sn_Qc a0 D ad M P a) (fun q => a0 ≤ q)) (h : sn_H a0 D ad M s H) (hS : va_S (fun q => a0 ≤ q) s.heap H locs)
    (kk : ∀ (r : Option mm_V) (M' : mm_M) (ad' : Nat → Nat → Nat) (H1 : Heap) (locs1 : List Loc), P r M' → sn_H a0 D ad' M' s H1 → sn_E M ad M' ad' → (∀ v, r = some v → sn_ok M' v) → va_S (fun q => a0 ≤ q) s.heap H1 locs1 → W p l e R s m args below meth c H1 locs1 (cells + mc) (slots + ms) Q (F0 m (pc + 3) L ((r.map (sn_v ad')).toList ++ rest))) : W p l e R s m args below meth c H locs cells slots Q (F0 m pc L st0) := by
  intro T hT X
  obtain ⟨v, st₀, t, T', L', h0, X', hL, e1, e2, ⟨r, M', ad', hv, hp, hb, hE, hok, hz, hk⟩, st⟩ := hr T hT X
  cases hv
  rw [h0] at hz hk
  have hal : s.vm.Alike t.vm := by rw [← e2]; exact X'.warmed.alike
  have hkk : ∀ q, q < a0 → t.heap[q]? = H[q]? := fun q hq => hk q (Nat.lt_of_lt_of_le hq h.1) (Nat.not_le.mpr hq)
  obtain ⟨t2, a1, b1⟩ := kk r M' ad' T'.heap (locs ++ L') hp (by rw [e1]; exact sn_H_back h hb hE hal hkk) hE hok
    ⟨Nat.le_trans hS.1 (by rw [e1]; exact hz), fun q h1 h2 => by rw [e1, hk q (Nat.lt_of_lt_of_le h1 hS.1) h2]; exact hS.2.1 q h1 h2, fun q hq => by
      rcases List.mem_append.mp hq with h | h
      · exact hS.2.2 q h
      · exact hL q h⟩ T' rfl X'
  exact ⟨t2, st t2 a1, b1⟩
theorem sn_blind (a0 : Nat) (D : va_G) (ad : Nat → Nat → Nat) (M : mm_M) (as : List mm_V) : FrameBlind (sn_Pc a0 D ad M as) := fun _ U _ _ q => ⟨q.1, sn_F_same (s := U) rfl q.2.1, sn_H_same (s := U) rfl q.2.2⟩
theorem sn_pre (hF : sn_F D s) (h : sn_H a0 D ad M s H) {as : List mm_V} {vs : List Value} (hv : vs = as.map (sn_v ad)) : ∀ U : State, U.heap = H → s.WarmedH U.vm → sn_Pc a0 D ad M as vs.toArray U := fun U hU hW => ⟨by rw [hv], sn_F_warm hW hF, by rw [hU]; exact sn_H_warm hW h⟩
theorem gg_room {z d : Nat} (h : z ≤ 45) : 8 + (z + 11) + 64 * (d + 8) ≤ 64 * (d + 9) := by omega
section GG
variable {Ts : List Cond} {y : MethodName} {bytes : ByteArray} {maxL nL n index : Nat} {ret : Option FieldType} {rm : Room} {Pc : Array Value → State → Prop} {Qc : Array Value → State → Outcome → State → Prop} {free : Addr → Prop} {As : List Value} {host : String} {b : Addr}
theorem gg_V (hM : Met l y (Cond.code y bytes maxL ret :: Ts) rm Pc Qc mc ms free) (hx : p.tables.exec = Jvm.exec) (hb : c.code = cc) (hml : c.maxLocals = nL) (hown : s.vm.findClass own = some m.cls) (hts : ∀ w ∈ Ts, w.before args s = true) (hgd : ∀ w ∈ Ts, (w.onTables && w.keeps) = true ∨ ∃ ty, w = .arrayClass ty) (hcode : Cond.code y bytes maxL ret ∈ Ts)
    (hl : Cond.methodLink own index y ∈ Ts ∨ va_Nw (.methodLinkNest own index y host) s) (h1 : Cond.instanceMethod y ∈ Ts) (h2 : Cond.selects y.cls y y ∈ Ts) (h3 : Cond.initialized y.cls ∈ Ts) (hrc : rm.cells = mc) (hrs : rm.slots = ms)
    (hd : y.cls ≠ "java/lang/invoke/MethodHandle" ∧ y.cls ≠ "java/lang/invoke/VarHandle" ∧ (parseMethodDescriptor y.desc).map (fun d => d.parameters.length) = some n) (hR : rm.frames + 1 ≤ R.frames ∧ 8 + (maxL + 11) + rm.locals ≤ R.locals) (hp : PreV s H y.cls b Pc As)
    (hn : As.length = n) (hsize : L.size = nL) (hstack : st0 = As.reverse ++ .ref b :: rest) (hW : (rest.map fun v => v.category).sum ≤ 8) (hdg : decode cc pc = .ok (.invokevirtual index, 3)) (hf : cells + mc ≤ R.cells ∧ slots + ms ≤ R.slots) :
    va_Run p l e R s m args below meth c H locs cells slots mc ms (F0 m pc L st0) rest (Qc (Value.ref b :: As).toArray) free := by
  have hGI : GoodIn Ts (Cond.code y bytes maxL ret :: Ts) := fun w hw => by
    rcases List.mem_cons.mp hw with rfl | hw
    · exact ⟨hcode, hgd _ hcode⟩
    · exact ⟨hw, hgd _ hw⟩
  rcases hl with hl | hl
  · refine va_runV (C := y.cls) (bytes := bytes) (maxL := maxL) (ret := ret) ⟨hx, hb, hml, hown, hts⟩ hM (cwV n hts (fun w hw => ?_) rfl hrc hrs ⟨rfl, hd⟩ hR) hp rfl hn hsize hstack (lv_room hW) hdg hf
    rcases List.mem_append.mp hw with hw | hw
    · simp only [List.mem_cons, List.not_mem_nil, or_false] at hw
      rcases hw with rfl | rfl | rfl | rfl
      · exact ⟨hl, hgd _ hl⟩
      · exact ⟨h1, hgd _ h1⟩
      · exact ⟨h2, hgd _ h2⟩
      · exact ⟨h3, hgd _ h3⟩
    · exact hGI w hw
  · exact va_runVN (C := y.cls) (bytes := bytes) (maxL := maxL) (ret := ret) ⟨hx, hb, hml, hown, hts⟩ hM ⟨va_cnB n hts hGI rfl hrc hrs hl (hts _ h3) hd hR, hts _ h1, hts _ h2⟩ hp rfl hn hsize hstack (lv_room hW) hdg hf
theorem gg_S (hM : Met l y (Cond.code y bytes maxL ret :: Ts) rm Pc Qc mc ms free) (hx : p.tables.exec = Jvm.exec) (hb : c.code = cc) (hml : c.maxLocals = nL) (hown : s.vm.findClass own = some m.cls) (hts : ∀ w ∈ Ts, w.before args s = true) (hgd : ∀ w ∈ Ts, (w.onTables && w.keeps) = true ∨ ∃ ty, w = .arrayClass ty) (hcode : Cond.code y bytes maxL ret ∈ Ts)
    (hl : Cond.methodLink own index y ∈ Ts ∨ va_Nw (.methodLinkNest own index y host) s) (h1 : Cond.static y ∈ Ts) (h3 : Cond.initialized y.cls ∈ Ts) (hrc : rm.cells = mc) (hrs : rm.slots = ms)
    (hd : y.cls ≠ "java/lang/invoke/MethodHandle" ∧ y.cls ≠ "java/lang/invoke/VarHandle" ∧ (parseMethodDescriptor y.desc).map (fun d => d.parameters.length) = some n) (hR : rm.frames + 1 ≤ R.frames ∧ 8 + (maxL + 11) + rm.locals ≤ R.locals) (hp : PreS s H Pc As)
    (hn : As.length = n) (hsize : L.size = nL) (hstack : st0 = As.reverse ++ rest) (hW : (rest.map fun v => v.category).sum ≤ 8) (hdg : decode cc pc = .ok (.invokestatic index, 3)) (hf : cells + mc ≤ R.cells ∧ slots + ms ≤ R.slots) :
    va_Run p l e R s m args below meth c H locs cells slots mc ms (F0 m pc L st0) rest (Qc As.toArray) free := by
  have hGI : GoodIn Ts (Cond.code y bytes maxL ret :: Ts) := fun w hw => by
    rcases List.mem_cons.mp hw with rfl | hw
    · exact ⟨hcode, hgd _ hcode⟩
    · exact ⟨hw, hgd _ hw⟩
  rcases hl with hl | hl
  · refine va_runS (bytes := bytes) (maxL := maxL) (ret := ret) ⟨hx, hb, hml, hown, hts⟩ hM (va_cwS n hts (fun w hw => ?_) rfl hrc hrs hd hR) hp rfl hn hsize hstack (lv_room hW) hdg hf
    rcases List.mem_append.mp hw with hw | hw
    · simp only [List.mem_cons, List.not_mem_nil, or_false] at hw
      rcases hw with rfl | rfl | rfl
      · exact ⟨hl, hgd _ hl⟩
      · exact ⟨h1, hgd _ h1⟩
      · exact ⟨h3, hgd _ h3⟩
    · exact hGI w hw
  · exact va_runSN (bytes := bytes) (maxL := maxL) (ret := ret) ⟨hx, hb, hml, hown, hts⟩ hM ⟨va_cnB n hts hGI rfl hrc hrs hl (hts _ h3) hd hR, hts _ h1, trivial⟩ hp rfl hn hsize hstack (lv_room hW) hdg hf
theorem gg_I (hM : Met l y (Cond.code y bytes maxL none :: Ts) rm Pc Qc mc ms free) (hx : p.tables.exec = Jvm.exec) (hb : c.code = cc) (hml : c.maxLocals = nL) (hown : s.vm.findClass own = some m.cls) (hts : ∀ w ∈ Ts, w.before args s = true) (hgd : ∀ w ∈ Ts, (w.onTables && w.keeps) = true ∨ ∃ ty, w = .arrayClass ty) (hcode : Cond.code y bytes maxL none ∈ Ts)
    (hl : Cond.methodLink own index y ∈ Ts ∨ va_Nw (.methodLinkNest own index y host) s) (h1 : Cond.instanceMethod y ∈ Ts) (hnm : y.name = "<init>") (h3 : Cond.initialized y.cls ∈ Ts) (hrc : rm.cells = mc) (hrs : rm.slots = ms)
    (hd : y.cls ≠ "java/lang/invoke/MethodHandle" ∧ y.cls ≠ "java/lang/invoke/VarHandle" ∧ (parseMethodDescriptor y.desc).map (fun d => d.parameters.length) = some n) (hR : rm.frames + 1 ≤ R.frames ∧ 8 + (maxL + 11) + rm.locals ≤ R.locals) (hp : PreS s H Pc (.ref b :: As))
    (hn : As.length = n) (hsize : L.size = nL) (hstack : st0 = As.reverse ++ .ref b :: rest) (hW : (rest.map fun v => v.category).sum ≤ 8) (hdg : decode cc pc = .ok (.invokespecial index, 3)) (hf : cells + mc ≤ R.cells ∧ slots + ms ≤ R.slots) :
    va_Run p l e R s m args below meth c H locs cells slots mc ms (F0 m pc L st0) rest (Qc (Value.ref b :: As).toArray) free := by
  have hGI : GoodIn Ts (Cond.code y bytes maxL none :: Ts) := fun w hw => by
    rcases List.mem_cons.mp hw with rfl | hw
    · exact ⟨hcode, hgd _ hcode⟩
    · exact ⟨hw, hgd _ hw⟩
  rcases hl with hl | hl
  · exact va_runI (bytes := bytes) (maxL := maxL) ⟨hx, hb, hml, hown, hts⟩ hM (cwI n hts hGI rfl hrc hrs (hts _ h3) (hts _ hl) (hts _ h1) hnm hd hR) hp rfl hn hsize hstack (lv_room hW) hdg hf
  · exact va_runIN (bytes := bytes) (maxL := maxL) ⟨hx, hb, hml, hown, hts⟩ hM ⟨va_cnB n hts hGI rfl hrc hrs hl (hts _ h3) hd hR, hnm, hts _ h1⟩ hp rfl hn hsize hstack (lv_room hW) hdg hf
end GG
-- any call of a method of the program
set_option maxHeartbeats 4000000 in
theorem sn_run {d : Nat} (hM : sn_Met l d) {k ka i b nL : Nat} {ts : List (Int32 × Nat)} {ti : Nat} (hk : k < 167) (hx : p.tables.exec = Jvm.exec) (hb : c.code = cc) (hml : c.maxLocals = nL) (hown : s.vm.findClass (sn_R (pOc k)) = some m.cls) (hgw : ∀ w ∈ sn_gw, w.before args s = true) (hF : sn_F D s) (h : sn_H a0 D ad M s H)
    (hfr : d + 9 ≤ R.frames) (hlo : 64 * (d + 9) ≤ R.locals) (hck : sn_call k i ka b ts ti = true) {as : List mm_V} {s1 : List mm_V} (hlen : as.length = b) (hrc : mm_rc ts as) (hwd : mm_wd s1 ≤ 8) (hc1 : cells + (mm_alc ts).1 ≤ R.cells) (hc2 : slots + (mm_alc ts).2 ≤ R.slots) (hok : ∀ v ∈ as, sn_ok M v) (hcall : mm_call pAl pB pMx d ka as M P) (hsz : L.size = nL)
    (hdg : (ti = 0 ∧ decode cc pc = .ok (.invokevirtual i, 3)) ∨ (ti = 1 ∧ decode cc pc = .ok (.invokestatic i, 3)) ∨ (ti = 2 ∧ decode cc pc = .ok (.invokespecial i, 3))) :
    ∃ a, va_Run p l e R s m args below meth c H locs cells slots (mm_alc ts).1 (mm_alc ts).2 (F0 m pc L ((as.reverse ++ s1).map (sn_v ad))) (s1.map (sn_v ad)) (sn_Qc a0 D ad M P a) (fun q => a0 ≤ q) := by
  unfold sn_call at hck
  simp only [Bool.and_eq_true, Bool.or_eq_true, decide_eq_true_eq] at hck
  obtain ⟨⟨⟨⟨⟨ka1, ka2⟩, ka3⟩, ka4⟩, ka5⟩, ka6⟩ := hck
  rw [ka4] at hc1 hc2 ⊢
  obtain ⟨y1, y2, y3, y4, y5, y6, y7⟩ := tb_y ka ka1
  have hmet := hM ka as M P ka1 hcall hok a0 D ad
  have hR : (pRm d ka).frames + 1 ≤ R.frames ∧ 8 + (pMx ka + 11) + (pRm d ka).locals ≤ R.locals := ⟨hfr, Nat.le_trans (gg_room y6) hlo⟩
  have hroom : (((s1.map (sn_v ad))).map fun v => v.category).sum ≤ 8 := by rw [sn_cat_sum ad s1]; exact hwd
  have hlink : Cond.methodLink (sn_R (pOc k)) i (pY ka) ∈ sn_gw ∨ va_Nw (.methodLinkNest (sn_R (pOc k)) i (pY ka) RX5) s := by
    rcases ka6 with h6 | h6
    · have h7 := tb_ml_ok (pOc k, i, ka) h6
      exact Or.inl (sn_gw_in h7 rfl)
    · have h7 := hF.2.1 (pOc k, i, ka) h6
      exact Or.inr h7
  have hcw : Cond.code (pY ka) (pCd ka) (pMx ka) (pRet ka) ∈ sn_gw := sn_gw_in y1 rfl
  have hini : Cond.initialized (pY ka).cls ∈ sn_gw := sn_gw_in y2 rfl
  rcases hdg with ⟨rfl, hdg⟩ | ⟨rfl, hdg⟩ | ⟨rfl, hdg⟩
  · -- by its receiver
    rcases y7 with ⟨-, y7, y8, y9⟩ | ⟨y7, -⟩ | ⟨y7, -⟩
    rotate_left
    · rw [ka2] at y7; cases y7
    · rw [ka2] at y7; cases y7
    have hrec : ∃ i0 as', as = .inr (.inr (pOc ka, i0)) :: as' := by
      rcases ka5 with h5 | h5
      · cases h5
      · unfold sn_rec at h5
        split at h5
        · rename_i q
          match as, hrc with
          | .inr (.inr (c0, i0)) :: as', hrc =>
            have e1 : c0 = q.2 := hrc
            have e2 : q.2 = pOc ka := by simpa using h5
            exact ⟨i0, as', by rw [e1, e2]⟩
        · cases h5
    obtain ⟨i0, as', rfl⟩ := hrec
    have hi0 : i0 < mm_N M (pOc ka) := hok _ List.mem_cons_self
    have hcellR : ∃ cellB : Cell, H[ad (pOc ka) i0]? = some cellB ∧ cellB.vm.isStatics = false ∧ s.vm.findClass (pY ka).cls = some cellB.cls := by
      have h1 := h.2.1 (pOc ka) i0 (by omega) hi0
      unfold sn_at1 at h1
      rw [if_pos y9] at h1
      obtain ⟨cell, q1, q2, q3, -⟩ := h1
      refine ⟨cell, q1, by rw [q3]; rfl, ?_⟩
      rw [q2, y5]
      exact (hF.1.1 (pOc ka) _ (sn_cl_at _ y9)).2.1
    have hn : (as'.map (sn_v ad)).length = pNp ka := by
      rw [List.length_map]
      simp only [List.length_cons] at hlen
      rw [ka3] at hlen
      simpa using hlen
    have hst : ((.inr (.inr (pOc ka, i0)) :: as').reverse ++ s1).map (sn_v ad) = (as'.map (sn_v ad)).reverse ++ Value.ref (ad (pOc ka) i0) :: s1.map (sn_v ad) := by
      simp [sn_v]
    exact ⟨_, gg_V hmet hx hb hml hown hgw sn_good hcw hlink (sn_gw_in y7 rfl) (sn_gw_in y8 rfl) hini rfl rfl y3 hR ⟨sn_blind _ _ _ _ _, hcellR, sn_pre hF h rfl⟩ hn hsz hst hroom hdg ⟨hc1, hc2⟩⟩
  · -- static
    rcases y7 with ⟨y7, -⟩ | ⟨-, y7⟩ | ⟨y7, -⟩
    · rw [ka2] at y7; cases y7
    rotate_left
    · rw [ka2] at y7; cases y7
    have hn : (as.map (sn_v ad)).length = pNp ka := by
      rw [List.length_map, hlen, ka3]
      simp
    have hst : (as.reverse ++ s1).map (sn_v ad) = (as.map (sn_v ad)).reverse ++ s1.map (sn_v ad) := by
      simp
    exact ⟨_, gg_S hmet hx hb hml hown hgw sn_good hcw hlink (sn_gw_in y7 rfl) hini rfl rfl y3 hR ⟨sn_blind _ _ _ _ _, sn_pre hF h rfl⟩ hn hsz hst hroom hdg ⟨hc1, hc2⟩⟩
  · -- a constructor
    rcases y7 with ⟨y7, -⟩ | ⟨y7, -⟩ | ⟨-, y7, y8, y9⟩
    · rw [ka2] at y7; cases y7
    · rw [ka2] at y7; cases y7
    have hrec : ∃ q as', as = .inr (.inr q) :: as' := by
      rcases ka5 with h5 | h5
      · cases h5
      · unfold sn_rec at h5
        split at h5
        · match as, hrc with
          | .inr (.inr q) :: as', _ => exact ⟨q, as', rfl⟩
        · cases h5
    obtain ⟨⟨c0, i0⟩, as', rfl⟩ := hrec
    have hn : (as'.map (sn_v ad)).length = pNp ka := by
      rw [List.length_map]
      simp only [List.length_cons] at hlen
      rw [ka3] at hlen
      simpa using hlen
    have hst : ((.inr (.inr (c0, i0)) :: as').reverse ++ s1).map (sn_v ad) = (as'.map (sn_v ad)).reverse ++ Value.ref (ad c0 i0) :: s1.map (sn_v ad) := by
      simp [sn_v]
    have hret : pRet ka = none := by
      have := sn_ini ka ka1
      exact this ka2
    rw [hret] at hcw
    have hmet' : Met l (pY ka) (Cond.code (pY ka) (pCd ka) (pMx ka) none :: sn_gw) (pRm d ka) (sn_Pc a0 D ad M (.inr (.inr (c0, i0)) :: as')) (sn_Qc a0 D ad M P) (pAl ka).1 (pAl ka).2 (fun q => a0 ≤ q) := by
      have h9 := hmet
      unfold pWs at h9
      rw [hret] at h9
      exact h9
    exact ⟨_, gg_I hmet' hx hb hml hown hgw sn_good hcw hlink (sn_gw_in y8 rfl) y7 hini rfl rfl y3 hR ⟨sn_blind _ _ _ _ _, sn_pre hF h rfl⟩ hn hsz hst hroom hdg ⟨hc1, hc2⟩⟩
end SNC
