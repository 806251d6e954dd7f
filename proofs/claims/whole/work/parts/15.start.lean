/-! THE CLAIM OUT OF ONE WALK OF THE LAW'S BODY. Your part is whole_start (and what it stands on); all else here is the same for every law, but numbers. -/
def R_law : String := "ApologyBellsLaw"
def lw_P (b : Addr) (xs : List Int32) (args : Array Value) (s : State) : Prop := args = #[.ref b] ∧ s.IntsAt b xs ∧ xs.length ≤ 320 ∧ (Jvm.Cond.and given_1 narrow_1).before args s = true
def lw_Q (_ : Array Value) (s : State) (o : Outcome) (t : State) : Prop := o = .returned (some (.int 1)) ∧ Framed s o t [] 600000 7302250
def lw_Z (below : List Frame) (a : Array Value) (s : State) : State → Prop := fun t => ∃ o, t.status = .running ∧ Ended t below o ∧ lw_Q a s o t
/-- the law's own end, with 1 on the stack, nothing written that was there before, its room as the claim has it -/
theorem lw_ret {p : Program} {l : Launch} {e : Env} {s : State} {m : MethodId} {below : List Frame} {meth : Method} {c : Code} {b : Nat} (hx : p.tables.exec = Jvm.exec) (hb : c.code = code) (hr : meth.sig.returnType = ret) (hlocks : meth.locks = false) {pc : Nat} {H : Heap} {ls : Array Slot} (hdg : decode code pc = .ok (.ireturn, 1)) : W p l e room_1 s m #[Value.ref b] below meth c H [] 600000 7302250 (lw_Z below #[Value.ref b] s) (F0 m pc ls [.int 1]) := by
  intro T hT X
  obtain ⟨fs, hret, hrun, hended, hW, hframe⟩ := X.leave (v := some (.int 1)) (hlocks := hlocks) (fun h => by rw [hr] at h; cases h)
  have hmeth' : T.vm.method? m = some meth := X.method'
  refine ⟨T.setFrames fs, ?_, .returned (some (.int 1)), hrun, hended, rfl, ⟨_, rfl⟩, hW, hframe⟩
  jvm_step X.here [X.here.top, hx, hb, hdg, hmeth', hr, ret, narrow_b1]
  (try refine ⟨rfl, ?_⟩); (try refine ⟨rfl, ?_⟩)
  first | (intro acts; rw [hret _ acts rfl rfl rfl]) | rw [hret _ _ rfl rfl rfl]
  exact Steps.refl _
/-- what holds at the law's entry: the machine, the code, the tables' words (any of lw_tbl by 'hts w (by decide +kernel)'), the script of L ints xs at the cell b, what the Statement gives of the start (any of its parts by flat_of_before) -/
def lw_At (p : Program) (s : State) (m : MethodId) (meth : Method) (c : Code) (b L : Nat) (xs : Nat → Int32) : Prop :=
  p.tables.exec = Jvm.exec ∧ c.code = code ∧ meth.sig.returnType = ret ∧ c.maxLocals = 4 ∧ s.vm.findClass R_law = some m.cls ∧ (∀ w ∈ lw_tbl, w.before #[Value.ref b] s = true) ∧ va_X b L xs s s.heap ∧ b < s.heap.size ∧ meth.locks = false ∧ (Jvm.Cond.and given_1 narrow_1).before #[Value.ref b] s = true

theorem sw_r : Cond.stringRef RX5 47 "w0,5,3;w1,12,2;w2,20,4;w3,8,2;w0,30,6;w0,14,1;m25,12;b0,4,2,9,8;b1,9,1,12,12;b2,6,3,25,8;b5,2,5,14,12;" ∈ lw_tbl := List.mem_of_getElem? (i := 215) (by decide +kernel)
theorem sw_z : Cond.laysStatic "java/lang/String" "COMPACT_STRINGS" "Z" ∈ lw_tbl := List.mem_of_getElem? (i := 225) (by decide +kernel)
theorem sw_zi : Cond.initialized "java/lang/String" ∈ lw_tbl := List.mem_of_getElem? (i := 55) (by decide +kernel)
theorem sw_q : Cond.laysStatic "jdk/internal/util/Preconditions" "SIOOBE_FORMATTER" "Ljava/util/function/BiFunction;" ∈ lw_tbl := List.mem_of_getElem? (i := 241) (by decide +kernel)
theorem sw_qi : Cond.initialized "jdk/internal/util/Preconditions" ∈ lw_tbl := List.mem_of_getElem? (i := 57) (by decide +kernel)
theorem sw_n1 : (Cond.eq (.static "java/lang/String" "COMPACT_STRINGS" "Z") (.int 1)) ∈ flatC (Jvm.Cond.and given_1 narrow_1) := List.mem_of_getElem? (i := 4) (by decide +kernel)
theorem sw_n2 : (Cond.isRef (.static "jdk/internal/util/Preconditions" "SIOOBE_FORMATTER" "Ljava/util/function/BiFunction;")) ∈ flatC (Jvm.Cond.and given_1 narrow_1) := List.mem_of_getElem? (i := 5) (by decide +kernel)
theorem sw_n3 : (Cond.exactly (.string RX5 47) "java/lang/String") ∈ flatC (Jvm.Cond.and given_1 narrow_1) := List.mem_of_getElem? (i := 9) (by decide +kernel)
theorem sw_n4 : (Cond.eq (.field (.string RX5 47) "java/lang/String" "coder" "B") (.int 0)) ∈ flatC (Jvm.Cond.and given_1 narrow_1) := List.mem_of_getElem? (i := 10) (by decide +kernel)
theorem sw_n5 : (Cond.arrayOf (.field (.string RX5 47) "java/lang/String" "value" "[B") .byte) ∈ flatC (Jvm.Cond.and given_1 narrow_1) := List.mem_of_getElem? (i := 11) (by decide +kernel)
theorem sw_n6 : (Cond.eq (.length (.field (.string RX5 47) "java/lang/String" "value" "[B")) (.int (Int32.ofNat 102))) ∈ flatC (Jvm.Cond.and given_1 narrow_1) := List.mem_of_getElem? (i := 12) (by decide +kernel)
theorem sw_e0 : (Cond.eq (.elem (.field (.string RX5 47) "java/lang/String" "value" "[B") (.int (Int32.ofNat 0))) (.int (mm_txt.getD 0 0))) ∈ flatC (Jvm.Cond.and given_1 narrow_1) := List.mem_of_getElem? (i := 13) (by decide +kernel)
theorem sw_e1 : (Cond.eq (.elem (.field (.string RX5 47) "java/lang/String" "value" "[B") (.int (Int32.ofNat 1))) (.int (mm_txt.getD 1 0))) ∈ flatC (Jvm.Cond.and given_1 narrow_1) := List.mem_of_getElem? (i := 14) (by decide +kernel)
theorem sw_e2 : (Cond.eq (.elem (.field (.string RX5 47) "java/lang/String" "value" "[B") (.int (Int32.ofNat 2))) (.int (mm_txt.getD 2 0))) ∈ flatC (Jvm.Cond.and given_1 narrow_1) := List.mem_of_getElem? (i := 15) (by decide +kernel)
theorem sw_e3 : (Cond.eq (.elem (.field (.string RX5 47) "java/lang/String" "value" "[B") (.int (Int32.ofNat 3))) (.int (mm_txt.getD 3 0))) ∈ flatC (Jvm.Cond.and given_1 narrow_1) := List.mem_of_getElem? (i := 16) (by decide +kernel)
theorem sw_e4 : (Cond.eq (.elem (.field (.string RX5 47) "java/lang/String" "value" "[B") (.int (Int32.ofNat 4))) (.int (mm_txt.getD 4 0))) ∈ flatC (Jvm.Cond.and given_1 narrow_1) := List.mem_of_getElem? (i := 17) (by decide +kernel)
theorem sw_e5 : (Cond.eq (.elem (.field (.string RX5 47) "java/lang/String" "value" "[B") (.int (Int32.ofNat 5))) (.int (mm_txt.getD 5 0))) ∈ flatC (Jvm.Cond.and given_1 narrow_1) := List.mem_of_getElem? (i := 18) (by decide +kernel)
theorem sw_e6 : (Cond.eq (.elem (.field (.string RX5 47) "java/lang/String" "value" "[B") (.int (Int32.ofNat 6))) (.int (mm_txt.getD 6 0))) ∈ flatC (Jvm.Cond.and given_1 narrow_1) := List.mem_of_getElem? (i := 19) (by decide +kernel)
theorem sw_e7 : (Cond.eq (.elem (.field (.string RX5 47) "java/lang/String" "value" "[B") (.int (Int32.ofNat 7))) (.int (mm_txt.getD 7 0))) ∈ flatC (Jvm.Cond.and given_1 narrow_1) := List.mem_of_getElem? (i := 20) (by decide +kernel)
theorem sw_e8 : (Cond.eq (.elem (.field (.string RX5 47) "java/lang/String" "value" "[B") (.int (Int32.ofNat 8))) (.int (mm_txt.getD 8 0))) ∈ flatC (Jvm.Cond.and given_1 narrow_1) := List.mem_of_getElem? (i := 21) (by decide +kernel)
theorem sw_e9 : (Cond.eq (.elem (.field (.string RX5 47) "java/lang/String" "value" "[B") (.int (Int32.ofNat 9))) (.int (mm_txt.getD 9 0))) ∈ flatC (Jvm.Cond.and given_1 narrow_1) := List.mem_of_getElem? (i := 22) (by decide +kernel)
theorem sw_e10 : (Cond.eq (.elem (.field (.string RX5 47) "java/lang/String" "value" "[B") (.int (Int32.ofNat 10))) (.int (mm_txt.getD 10 0))) ∈ flatC (Jvm.Cond.and given_1 narrow_1) := List.mem_of_getElem? (i := 23) (by decide +kernel)
theorem sw_e11 : (Cond.eq (.elem (.field (.string RX5 47) "java/lang/String" "value" "[B") (.int (Int32.ofNat 11))) (.int (mm_txt.getD 11 0))) ∈ flatC (Jvm.Cond.and given_1 narrow_1) := List.mem_of_getElem? (i := 24) (by decide +kernel)
theorem sw_e12 : (Cond.eq (.elem (.field (.string RX5 47) "java/lang/String" "value" "[B") (.int (Int32.ofNat 12))) (.int (mm_txt.getD 12 0))) ∈ flatC (Jvm.Cond.and given_1 narrow_1) := List.mem_of_getElem? (i := 25) (by decide +kernel)
theorem sw_e13 : (Cond.eq (.elem (.field (.string RX5 47) "java/lang/String" "value" "[B") (.int (Int32.ofNat 13))) (.int (mm_txt.getD 13 0))) ∈ flatC (Jvm.Cond.and given_1 narrow_1) := List.mem_of_getElem? (i := 26) (by decide +kernel)
theorem sw_e14 : (Cond.eq (.elem (.field (.string RX5 47) "java/lang/String" "value" "[B") (.int (Int32.ofNat 14))) (.int (mm_txt.getD 14 0))) ∈ flatC (Jvm.Cond.and given_1 narrow_1) := List.mem_of_getElem? (i := 27) (by decide +kernel)
theorem sw_e15 : (Cond.eq (.elem (.field (.string RX5 47) "java/lang/String" "value" "[B") (.int (Int32.ofNat 15))) (.int (mm_txt.getD 15 0))) ∈ flatC (Jvm.Cond.and given_1 narrow_1) := List.mem_of_getElem? (i := 28) (by decide +kernel)
theorem sw_e16 : (Cond.eq (.elem (.field (.string RX5 47) "java/lang/String" "value" "[B") (.int (Int32.ofNat 16))) (.int (mm_txt.getD 16 0))) ∈ flatC (Jvm.Cond.and given_1 narrow_1) := List.mem_of_getElem? (i := 29) (by decide +kernel)
theorem sw_e17 : (Cond.eq (.elem (.field (.string RX5 47) "java/lang/String" "value" "[B") (.int (Int32.ofNat 17))) (.int (mm_txt.getD 17 0))) ∈ flatC (Jvm.Cond.and given_1 narrow_1) := List.mem_of_getElem? (i := 30) (by decide +kernel)
theorem sw_e18 : (Cond.eq (.elem (.field (.string RX5 47) "java/lang/String" "value" "[B") (.int (Int32.ofNat 18))) (.int (mm_txt.getD 18 0))) ∈ flatC (Jvm.Cond.and given_1 narrow_1) := List.mem_of_getElem? (i := 31) (by decide +kernel)
theorem sw_e19 : (Cond.eq (.elem (.field (.string RX5 47) "java/lang/String" "value" "[B") (.int (Int32.ofNat 19))) (.int (mm_txt.getD 19 0))) ∈ flatC (Jvm.Cond.and given_1 narrow_1) := List.mem_of_getElem? (i := 32) (by decide +kernel)
theorem sw_e20 : (Cond.eq (.elem (.field (.string RX5 47) "java/lang/String" "value" "[B") (.int (Int32.ofNat 20))) (.int (mm_txt.getD 20 0))) ∈ flatC (Jvm.Cond.and given_1 narrow_1) := List.mem_of_getElem? (i := 33) (by decide +kernel)
theorem sw_e21 : (Cond.eq (.elem (.field (.string RX5 47) "java/lang/String" "value" "[B") (.int (Int32.ofNat 21))) (.int (mm_txt.getD 21 0))) ∈ flatC (Jvm.Cond.and given_1 narrow_1) := List.mem_of_getElem? (i := 34) (by decide +kernel)
theorem sw_e22 : (Cond.eq (.elem (.field (.string RX5 47) "java/lang/String" "value" "[B") (.int (Int32.ofNat 22))) (.int (mm_txt.getD 22 0))) ∈ flatC (Jvm.Cond.and given_1 narrow_1) := List.mem_of_getElem? (i := 35) (by decide +kernel)
theorem sw_e23 : (Cond.eq (.elem (.field (.string RX5 47) "java/lang/String" "value" "[B") (.int (Int32.ofNat 23))) (.int (mm_txt.getD 23 0))) ∈ flatC (Jvm.Cond.and given_1 narrow_1) := List.mem_of_getElem? (i := 36) (by decide +kernel)
theorem sw_e24 : (Cond.eq (.elem (.field (.string RX5 47) "java/lang/String" "value" "[B") (.int (Int32.ofNat 24))) (.int (mm_txt.getD 24 0))) ∈ flatC (Jvm.Cond.and given_1 narrow_1) := List.mem_of_getElem? (i := 37) (by decide +kernel)
theorem sw_e25 : (Cond.eq (.elem (.field (.string RX5 47) "java/lang/String" "value" "[B") (.int (Int32.ofNat 25))) (.int (mm_txt.getD 25 0))) ∈ flatC (Jvm.Cond.and given_1 narrow_1) := List.mem_of_getElem? (i := 38) (by decide +kernel)
theorem sw_e26 : (Cond.eq (.elem (.field (.string RX5 47) "java/lang/String" "value" "[B") (.int (Int32.ofNat 26))) (.int (mm_txt.getD 26 0))) ∈ flatC (Jvm.Cond.and given_1 narrow_1) := List.mem_of_getElem? (i := 39) (by decide +kernel)
theorem sw_e27 : (Cond.eq (.elem (.field (.string RX5 47) "java/lang/String" "value" "[B") (.int (Int32.ofNat 27))) (.int (mm_txt.getD 27 0))) ∈ flatC (Jvm.Cond.and given_1 narrow_1) := List.mem_of_getElem? (i := 40) (by decide +kernel)
theorem sw_e28 : (Cond.eq (.elem (.field (.string RX5 47) "java/lang/String" "value" "[B") (.int (Int32.ofNat 28))) (.int (mm_txt.getD 28 0))) ∈ flatC (Jvm.Cond.and given_1 narrow_1) := List.mem_of_getElem? (i := 41) (by decide +kernel)
theorem sw_e29 : (Cond.eq (.elem (.field (.string RX5 47) "java/lang/String" "value" "[B") (.int (Int32.ofNat 29))) (.int (mm_txt.getD 29 0))) ∈ flatC (Jvm.Cond.and given_1 narrow_1) := List.mem_of_getElem? (i := 42) (by decide +kernel)
theorem sw_e30 : (Cond.eq (.elem (.field (.string RX5 47) "java/lang/String" "value" "[B") (.int (Int32.ofNat 30))) (.int (mm_txt.getD 30 0))) ∈ flatC (Jvm.Cond.and given_1 narrow_1) := List.mem_of_getElem? (i := 43) (by decide +kernel)
theorem sw_e31 : (Cond.eq (.elem (.field (.string RX5 47) "java/lang/String" "value" "[B") (.int (Int32.ofNat 31))) (.int (mm_txt.getD 31 0))) ∈ flatC (Jvm.Cond.and given_1 narrow_1) := List.mem_of_getElem? (i := 44) (by decide +kernel)
theorem sw_e32 : (Cond.eq (.elem (.field (.string RX5 47) "java/lang/String" "value" "[B") (.int (Int32.ofNat 32))) (.int (mm_txt.getD 32 0))) ∈ flatC (Jvm.Cond.and given_1 narrow_1) := List.mem_of_getElem? (i := 45) (by decide +kernel)
theorem sw_e33 : (Cond.eq (.elem (.field (.string RX5 47) "java/lang/String" "value" "[B") (.int (Int32.ofNat 33))) (.int (mm_txt.getD 33 0))) ∈ flatC (Jvm.Cond.and given_1 narrow_1) := List.mem_of_getElem? (i := 46) (by decide +kernel)
theorem sw_e34 : (Cond.eq (.elem (.field (.string RX5 47) "java/lang/String" "value" "[B") (.int (Int32.ofNat 34))) (.int (mm_txt.getD 34 0))) ∈ flatC (Jvm.Cond.and given_1 narrow_1) := List.mem_of_getElem? (i := 47) (by decide +kernel)
theorem sw_e35 : (Cond.eq (.elem (.field (.string RX5 47) "java/lang/String" "value" "[B") (.int (Int32.ofNat 35))) (.int (mm_txt.getD 35 0))) ∈ flatC (Jvm.Cond.and given_1 narrow_1) := List.mem_of_getElem? (i := 48) (by decide +kernel)
theorem sw_e36 : (Cond.eq (.elem (.field (.string RX5 47) "java/lang/String" "value" "[B") (.int (Int32.ofNat 36))) (.int (mm_txt.getD 36 0))) ∈ flatC (Jvm.Cond.and given_1 narrow_1) := List.mem_of_getElem? (i := 49) (by decide +kernel)
theorem sw_e37 : (Cond.eq (.elem (.field (.string RX5 47) "java/lang/String" "value" "[B") (.int (Int32.ofNat 37))) (.int (mm_txt.getD 37 0))) ∈ flatC (Jvm.Cond.and given_1 narrow_1) := List.mem_of_getElem? (i := 50) (by decide +kernel)
theorem sw_e38 : (Cond.eq (.elem (.field (.string RX5 47) "java/lang/String" "value" "[B") (.int (Int32.ofNat 38))) (.int (mm_txt.getD 38 0))) ∈ flatC (Jvm.Cond.and given_1 narrow_1) := List.mem_of_getElem? (i := 51) (by decide +kernel)
theorem sw_e39 : (Cond.eq (.elem (.field (.string RX5 47) "java/lang/String" "value" "[B") (.int (Int32.ofNat 39))) (.int (mm_txt.getD 39 0))) ∈ flatC (Jvm.Cond.and given_1 narrow_1) := List.mem_of_getElem? (i := 52) (by decide +kernel)
theorem sw_e40 : (Cond.eq (.elem (.field (.string RX5 47) "java/lang/String" "value" "[B") (.int (Int32.ofNat 40))) (.int (mm_txt.getD 40 0))) ∈ flatC (Jvm.Cond.and given_1 narrow_1) := List.mem_of_getElem? (i := 53) (by decide +kernel)
theorem sw_e41 : (Cond.eq (.elem (.field (.string RX5 47) "java/lang/String" "value" "[B") (.int (Int32.ofNat 41))) (.int (mm_txt.getD 41 0))) ∈ flatC (Jvm.Cond.and given_1 narrow_1) := List.mem_of_getElem? (i := 54) (by decide +kernel)
theorem sw_e42 : (Cond.eq (.elem (.field (.string RX5 47) "java/lang/String" "value" "[B") (.int (Int32.ofNat 42))) (.int (mm_txt.getD 42 0))) ∈ flatC (Jvm.Cond.and given_1 narrow_1) := List.mem_of_getElem? (i := 55) (by decide +kernel)
theorem sw_e43 : (Cond.eq (.elem (.field (.string RX5 47) "java/lang/String" "value" "[B") (.int (Int32.ofNat 43))) (.int (mm_txt.getD 43 0))) ∈ flatC (Jvm.Cond.and given_1 narrow_1) := List.mem_of_getElem? (i := 56) (by decide +kernel)
theorem sw_e44 : (Cond.eq (.elem (.field (.string RX5 47) "java/lang/String" "value" "[B") (.int (Int32.ofNat 44))) (.int (mm_txt.getD 44 0))) ∈ flatC (Jvm.Cond.and given_1 narrow_1) := List.mem_of_getElem? (i := 57) (by decide +kernel)
theorem sw_e45 : (Cond.eq (.elem (.field (.string RX5 47) "java/lang/String" "value" "[B") (.int (Int32.ofNat 45))) (.int (mm_txt.getD 45 0))) ∈ flatC (Jvm.Cond.and given_1 narrow_1) := List.mem_of_getElem? (i := 58) (by decide +kernel)
theorem sw_e46 : (Cond.eq (.elem (.field (.string RX5 47) "java/lang/String" "value" "[B") (.int (Int32.ofNat 46))) (.int (mm_txt.getD 46 0))) ∈ flatC (Jvm.Cond.and given_1 narrow_1) := List.mem_of_getElem? (i := 59) (by decide +kernel)
theorem sw_e47 : (Cond.eq (.elem (.field (.string RX5 47) "java/lang/String" "value" "[B") (.int (Int32.ofNat 47))) (.int (mm_txt.getD 47 0))) ∈ flatC (Jvm.Cond.and given_1 narrow_1) := List.mem_of_getElem? (i := 60) (by decide +kernel)
theorem sw_e48 : (Cond.eq (.elem (.field (.string RX5 47) "java/lang/String" "value" "[B") (.int (Int32.ofNat 48))) (.int (mm_txt.getD 48 0))) ∈ flatC (Jvm.Cond.and given_1 narrow_1) := List.mem_of_getElem? (i := 61) (by decide +kernel)
theorem sw_e49 : (Cond.eq (.elem (.field (.string RX5 47) "java/lang/String" "value" "[B") (.int (Int32.ofNat 49))) (.int (mm_txt.getD 49 0))) ∈ flatC (Jvm.Cond.and given_1 narrow_1) := List.mem_of_getElem? (i := 62) (by decide +kernel)
theorem sw_e50 : (Cond.eq (.elem (.field (.string RX5 47) "java/lang/String" "value" "[B") (.int (Int32.ofNat 50))) (.int (mm_txt.getD 50 0))) ∈ flatC (Jvm.Cond.and given_1 narrow_1) := List.mem_of_getElem? (i := 63) (by decide +kernel)
theorem sw_e51 : (Cond.eq (.elem (.field (.string RX5 47) "java/lang/String" "value" "[B") (.int (Int32.ofNat 51))) (.int (mm_txt.getD 51 0))) ∈ flatC (Jvm.Cond.and given_1 narrow_1) := List.mem_of_getElem? (i := 64) (by decide +kernel)
theorem sw_e52 : (Cond.eq (.elem (.field (.string RX5 47) "java/lang/String" "value" "[B") (.int (Int32.ofNat 52))) (.int (mm_txt.getD 52 0))) ∈ flatC (Jvm.Cond.and given_1 narrow_1) := List.mem_of_getElem? (i := 65) (by decide +kernel)
theorem sw_e53 : (Cond.eq (.elem (.field (.string RX5 47) "java/lang/String" "value" "[B") (.int (Int32.ofNat 53))) (.int (mm_txt.getD 53 0))) ∈ flatC (Jvm.Cond.and given_1 narrow_1) := List.mem_of_getElem? (i := 66) (by decide +kernel)
theorem sw_e54 : (Cond.eq (.elem (.field (.string RX5 47) "java/lang/String" "value" "[B") (.int (Int32.ofNat 54))) (.int (mm_txt.getD 54 0))) ∈ flatC (Jvm.Cond.and given_1 narrow_1) := List.mem_of_getElem? (i := 67) (by decide +kernel)
theorem sw_e55 : (Cond.eq (.elem (.field (.string RX5 47) "java/lang/String" "value" "[B") (.int (Int32.ofNat 55))) (.int (mm_txt.getD 55 0))) ∈ flatC (Jvm.Cond.and given_1 narrow_1) := List.mem_of_getElem? (i := 68) (by decide +kernel)
theorem sw_e56 : (Cond.eq (.elem (.field (.string RX5 47) "java/lang/String" "value" "[B") (.int (Int32.ofNat 56))) (.int (mm_txt.getD 56 0))) ∈ flatC (Jvm.Cond.and given_1 narrow_1) := List.mem_of_getElem? (i := 69) (by decide +kernel)
theorem sw_e57 : (Cond.eq (.elem (.field (.string RX5 47) "java/lang/String" "value" "[B") (.int (Int32.ofNat 57))) (.int (mm_txt.getD 57 0))) ∈ flatC (Jvm.Cond.and given_1 narrow_1) := List.mem_of_getElem? (i := 70) (by decide +kernel)
theorem sw_e58 : (Cond.eq (.elem (.field (.string RX5 47) "java/lang/String" "value" "[B") (.int (Int32.ofNat 58))) (.int (mm_txt.getD 58 0))) ∈ flatC (Jvm.Cond.and given_1 narrow_1) := List.mem_of_getElem? (i := 71) (by decide +kernel)
theorem sw_e59 : (Cond.eq (.elem (.field (.string RX5 47) "java/lang/String" "value" "[B") (.int (Int32.ofNat 59))) (.int (mm_txt.getD 59 0))) ∈ flatC (Jvm.Cond.and given_1 narrow_1) := List.mem_of_getElem? (i := 72) (by decide +kernel)
theorem sw_e60 : (Cond.eq (.elem (.field (.string RX5 47) "java/lang/String" "value" "[B") (.int (Int32.ofNat 60))) (.int (mm_txt.getD 60 0))) ∈ flatC (Jvm.Cond.and given_1 narrow_1) := List.mem_of_getElem? (i := 73) (by decide +kernel)
theorem sw_e61 : (Cond.eq (.elem (.field (.string RX5 47) "java/lang/String" "value" "[B") (.int (Int32.ofNat 61))) (.int (mm_txt.getD 61 0))) ∈ flatC (Jvm.Cond.and given_1 narrow_1) := List.mem_of_getElem? (i := 74) (by decide +kernel)
theorem sw_e62 : (Cond.eq (.elem (.field (.string RX5 47) "java/lang/String" "value" "[B") (.int (Int32.ofNat 62))) (.int (mm_txt.getD 62 0))) ∈ flatC (Jvm.Cond.and given_1 narrow_1) := List.mem_of_getElem? (i := 75) (by decide +kernel)
theorem sw_e63 : (Cond.eq (.elem (.field (.string RX5 47) "java/lang/String" "value" "[B") (.int (Int32.ofNat 63))) (.int (mm_txt.getD 63 0))) ∈ flatC (Jvm.Cond.and given_1 narrow_1) := List.mem_of_getElem? (i := 76) (by decide +kernel)
theorem sw_e64 : (Cond.eq (.elem (.field (.string RX5 47) "java/lang/String" "value" "[B") (.int (Int32.ofNat 64))) (.int (mm_txt.getD 64 0))) ∈ flatC (Jvm.Cond.and given_1 narrow_1) := List.mem_of_getElem? (i := 77) (by decide +kernel)
theorem sw_e65 : (Cond.eq (.elem (.field (.string RX5 47) "java/lang/String" "value" "[B") (.int (Int32.ofNat 65))) (.int (mm_txt.getD 65 0))) ∈ flatC (Jvm.Cond.and given_1 narrow_1) := List.mem_of_getElem? (i := 78) (by decide +kernel)
theorem sw_e66 : (Cond.eq (.elem (.field (.string RX5 47) "java/lang/String" "value" "[B") (.int (Int32.ofNat 66))) (.int (mm_txt.getD 66 0))) ∈ flatC (Jvm.Cond.and given_1 narrow_1) := List.mem_of_getElem? (i := 79) (by decide +kernel)
theorem sw_e67 : (Cond.eq (.elem (.field (.string RX5 47) "java/lang/String" "value" "[B") (.int (Int32.ofNat 67))) (.int (mm_txt.getD 67 0))) ∈ flatC (Jvm.Cond.and given_1 narrow_1) := List.mem_of_getElem? (i := 80) (by decide +kernel)
theorem sw_e68 : (Cond.eq (.elem (.field (.string RX5 47) "java/lang/String" "value" "[B") (.int (Int32.ofNat 68))) (.int (mm_txt.getD 68 0))) ∈ flatC (Jvm.Cond.and given_1 narrow_1) := List.mem_of_getElem? (i := 81) (by decide +kernel)
theorem sw_e69 : (Cond.eq (.elem (.field (.string RX5 47) "java/lang/String" "value" "[B") (.int (Int32.ofNat 69))) (.int (mm_txt.getD 69 0))) ∈ flatC (Jvm.Cond.and given_1 narrow_1) := List.mem_of_getElem? (i := 82) (by decide +kernel)
theorem sw_e70 : (Cond.eq (.elem (.field (.string RX5 47) "java/lang/String" "value" "[B") (.int (Int32.ofNat 70))) (.int (mm_txt.getD 70 0))) ∈ flatC (Jvm.Cond.and given_1 narrow_1) := List.mem_of_getElem? (i := 83) (by decide +kernel)
theorem sw_e71 : (Cond.eq (.elem (.field (.string RX5 47) "java/lang/String" "value" "[B") (.int (Int32.ofNat 71))) (.int (mm_txt.getD 71 0))) ∈ flatC (Jvm.Cond.and given_1 narrow_1) := List.mem_of_getElem? (i := 84) (by decide +kernel)
theorem sw_e72 : (Cond.eq (.elem (.field (.string RX5 47) "java/lang/String" "value" "[B") (.int (Int32.ofNat 72))) (.int (mm_txt.getD 72 0))) ∈ flatC (Jvm.Cond.and given_1 narrow_1) := List.mem_of_getElem? (i := 85) (by decide +kernel)
theorem sw_e73 : (Cond.eq (.elem (.field (.string RX5 47) "java/lang/String" "value" "[B") (.int (Int32.ofNat 73))) (.int (mm_txt.getD 73 0))) ∈ flatC (Jvm.Cond.and given_1 narrow_1) := List.mem_of_getElem? (i := 86) (by decide +kernel)
theorem sw_e74 : (Cond.eq (.elem (.field (.string RX5 47) "java/lang/String" "value" "[B") (.int (Int32.ofNat 74))) (.int (mm_txt.getD 74 0))) ∈ flatC (Jvm.Cond.and given_1 narrow_1) := List.mem_of_getElem? (i := 87) (by decide +kernel)
theorem sw_e75 : (Cond.eq (.elem (.field (.string RX5 47) "java/lang/String" "value" "[B") (.int (Int32.ofNat 75))) (.int (mm_txt.getD 75 0))) ∈ flatC (Jvm.Cond.and given_1 narrow_1) := List.mem_of_getElem? (i := 88) (by decide +kernel)
theorem sw_e76 : (Cond.eq (.elem (.field (.string RX5 47) "java/lang/String" "value" "[B") (.int (Int32.ofNat 76))) (.int (mm_txt.getD 76 0))) ∈ flatC (Jvm.Cond.and given_1 narrow_1) := List.mem_of_getElem? (i := 89) (by decide +kernel)
theorem sw_e77 : (Cond.eq (.elem (.field (.string RX5 47) "java/lang/String" "value" "[B") (.int (Int32.ofNat 77))) (.int (mm_txt.getD 77 0))) ∈ flatC (Jvm.Cond.and given_1 narrow_1) := List.mem_of_getElem? (i := 90) (by decide +kernel)
theorem sw_e78 : (Cond.eq (.elem (.field (.string RX5 47) "java/lang/String" "value" "[B") (.int (Int32.ofNat 78))) (.int (mm_txt.getD 78 0))) ∈ flatC (Jvm.Cond.and given_1 narrow_1) := List.mem_of_getElem? (i := 91) (by decide +kernel)
theorem sw_e79 : (Cond.eq (.elem (.field (.string RX5 47) "java/lang/String" "value" "[B") (.int (Int32.ofNat 79))) (.int (mm_txt.getD 79 0))) ∈ flatC (Jvm.Cond.and given_1 narrow_1) := List.mem_of_getElem? (i := 92) (by decide +kernel)
theorem sw_e80 : (Cond.eq (.elem (.field (.string RX5 47) "java/lang/String" "value" "[B") (.int (Int32.ofNat 80))) (.int (mm_txt.getD 80 0))) ∈ flatC (Jvm.Cond.and given_1 narrow_1) := List.mem_of_getElem? (i := 93) (by decide +kernel)
theorem sw_e81 : (Cond.eq (.elem (.field (.string RX5 47) "java/lang/String" "value" "[B") (.int (Int32.ofNat 81))) (.int (mm_txt.getD 81 0))) ∈ flatC (Jvm.Cond.and given_1 narrow_1) := List.mem_of_getElem? (i := 94) (by decide +kernel)
theorem sw_e82 : (Cond.eq (.elem (.field (.string RX5 47) "java/lang/String" "value" "[B") (.int (Int32.ofNat 82))) (.int (mm_txt.getD 82 0))) ∈ flatC (Jvm.Cond.and given_1 narrow_1) := List.mem_of_getElem? (i := 95) (by decide +kernel)
theorem sw_e83 : (Cond.eq (.elem (.field (.string RX5 47) "java/lang/String" "value" "[B") (.int (Int32.ofNat 83))) (.int (mm_txt.getD 83 0))) ∈ flatC (Jvm.Cond.and given_1 narrow_1) := List.mem_of_getElem? (i := 96) (by decide +kernel)
theorem sw_e84 : (Cond.eq (.elem (.field (.string RX5 47) "java/lang/String" "value" "[B") (.int (Int32.ofNat 84))) (.int (mm_txt.getD 84 0))) ∈ flatC (Jvm.Cond.and given_1 narrow_1) := List.mem_of_getElem? (i := 97) (by decide +kernel)
theorem sw_e85 : (Cond.eq (.elem (.field (.string RX5 47) "java/lang/String" "value" "[B") (.int (Int32.ofNat 85))) (.int (mm_txt.getD 85 0))) ∈ flatC (Jvm.Cond.and given_1 narrow_1) := List.mem_of_getElem? (i := 98) (by decide +kernel)
theorem sw_e86 : (Cond.eq (.elem (.field (.string RX5 47) "java/lang/String" "value" "[B") (.int (Int32.ofNat 86))) (.int (mm_txt.getD 86 0))) ∈ flatC (Jvm.Cond.and given_1 narrow_1) := List.mem_of_getElem? (i := 99) (by decide +kernel)
theorem sw_e87 : (Cond.eq (.elem (.field (.string RX5 47) "java/lang/String" "value" "[B") (.int (Int32.ofNat 87))) (.int (mm_txt.getD 87 0))) ∈ flatC (Jvm.Cond.and given_1 narrow_1) := List.mem_of_getElem? (i := 100) (by decide +kernel)
theorem sw_e88 : (Cond.eq (.elem (.field (.string RX5 47) "java/lang/String" "value" "[B") (.int (Int32.ofNat 88))) (.int (mm_txt.getD 88 0))) ∈ flatC (Jvm.Cond.and given_1 narrow_1) := List.mem_of_getElem? (i := 101) (by decide +kernel)
theorem sw_e89 : (Cond.eq (.elem (.field (.string RX5 47) "java/lang/String" "value" "[B") (.int (Int32.ofNat 89))) (.int (mm_txt.getD 89 0))) ∈ flatC (Jvm.Cond.and given_1 narrow_1) := List.mem_of_getElem? (i := 102) (by decide +kernel)
theorem sw_e90 : (Cond.eq (.elem (.field (.string RX5 47) "java/lang/String" "value" "[B") (.int (Int32.ofNat 90))) (.int (mm_txt.getD 90 0))) ∈ flatC (Jvm.Cond.and given_1 narrow_1) := List.mem_of_getElem? (i := 103) (by decide +kernel)
theorem sw_e91 : (Cond.eq (.elem (.field (.string RX5 47) "java/lang/String" "value" "[B") (.int (Int32.ofNat 91))) (.int (mm_txt.getD 91 0))) ∈ flatC (Jvm.Cond.and given_1 narrow_1) := List.mem_of_getElem? (i := 104) (by decide +kernel)
theorem sw_e92 : (Cond.eq (.elem (.field (.string RX5 47) "java/lang/String" "value" "[B") (.int (Int32.ofNat 92))) (.int (mm_txt.getD 92 0))) ∈ flatC (Jvm.Cond.and given_1 narrow_1) := List.mem_of_getElem? (i := 105) (by decide +kernel)
theorem sw_e93 : (Cond.eq (.elem (.field (.string RX5 47) "java/lang/String" "value" "[B") (.int (Int32.ofNat 93))) (.int (mm_txt.getD 93 0))) ∈ flatC (Jvm.Cond.and given_1 narrow_1) := List.mem_of_getElem? (i := 106) (by decide +kernel)
theorem sw_e94 : (Cond.eq (.elem (.field (.string RX5 47) "java/lang/String" "value" "[B") (.int (Int32.ofNat 94))) (.int (mm_txt.getD 94 0))) ∈ flatC (Jvm.Cond.and given_1 narrow_1) := List.mem_of_getElem? (i := 107) (by decide +kernel)
theorem sw_e95 : (Cond.eq (.elem (.field (.string RX5 47) "java/lang/String" "value" "[B") (.int (Int32.ofNat 95))) (.int (mm_txt.getD 95 0))) ∈ flatC (Jvm.Cond.and given_1 narrow_1) := List.mem_of_getElem? (i := 108) (by decide +kernel)
theorem sw_e96 : (Cond.eq (.elem (.field (.string RX5 47) "java/lang/String" "value" "[B") (.int (Int32.ofNat 96))) (.int (mm_txt.getD 96 0))) ∈ flatC (Jvm.Cond.and given_1 narrow_1) := List.mem_of_getElem? (i := 109) (by decide +kernel)
theorem sw_e97 : (Cond.eq (.elem (.field (.string RX5 47) "java/lang/String" "value" "[B") (.int (Int32.ofNat 97))) (.int (mm_txt.getD 97 0))) ∈ flatC (Jvm.Cond.and given_1 narrow_1) := List.mem_of_getElem? (i := 110) (by decide +kernel)
theorem sw_e98 : (Cond.eq (.elem (.field (.string RX5 47) "java/lang/String" "value" "[B") (.int (Int32.ofNat 98))) (.int (mm_txt.getD 98 0))) ∈ flatC (Jvm.Cond.and given_1 narrow_1) := List.mem_of_getElem? (i := 111) (by decide +kernel)
theorem sw_e99 : (Cond.eq (.elem (.field (.string RX5 47) "java/lang/String" "value" "[B") (.int (Int32.ofNat 99))) (.int (mm_txt.getD 99 0))) ∈ flatC (Jvm.Cond.and given_1 narrow_1) := List.mem_of_getElem? (i := 112) (by decide +kernel)
theorem sw_e100 : (Cond.eq (.elem (.field (.string RX5 47) "java/lang/String" "value" "[B") (.int (Int32.ofNat 100))) (.int (mm_txt.getD 100 0))) ∈ flatC (Jvm.Cond.and given_1 narrow_1) := List.mem_of_getElem? (i := 113) (by decide +kernel)
theorem sw_e101 : (Cond.eq (.elem (.field (.string RX5 47) "java/lang/String" "value" "[B") (.int (Int32.ofNat 101))) (.int (mm_txt.getD 101 0))) ∈ flatC (Jvm.Cond.and given_1 narrow_1) := List.mem_of_getElem? (i := 114) (by decide +kernel)
theorem sw_e (j : Nat) (h : j < 102) : (Cond.eq (.elem (.field (.string RX5 47) "java/lang/String" "value" "[B") (.int (Int32.ofNat j))) (.int (mm_txt.getD j 0))) ∈ flatC (Jvm.Cond.and given_1 narrow_1) := by
  match j, h with
  | 0, _ => exact sw_e0
  | 1, _ => exact sw_e1
  | 2, _ => exact sw_e2
  | 3, _ => exact sw_e3
  | 4, _ => exact sw_e4
  | 5, _ => exact sw_e5
  | 6, _ => exact sw_e6
  | 7, _ => exact sw_e7
  | 8, _ => exact sw_e8
  | 9, _ => exact sw_e9
  | 10, _ => exact sw_e10
  | 11, _ => exact sw_e11
  | 12, _ => exact sw_e12
  | 13, _ => exact sw_e13
  | 14, _ => exact sw_e14
  | 15, _ => exact sw_e15
  | 16, _ => exact sw_e16
  | 17, _ => exact sw_e17
  | 18, _ => exact sw_e18
  | 19, _ => exact sw_e19
  | 20, _ => exact sw_e20
  | 21, _ => exact sw_e21
  | 22, _ => exact sw_e22
  | 23, _ => exact sw_e23
  | 24, _ => exact sw_e24
  | 25, _ => exact sw_e25
  | 26, _ => exact sw_e26
  | 27, _ => exact sw_e27
  | 28, _ => exact sw_e28
  | 29, _ => exact sw_e29
  | 30, _ => exact sw_e30
  | 31, _ => exact sw_e31
  | 32, _ => exact sw_e32
  | 33, _ => exact sw_e33
  | 34, _ => exact sw_e34
  | 35, _ => exact sw_e35
  | 36, _ => exact sw_e36
  | 37, _ => exact sw_e37
  | 38, _ => exact sw_e38
  | 39, _ => exact sw_e39
  | 40, _ => exact sw_e40
  | 41, _ => exact sw_e41
  | 42, _ => exact sw_e42
  | 43, _ => exact sw_e43
  | 44, _ => exact sw_e44
  | 45, _ => exact sw_e45
  | 46, _ => exact sw_e46
  | 47, _ => exact sw_e47
  | 48, _ => exact sw_e48
  | 49, _ => exact sw_e49
  | 50, _ => exact sw_e50
  | 51, _ => exact sw_e51
  | 52, _ => exact sw_e52
  | 53, _ => exact sw_e53
  | 54, _ => exact sw_e54
  | 55, _ => exact sw_e55
  | 56, _ => exact sw_e56
  | 57, _ => exact sw_e57
  | 58, _ => exact sw_e58
  | 59, _ => exact sw_e59
  | 60, _ => exact sw_e60
  | 61, _ => exact sw_e61
  | 62, _ => exact sw_e62
  | 63, _ => exact sw_e63
  | 64, _ => exact sw_e64
  | 65, _ => exact sw_e65
  | 66, _ => exact sw_e66
  | 67, _ => exact sw_e67
  | 68, _ => exact sw_e68
  | 69, _ => exact sw_e69
  | 70, _ => exact sw_e70
  | 71, _ => exact sw_e71
  | 72, _ => exact sw_e72
  | 73, _ => exact sw_e73
  | 74, _ => exact sw_e74
  | 75, _ => exact sw_e75
  | 76, _ => exact sw_e76
  | 77, _ => exact sw_e77
  | 78, _ => exact sw_e78
  | 79, _ => exact sw_e79
  | 80, _ => exact sw_e80
  | 81, _ => exact sw_e81
  | 82, _ => exact sw_e82
  | 83, _ => exact sw_e83
  | 84, _ => exact sw_e84
  | 85, _ => exact sw_e85
  | 86, _ => exact sw_e86
  | 87, _ => exact sw_e87
  | 88, _ => exact sw_e88
  | 89, _ => exact sw_e89
  | 90, _ => exact sw_e90
  | 91, _ => exact sw_e91
  | 92, _ => exact sw_e92
  | 93, _ => exact sw_e93
  | 94, _ => exact sw_e94
  | 95, _ => exact sw_e95
  | 96, _ => exact sw_e96
  | 97, _ => exact sw_e97
  | 98, _ => exact sw_e98
  | 99, _ => exact sw_e99
  | 100, _ => exact sw_e100
  | 101, _ => exact sw_e101
  | q + 102, h => exact absurd h (by omega)
/-- the store at the law's entry: the script, the text constant -/
def m0 (L : Nat) (xs : Nat → Int32) : mm_M := (fun c i k => if c = 11 ∧ i = 0 then xs k else 0, fun _ _ _ => none, fun c i => if c = 11 ∧ i = 0 then L else 0, fun c => if c = 11 ∨ c = 12 then 1 else 0)
set_option maxHeartbeats 4000000 in
theorem sw_start {p : Program} {e : Env} {s : State} {m : MethodId} {below : List Frame} {meth : Method} {c : Code} (l : Launch) {b L : Nat} {xs : Nat → Int32} (C0 : lw_At p s m meth c b L xs) (hp : pK 40 166 (fun r _ => r = some (.inl 1)) 0 [some (.inr (.inr (11, 0))), none, none, none] [] (m0 L xs) (205, 2800)) : W p l e room_1 s m #[Value.ref b] below meth c s.heap [] 0 0 (lw_Z below #[Value.ref b] s) (entryFrame m ([Value.ref b] : List Value).toArray 4) := by
  obtain ⟨hx, hb, hr, hml, hown, hts, hX, hbl, hlocks, hgv⟩ := id C0
  have hfl := flat_of_before _ hgv
  obtain ⟨c0, iS0, hKn0⟩ := u_known (C := RX0) (T := TX0) (N := 1) (n := 1) hts tb_ly0 (hts _ tb_in0)
  obtain ⟨c1, iS1, hKn1⟩ := u_known (C := RX1) (T := TX1) (N := 3) (n := 3) hts tb_ly1 (hts _ tb_in1)
  obtain ⟨c2, iS2, hKn2⟩ := u_known (C := RX2) (T := TX2) (N := 5) (n := 5) hts tb_ly2 (hts _ tb_in2)
  obtain ⟨c3, iS3, hKn3⟩ := u_known (C := RX3) (T := TX3) (N := 4) (n := 4) hts tb_ly3 (hts _ tb_in3)
  obtain ⟨c4, iS4, hKn4⟩ := u_known (C := RX4) (T := TX4) (N := 11) (n := 11) hts tb_ly4 (hts _ tb_in4)
  obtain ⟨c5, iS5, hKn5⟩ := u_known (C := RX5) (T := TX5) (N := 12) (n := 12) hts tb_ly5 (hts _ tb_in5)
  obtain ⟨c6, iS6, hKn6⟩ := u_known (C := RX6) (T := TX6) (N := 21) (n := 21) hts tb_ly6 (hts _ tb_in6)
  obtain ⟨dC, dI, hKc⟩ : ∃ (dC : Nat → ClassId) (dI : Nat → Nat → Nat), ∀ (k : Nat) (q : vw_C), sn_cl[k]? = some q → u_Kn s q.1 q.2.1 q.2.2 (dC k) (dI k) := by
    refine ⟨fun k => [c0, c1, c2, c3, c4, c5, c6].getD k c0, fun k => ([iS0, iS1, iS2, iS3, iS4, iS5, iS6] : List (Nat → Nat)).getD k iS0, ?_⟩
    intro k q hq
    match k, hq with
    | 0, hq => cases hq; exact hKn0
    | 1, hq => cases hq; exact hKn1
    | 2, hq => cases hq; exact hKn2
    | 3, hq => cases hq; exact hKn3
    | 4, hq => cases hq; exact hKn4
    | 5, hq => cases hq; exact hKn5
    | 6, hq => cases hq; exact hKn6
    | k + 7, hq => simp [sn_cl] at hq
  have hA : ∀ a : Nat, a < s.heap.size → ¬ (fun q => s.heap.size ≤ q) a := fun a h => Nat.not_le.mpr h
  obtain ⟨adK, adV, hS, hev⟩ := vk_Sof (s := s) (N := 1) (tm := fun _ => .string RX5 47) (len := [mm_txt.length]) (byt := [mm_txt]) (A := fun q => s.heap.size ≤ q) (fun i hi => by
      have : i = 0 := by omega
      subst this; decide) (fun i hi => hfl _ sw_n3) (fun i hi => hfl _ sw_n4) (fun i hi => hfl _ sw_n5) (fun i hi => by
      have : i = 0 := by omega
      subst this; exact hfl _ sw_n6) (fun i hi j hj => by
      have : i = 0 := by omega
      subst this; exact hfl _ (sw_e j hj)) (fun i j hi hj h => absurd (by omega) h) hA
  have hF : sn_F (dC, dI) s := ⟨⟨hKc, fun k q h => by simp at h⟩, fun q hq => va_Nw.of rfl (hts _ (tb_nl_ok q hq)), va_AO.of (hts _ tb_ao2), va_AO.of (hts _ tb_ao4)⟩
  have hstr : sn_str s.heap.size (adK 0) s s.heap := by
    refine ⟨⟨_, vk_R.of (hts _ sw_r) (hev 0 (by omega))⟩, ⟨adV 0, ?_⟩, va_Zof (hts _ sw_z) (hts _ sw_zi) (va_eqi (hfl _ sw_n1)) hA, va_Zqof (hts _ sw_q) (hts _ sw_qi) (hfl _ sw_n2) hA⟩
    refine ⟨fun i hi => ?_, fun i j hi hj _ => by omega⟩
    have : i = 0 := by omega
    subst this
    exact hS.1 0 (by omega)
  have hN : ∀ c, c < 11 → mm_N (m0 L xs) c = 0 := fun c hc => by
    show (if c = 11 ∨ c = 12 then 1 else 0) = 0
    rw [if_neg (by omega)]
  have hH : sn_H s.heap.size (dC, dI) (fun c _ => if c = 11 then b else adK 0) (m0 L xs) s s.heap := by
    refine ⟨Nat.le_refl _, fun c i hc hi => ?_, fun i hi => ?_, fun i hi => hstr, fun c i c' i' hc hc' hi => ?_, fun c i hc hi => ?_, fun c i k c' j _ _ h => by cases h⟩
    · rw [hN c hc] at hi; omega
    · have e0 : i = 0 := by
        have h1 : mm_N (m0 L xs) 11 = 1 := rfl
        omega
      subst e0
      exact ⟨hX, hbl⟩
    · rw [hN c hc] at hi; omega
    · rw [hN c hc] at hi; omega
  have hown2 : s.vm.findClass (sn_R (pOc 166)) = some m.cls := hown
  refine sn_entry (k := 166) (d := 40) (D := (dC, dI)) (a0 := s.heap.size) (M0 := m0 L xs) (ad0 := fun c _ => if c = 11 then b else adK 0) (post := fun r _ => r = some (.inl 1)) (as := [.inr (.inr (11, 0))]) ⟨by omega, hx, hb, hml, hown2, fun w hw => hts w (List.mem_filter.mp hw).1, hF, fun h => absurd h (by decide), by decide, by decide, sn_met l (st_SL l) (st_SC l) 40, st_SL l, st_SC l, ?_⟩ (by decide) hp (fun v hv => ?_) hH (by decide) (by decide)
  · intro pc Lo r M' ad' H locs cells slots hret hpost hokr hH' hS' hE hc1 hc2
    subst hpost
    refine va_forget hS'.2.2 ?_
    refine W.widen (k := 600000) (n := 7302250) hc1 hc2 ?_
    rcases hret with ⟨hd, -⟩ | ⟨-, -, q, hq⟩ | ⟨-, -, hq⟩
    · exact lw_ret hx hb hr hlocks hd
    · cases hq
    · cases hq
  · rw [List.mem_singleton] at hv
    subst hv
    exact Nat.zero_lt_one

