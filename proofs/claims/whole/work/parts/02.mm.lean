/-! A SMALL MACHINE over typed references (kind, number): values, store, weakest preconditions of lists of instructions, blocks, calls -/
abbrev mm_V : Type := Int32 ⊕ (Int64 ⊕ (Nat × Nat))
abbrev mm_M : Type := (Nat → Nat → Nat → Int32) × (Nat → Nat → Nat → Option Nat) × (Nat → Nat → Nat) × (Nat → Nat)
abbrev mm_B : Type := Nat × Nat
abbrev mm_LS : Type := List (Option mm_V)
abbrev mm_Post : Type := Option mm_V → mm_M → Prop
/-- pc, length, the instruction, two numbers, what kind of value, a constant, a switch's table -/
abbrev mm_Ins : Type := Nat × Nat × Instr × Nat × Nat × Option (Option Nat) × Int32 × List (Int32 × Nat)
def mm_I (M : mm_M) (c i k : Nat) : Int32 := M.1 c i k
def mm_R (M : mm_M) (c i k : Nat) : Option Nat := M.2.1 c i k
def mm_L (M : mm_M) (c i : Nat) : Nat := M.2.2.1 c i
def mm_N (M : mm_M) (c : Nat) : Nat := M.2.2.2 c
def mm_sI (M : mm_M) (c i k : Nat) (v : Int32) : mm_M := (fun c' i' k' => if c' = c ∧ i' = i ∧ k' = k then v else M.1 c' i' k', M.2)
def mm_sR (M : mm_M) (c i k : Nat) (v : Option Nat) : mm_M := (M.1, fun c' i' k' => if c' = c ∧ i' = i ∧ k' = k then v else M.2.1 c' i' k', M.2.2)
/-- a new cell of kind c, len places if it is an array -/
def mm_nw (M : mm_M) (c len : Nat) : mm_M :=
  (fun c' i' k' => if c' = c ∧ i' = M.2.2.2 c then 0 else M.1 c' i' k', fun c' i' k' => if c' = c ∧ i' = M.2.2.2 c then none else M.2.1 c' i' k',
   fun c' i' => if c' = c ∧ i' = M.2.2.2 c then len else M.2.2.1 c' i', fun c' => if c' = c then M.2.2.2 c + 1 else M.2.2.2 c')
theorem mm_I_sI (M : mm_M) (c i k : Nat) (v : Int32) (c' i' k' : Nat) : mm_I (mm_sI M c i k v) c' i' k' = if c' = c ∧ i' = i ∧ k' = k then v else mm_I M c' i' k' := rfl
theorem mm_I_sR (M : mm_M) (c i k : Nat) (v : Option Nat) (c' i' k' : Nat) : mm_I (mm_sR M c i k v) c' i' k' = mm_I M c' i' k' := rfl
theorem mm_R_sI (M : mm_M) (c i k : Nat) (v : Int32) (c' i' k' : Nat) : mm_R (mm_sI M c i k v) c' i' k' = mm_R M c' i' k' := rfl
theorem mm_R_sR (M : mm_M) (c i k : Nat) (v : Option Nat) (c' i' k' : Nat) : mm_R (mm_sR M c i k v) c' i' k' = if c' = c ∧ i' = i ∧ k' = k then v else mm_R M c' i' k' := rfl
theorem mm_L_sI (M : mm_M) (c i k : Nat) (v : Int32) (c' i' : Nat) : mm_L (mm_sI M c i k v) c' i' = mm_L M c' i' := rfl
theorem mm_L_sR (M : mm_M) (c i k : Nat) (v : Option Nat) (c' i' : Nat) : mm_L (mm_sR M c i k v) c' i' = mm_L M c' i' := rfl
theorem mm_N_sI (M : mm_M) (c i k : Nat) (v : Int32) (c' : Nat) : mm_N (mm_sI M c i k v) c' = mm_N M c' := rfl
theorem mm_N_sR (M : mm_M) (c i k : Nat) (v : Option Nat) (c' : Nat) : mm_N (mm_sR M c i k v) c' = mm_N M c' := rfl
theorem mm_I_nw (M : mm_M) (c len c' i' k' : Nat) : mm_I (mm_nw M c len) c' i' k' = if c' = c ∧ i' = mm_N M c then 0 else mm_I M c' i' k' := rfl
theorem mm_R_nw (M : mm_M) (c len c' i' k' : Nat) : mm_R (mm_nw M c len) c' i' k' = if c' = c ∧ i' = mm_N M c then none else mm_R M c' i' k' := rfl
theorem mm_L_nw (M : mm_M) (c len c' i' : Nat) : mm_L (mm_nw M c len) c' i' = if c' = c ∧ i' = mm_N M c then len else mm_L M c' i' := rfl
theorem mm_N_nw (M : mm_M) (c len c' : Nat) : mm_N (mm_nw M c len) c' = if c' = c then mm_N M c + 1 else mm_N M c' := rfl
-- locals
def mm_at : mm_LS → Nat → Option mm_V
  | [], _ => none
  | v :: _, 0 => v
  | _ :: l, n + 1 => mm_at l n
def mm_set : mm_LS → Nat → Option mm_V → mm_LS
  | [], _, _ => []
  | _ :: l, 0, w => w :: l
  | v :: l, n + 1, w => v :: mm_set l n w
theorem mm_at_0 (v : Option mm_V) (l : mm_LS) : mm_at (v :: l) 0 = v := rfl
theorem mm_at_s (v : Option mm_V) (l : mm_LS) (n : Nat) : mm_at (v :: l) (n + 1) = mm_at l n := rfl
theorem mm_set_0 (v w : Option mm_V) (l : mm_LS) : mm_set (v :: l) 0 w = w :: l := rfl
theorem mm_set_s (v w : Option mm_V) (l : mm_LS) (n : Nat) : mm_set (v :: l) (n + 1) w = v :: mm_set l n w := rfl
def mm_nl : Option mm_V → Prop
  | some (.inr (.inl _)) => False
  | _ => True
theorem mm_nl_n : mm_nl none = True := rfl
theorem mm_nl_i (x : Int32) : mm_nl (some (.inl x)) = True := rfl
theorem mm_nl_r (q : Nat × Nat) : mm_nl (some (.inr (.inr q))) = True := rfl
-- what takes from the stack, from a local
def mm_pI (st : List mm_V) (k : Int32 → List mm_V → Prop) : Prop := match st with
  | .inl x :: s => k x s
  | _ => False
def mm_pL (st : List mm_V) (k : Int64 → List mm_V → Prop) : Prop := match st with
  | .inr (.inl x) :: s => k x s
  | _ => False
def mm_pA (st : List mm_V) (k : Nat × Nat → List mm_V → Prop) : Prop := match st with
  | .inr (.inr q) :: s => k q s
  | _ => False
/-- of kind c -/
def mm_pR (c : Nat) (st : List mm_V) (k : Nat → List mm_V → Prop) : Prop := mm_pA st fun q s => q.1 = c ∧ k q.2 s
/-- one word -/
def mm_p1 (st : List mm_V) (k : mm_V → List mm_V → Prop) : Prop := match st with
  | .inl x :: s => k (.inl x) s
  | .inr (.inr q) :: s => k (.inr (.inr q)) s
  | _ => False
def mm_pN : Nat → List mm_V → List mm_V → (List mm_V → List mm_V → Prop) → Prop
  | 0, acc, st, k => k acc st
  | n + 1, acc, st, k => match st with
    | v :: s => mm_pN n (v :: acc) s k
    | [] => False
def mm_lI (o : Option mm_V) (k : Int32 → Prop) : Prop := match o with
  | some (.inl x) => k x
  | _ => False
def mm_lL (o : Option mm_V) (k : Int64 → Prop) : Prop := match o with
  | some (.inr (.inl x)) => k x
  | _ => False
def mm_lA (o : Option mm_V) (k : Nat × Nat → Prop) : Prop := match o with
  | some (.inr (.inr q)) => k q
  | _ => False
theorem mm_pI_c (x : Int32) (s : List mm_V) (k : Int32 → List mm_V → Prop) : mm_pI (.inl x :: s) k = k x s := rfl
theorem mm_pL_c (x : Int64) (s : List mm_V) (k : Int64 → List mm_V → Prop) : mm_pL (.inr (.inl x) :: s) k = k x s := rfl
theorem mm_pA_c (q : Nat × Nat) (s : List mm_V) (k : Nat × Nat → List mm_V → Prop) : mm_pA (.inr (.inr q) :: s) k = k q s := rfl
theorem mm_pR_c (c c' i : Nat) (s : List mm_V) (k : Nat → List mm_V → Prop) : mm_pR c (.inr (.inr (c', i)) :: s) k = (c' = c ∧ k i s) := rfl
theorem mm_p1_i (x : Int32) (s : List mm_V) (k : mm_V → List mm_V → Prop) : mm_p1 (.inl x :: s) k = k (.inl x) s := rfl
theorem mm_p1_r (q : Nat × Nat) (s : List mm_V) (k : mm_V → List mm_V → Prop) : mm_p1 (.inr (.inr q) :: s) k = k (.inr (.inr q)) s := rfl
theorem mm_pN_0 (acc st : List mm_V) (k : List mm_V → List mm_V → Prop) : mm_pN 0 acc st k = k acc st := rfl
theorem mm_pN_s (n : Nat) (v : mm_V) (acc s : List mm_V) (k : List mm_V → List mm_V → Prop) : mm_pN (n + 1) acc (v :: s) k = mm_pN n (v :: acc) s k := rfl
theorem mm_lI_c (x : Int32) (k : Int32 → Prop) : mm_lI (some (.inl x)) k = k x := rfl
theorem mm_lL_c (x : Int64) (k : Int64 → Prop) : mm_lL (some (.inr (.inl x))) k = k x := rfl
theorem mm_lA_c (q : Nat × Nat) (k : Nat × Nat → Prop) : mm_lA (some (.inr (.inr q))) k = k q := rfl
/-- words on the stack -/
def mm_wd : List mm_V → Nat
  | [] => 0
  | .inr (.inl _) :: s => mm_wd s + 2
  | _ :: s => mm_wd s + 1
theorem mm_wd_n : mm_wd [] = 0 := rfl
theorem mm_wd_i (x : Int32) (s : List mm_V) : mm_wd (.inl x :: s) = mm_wd s + 1 := rfl
theorem mm_wd_l (x : Int64) (s : List mm_V) : mm_wd (.inr (.inl x) :: s) = mm_wd s + 2 := rfl
theorem mm_wd_r (q : Nat × Nat) (s : List mm_V) : mm_wd (.inr (.inr q) :: s) = mm_wd s + 1 := rfl
-- a field read, a field written, an answer
def mm_gf (o : Option (Option Nat)) (M : mm_M) (c i k : Nat) (K : mm_V → Prop) : Prop := match o with
  | some (some c') => match mm_R M c i k with
    | some j => K (.inr (.inr (c', j)))
    | none => False
  | _ => K (.inl (mm_I M c i k))
def mm_rf (o : Option Nat) (c' : Nat) (K : mm_V → Prop) : Prop := match o with
  | some j => K (.inr (.inr (c', j)))
  | none => False
theorem mm_gf_i (M : mm_M) (c i k : Nat) (K : mm_V → Prop) : mm_gf none M c i k K = K (.inl (mm_I M c i k)) := rfl
theorem mm_gf_b (M : mm_M) (c i k : Nat) (K : mm_V → Prop) : mm_gf (some none) M c i k K = K (.inl (mm_I M c i k)) := rfl
theorem mm_gf_r (c' : Nat) (M : mm_M) (c i k : Nat) (K : mm_V → Prop) : mm_gf (some (some c')) M c i k K = mm_rf (mm_R M c i k) c' K := by
  unfold mm_gf mm_rf
  rfl
theorem mm_rf_c (j c' : Nat) (K : mm_V → Prop) : mm_rf (some j) c' K = K (.inr (.inr (c', j))) := rfl
def mm_pf (o : Option (Option Nat)) (st : List mm_V) (M : mm_M) (c k : Nat) (K : mm_M → List mm_V → Prop) : Prop := match o with
  | none => mm_pI st fun x s => mm_pR c s fun i s => K (mm_sI M c i k x) s
  | some none => mm_pI st fun x s => mm_pR c s fun i s => (x = 0 ∨ x = 1) ∧ K (mm_sI M c i k x) s
  | some (some c') => mm_pR c' st fun j s => mm_pR c s fun i s => K (mm_sR M c i k (some j)) s
theorem mm_pf_i (st : List mm_V) (M : mm_M) (c k : Nat) (K : mm_M → List mm_V → Prop) : mm_pf none st M c k K = mm_pI st fun x s => mm_pR c s fun i s => K (mm_sI M c i k x) s := rfl
theorem mm_pf_b (st : List mm_V) (M : mm_M) (c k : Nat) (K : mm_M → List mm_V → Prop) : mm_pf (some none) st M c k K = mm_pI st fun x s => mm_pR c s fun i s => (x = 0 ∨ x = 1) ∧ K (mm_sI M c i k x) s := rfl
theorem mm_pf_r (c' : Nat) (st : List mm_V) (M : mm_M) (c k : Nat) (K : mm_M → List mm_V → Prop) : mm_pf (some (some c')) st M c k K = mm_pR c' st fun j s => mm_pR c s fun i s => K (mm_sR M c i k (some j)) s := rfl
def mm_rt (o : Option (Option Nat)) (r : Option mm_V) (K : List mm_V → Prop) : Prop := match o, r with
  | none, none => K []
  | some none, some (.inl x) => K [.inl x]
  | some (some c'), some (.inr (.inr (c, i))) => c = c' ∧ K [.inr (.inr (c, i))]
  | _, _ => False
theorem mm_rt_v (K : List mm_V → Prop) : mm_rt none none K = K [] := rfl
theorem mm_rt_i (x : Int32) (K : List mm_V → Prop) : mm_rt (some none) (some (.inl x)) K = K [.inl x] := rfl
theorem mm_rt_r (c' c i : Nat) (K : List mm_V → Prop) : mm_rt (some (some c')) (some (.inr (.inr (c, i)))) K = (c = c' ∧ K [.inr (.inr (c, i))]) := rfl
def mm_cmp (op : Jvm.ClassFile.Cond) (x y : Int32) : Prop := match op with
  | .eq => x = y
  | .ne => ¬ x = y
  | .lt => x < y
  | .ge => y ≤ x
  | .gt => y < x
  | .le => x ≤ y
theorem mm_c_eq (x y : Int32) : mm_cmp .eq x y = (x = y) := rfl
theorem mm_c_ne (x y : Int32) : mm_cmp .ne x y = (¬ x = y) := rfl
theorem mm_c_lt (x y : Int32) : mm_cmp .lt x y = (x < y) := rfl
theorem mm_c_ge (x y : Int32) : mm_cmp .ge x y = (y ≤ x) := rfl
theorem mm_c_gt (x y : Int32) : mm_cmp .gt x y = (y < x) := rfl
theorem mm_c_le (x y : Int32) : mm_cmp .le x y = (x ≤ y) := rfl
/-- two ways -/
def mm_if (c A B : Prop) : Prop := (c → A) ∧ (¬ c → B)
def mm_sw (ts : List (Int32 × Nat)) (d : Nat) (x : Int32) (K : Nat → Prop) : Prop := match ts with
  | [] => K d
  | q :: t => mm_if (x = q.1) (K q.2) (mm_sw t d x K)
theorem mm_sw_n (d : Nat) (x : Int32) (K : Nat → Prop) : mm_sw [] d x K = K d := rfl
theorem mm_sw_c (y : Int32) (j : Nat) (t : List (Int32 × Nat)) (d : Nat) (x : Int32) (K : Nat → Prop) : mm_sw ((y, j) :: t) d x K = mm_if (x = y) (K j) (mm_sw t d x K) := rfl
/-- how many bytes the first text has; its letters -/
def mm_txt : List Int32 := [119, 48, 44, 53, 44, 51, 59, 119, 49, 44, 49, 50, 44, 50, 59, 119, 50, 44, 50, 48, 44, 52, 59, 119, 51, 44, 56, 44, 50, 59, 119, 48, 44, 51, 48, 44, 54, 59, 119, 48, 44, 49, 52, 44, 49, 59, 109, 50, 53, 44, 49, 50, 59, 98, 48, 44, 52, 44, 50, 44, 57, 44, 56, 59, 98, 49, 44, 57, 44, 49, 44, 49, 50, 44, 49, 50, 59, 98, 50, 44, 54, 44, 51, 44, 50, 53, 44, 56, 59, 98, 53, 44, 50, 44, 53, 44, 49, 52, 44, 49, 50, 59]
/-- what a called method may make: cells, places -/
def mm_alc (ts : List (Int32 × Nat)) : mm_B := match ts with
  | p :: q :: _ => (p.2, q.2)
  | _ => (0, 0)
theorem mm_alc_n : mm_alc [] = (0, 0) := rfl
theorem mm_alc_c (p q : Int32 × Nat) (t : List (Int32 × Nat)) : mm_alc (p :: q :: t) = (p.2, q.2) := rfl
/-- of which kind the receiver is -/
def mm_rc (ts : List (Int32 × Nat)) (as : List mm_V) : Prop := match ts with
  | _ :: _ :: q :: _ => match as with
    | .inr (.inr r) :: _ => r.1 = q.2
    | _ => False
  | _ => True
theorem mm_rc_n (as : List mm_V) : mm_rc [] as = True := rfl
theorem mm_rc_c (p q r : Int32 × Nat) (c i : Nat) (as : List mm_V) : mm_rc [p, q, r] (.inr (.inr (c, i)) :: as) = (c = r.2) := rfl
/-- what a list of instructions needs, so that 'post' holds of its answer -/
def mm_w (call : Nat → List mm_V → mm_M → mm_Post → Prop) (jump : Nat → mm_LS → List mm_V → mm_M → mm_B → Prop) (post : mm_Post) : List mm_Ins → mm_LS → List mm_V → mm_M → mm_B → Prop
  | [], _, _, _, _ => False
  | (_, _, ins, a, b, o, v, ts) :: c, ls, st, M, bu =>
    match ins with
    | .nop => match a with
      | 0 => jump b ls st M bu
      | 1 => mm_pI st fun y s => mm_pI s fun x s => mm_wd s ≤ 8 ∧ mm_w call jump post c ls (.inl (if x < y then y else x) :: s) M bu
      | 2 => mm_pA st fun _ s => mm_wd s ≤ 8 ∧ mm_w call jump post c ls s M bu
      | 3 => mm_pR 12 st fun _ s => mm_wd s ≤ 8 ∧ mm_w call jump post c ls (.inl (nI mm_txt.length) :: s) M bu
      | 4 => mm_pI st fun x s => mm_pR 12 s fun _ s => mm_wd s ≤ 8 ∧ vp_in x mm_txt.length ∧ mm_w call jump post c ls (.inl (mm_txt.getD x.toNatClampNeg 0) :: s) M bu
      | 5 => 0 < mm_N M 12 ∧ mm_w call jump post c ls (.inr (.inr (12, 0)) :: st) M bu
      | _ => False
    | .iconst _ => mm_w call jump post c ls (.inl v :: st) M bu
    | .bipush _ => mm_w call jump post c ls (.inl v :: st) M bu
    | .sipush _ => mm_w call jump post c ls (.inl v :: st) M bu
    | .ldc_w _ => mm_w call jump post c ls (.inl v :: st) M bu
    | .lconst _ => mm_w call jump post c ls (.inr (.inl v.toInt64) :: st) M bu
    | .ldc2_w _ => mm_w call jump post c ls (.inr (.inl v.toInt64) :: st) M bu
    | .iload _ => mm_lI (mm_at ls a) fun x => mm_w call jump post c ls (.inl x :: st) M bu
    | .iload_n _ => mm_lI (mm_at ls a) fun x => mm_w call jump post c ls (.inl x :: st) M bu
    | .lload _ => mm_lL (mm_at ls a) fun x => mm_w call jump post c ls (.inr (.inl x) :: st) M bu
    | .lload_n _ => mm_lL (mm_at ls a) fun x => mm_w call jump post c ls (.inr (.inl x) :: st) M bu
    | .aload _ => mm_lA (mm_at ls a) fun x => mm_w call jump post c ls (.inr (.inr x) :: st) M bu
    | .aload_n _ => mm_lA (mm_at ls a) fun x => mm_w call jump post c ls (.inr (.inr x) :: st) M bu
    | .istore _ => mm_pI st fun x s => a < ls.length ∧ mm_nl (mm_at ls (a - 1)) ∧ mm_w call jump post c (mm_set ls a (some (.inl x))) s M bu
    | .istore_n _ => mm_pI st fun x s => a < ls.length ∧ mm_nl (mm_at ls (a - 1)) ∧ mm_w call jump post c (mm_set ls a (some (.inl x))) s M bu
    | .astore _ => mm_pA st fun x s => a < ls.length ∧ mm_nl (mm_at ls (a - 1)) ∧ mm_w call jump post c (mm_set ls a (some (.inr (.inr x)))) s M bu
    | .astore_n _ => mm_pA st fun x s => a < ls.length ∧ mm_nl (mm_at ls (a - 1)) ∧ mm_w call jump post c (mm_set ls a (some (.inr (.inr x)))) s M bu
    | .lstore _ => mm_pL st fun x s => a + 1 < ls.length ∧ mm_nl (mm_at ls (a - 1)) ∧ mm_w call jump post c (mm_set (mm_set ls a (some (.inr (.inl x)))) (a + 1) none) s M bu
    | .lstore_n _ => mm_pL st fun x s => a + 1 < ls.length ∧ mm_nl (mm_at ls (a - 1)) ∧ mm_w call jump post c (mm_set (mm_set ls a (some (.inr (.inl x)))) (a + 1) none) s M bu
    | .iinc _ _ => mm_lI (mm_at ls a) fun x => a < ls.length ∧ mm_nl (mm_at ls (a - 1)) ∧ mm_w call jump post c (mm_set ls a (some (.inl (x + v)))) st M bu
    | .iadd => mm_pI st fun y s => mm_pI s fun x s => mm_w call jump post c ls (.inl (x + y) :: s) M bu
    | .isub => mm_pI st fun y s => mm_pI s fun x s => mm_w call jump post c ls (.inl (x - y) :: s) M bu
    | .imul => mm_pI st fun y s => mm_pI s fun x s => mm_w call jump post c ls (.inl (x * y) :: s) M bu
    | .iand => mm_pI st fun y s => mm_pI s fun x s => mm_w call jump post c ls (.inl (x &&& y) :: s) M bu
    | .ior => mm_pI st fun y s => mm_pI s fun x s => mm_w call jump post c ls (.inl (x ||| y) :: s) M bu
    | .ishl => mm_pI st fun y s => mm_pI s fun x s => mm_w call jump post c ls (.inl (x <<< (y &&& 31)) :: s) M bu
    | .ishr => mm_pI st fun y s => mm_pI s fun x s => mm_w call jump post c ls (.inl (x >>> (y &&& 31)) :: s) M bu
    | .iushr => mm_pI st fun y s => mm_pI s fun x s => mm_w call jump post c ls (.inl (x.toUInt32 >>> (y.toUInt32 &&& Int32.toUInt32 31)).toInt32 :: s) M bu
    | .idiv => mm_pI st fun y s => mm_pI s fun x s => (¬ y = 0) ∧ mm_w call jump post c ls (.inl (x / y) :: s) M bu
    | .irem => mm_pI st fun y s => mm_pI s fun x s => (¬ y = 0) ∧ mm_w call jump post c ls (.inl (x - x / y * y) :: s) M bu
    | .ladd => mm_pL st fun y s => mm_pL s fun x s => mm_w call jump post c ls (.inr (.inl (x + y)) :: s) M bu
    | .lmul => mm_pL st fun y s => mm_pL s fun x s => mm_w call jump post c ls (.inr (.inl (x * y)) :: s) M bu
    | .lrem => mm_pL st fun y s => mm_pL s fun x s => (¬ y = 0) ∧ mm_w call jump post c ls (.inr (.inl (x - x / y * y)) :: s) M bu
    | .lcmp => mm_pL st fun y s => mm_pL s fun x s => mm_w call jump post c ls (.inl (lg_cmp x y) :: s) M bu
    | .i2l => mm_pI st fun x s => mm_w call jump post c ls (.inr (.inl x.toInt64) :: s) M bu
    | .l2i => mm_pL st fun x s => mm_w call jump post c ls (.inl x.toInt32 :: s) M bu
    | .i2b => mm_pI st fun x s => mm_w call jump post c ls (.inl x.toInt8.toInt32 :: s) M bu
    | .dup => mm_p1 st fun x s => mm_w call jump post c ls (x :: x :: s) M bu
    | .dup2 => mm_p1 st fun x s => mm_p1 s fun y s => mm_w call jump post c ls (x :: y :: x :: y :: s) M bu
    | .pop => mm_p1 st fun _ s => mm_w call jump post c ls s M bu
    | .ifCond op _ => mm_pI st fun x s => mm_if (mm_cmp op x 0) (jump a ls s M bu) (mm_w call jump post c ls s M bu)
    | .if_icmp op _ => mm_pI st fun y s => mm_pI s fun x s => mm_if (mm_cmp op x y) (jump a ls s M bu) (mm_w call jump post c ls s M bu)
    | .goto _ => jump a ls st M bu
    | .tableswitch _ _ _ _ => mm_pI st fun x s => mm_sw ts a x fun j => jump j ls s M bu
    | .lookupswitch _ _ => mm_pI st fun x s => mm_sw ts a x fun j => jump j ls s M bu
    | .getfield _ => mm_pR a st fun i s => mm_gf o M a i b fun x => mm_w call jump post c ls (x :: s) M bu
    | .putfield _ => mm_pf o st M a b fun M' s => mm_w call jump post c ls s M' bu
    | .iaload => mm_pI st fun x s => mm_pR a s fun i s => vp_in x (mm_L M a i) ∧ mm_w call jump post c ls (.inl (mm_I M a i x.toNatClampNeg) :: s) M bu
    | .baload => mm_pI st fun x s => mm_pR 8 s fun i s => vp_in x (mm_L M 8 i) ∧ mm_w call jump post c ls (.inl (mm_I M 8 i x.toNatClampNeg) :: s) M bu
    | .aaload => mm_pI st fun x s => mm_pR a s fun i s => vp_in x (mm_L M a i) ∧ mm_rf (mm_R M a i x.toNatClampNeg) b fun y => mm_w call jump post c ls (y :: s) M bu
    | .iastore => mm_pI st fun y s => mm_pI s fun x s => mm_pR 7 s fun i s => vp_in x (mm_L M 7 i) ∧ mm_w call jump post c ls s (mm_sI M 7 i x.toNatClampNeg y) bu
    | .bastore => mm_pI st fun y s => mm_pI s fun x s => mm_pR 8 s fun i s => vp_in x (mm_L M 8 i) ∧ mm_w call jump post c ls s (mm_sI M 8 i x.toNatClampNeg (vp_nar .byte y)) bu
    | .aastore => mm_pR b st fun j s => mm_pI s fun x s => mm_pR a s fun i s => vp_in x (mm_L M a i) ∧ mm_w call jump post c ls s (mm_sR M a i x.toNatClampNeg (some j)) bu
    | .arraylength => mm_pR a st fun i s => mm_w call jump post c ls (.inl (Int32.ofNat (mm_L M a i)) :: s) M bu
    | .new _ => 1 ≤ bu.1 ∧ b ≤ bu.2 ∧ mm_w call jump post c ls (.inr (.inr (a, mm_N M a)) :: st) (mm_nw M a 0) (bu.1 - 1, bu.2 - b)
    | .newarray _ => mm_pI st fun x s => (¬ x < 0) ∧ 1 ≤ bu.1 ∧ x.toNatClampNeg ≤ bu.2 ∧ x.toNatClampNeg ≤ 1000 ∧ mm_w call jump post c ls (.inr (.inr (a, mm_N M a)) :: s) (mm_nw M a x.toNatClampNeg) (bu.1 - 1, bu.2 - x.toNatClampNeg)
    | .anewarray _ => mm_pI st fun x s => (¬ x < 0) ∧ 1 ≤ bu.1 ∧ x.toNatClampNeg ≤ bu.2 ∧ x.toNatClampNeg ≤ 1000 ∧ mm_w call jump post c ls (.inr (.inr (a, mm_N M a)) :: s) (mm_nw M a x.toNatClampNeg) (bu.1 - 1, bu.2 - x.toNatClampNeg)
    | .invokevirtual _ => mm_pN b [] st fun as s => mm_rc ts as ∧ mm_wd s ≤ 8 ∧ (mm_alc ts).1 ≤ bu.1 ∧ (mm_alc ts).2 ≤ bu.2 ∧ call a as M fun r M' => mm_rt o r fun vs => mm_w call jump post c ls (vs ++ s) M' (bu.1 - (mm_alc ts).1, bu.2 - (mm_alc ts).2)
    | .invokestatic _ => mm_pN b [] st fun as s => mm_rc ts as ∧ mm_wd s ≤ 8 ∧ (mm_alc ts).1 ≤ bu.1 ∧ (mm_alc ts).2 ≤ bu.2 ∧ call a as M fun r M' => mm_rt o r fun vs => mm_w call jump post c ls (vs ++ s) M' (bu.1 - (mm_alc ts).1, bu.2 - (mm_alc ts).2)
    | .invokespecial _ => mm_pN b [] st fun as s => mm_rc ts as ∧ mm_wd s ≤ 8 ∧ (mm_alc ts).1 ≤ bu.1 ∧ (mm_alc ts).2 ≤ bu.2 ∧ call a as M fun r M' => mm_rt o r fun vs => mm_w call jump post c ls (vs ++ s) M' (bu.1 - (mm_alc ts).1, bu.2 - (mm_alc ts).2)
    | .ireturn => mm_pI st fun x s => s = [] ∧ (o = some none → x = 0 ∨ x = 1) ∧ post (some (.inl x)) M
    | .areturn => mm_pA st fun x s => s = [] ∧ post (some (.inr (.inr x))) M
    | .return_ => st = [] ∧ post none M
    | _ => False
-- monotone
theorem mm_pI_m {st : List mm_V} {k k' : Int32 → List mm_V → Prop} (h : ∀ x s, k x s → k' x s) (q : mm_pI st k) : mm_pI st k' := by
  unfold mm_pI at *
  split at q <;> first | exact h _ _ q | exact q.elim
theorem mm_pL_m {st : List mm_V} {k k' : Int64 → List mm_V → Prop} (h : ∀ x s, k x s → k' x s) (q : mm_pL st k) : mm_pL st k' := by
  unfold mm_pL at *
  split at q <;> first | exact h _ _ q | exact q.elim
theorem mm_pA_m {st : List mm_V} {k k' : Nat × Nat → List mm_V → Prop} (h : ∀ x s, k x s → k' x s) (q : mm_pA st k) : mm_pA st k' := by
  unfold mm_pA at *
  split at q <;> first | exact h _ _ q | exact q.elim
theorem mm_pR_m {c : Nat} {st : List mm_V} {k k' : Nat → List mm_V → Prop} (h : ∀ x s, k x s → k' x s) (q : mm_pR c st k) : mm_pR c st k' := mm_pA_m (fun _ _ z => ⟨z.1, h _ _ z.2⟩) q
theorem mm_p1_m {st : List mm_V} {k k' : mm_V → List mm_V → Prop} (h : ∀ x s, k x s → k' x s) (q : mm_p1 st k) : mm_p1 st k' := by
  unfold mm_p1 at *
  split at q <;> first | exact h _ _ q | exact q.elim
theorem mm_pN_m {k k' : List mm_V → List mm_V → Prop} (h : ∀ x s, k x s → k' x s) : ∀ (n : Nat) (acc st : List mm_V), mm_pN n acc st k → mm_pN n acc st k'
  | 0, _, _, q => h _ _ q
  | n + 1, acc, [], q => q.elim
  | n + 1, acc, v :: s, q => mm_pN_m h n (v :: acc) s q
theorem mm_lI_m {o : Option mm_V} {k k' : Int32 → Prop} (h : ∀ x, k x → k' x) (q : mm_lI o k) : mm_lI o k' := by
  unfold mm_lI at *
  split at q <;> first | exact h _ q | exact q.elim
theorem mm_lL_m {o : Option mm_V} {k k' : Int64 → Prop} (h : ∀ x, k x → k' x) (q : mm_lL o k) : mm_lL o k' := by
  unfold mm_lL at *
  split at q <;> first | exact h _ q | exact q.elim
theorem mm_lA_m {o : Option mm_V} {k k' : Nat × Nat → Prop} (h : ∀ x, k x → k' x) (q : mm_lA o k) : mm_lA o k' := by
  unfold mm_lA at *
  split at q <;> first | exact h _ q | exact q.elim
theorem mm_rf_m {o : Option Nat} {c' : Nat} {k k' : mm_V → Prop} (h : ∀ x, k x → k' x) (q : mm_rf o c' k) : mm_rf o c' k' := by
  unfold mm_rf at *
  split at q <;> first | exact h _ q | exact q.elim
theorem mm_gf_m {o : Option (Option Nat)} {M : mm_M} {c i b : Nat} {k k' : mm_V → Prop} (h : ∀ x, k x → k' x) (q : mm_gf o M c i b k) : mm_gf o M c i b k' := by
  match o, q with
  | none, q => exact h _ q
  | some none, q => exact h _ q
  | some (some c'), q =>
    rw [mm_gf_r] at *
    exact mm_rf_m h q
theorem mm_pf_m {o : Option (Option Nat)} {st : List mm_V} {M : mm_M} {c b : Nat} {k k' : mm_M → List mm_V → Prop} (h : ∀ M s, k M s → k' M s) (q : mm_pf o st M c b k) : mm_pf o st M c b k' := by
  match o, q with
  | none, q => exact mm_pI_m (fun _ _ q => mm_pR_m (fun _ _ q => h _ _ q) q) q
  | some none, q => exact mm_pI_m (fun _ _ q => mm_pR_m (fun _ _ q => ⟨q.1, h _ _ q.2⟩) q) q
  | some (some c'), q =>
    rw [mm_pf_r] at *
    exact mm_pR_m (fun _ _ q => mm_pR_m (fun _ _ q => h _ _ q) q) q
theorem mm_rt_m {o : Option (Option Nat)} {r : Option mm_V} {k k' : List mm_V → Prop} (h : ∀ x, k x → k' x) (q : mm_rt o r k) : mm_rt o r k' := by
  unfold mm_rt at *
  split at q <;> first | exact h _ q | exact ⟨q.1, h _ q.2⟩ | exact q.elim
theorem mm_if_m {c A B A' B' : Prop} (ha : A → A') (hb : B → B') (q : mm_if c A B) : mm_if c A' B' := ⟨fun z => ha (q.1 z), fun z => hb (q.2 z)⟩
theorem mm_sw_m {d : Nat} {x : Int32} {K K' : Nat → Prop} (h : ∀ j, K j → K' j) : ∀ (ts : List (Int32 × Nat)), mm_sw ts d x K → mm_sw ts d x K'
  | [], q => h _ q
  | _ :: t, q => mm_if_m (h _) (mm_sw_m h t) q
theorem mm_w_m {call : Nat → List mm_V → mm_M → mm_Post → Prop} (hc : ∀ k as M (P P' : mm_Post), (∀ r M, P r M → P' r M) → call k as M P → call k as M P') {J J' : Nat → mm_LS → List mm_V → mm_M → mm_B → Prop} (hJ : ∀ j ls st M bu, J j ls st M bu → J' j ls st M bu) {P P' : mm_Post} (hP : ∀ r M, P r M → P' r M) :
    ∀ (c : List mm_Ins) (ls : mm_LS) (st : List mm_V) (M : mm_M) (bu : mm_B), mm_w call J P c ls st M bu → mm_w call J' P' c ls st M bu := by
  intro c
  induction c with
  | nil => intro ls st M bu q; exact q
  | cons q0 c ih =>
    obtain ⟨pc, len, ins, a, b, o, v, ts⟩ := q0
    intro ls st M bu q
    cases ins
    case nop =>
      match a, q with
      | 0, q => exact hJ _ _ _ _ _ q
      | 1, q => exact mm_pI_m (fun _ _ q => mm_pI_m (fun _ _ q => ⟨q.1, ih _ _ _ _ q.2⟩) q) q
      | 2, q => exact mm_pA_m (fun _ _ q => ⟨q.1, ih _ _ _ _ q.2⟩) q
      | 3, q =>
        simp only [mm_w] at q ⊢
        exact mm_pR_m (fun _ _ q => ⟨q.1, ih _ _ _ _ q.2⟩) q
      | 4, q =>
        simp only [mm_w] at q ⊢
        exact mm_pI_m (fun _ _ q => mm_pR_m (fun _ _ q => ⟨q.1, q.2.1, ih _ _ _ _ q.2.2⟩) q) q
      | 5, q => exact ⟨q.1, ih _ _ _ _ q.2⟩
      | _ + 6, q => exact q.elim
    all_goals simp only [mm_w] at q ⊢
    all_goals first
      | exact ih _ _ _ _ q
      | exact hJ _ _ _ _ _ q
      | exact mm_lI_m (fun _ q => ih _ _ _ _ q) q
      | exact mm_lL_m (fun _ q => ih _ _ _ _ q) q
      | exact mm_lA_m (fun _ q => ih _ _ _ _ q) q
      | exact mm_lI_m (fun _ q => ⟨q.1, q.2.1, ih _ _ _ _ q.2.2⟩) q
      | exact mm_pI_m (fun _ _ q => ⟨q.1, q.2.1, ih _ _ _ _ q.2.2⟩) q
      | exact mm_pL_m (fun _ _ q => ⟨q.1, q.2.1, ih _ _ _ _ q.2.2⟩) q
      | exact mm_pA_m (fun _ _ q => ⟨q.1, q.2.1, ih _ _ _ _ q.2.2⟩) q
      | exact mm_pI_m (fun _ _ q => mm_pI_m (fun _ _ q => ih _ _ _ _ q) q) q
      | exact mm_pI_m (fun _ _ q => mm_pI_m (fun _ _ q => ⟨q.1, ih _ _ _ _ q.2⟩) q) q
      | exact mm_pL_m (fun _ _ q => mm_pL_m (fun _ _ q => ih _ _ _ _ q) q) q
      | exact mm_pL_m (fun _ _ q => mm_pL_m (fun _ _ q => ⟨q.1, ih _ _ _ _ q.2⟩) q) q
      | exact mm_pI_m (fun _ _ q => ih _ _ _ _ q) q
      | exact mm_pL_m (fun _ _ q => ih _ _ _ _ q) q
      | exact mm_p1_m (fun _ _ q => ih _ _ _ _ q) q
      | exact mm_p1_m (fun _ _ q => mm_p1_m (fun _ _ q => ih _ _ _ _ q) q) q
      | exact mm_pI_m (fun _ _ q => mm_if_m (hJ _ _ _ _ _) (ih _ _ _ _) q) q
      | exact mm_pI_m (fun _ _ q => mm_pI_m (fun _ _ q => mm_if_m (hJ _ _ _ _ _) (ih _ _ _ _) q) q) q
      | exact mm_pI_m (fun _ _ q => mm_sw_m (fun _ q => hJ _ _ _ _ _ q) _ q) q
      | exact mm_pR_m (fun _ _ q => mm_gf_m (fun _ q => ih _ _ _ _ q) q) q
      | exact mm_pf_m (fun _ _ q => ih _ _ _ _ q) q
      | exact mm_pI_m (fun _ _ q => mm_pR_m (fun _ _ q => ⟨q.1, ih _ _ _ _ q.2⟩) q) q
      | exact mm_pI_m (fun _ _ q => mm_pR_m (fun _ _ q => ⟨q.1, mm_rf_m (fun _ q => ih _ _ _ _ q) q.2⟩) q) q
      | exact mm_pI_m (fun _ _ q => mm_pI_m (fun _ _ q => mm_pR_m (fun _ _ q => ⟨q.1, ih _ _ _ _ q.2⟩) q) q) q
      | exact mm_pR_m (fun _ _ q => mm_pI_m (fun _ _ q => mm_pR_m (fun _ _ q => ⟨q.1, ih _ _ _ _ q.2⟩) q) q) q
      | exact mm_pR_m (fun _ _ q => ih _ _ _ _ q) q
      | exact ⟨q.1, q.2.1, ih _ _ _ _ q.2.2⟩
      | exact mm_pI_m (fun _ _ q => ⟨q.1, q.2.1, q.2.2.1, q.2.2.2.1, ih _ _ _ _ q.2.2.2.2⟩) q
      | exact mm_pN_m (fun _ _ q => ⟨q.1, q.2.1, q.2.2.1, q.2.2.2.1, hc _ _ _ _ _ (fun _ _ q => mm_rt_m (fun _ q => ih _ _ _ _ q) q) q.2.2.2.2⟩) _ _ _ q
      | exact mm_pI_m (fun _ _ q => ⟨q.1, q.2.1, hP _ _ q.2.2⟩) q
      | exact mm_pA_m (fun _ _ q => ⟨q.1, hP _ _ q.2⟩) q
      | exact ⟨q.1, hP _ _ q.2⟩
/-- the least thing that its blocks allow -/
def mm_blk (call : Nat → List mm_V → mm_M → mm_Post → Prop) (B : Nat → List mm_Ins) (post : mm_Post) (j : Nat) (ls : mm_LS) (st : List mm_V) (M : mm_M) (bu : mm_B) : Prop :=
  ∀ X : Nat → mm_LS → List mm_V → mm_M → mm_B → Prop, (∀ j ls st M bu, mm_w call X post (B j) ls st M bu → X j ls st M bu) → X j ls st M bu
theorem mm_blk_in {call : Nat → List mm_V → mm_M → mm_Post → Prop} (hc : ∀ k as M (P P' : mm_Post), (∀ r M, P r M → P' r M) → call k as M P → call k as M P') {B : Nat → List mm_Ins} {post : mm_Post} {j : Nat} {ls : mm_LS} {st : List mm_V} {M : mm_M} {bu : mm_B}
    (h : mm_w call (mm_blk call B post) post (B j) ls st M bu) : mm_blk call B post j ls st M bu := fun X hX => hX _ _ _ _ _ (mm_w_m hc (fun _ _ _ _ _ q => q X hX) (fun _ _ q => q) _ _ _ _ _ h)
theorem mm_blk_out {call : Nat → List mm_V → mm_M → mm_Post → Prop} (hc : ∀ k as M (P P' : mm_Post), (∀ r M, P r M → P' r M) → call k as M P → call k as M P') {B : Nat → List mm_Ins} {post : mm_Post} {j : Nat} {ls : mm_LS} {st : List mm_V} {M : mm_M} {bu : mm_B}
    (h : mm_blk call B post j ls st M bu) : mm_w call (mm_blk call B post) post (B j) ls st M bu := h (fun j ls st M bu => mm_w call (mm_blk call B post) post (B j) ls st M bu) (fun _ _ _ _ _ q => mm_w_m hc (fun _ _ _ _ _ q => mm_blk_in hc q) (fun _ _ q => q) _ _ _ _ _ q)
theorem mm_blk_m {call : Nat → List mm_V → mm_M → mm_Post → Prop} (hc : ∀ k as M (P P' : mm_Post), (∀ r M, P r M → P' r M) → call k as M P → call k as M P') {B : Nat → List mm_Ins} {P P' : mm_Post} (hP : ∀ r M, P r M → P' r M) {j : Nat} {ls : mm_LS} {st : List mm_V} {M : mm_M} {bu : mm_B}
    (h : mm_blk call B P j ls st M bu) : mm_blk call B P' j ls st M bu := h (mm_blk call B P') (fun _ _ _ _ _ q => mm_blk_in hc (mm_w_m hc (fun _ _ _ _ _ q => q) hP _ _ _ _ _ q))
/-- arguments as locals -/
def mm_args : List mm_V → mm_LS
  | [] => []
  | .inr (.inl x) :: s => some (.inr (.inl x)) :: none :: mm_args s
  | .inl x :: s => some (.inl x) :: mm_args s
  | .inr (.inr q) :: s => some (.inr (.inr q)) :: mm_args s
def mm_pad : Nat → mm_LS → mm_LS
  | 0, _ => []
  | n + 1, [] => none :: mm_pad n []
  | n + 1, v :: l => v :: mm_pad n l
theorem mm_args_n : mm_args [] = [] := rfl
theorem mm_args_i (x : Int32) (s : List mm_V) : mm_args (.inl x :: s) = some (.inl x) :: mm_args s := rfl
theorem mm_args_l (x : Int64) (s : List mm_V) : mm_args (.inr (.inl x) :: s) = some (.inr (.inl x)) :: none :: mm_args s := rfl
theorem mm_args_r (q : Nat × Nat) (s : List mm_V) : mm_args (.inr (.inr q) :: s) = some (.inr (.inr q)) :: mm_args s := rfl
theorem mm_pad_0 (l : mm_LS) : mm_pad 0 l = [] := rfl
theorem mm_pad_n (n : Nat) : mm_pad (n + 1) [] = none :: mm_pad n [] := rfl
theorem mm_pad_c (n : Nat) (v : Option mm_V) (l : mm_LS) : mm_pad (n + 1) (v :: l) = v :: mm_pad n l := rfl
/-- a call, d deep at most; B: the blocks, mx: how many locals -/
def mm_call (al : Nat → mm_B) (B : Nat → Nat → List mm_Ins) (mx : Nat → Nat) : Nat → Nat → List mm_V → mm_M → mm_Post → Prop
  | 0, _, _, _, _ => False
  | d + 1, k, as, M, post => (mm_args as).length ≤ mx k ∧ mm_blk (mm_call al B mx d) (B k) post 0 (mm_pad (mx k) (mm_args as)) [] M (al k)
theorem mm_call_m (al : Nat → mm_B) (B : Nat → Nat → List mm_Ins) (mx : Nat → Nat) : ∀ (d k : Nat) (as : List mm_V) (M : mm_M) (P P' : mm_Post), (∀ r M, P r M → P' r M) → mm_call al B mx d k as M P → mm_call al B mx d k as M P'
  | 0, _, _, _, _, _, _, q => q
  | d + 1, k, as, M, P, P', hP, q => ⟨q.1, mm_blk_m (mm_call_m al B mx d) hP q.2⟩
