/-! THE EQUATIONS: what a run is at an instruction -/
section EQS
variable {n J pc o ml : Nat} {y : MethodName} {c : ByteArray} {rt : Option FieldType} {L stk : List Value} {M : aM}
theorem r_null  (hm : mt J = (o, y, c, ml, rt)) (hd : decode c pc = .ok (.aconst_null, 1))  : run n J pc L stk M = run n J (pc + 1) L (.ref 0 :: stk) M := by
  refine run_next ?_
  unfold sti ins
  rw [hm]
  dsimp only
  rw [hd]
  rfl
theorem r_iconst {k : Int} {v : Int32} (hm : mt J = (o, y, c, ml, rt)) (hd : decode c pc = .ok (.iconst k, 1)) (hv : Int32.ofInt k = v) : run n J pc L stk M = run n J (pc + 1) L (.int v :: stk) M := by
  subst hv
  refine run_next ?_
  unfold sti ins
  rw [hm]
  dsimp only
  rw [hd]
  rfl
theorem r_bipush {k : Int} {v : Int32} (hm : mt J = (o, y, c, ml, rt)) (hd : decode c pc = .ok (.bipush k, 2)) (hv : (Int8.ofInt k).toInt32 = v) : run n J pc L stk M = run n J (pc + 2) L (.int v :: stk) M := by
  subst hv
  refine run_next ?_
  unfold sti ins
  rw [hm]
  dsimp only
  rw [hd]
  rfl
theorem r_sipush {k : Int} {v : Int32} (hm : mt J = (o, y, c, ml, rt)) (hd : decode c pc = .ok (.sipush k, 3)) (hv : (Int16.ofInt k).toInt32 = v) : run n J pc L stk M = run n J (pc + 3) L (.int v :: stk) M := by
  subst hv
  refine run_next ?_
  unfold sti ins
  rw [hm]
  dsimp only
  rw [hd]
  rfl
theorem r_lconst {k : Fin 2} {v : Int64} (hm : mt J = (o, y, c, ml, rt)) (hd : decode c pc = .ok (.lconst k, 1)) (hv : Int64.ofNat k.val = v) : run n J pc L stk M = run n J (pc + 1) L (.long v :: stk) M := by
  subst hv
  refine run_next ?_
  unfold sti ins
  rw [hm]
  dsimp only
  rw [hd]
  rfl
theorem r_ldc {k : Nat} {v : Int32} (hm : mt J = (o, y, c, ml, rt)) (hd : decode c pc = .ok (.ldc k, 2)) (ht : pk itab o k = some v) : run n J pc L stk M = run n J (pc + 2) L (.int v :: stk) M := by
  refine run_next ?_
  unfold sti ins
  rw [hm]
  dsimp only
  rw [hd]
  show (match pk itab (mt J).1 k with | some v => _ | none => _) = _
  rw [hm]
  dsimp only
  rw [ht]
  rfl
theorem r_ldcs {k j : Nat} (hm : mt J = (o, y, c, ml, rt)) (hd : decode c pc = .ok (.ldc k, 2)) (hn : pk itab o k = none) (ht : pk stab o k = some j) : run n J pc L stk M = run n J (pc + 2) L (.ref (j + 2) :: stk) M := by
  refine run_next ?_
  unfold sti ins
  rw [hm]
  dsimp only
  rw [hd]
  show (match pk itab (mt J).1 k with | some v => _ | none => (pk stab (mt J).1 k).bind _) = _
  rw [hm]
  dsimp only
  rw [hn, ht]
  rfl
theorem r_ldc_w {k : Nat} {v : Int32} (hm : mt J = (o, y, c, ml, rt)) (hd : decode c pc = .ok (.ldc_w k, 3)) (ht : pk itab o k = some v) : run n J pc L stk M = run n J (pc + 3) L (.int v :: stk) M := by
  refine run_next ?_
  unfold sti ins
  rw [hm]
  dsimp only
  rw [hd]
  show (match pk itab (mt J).1 k with | some v => _ | none => _) = _
  rw [hm]
  dsimp only
  rw [ht]
  rfl
theorem r_ldc_ws {k j : Nat} (hm : mt J = (o, y, c, ml, rt)) (hd : decode c pc = .ok (.ldc_w k, 3)) (hn : pk itab o k = none) (ht : pk stab o k = some j) : run n J pc L stk M = run n J (pc + 3) L (.ref (j + 2) :: stk) M := by
  refine run_next ?_
  unfold sti ins
  rw [hm]
  dsimp only
  rw [hd]
  show (match pk itab (mt J).1 k with | some v => _ | none => (pk stab (mt J).1 k).bind _) = _
  rw [hm]
  dsimp only
  rw [hn, ht]
  rfl
theorem r_ldc2 {k : Nat} {v : Int64} (hm : mt J = (o, y, c, ml, rt)) (hd : decode c pc = .ok (.ldc2_w k, 3)) (ht : pk jtab o k = some v) : run n J pc L stk M = run n J (pc + 3) L (.long v :: stk) M := by
  refine run_next ?_
  unfold sti ins
  rw [hm]
  dsimp only
  rw [hd]
  show (pk jtab (mt J).1 k).bind _ = _
  rw [hm]
  dsimp only
  rw [ht]
  rfl
theorem r_iload {j : Nat} {x : Int32} (hm : mt J = (o, y, c, ml, rt)) (hd : decode c pc = .ok (.iload j, 2)) (hl : L[j]? = some (.int x)) : run n J pc L stk M = run n J (pc + 2) L (.int x :: stk) M := by
  refine run_next ?_
  unfold sti ins
  rw [hm]
  dsimp only
  rw [hd]
  show ld isI j (pc + 2) L stk M = _
  unfold ld
  rw [hl]
  rfl
theorem r_iload_n {j : Fin 4} {x : Int32} (hm : mt J = (o, y, c, ml, rt)) (hd : decode c pc = .ok (.iload_n j, 1)) (hl : L[j.val]? = some (.int x)) : run n J pc L stk M = run n J (pc + 1) L (.int x :: stk) M := by
  refine run_next ?_
  unfold sti ins
  rw [hm]
  dsimp only
  rw [hd]
  show ld isI j.val (pc + 1) L stk M = _
  unfold ld
  rw [hl]
  rfl
theorem r_lload {j : Nat} {x : Int64} (hm : mt J = (o, y, c, ml, rt)) (hd : decode c pc = .ok (.lload j, 2)) (hl : L[j]? = some (.long x)) : run n J pc L stk M = run n J (pc + 2) L (.long x :: stk) M := by
  refine run_next ?_
  unfold sti ins
  rw [hm]
  dsimp only
  rw [hd]
  show ld isL j (pc + 2) L stk M = _
  unfold ld
  rw [hl]
  rfl
theorem r_lload_n {j : Fin 4} {x : Int64} (hm : mt J = (o, y, c, ml, rt)) (hd : decode c pc = .ok (.lload_n j, 1)) (hl : L[j.val]? = some (.long x)) : run n J pc L stk M = run n J (pc + 1) L (.long x :: stk) M := by
  refine run_next ?_
  unfold sti ins
  rw [hm]
  dsimp only
  rw [hd]
  show ld isL j.val (pc + 1) L stk M = _
  unfold ld
  rw [hl]
  rfl
theorem r_aload {j : Nat} {x : Nat} (hm : mt J = (o, y, c, ml, rt)) (hd : decode c pc = .ok (.aload j, 2)) (hl : L[j]? = some (.ref x)) : run n J pc L stk M = run n J (pc + 2) L (.ref x :: stk) M := by
  refine run_next ?_
  unfold sti ins
  rw [hm]
  dsimp only
  rw [hd]
  show ld isR j (pc + 2) L stk M = _
  unfold ld
  rw [hl]
  rfl
theorem r_aload_n {j : Fin 4} {x : Nat} (hm : mt J = (o, y, c, ml, rt)) (hd : decode c pc = .ok (.aload_n j, 1)) (hl : L[j.val]? = some (.ref x)) : run n J pc L stk M = run n J (pc + 1) L (.ref x :: stk) M := by
  refine run_next ?_
  unfold sti ins
  rw [hm]
  dsimp only
  rw [hd]
  show ld isR j.val (pc + 1) L stk M = _
  unfold ld
  rw [hl]
  rfl
theorem r_istore {j : Nat} {x : Int32} {L' : List Value} (hm : mt J = (o, y, c, ml, rt)) (hd : decode c pc = .ok (.istore j, 2)) (hj : j < L.length) (hs : st1 L j (.int x) = L') : run n J pc L (.int x :: stk) M = run n J (pc + 2) L' stk M := by
  subst hs
  refine run_next ?_
  unfold sti ins
  rw [hm]
  dsimp only
  rw [hd]
  show so isI j (pc + 2) L (.int x :: stk) M = _
  unfold so
  dsimp only
  rw [if_pos ⟨rfl, hj⟩]
  rfl
theorem r_istore_n {j : Fin 4} {x : Int32} {L' : List Value} (hm : mt J = (o, y, c, ml, rt)) (hd : decode c pc = .ok (.istore_n j, 1)) (hj : j.val < L.length) (hs : st1 L j.val (.int x) = L') : run n J pc L (.int x :: stk) M = run n J (pc + 1) L' stk M := by
  subst hs
  refine run_next ?_
  unfold sti ins
  rw [hm]
  dsimp only
  rw [hd]
  show so isI j.val (pc + 1) L (.int x :: stk) M = _
  unfold so
  dsimp only
  rw [if_pos ⟨rfl, hj⟩]
  rfl
theorem r_astore {j : Nat} {x : Nat} {L' : List Value} (hm : mt J = (o, y, c, ml, rt)) (hd : decode c pc = .ok (.astore j, 2)) (hj : j < L.length) (hs : st1 L j (.ref x) = L') : run n J pc L (.ref x :: stk) M = run n J (pc + 2) L' stk M := by
  subst hs
  refine run_next ?_
  unfold sti ins
  rw [hm]
  dsimp only
  rw [hd]
  show so isR j (pc + 2) L (.ref x :: stk) M = _
  unfold so
  dsimp only
  rw [if_pos ⟨rfl, hj⟩]
  rfl
theorem r_astore_n {j : Fin 4} {x : Nat} {L' : List Value} (hm : mt J = (o, y, c, ml, rt)) (hd : decode c pc = .ok (.astore_n j, 1)) (hj : j.val < L.length) (hs : st1 L j.val (.ref x) = L') : run n J pc L (.ref x :: stk) M = run n J (pc + 1) L' stk M := by
  subst hs
  refine run_next ?_
  unfold sti ins
  rw [hm]
  dsimp only
  rw [hd]
  show so isR j.val (pc + 1) L (.ref x :: stk) M = _
  unfold so
  dsimp only
  rw [if_pos ⟨rfl, hj⟩]
  rfl
theorem r_lstore {j : Nat} {x : Int64} {L' : List Value} (hm : mt J = (o, y, c, ml, rt)) (hd : decode c pc = .ok (.lstore j, 2)) (hj : j + 1 < L.length) (hs : st2 L j (.long x) = L') : run n J pc L (.long x :: stk) M = run n J (pc + 2) L' stk M := by
  subst hs
  refine run_next ?_
  unfold sti ins
  rw [hm]
  dsimp only
  rw [hd]
  show soL j (pc + 2) L (.long x :: stk) M = _
  unfold soL
  dsimp only
  rw [if_pos hj]
  rfl
theorem r_lstore_n {j : Fin 4} {x : Int64} {L' : List Value} (hm : mt J = (o, y, c, ml, rt)) (hd : decode c pc = .ok (.lstore_n j, 1)) (hj : j.val + 1 < L.length) (hs : st2 L j.val (.long x) = L') : run n J pc L (.long x :: stk) M = run n J (pc + 1) L' stk M := by
  subst hs
  refine run_next ?_
  unfold sti ins
  rw [hm]
  dsimp only
  rw [hd]
  show soL j.val (pc + 1) L (.long x :: stk) M = _
  unfold soL
  dsimp only
  rw [if_pos hj]
  rfl
theorem r_iinc {j : Nat} {k : Int} {x v : Int32} {L' : List Value} (hm : mt J = (o, y, c, ml, rt)) (hd : decode c pc = .ok (.iinc j k, 3)) (hl : L[j]? = some (.int x)) (hv : Int32.ofInt k = v) (hs : st1 L j (.int (x + v)) = L') : run n J pc L stk M = run n J (pc + 3) L' stk M := by
  subst hv
  subst hs
  refine run_next ?_
  unfold sti ins
  rw [hm]
  dsimp only
  rw [hd]
  show stp J (.iinc j k) pc L stk M = _
  unfold stp
  dsimp only
  rw [hl]
  rfl
theorem r_iadd {x z : Int32} (hm : mt J = (o, y, c, ml, rt)) (hd : decode c pc = .ok (.iadd, 1))  : run n J pc L (.int z :: .int x :: stk) M = run n J (pc + 1) L (.int (x + z) :: stk) M := by
  refine run_next ?_
  unfold sti ins
  rw [hm]
  dsimp only
  rw [hd]
  rfl
theorem r_isub {x z : Int32} (hm : mt J = (o, y, c, ml, rt)) (hd : decode c pc = .ok (.isub, 1))  : run n J pc L (.int z :: .int x :: stk) M = run n J (pc + 1) L (.int (x - z) :: stk) M := by
  refine run_next ?_
  unfold sti ins
  rw [hm]
  dsimp only
  rw [hd]
  rfl
theorem r_imul {x z : Int32} (hm : mt J = (o, y, c, ml, rt)) (hd : decode c pc = .ok (.imul, 1))  : run n J pc L (.int z :: .int x :: stk) M = run n J (pc + 1) L (.int (x * z) :: stk) M := by
  refine run_next ?_
  unfold sti ins
  rw [hm]
  dsimp only
  rw [hd]
  rfl
theorem r_iand {x z : Int32} (hm : mt J = (o, y, c, ml, rt)) (hd : decode c pc = .ok (.iand, 1))  : run n J pc L (.int z :: .int x :: stk) M = run n J (pc + 1) L (.int (x &&& z) :: stk) M := by
  refine run_next ?_
  unfold sti ins
  rw [hm]
  dsimp only
  rw [hd]
  rfl
theorem r_ior {x z : Int32} (hm : mt J = (o, y, c, ml, rt)) (hd : decode c pc = .ok (.ior, 1))  : run n J pc L (.int z :: .int x :: stk) M = run n J (pc + 1) L (.int (x ||| z) :: stk) M := by
  refine run_next ?_
  unfold sti ins
  rw [hm]
  dsimp only
  rw [hd]
  rfl
theorem r_ishl {x z : Int32} (hm : mt J = (o, y, c, ml, rt)) (hd : decode c pc = .ok (.ishl, 1))  : run n J pc L (.int z :: .int x :: stk) M = run n J (pc + 1) L (.int (x <<< (z &&& 31)) :: stk) M := by
  refine run_next ?_
  unfold sti ins
  rw [hm]
  dsimp only
  rw [hd]
  rfl
theorem r_ishr {x z : Int32} (hm : mt J = (o, y, c, ml, rt)) (hd : decode c pc = .ok (.ishr, 1))  : run n J pc L (.int z :: .int x :: stk) M = run n J (pc + 1) L (.int (x >>> (z &&& 31)) :: stk) M := by
  refine run_next ?_
  unfold sti ins
  rw [hm]
  dsimp only
  rw [hd]
  rfl
theorem r_idiv {x z : Int32} (hm : mt J = (o, y, c, ml, rt)) (hd : decode c pc = .ok (.idiv, 1)) (hz : ¬ z = 0) : run n J pc L (.int z :: .int x :: stk) M = run n J (pc + 1) L (.int (x / z) :: stk) M := by
  refine run_next ?_
  unfold sti ins
  rw [hm]
  dsimp only
  rw [hd]
  show (if z = 0 then none else some (x / z)).bind _ = _
  rw [if_neg hz]
  rfl
theorem r_irem {x z : Int32} (hm : mt J = (o, y, c, ml, rt)) (hd : decode c pc = .ok (.irem, 1)) (hz : ¬ z = 0) : run n J pc L (.int z :: .int x :: stk) M = run n J (pc + 1) L (.int (x - x / z * z) :: stk) M := by
  refine run_next ?_
  unfold sti ins
  rw [hm]
  dsimp only
  rw [hd]
  show (if z = 0 then none else some (x - x / z * z)).bind _ = _
  rw [if_neg hz]
  rfl
theorem r_ladd {x z : Int64} (hm : mt J = (o, y, c, ml, rt)) (hd : decode c pc = .ok (.ladd, 1))  : run n J pc L (.long z :: .long x :: stk) M = run n J (pc + 1) L (.long (x + z) :: stk) M := by
  refine run_next ?_
  unfold sti ins
  rw [hm]
  dsimp only
  rw [hd]
  rfl
theorem r_lsub {x z : Int64} (hm : mt J = (o, y, c, ml, rt)) (hd : decode c pc = .ok (.lsub, 1))  : run n J pc L (.long z :: .long x :: stk) M = run n J (pc + 1) L (.long (x - z) :: stk) M := by
  refine run_next ?_
  unfold sti ins
  rw [hm]
  dsimp only
  rw [hd]
  rfl
theorem r_lmul {x z : Int64} (hm : mt J = (o, y, c, ml, rt)) (hd : decode c pc = .ok (.lmul, 1))  : run n J pc L (.long z :: .long x :: stk) M = run n J (pc + 1) L (.long (x * z) :: stk) M := by
  refine run_next ?_
  unfold sti ins
  rw [hm]
  dsimp only
  rw [hd]
  rfl
theorem r_land {x z : Int64} (hm : mt J = (o, y, c, ml, rt)) (hd : decode c pc = .ok (.land, 1))  : run n J pc L (.long z :: .long x :: stk) M = run n J (pc + 1) L (.long (x &&& z) :: stk) M := by
  refine run_next ?_
  unfold sti ins
  rw [hm]
  dsimp only
  rw [hd]
  rfl
theorem r_lor {x z : Int64} (hm : mt J = (o, y, c, ml, rt)) (hd : decode c pc = .ok (.lor, 1))  : run n J pc L (.long z :: .long x :: stk) M = run n J (pc + 1) L (.long (x ||| z) :: stk) M := by
  refine run_next ?_
  unfold sti ins
  rw [hm]
  dsimp only
  rw [hd]
  rfl
theorem r_ldiv {x z : Int64} (hm : mt J = (o, y, c, ml, rt)) (hd : decode c pc = .ok (.ldiv, 1)) (hz : ¬ z = 0) : run n J pc L (.long z :: .long x :: stk) M = run n J (pc + 1) L (.long (x / z) :: stk) M := by
  refine run_next ?_
  unfold sti ins
  rw [hm]
  dsimp only
  rw [hd]
  show (if z = 0 then none else some (x / z)).bind _ = _
  rw [if_neg hz]
  rfl
theorem r_lrem {x z : Int64} (hm : mt J = (o, y, c, ml, rt)) (hd : decode c pc = .ok (.lrem, 1)) (hz : ¬ z = 0) : run n J pc L (.long z :: .long x :: stk) M = run n J (pc + 1) L (.long (x - x / z * z) :: stk) M := by
  refine run_next ?_
  unfold sti ins
  rw [hm]
  dsimp only
  rw [hd]
  show (if z = 0 then none else some (x - x / z * z)).bind _ = _
  rw [if_neg hz]
  rfl
theorem r_ineg {x : Int32} (hm : mt J = (o, y, c, ml, rt)) (hd : decode c pc = .ok (.ineg, 1))  : run n J pc L (.int x :: stk) M = run n J (pc + 1) L (.int (-x) :: stk) M := by
  refine run_next ?_
  unfold sti ins
  rw [hm]
  dsimp only
  rw [hd]
  rfl
theorem r_i2l {x : Int32} (hm : mt J = (o, y, c, ml, rt)) (hd : decode c pc = .ok (.i2l, 1))  : run n J pc L (.int x :: stk) M = run n J (pc + 1) L (.long x.toInt64 :: stk) M := by
  refine run_next ?_
  unfold sti ins
  rw [hm]
  dsimp only
  rw [hd]
  rfl
theorem r_l2i {x : Int64} (hm : mt J = (o, y, c, ml, rt)) (hd : decode c pc = .ok (.l2i, 1))  : run n J pc L (.long x :: stk) M = run n J (pc + 1) L (.int x.toInt32 :: stk) M := by
  refine run_next ?_
  unfold sti ins
  rw [hm]
  dsimp only
  rw [hd]
  rfl
theorem r_i2b {x : Int32} (hm : mt J = (o, y, c, ml, rt)) (hd : decode c pc = .ok (.i2b, 1))  : run n J pc L (.int x :: stk) M = run n J (pc + 1) L (.int x.toInt8.toInt32 :: stk) M := by
  refine run_next ?_
  unfold sti ins
  rw [hm]
  dsimp only
  rw [hd]
  rfl
theorem r_lcmp {x z : Int64} (hm : mt J = (o, y, c, ml, rt)) (hd : decode c pc = .ok (.lcmp, 1))  : run n J pc L (.long z :: .long x :: stk) M = run n J (pc + 1) L (.int (lg_cmp x z) :: stk) M := by
  refine run_next ?_
  unfold sti ins
  rw [hm]
  dsimp only
  rw [hd]
  rfl
theorem r_dup {v : Value} (hm : mt J = (o, y, c, ml, rt)) (hd : decode c pc = .ok (.dup, 1)) (hc : v.category = 1) : run n J pc L (v :: stk) M = run n J (pc + 1) L (v :: v :: stk) M := by
  refine run_next ?_
  unfold sti ins
  rw [hm]
  dsimp only
  rw [hd]
  show (if v.category = 1 then _ else _) = _
  rw [if_pos hc]
  rfl
theorem r_dup2 {v w : Value} (hm : mt J = (o, y, c, ml, rt)) (hd : decode c pc = .ok (.dup2, 1)) (hc : v.category = 1) (hw : w.category = 1) : run n J pc L (v :: w :: stk) M = run n J (pc + 1) L (v :: w :: v :: w :: stk) M := by
  refine run_next ?_
  unfold sti ins
  rw [hm]
  dsimp only
  rw [hd]
  show (if v.category = 1 ∧ w.category = 1 then _ else _) = _
  rw [if_pos ⟨hc, hw⟩]
  rfl
theorem r_pop {v : Value} (hm : mt J = (o, y, c, ml, rt)) (hd : decode c pc = .ok (.pop, 1)) (hc : v.category = 1) : run n J pc L (v :: stk) M = run n J (pc + 1) L stk M := by
  refine run_next ?_
  unfold sti ins
  rw [hm]
  dsimp only
  rw [hd]
  show (if v.category = 1 then _ else _) = _
  rw [if_pos hc]
  rfl
theorem r_if_eq {x : Int32} {off : Int} {t : Nat} (hm : mt J = (o, y, c, ml, rt)) (hd : decode c pc = .ok (.ifCond .eq off, 3)) (ht : (pc : Int) + off = (t : Int)) : run n J pc L (.int x :: stk) M = if x = 0 then run n J t L stk M else run n J (pc + 3) L stk M := by
  by_cases h : x = 0
  · rw [if_pos h]
    refine run_next ?_
    unfold sti ins
    rw [hm]
    dsimp only
    rw [hd]
    show (if cT .eq x 0 = true then jmp pc off L stk M else if 0 ≤ (pc : Int) + off then nxt (pc + 3) L stk M else none) = _
    rw [if_pos (by simpa [cT] using h), jmp, ht, if_pos (Int.natCast_nonneg t), Int.toNat_natCast]
    rfl
  · rw [if_neg h]
    refine run_next ?_
    unfold sti ins
    rw [hm]
    dsimp only
    rw [hd]
    show (if cT .eq x 0 = true then jmp pc off L stk M else if 0 ≤ (pc : Int) + off then nxt (pc + 3) L stk M else none) = _
    rw [if_neg (by simpa [cT] using h), ht, if_pos (Int.natCast_nonneg t)]
    rfl
theorem r_icmp_eq {x z : Int32} {off : Int} {t : Nat} (hm : mt J = (o, y, c, ml, rt)) (hd : decode c pc = .ok (.if_icmp .eq off, 3)) (ht : (pc : Int) + off = (t : Int)) : run n J pc L (.int z :: .int x :: stk) M = if x = z then run n J t L stk M else run n J (pc + 3) L stk M := by
  by_cases h : x = z
  · rw [if_pos h]
    refine run_next ?_
    unfold sti ins
    rw [hm]
    dsimp only
    rw [hd]
    show (if cT .eq x z = true then jmp pc off L stk M else if 0 ≤ (pc : Int) + off then nxt (pc + 3) L stk M else none) = _
    rw [if_pos (by simpa [cT] using h), jmp, ht, if_pos (Int.natCast_nonneg t), Int.toNat_natCast]
    rfl
  · rw [if_neg h]
    refine run_next ?_
    unfold sti ins
    rw [hm]
    dsimp only
    rw [hd]
    show (if cT .eq x z = true then jmp pc off L stk M else if 0 ≤ (pc : Int) + off then nxt (pc + 3) L stk M else none) = _
    rw [if_neg (by simpa [cT] using h), ht, if_pos (Int.natCast_nonneg t)]
    rfl
theorem r_if_ne {x : Int32} {off : Int} {t : Nat} (hm : mt J = (o, y, c, ml, rt)) (hd : decode c pc = .ok (.ifCond .ne off, 3)) (ht : (pc : Int) + off = (t : Int)) : run n J pc L (.int x :: stk) M = if ¬ x = 0 then run n J t L stk M else run n J (pc + 3) L stk M := by
  by_cases h : ¬ x = 0
  · rw [if_pos h]
    refine run_next ?_
    unfold sti ins
    rw [hm]
    dsimp only
    rw [hd]
    show (if cT .ne x 0 = true then jmp pc off L stk M else if 0 ≤ (pc : Int) + off then nxt (pc + 3) L stk M else none) = _
    rw [if_pos (by simpa [cT] using h), jmp, ht, if_pos (Int.natCast_nonneg t), Int.toNat_natCast]
    rfl
  · rw [if_neg h]
    refine run_next ?_
    unfold sti ins
    rw [hm]
    dsimp only
    rw [hd]
    show (if cT .ne x 0 = true then jmp pc off L stk M else if 0 ≤ (pc : Int) + off then nxt (pc + 3) L stk M else none) = _
    rw [if_neg (by simpa [cT] using h), ht, if_pos (Int.natCast_nonneg t)]
    rfl
theorem r_icmp_ne {x z : Int32} {off : Int} {t : Nat} (hm : mt J = (o, y, c, ml, rt)) (hd : decode c pc = .ok (.if_icmp .ne off, 3)) (ht : (pc : Int) + off = (t : Int)) : run n J pc L (.int z :: .int x :: stk) M = if ¬ x = z then run n J t L stk M else run n J (pc + 3) L stk M := by
  by_cases h : ¬ x = z
  · rw [if_pos h]
    refine run_next ?_
    unfold sti ins
    rw [hm]
    dsimp only
    rw [hd]
    show (if cT .ne x z = true then jmp pc off L stk M else if 0 ≤ (pc : Int) + off then nxt (pc + 3) L stk M else none) = _
    rw [if_pos (by simpa [cT] using h), jmp, ht, if_pos (Int.natCast_nonneg t), Int.toNat_natCast]
    rfl
  · rw [if_neg h]
    refine run_next ?_
    unfold sti ins
    rw [hm]
    dsimp only
    rw [hd]
    show (if cT .ne x z = true then jmp pc off L stk M else if 0 ≤ (pc : Int) + off then nxt (pc + 3) L stk M else none) = _
    rw [if_neg (by simpa [cT] using h), ht, if_pos (Int.natCast_nonneg t)]
    rfl
theorem r_if_lt {x : Int32} {off : Int} {t : Nat} (hm : mt J = (o, y, c, ml, rt)) (hd : decode c pc = .ok (.ifCond .lt off, 3)) (ht : (pc : Int) + off = (t : Int)) : run n J pc L (.int x :: stk) M = if x < 0 then run n J t L stk M else run n J (pc + 3) L stk M := by
  by_cases h : x < 0
  · rw [if_pos h]
    refine run_next ?_
    unfold sti ins
    rw [hm]
    dsimp only
    rw [hd]
    show (if cT .lt x 0 = true then jmp pc off L stk M else if 0 ≤ (pc : Int) + off then nxt (pc + 3) L stk M else none) = _
    rw [if_pos (by simpa [cT] using h), jmp, ht, if_pos (Int.natCast_nonneg t), Int.toNat_natCast]
    rfl
  · rw [if_neg h]
    refine run_next ?_
    unfold sti ins
    rw [hm]
    dsimp only
    rw [hd]
    show (if cT .lt x 0 = true then jmp pc off L stk M else if 0 ≤ (pc : Int) + off then nxt (pc + 3) L stk M else none) = _
    rw [if_neg (by simpa [cT] using h), ht, if_pos (Int.natCast_nonneg t)]
    rfl
theorem r_icmp_lt {x z : Int32} {off : Int} {t : Nat} (hm : mt J = (o, y, c, ml, rt)) (hd : decode c pc = .ok (.if_icmp .lt off, 3)) (ht : (pc : Int) + off = (t : Int)) : run n J pc L (.int z :: .int x :: stk) M = if x < z then run n J t L stk M else run n J (pc + 3) L stk M := by
  by_cases h : x < z
  · rw [if_pos h]
    refine run_next ?_
    unfold sti ins
    rw [hm]
    dsimp only
    rw [hd]
    show (if cT .lt x z = true then jmp pc off L stk M else if 0 ≤ (pc : Int) + off then nxt (pc + 3) L stk M else none) = _
    rw [if_pos (by simpa [cT] using h), jmp, ht, if_pos (Int.natCast_nonneg t), Int.toNat_natCast]
    rfl
  · rw [if_neg h]
    refine run_next ?_
    unfold sti ins
    rw [hm]
    dsimp only
    rw [hd]
    show (if cT .lt x z = true then jmp pc off L stk M else if 0 ≤ (pc : Int) + off then nxt (pc + 3) L stk M else none) = _
    rw [if_neg (by simpa [cT] using h), ht, if_pos (Int.natCast_nonneg t)]
    rfl
theorem r_if_ge {x : Int32} {off : Int} {t : Nat} (hm : mt J = (o, y, c, ml, rt)) (hd : decode c pc = .ok (.ifCond .ge off, 3)) (ht : (pc : Int) + off = (t : Int)) : run n J pc L (.int x :: stk) M = if ¬ x < 0 then run n J t L stk M else run n J (pc + 3) L stk M := by
  by_cases h : ¬ x < 0
  · rw [if_pos h]
    refine run_next ?_
    unfold sti ins
    rw [hm]
    dsimp only
    rw [hd]
    show (if cT .ge x 0 = true then jmp pc off L stk M else if 0 ≤ (pc : Int) + off then nxt (pc + 3) L stk M else none) = _
    rw [if_pos (by simpa [cT] using h), jmp, ht, if_pos (Int.natCast_nonneg t), Int.toNat_natCast]
    rfl
  · rw [if_neg h]
    refine run_next ?_
    unfold sti ins
    rw [hm]
    dsimp only
    rw [hd]
    show (if cT .ge x 0 = true then jmp pc off L stk M else if 0 ≤ (pc : Int) + off then nxt (pc + 3) L stk M else none) = _
    rw [if_neg (by simpa [cT] using h), ht, if_pos (Int.natCast_nonneg t)]
    rfl
theorem r_icmp_ge {x z : Int32} {off : Int} {t : Nat} (hm : mt J = (o, y, c, ml, rt)) (hd : decode c pc = .ok (.if_icmp .ge off, 3)) (ht : (pc : Int) + off = (t : Int)) : run n J pc L (.int z :: .int x :: stk) M = if ¬ x < z then run n J t L stk M else run n J (pc + 3) L stk M := by
  by_cases h : ¬ x < z
  · rw [if_pos h]
    refine run_next ?_
    unfold sti ins
    rw [hm]
    dsimp only
    rw [hd]
    show (if cT .ge x z = true then jmp pc off L stk M else if 0 ≤ (pc : Int) + off then nxt (pc + 3) L stk M else none) = _
    rw [if_pos (by simpa [cT] using h), jmp, ht, if_pos (Int.natCast_nonneg t), Int.toNat_natCast]
    rfl
  · rw [if_neg h]
    refine run_next ?_
    unfold sti ins
    rw [hm]
    dsimp only
    rw [hd]
    show (if cT .ge x z = true then jmp pc off L stk M else if 0 ≤ (pc : Int) + off then nxt (pc + 3) L stk M else none) = _
    rw [if_neg (by simpa [cT] using h), ht, if_pos (Int.natCast_nonneg t)]
    rfl
theorem r_if_gt {x : Int32} {off : Int} {t : Nat} (hm : mt J = (o, y, c, ml, rt)) (hd : decode c pc = .ok (.ifCond .gt off, 3)) (ht : (pc : Int) + off = (t : Int)) : run n J pc L (.int x :: stk) M = if 0 < x then run n J t L stk M else run n J (pc + 3) L stk M := by
  by_cases h : 0 < x
  · rw [if_pos h]
    refine run_next ?_
    unfold sti ins
    rw [hm]
    dsimp only
    rw [hd]
    show (if cT .gt x 0 = true then jmp pc off L stk M else if 0 ≤ (pc : Int) + off then nxt (pc + 3) L stk M else none) = _
    rw [if_pos (by simpa [cT] using h), jmp, ht, if_pos (Int.natCast_nonneg t), Int.toNat_natCast]
    rfl
  · rw [if_neg h]
    refine run_next ?_
    unfold sti ins
    rw [hm]
    dsimp only
    rw [hd]
    show (if cT .gt x 0 = true then jmp pc off L stk M else if 0 ≤ (pc : Int) + off then nxt (pc + 3) L stk M else none) = _
    rw [if_neg (by simpa [cT] using h), ht, if_pos (Int.natCast_nonneg t)]
    rfl
theorem r_icmp_gt {x z : Int32} {off : Int} {t : Nat} (hm : mt J = (o, y, c, ml, rt)) (hd : decode c pc = .ok (.if_icmp .gt off, 3)) (ht : (pc : Int) + off = (t : Int)) : run n J pc L (.int z :: .int x :: stk) M = if z < x then run n J t L stk M else run n J (pc + 3) L stk M := by
  by_cases h : z < x
  · rw [if_pos h]
    refine run_next ?_
    unfold sti ins
    rw [hm]
    dsimp only
    rw [hd]
    show (if cT .gt x z = true then jmp pc off L stk M else if 0 ≤ (pc : Int) + off then nxt (pc + 3) L stk M else none) = _
    rw [if_pos (by simpa [cT] using h), jmp, ht, if_pos (Int.natCast_nonneg t), Int.toNat_natCast]
    rfl
  · rw [if_neg h]
    refine run_next ?_
    unfold sti ins
    rw [hm]
    dsimp only
    rw [hd]
    show (if cT .gt x z = true then jmp pc off L stk M else if 0 ≤ (pc : Int) + off then nxt (pc + 3) L stk M else none) = _
    rw [if_neg (by simpa [cT] using h), ht, if_pos (Int.natCast_nonneg t)]
    rfl
theorem r_if_le {x : Int32} {off : Int} {t : Nat} (hm : mt J = (o, y, c, ml, rt)) (hd : decode c pc = .ok (.ifCond .le off, 3)) (ht : (pc : Int) + off = (t : Int)) : run n J pc L (.int x :: stk) M = if ¬ 0 < x then run n J t L stk M else run n J (pc + 3) L stk M := by
  by_cases h : ¬ 0 < x
  · rw [if_pos h]
    refine run_next ?_
    unfold sti ins
    rw [hm]
    dsimp only
    rw [hd]
    show (if cT .le x 0 = true then jmp pc off L stk M else if 0 ≤ (pc : Int) + off then nxt (pc + 3) L stk M else none) = _
    rw [if_pos (by simpa [cT] using h), jmp, ht, if_pos (Int.natCast_nonneg t), Int.toNat_natCast]
    rfl
  · rw [if_neg h]
    refine run_next ?_
    unfold sti ins
    rw [hm]
    dsimp only
    rw [hd]
    show (if cT .le x 0 = true then jmp pc off L stk M else if 0 ≤ (pc : Int) + off then nxt (pc + 3) L stk M else none) = _
    rw [if_neg (by simpa [cT] using h), ht, if_pos (Int.natCast_nonneg t)]
    rfl
theorem r_icmp_le {x z : Int32} {off : Int} {t : Nat} (hm : mt J = (o, y, c, ml, rt)) (hd : decode c pc = .ok (.if_icmp .le off, 3)) (ht : (pc : Int) + off = (t : Int)) : run n J pc L (.int z :: .int x :: stk) M = if ¬ z < x then run n J t L stk M else run n J (pc + 3) L stk M := by
  by_cases h : ¬ z < x
  · rw [if_pos h]
    refine run_next ?_
    unfold sti ins
    rw [hm]
    dsimp only
    rw [hd]
    show (if cT .le x z = true then jmp pc off L stk M else if 0 ≤ (pc : Int) + off then nxt (pc + 3) L stk M else none) = _
    rw [if_pos (by simpa [cT] using h), jmp, ht, if_pos (Int.natCast_nonneg t), Int.toNat_natCast]
    rfl
  · rw [if_neg h]
    refine run_next ?_
    unfold sti ins
    rw [hm]
    dsimp only
    rw [hd]
    show (if cT .le x z = true then jmp pc off L stk M else if 0 ≤ (pc : Int) + off then nxt (pc + 3) L stk M else none) = _
    rw [if_neg (by simpa [cT] using h), ht, if_pos (Int.natCast_nonneg t)]
    rfl
theorem r_goto {off : Int} {t : Nat} (hm : mt J = (o, y, c, ml, rt)) (hd : decode c pc = .ok (.goto off, 3)) (ht : (pc : Int) + off = (t : Int)) : run n J pc L stk M = run n J t L stk M := by
  refine run_next ?_
  unfold sti ins
  rw [hm]
  dsimp only
  rw [hd]
  show jmp pc off L stk M = _
  rw [jmp, ht, if_pos (Int.natCast_nonneg t), Int.toNat_natCast]
  rfl
theorem r_ifnonnull {off : Int} {t a : Nat} (hm : mt J = (o, y, c, ml, rt)) (hd : decode c pc = .ok (.ifnonnull off, 3)) (ht : (pc : Int) + off = (t : Int)) : run n J pc L (.ref a :: stk) M = if a = 0 then run n J (pc + 3) L stk M else run n J t L stk M := by
  by_cases h : a = 0
  · rw [if_pos h]
    refine run_next ?_
    unfold sti ins
    rw [hm]
    dsimp only
    rw [hd]
    show (if a = 0 then nxt (pc + 3) L stk M else jmp pc off L stk M) = _
    rw [if_pos h]
    rfl
  · rw [if_neg h]
    refine run_next ?_
    unfold sti ins
    rw [hm]
    dsimp only
    rw [hd]
    show (if a = 0 then nxt (pc + 3) L stk M else jmp pc off L stk M) = _
    rw [if_neg h, jmp, ht, if_pos (Int.natCast_nonneg t), Int.toNat_natCast]
    rfl
theorem r_geti {k a ci q : Nat} (hm : mt J = (o, y, c, ml, rt)) (hd : decode c pc = .ok (.getfield k, 3)) (ht : pk ftab o k = some (ci, q)) (hk : mK M a = ci) (hq : q < nF ci) (hr : rfF ci q = false) : run n J pc L (.ref a :: stk) M = run n J (pc + 3) L (.int (mI M a q) :: stk) M := by
  refine run_next ?_
  unfold sti ins
  rw [hm]
  dsimp only
  rw [hd]
  show (pk ftab (mt J).1 k).bind _ = _
  rw [hm]
  dsimp only
  rw [ht]
  show (if mK M a = ci ∧ q < nF ci then _ else _) = _
  rw [if_pos ⟨hk, hq⟩, hr]
  rfl
theorem r_getr {k a ci q : Nat} (hm : mt J = (o, y, c, ml, rt)) (hd : decode c pc = .ok (.getfield k, 3)) (ht : pk ftab o k = some (ci, q)) (hk : mK M a = ci) (hq : q < nF ci) (hr : rfF ci q = true) : run n J pc L (.ref a :: stk) M = run n J (pc + 3) L (.ref (mR M a q) :: stk) M := by
  refine run_next ?_
  unfold sti ins
  rw [hm]
  dsimp only
  rw [hd]
  show (pk ftab (mt J).1 k).bind _ = _
  rw [hm]
  dsimp only
  rw [ht]
  show (if mK M a = ci ∧ q < nF ci then _ else _) = _
  rw [if_pos ⟨hk, hq⟩, hr]
  rfl
theorem r_puti {k a ci q : Nat} {x : Int32} (hm : mt J = (o, y, c, ml, rt)) (hd : decode c pc = .ok (.putfield k, 3)) (ht : pk ftab o k = some (ci, q)) (hk : mK M a = ci) (hq : q < nF ci) (hf : (TF ci q).2.2.2 = false ∨ (y.name = "<init>" ∧ o = ci)) (hr : rfF ci q = false) (hb : bty ci q x = true) : run n J pc L (.int x :: .ref a :: stk) M = run n J (pc + 3) L stk (wI M a q x) := by
  refine run_next ?_
  unfold sti ins
  rw [hm]
  dsimp only
  rw [hd]
  show (pk ftab (mt J).1 k).bind _ = _
  rw [hm]
  dsimp only
  rw [ht]
  show (if mK M a = ci ∧ q < nF ci ∧ ((TF ci q).2.2.2 = false ∨ (y.name = "<init>" ∧ o = ci)) then _ else _) = _
  rw [if_pos ⟨hk, hq, hf⟩]
  show (if rfF ci q = false ∧ bty ci q x = true then _ else _) = _
  rw [if_pos ⟨hr, hb⟩]
  rfl
theorem r_putr {k a ci q b : Nat} (hm : mt J = (o, y, c, ml, rt)) (hd : decode c pc = .ok (.putfield k, 3)) (ht : pk ftab o k = some (ci, q)) (hk : mK M a = ci) (hq : q < nF ci) (hf : (TF ci q).2.2.2 = false ∨ (y.name = "<init>" ∧ o = ci)) (hr : rfF ci q = true) : run n J pc L (.ref b :: .ref a :: stk) M = run n J (pc + 3) L stk (wR M a q b) := by
  refine run_next ?_
  unfold sti ins
  rw [hm]
  dsimp only
  rw [hd]
  show (pk ftab (mt J).1 k).bind _ = _
  rw [hm]
  dsimp only
  rw [ht]
  show (if mK M a = ci ∧ q < nF ci ∧ ((TF ci q).2.2.2 = false ∨ (y.name = "<init>" ∧ o = ci)) then _ else _) = _
  rw [if_pos ⟨hk, hq, hf⟩]
  show (if rfF ci q = true then _ else _) = _
  rw [if_pos hr]
  rfl
theorem r_iald {a : Nat} {j : Int32} (hm : mt J = (o, y, c, ml, rt)) (hd : decode c pc = .ok (.iaload, 1)) (hk : mK M a = 12) (hj : ib j (mN M a)) : run n J pc L (.int j :: .ref a :: stk) M = run n J (pc + 1) L (.int (mI M a j.toNatClampNeg) :: stk) M := by
  refine run_next ?_
  unfold sti ins
  rw [hm]
  dsimp only
  rw [hd]
  show (if (mK M a = 12 ∨ mK M a = 20) ∧ ib j (mN M a) then _ else _) = _
  rw [if_pos ⟨Or.inl hk, hj⟩]
  rfl
theorem r_sald {a : Nat} {j : Int32} (hm : mt J = (o, y, c, ml, rt)) (hd : decode c pc = .ok (.iaload, 1)) (hk : mK M a = 20) (hj : ib j (mN M a)) : run n J pc L (.int j :: .ref a :: stk) M = run n J (pc + 1) L (.int (mI M a j.toNatClampNeg) :: stk) M := by
  refine run_next ?_
  unfold sti ins
  rw [hm]
  dsimp only
  rw [hd]
  show (if (mK M a = 12 ∨ mK M a = 20) ∧ ib j (mN M a) then _ else _) = _
  rw [if_pos ⟨Or.inr hk, hj⟩]
  rfl
theorem r_bald {a : Nat} {j : Int32} (hm : mt J = (o, y, c, ml, rt)) (hd : decode c pc = .ok (.baload, 1)) (hk : mK M a = 13) (hj : ib j (mN M a)) : run n J pc L (.int j :: .ref a :: stk) M = run n J (pc + 1) L (.int (mI M a j.toNatClampNeg) :: stk) M := by
  refine run_next ?_
  unfold sti ins
  rw [hm]
  dsimp only
  rw [hd]
  show (if (mK M a = 13 ∨ mK M a = 14) ∧ ib j (mN M a) then _ else _) = _
  rw [if_pos ⟨Or.inl hk, hj⟩]
  rfl
theorem r_zald {a : Nat} {j : Int32} (hm : mt J = (o, y, c, ml, rt)) (hd : decode c pc = .ok (.baload, 1)) (hk : mK M a = 14) (hj : ib j (mN M a)) : run n J pc L (.int j :: .ref a :: stk) M = run n J (pc + 1) L (.int (mI M a j.toNatClampNeg) :: stk) M := by
  refine run_next ?_
  unfold sti ins
  rw [hm]
  dsimp only
  rw [hd]
  show (if (mK M a = 13 ∨ mK M a = 14) ∧ ib j (mN M a) then _ else _) = _
  rw [if_pos ⟨Or.inr hk, hj⟩]
  rfl
theorem r_lald {a : Nat} {j : Int32} (hm : mt J = (o, y, c, ml, rt)) (hd : decode c pc = .ok (.laload, 1)) (hk : mK M a = 15) (hj : ib j (mN M a)) : run n J pc L (.int j :: .ref a :: stk) M = run n J (pc + 1) L (.long (mL M a j.toNatClampNeg) :: stk) M := by
  refine run_next ?_
  unfold sti ins
  rw [hm]
  dsimp only
  rw [hd]
  show (if mK M a = 15 ∧ ib j (mN M a) then _ else _) = _
  rw [if_pos ⟨hk, hj⟩]
  rfl
theorem r_aald {a : Nat} {j : Int32} (hm : mt J = (o, y, c, ml, rt)) (hd : decode c pc = .ok (.aaload, 1)) {ki : Nat} (hk : mK M a = ki) (h16 : 16 ≤ ki) (h20 : ki < 20) (hj : ib j (mN M a)) : run n J pc L (.int j :: .ref a :: stk) M = run n J (pc + 1) L (.ref (mR M a j.toNatClampNeg) :: stk) M := by
  refine run_next ?_
  unfold sti ins
  rw [hm]
  dsimp only
  rw [hd]
  show (if (16 ≤ mK M a ∧ mK M a < 20) ∧ ib j (mN M a) then _ else _) = _
  rw [if_pos ⟨⟨by rw [hk]; exact h16, by rw [hk]; exact h20⟩, hj⟩]
  rfl
theorem r_iast {a : Nat} {j x : Int32} (hm : mt J = (o, y, c, ml, rt)) (hd : decode c pc = .ok (.iastore, 1)) (hk : mK M a = 12) (hj : ib j (mN M a)) : run n J pc L (.int x :: .int j :: .ref a :: stk) M = run n J (pc + 1) L stk (wI M a j.toNatClampNeg x) := by
  refine run_next ?_
  unfold sti ins
  rw [hm]
  dsimp only
  rw [hd]
  show (if mK M a = 12 ∧ ib j (mN M a) then _ else _) = _
  rw [if_pos ⟨hk, hj⟩]
  rfl
theorem r_bast {a : Nat} {j x : Int32} (hm : mt J = (o, y, c, ml, rt)) (hd : decode c pc = .ok (.bastore, 1)) (hk : mK M a = 13) (hj : ib j (mN M a)) : run n J pc L (.int x :: .int j :: .ref a :: stk) M = run n J (pc + 1) L stk (wI M a j.toNatClampNeg (vp_nar .byte x)) := by
  refine run_next ?_
  unfold sti ins
  rw [hm]
  dsimp only
  rw [hd]
  show (if mK M a = 13 ∧ ib j (mN M a) then _ else _) = _
  rw [if_pos ⟨hk, hj⟩]
  rfl
theorem r_zast {a : Nat} {j x : Int32} (hm : mt J = (o, y, c, ml, rt)) (hd : decode c pc = .ok (.bastore, 1)) (hk : mK M a = 14) (hj : ib j (mN M a)) : run n J pc L (.int x :: .int j :: .ref a :: stk) M = run n J (pc + 1) L stk (wI M a j.toNatClampNeg (vp_nar .boolean x)) := by
  refine run_next ?_
  unfold sti ins
  rw [hm]
  dsimp only
  rw [hd]
  show (if mK M a = 13 ∧ ib j (mN M a) then _ else if mK M a = 14 ∧ ib j (mN M a) then _ else _) = _
  rw [if_neg (fun h => by rw [hk] at h; exact absurd h.1 (by decide)), if_pos ⟨hk, hj⟩]
  rfl
theorem r_last {a : Nat} {j : Int32} {x : Int64} (hm : mt J = (o, y, c, ml, rt)) (hd : decode c pc = .ok (.lastore, 1)) (hk : mK M a = 15) (hj : ib j (mN M a)) : run n J pc L (.long x :: .int j :: .ref a :: stk) M = run n J (pc + 1) L stk (wL M a j.toNatClampNeg x) := by
  refine run_next ?_
  unfold sti ins
  rw [hm]
  dsimp only
  rw [hd]
  show (if mK M a = 15 ∧ ib j (mN M a) then _ else _) = _
  rw [if_pos ⟨hk, hj⟩]
  rfl
theorem r_aast {a b ki : Nat} {j : Int32} (hm : mt J = (o, y, c, ml, rt)) (hd : decode c pc = .ok (.aastore, 1)) (hk : mK M a = ki) (h16 : 16 ≤ ki) (h20 : ki < 20) (hb : mK M b = akC ki) (hj : ib j (mN M a)) : run n J pc L (.ref b :: .int j :: .ref a :: stk) M = run n J (pc + 1) L stk (wR M a j.toNatClampNeg b) := by
  refine run_next ?_
  unfold sti ins
  rw [hm]
  dsimp only
  rw [hd]
  show (if (16 ≤ mK M a ∧ mK M a < 20) ∧ mK M b = akC (mK M a) ∧ ib j (mN M a) then _ else _) = _
  rw [if_pos ⟨⟨by rw [hk]; exact h16, by rw [hk]; exact h20⟩, by rw [hk]; exact hb, hj⟩]
  rfl
theorem r_alen {a ki : Nat} (hm : mt J = (o, y, c, ml, rt)) (hd : decode c pc = .ok (.arraylength, 1)) (hk : mK M a = ki) (h12 : 12 ≤ ki) (h21 : ki < 21) : run n J pc L (.ref a :: stk) M = run n J (pc + 1) L (.int (Int32.ofNat (mN M a)) :: stk) M := by
  refine run_next ?_
  unfold sti ins
  rw [hm]
  dsimp only
  rw [hd]
  show (if 12 ≤ mK M a ∧ mK M a < 21 then _ else _) = _
  rw [if_pos ⟨by rw [hk]; exact h12, by rw [hk]; exact h21⟩]
  rfl
theorem r_new {k ci : Nat} (hm : mt J = (o, y, c, ml, rt)) (hd : decode c pc = .ok (.new k, 3)) (ht : pk ctab o k = some ci) (hc : ci < 12) : run n J pc L stk M = run n J (pc + 3) L (.ref (mX M + 32) :: stk) (wN M ci 0 (nF ci)) := by
  refine run_next ?_
  unfold sti ins
  rw [hm]
  dsimp only
  rw [hd]
  show (pk ctab (mt J).1 k).bind _ = _
  rw [hm]
  dsimp only
  rw [ht]
  show (if ci < 12 then _ else _) = _
  rw [if_pos hc]
  rfl
theorem r_newa {k : Int32} {t : ArrayType} {N ki : Nat} (hm : mt J = (o, y, c, ml, rt)) (hd : decode c pc = .ok (.newarray t, 2)) (ht : aky t = ki) (hki : ki < 20) (hk : ¬ k < 0) (hN : k.toNatClampNeg = N) (hb : N * 8 ≤ 536870912) : run n J pc L (.int k :: stk) M = run n J (pc + 2) L (.ref (mX M + 32) :: stk) (wN M ki N N) := by
  subst hN
  subst ht
  refine run_next ?_
  unfold sti ins
  rw [hm]
  dsimp only
  rw [hd]
  show (if aky t < 20 ∧ ¬ k < 0 ∧ k.toNatClampNeg * 8 ≤ 536870912 then _ else _) = _
  rw [if_pos ⟨hki, hk, hb⟩]
  rfl
theorem r_newr {k : Int32} {x ci N ki : Nat} (hm : mt J = (o, y, c, ml, rt)) (hd : decode c pc = .ok (.anewarray x, 3)) (ht : pk ctab o x = some ci) (hc : akc ci = ki) (hki : ki < 20) (hk : ¬ k < 0) (hN : k.toNatClampNeg = N) (hb : N * 8 ≤ 536870912) : run n J pc L (.int k :: stk) M = run n J (pc + 3) L (.ref (mX M + 32) :: stk) (wN M ki N N) := by
  subst hN
  subst hc
  refine run_next ?_
  unfold sti ins
  rw [hm]
  dsimp only
  rw [hd]
  show (pk ctab (mt J).1 x).bind _ = _
  rw [hm]
  dsimp only
  rw [ht]
  show (if akc ci < 20 ∧ ¬ k < 0 ∧ k.toNatClampNeg * 8 ≤ 536870912 then _ else _) = _
  rw [if_pos ⟨hki, hk, hb⟩]
  rfl
theorem r_max {k : Nat} {x z : Int32} (hm : mt J = (o, y, c, ml, rt)) (hd : decode c pc = .ok (.invokestatic k, 3)) (ht : pk mtab o k = some (9, 2, 1201)) (hc : (stk.map fun v => v.category).sum ≤ 8) : run n J pc L (.int z :: .int x :: stk) M = run n J (pc + 3) L (.int (if x < z then z else x) :: stk) M := by
  refine run_next ?_
  unfold sti ins
  rw [hm]
  dsimp only
  rw [hd]
  show (pk mtab (mt J).1 k).bind _ = _
  rw [hm]
  dsimp only
  rw [ht]
  show (if _ then _ else _) = _
  rw [if_pos hc]
  rfl
theorem r_min {k : Nat} {x z : Int32} (hm : mt J = (o, y, c, ml, rt)) (hd : decode c pc = .ok (.invokestatic k, 3)) (ht : pk mtab o k = some (9, 2, 1202)) (hc : (stk.map fun v => v.category).sum ≤ 8) : run n J pc L (.int z :: .int x :: stk) M = run n J (pc + 3) L (.int (if z < x then z else x) :: stk) M := by
  refine run_next ?_
  unfold sti ins
  rw [hm]
  dsimp only
  rw [hd]
  show (pk mtab (mt J).1 k).bind _ = _
  rw [hm]
  dsimp only
  rw [ht]
  show (if _ then _ else _) = _
  rw [if_pos hc]
  rfl
theorem r_abs {k : Nat} {x : Int32} (hm : mt J = (o, y, c, ml, rt)) (hd : decode c pc = .ok (.invokestatic k, 3)) (ht : pk mtab o k = some (9, 1, 1203)) (hc : (stk.map fun v => v.category).sum ≤ 8) : run n J pc L (.int x :: stk) M = run n J (pc + 3) L (.int (if 0 ≤ x then x else 0 - x) :: stk) M := by
  refine run_next ?_
  unfold sti ins
  rw [hm]
  dsimp only
  rw [hd]
  show (pk mtab (mt J).1 k).bind _ = _
  rw [hm]
  dsimp only
  rw [ht]
  show (if _ then _ else _) = _
  rw [if_pos hc]
  rfl
theorem r_copy {k : Nat} {a0 a1 : Nat} {sp dp m : Int32} (hm : mt J = (o, y, c, ml, rt)) (hd : decode c pc = .ok (.invokestatic k, 3)) (ht : pk mtab o k = some (9, 5, 1204)) (hc : (stk.map fun v => v.category).sum ≤ 8) (h0 : mK M a0 = 12) (h1 : mK M a1 = 12) (hs : ¬ sp < 0) (hp : ¬ dp < 0) (hn : ¬ m < 0) (hb : sp.toNatClampNeg + m.toNatClampNeg ≤ mN M a0) (he : dp.toNatClampNeg + m.toNatClampNeg ≤ mN M a1) : run n J pc L (.int m :: .int dp :: .ref a1 :: .int sp :: .ref a0 :: stk) M = run n J (pc + 3) L stk (wC M a0 sp.toNatClampNeg a1 dp.toNatClampNeg m.toNatClampNeg) := by
  refine run_next ?_
  unfold sti ins
  rw [hm]
  dsimp only
  rw [hd]
  show (pk mtab (mt J).1 k).bind _ = _
  rw [hm]
  dsimp only
  rw [ht]
  show (if _ then _ else _) = _
  rw [if_pos ⟨hc, h0, h1, hs, hp, hn, hb, he⟩]
  rfl
theorem r_slen {k : Nat} {a : Nat} (hm : mt J = (o, y, c, ml, rt)) (hd : decode c pc = .ok (.invokevirtual k, 3)) (ht : pk mtab o k = some (9, 0, 1205)) (hc : (stk.map fun v => v.category).sum ≤ 8) (h2 : 2 ≤ a) (h24 : a < 24) : run n J pc L (.ref a :: stk) M = run n J (pc + 3) L (.int (Int32.ofNat (slen.getD (a - 2) 0)) :: stk) M := by
  refine run_next ?_
  unfold sti ins
  rw [hm]
  dsimp only
  rw [hd]
  show (pk mtab (mt J).1 k).bind _ = _
  rw [hm]
  dsimp only
  rw [ht]
  show (if _ then _ else _) = _
  rw [if_pos ⟨hc, h2, h24⟩]
  rfl
theorem r_sch {k : Nat} {a : Nat} {j : Int32} (hm : mt J = (o, y, c, ml, rt)) (hd : decode c pc = .ok (.invokevirtual k, 3)) (ht : pk mtab o k = some (9, 1, 1206)) (hc : (stk.map fun v => v.category).sum ≤ 8) (h2 : 2 ≤ a) (h24 : a < 24) (hj : ib j (slen.getD (a - 2) 0)) : run n J pc L (.int j :: .ref a :: stk) M = run n J (pc + 3) L (.int ((sbyt.getD (a - 2) []).getD j.toNatClampNeg 0) :: stk) M := by
  refine run_next ?_
  unfold sti ins
  rw [hm]
  dsimp only
  rw [hd]
  show (pk mtab (mt J).1 k).bind _ = _
  rw [hm]
  dsimp only
  rw [ht]
  show (if _ then _ else _) = _
  rw [if_pos ⟨hc, h2, h24, hj⟩]
  rfl
theorem r_oin {k : Nat} {a ci : Nat} (hm : mt J = (o, y, c, ml, rt)) (hd : decode c pc = .ok (.invokespecial k, 3)) (ht : pk mtab o k = some (9, 0, 1200)) (hc : (stk.map fun v => v.category).sum ≤ 8) (hk : mK M a = ci) (h12 : ci < 12) : run n J pc L (.ref a :: stk) M = run n J (pc + 3) L stk M := by
  refine run_next ?_
  unfold sti ins
  rw [hm]
  dsimp only
  rw [hd]
  show (pk mtab (mt J).1 k).bind _ = _
  rw [hm]
  dsimp only
  rw [ht]
  show (if _ then _ else _) = _
  rw [if_pos ⟨rfl, by rw [hk]; exact h12, hc⟩]
  rfl
theorem r_cs {k kd na J' : Nat} {as rest : List Value} (hm : mt J = (o, y, c, ml, rt)) (hd : decode c pc = .ok (.invokestatic k, 3)) (ht : pk mtab o k = some (kd, na, J')) (hkd : kd = 2 ∨ kd = 3) (hst : stk = as.reverse ++ rest) (hn : as.length = na) (he : (enL as).length ≤ (mt J').2.2.2.1) (hc : (rest.map fun v => v.category).sum ≤ 8) (hv : as.all isV = true) (hJ : J' < 233) (hr : rk J' as < n) : run n J pc L stk M = (call J' as M).bind (fun r => run n J (pc + 3) L (r.1.toList ++ rest) r.2) := by
  subst hst
  have e1 : (as.reverse ++ rest).take na = as.reverse := by rw [← hn, ← List.length_reverse, List.take_left]
  have e2 : (as.reverse ++ rest).drop na = rest := by rw [← hn, ← List.length_reverse, List.drop_left]
  refine run_call ?_ hr
  unfold sti ins
  rw [hm]
  dsimp only
  rw [hd]
  show (pk mtab (mt J).1 k).bind _ = _
  rw [hm]
  dsimp only
  rw [ht]
  show (if kd = 9 then _ else if kd = 2 ∨ kd = 3 then doc kd na J' L _ M else _) = _
  rw [if_neg (by omega), if_pos hkd, doc, e1, e2, List.reverse_reverse, if_pos ⟨he, by simp; omega, hc, fun v hv' => List.all_eq_true.mp hv v (by simpa using hv'), hJ⟩, if_pos hkd]
theorem r_cv {k kd na J' b : Nat} {as rest : List Value} (hm : mt J = (o, y, c, ml, rt)) (hd : decode c pc = .ok (.invokevirtual k, 3)) (ht : pk mtab o k = some (kd, na, J')) (hkd : kd < 2) (hst : stk = as.reverse ++ rest) (hn : as.length = na + 1) (hb : as.head? = some (.ref b)) (hk : mK M b = (mt J').1) (he : (enL as).length ≤ (mt J').2.2.2.1) (hc : (rest.map fun v => v.category).sum ≤ 8) (hv : as.all isV = true) (hJ : J' < 233) (hr : rk J' as < n) : run n J pc L stk M = (call J' as M).bind (fun r => run n J (pc + 3) L (r.1.toList ++ rest) r.2) := by
  subst hst
  have e1 : (as.reverse ++ rest).take (na + 1) = as.reverse := by rw [← hn, ← List.length_reverse, List.take_left]
  have e2 : (as.reverse ++ rest).drop (na + 1) = rest := by rw [← hn, ← List.length_reverse, List.drop_left]
  refine run_call ?_ hr
  unfold sti ins
  rw [hm]
  dsimp only
  rw [hd]
  show (pk mtab (mt J).1 k).bind _ = _
  rw [hm]
  dsimp only
  rw [ht]
  show (if kd = 9 then _ else if kd < 2 then doc kd (na + 1) J' L _ M else _) = _
  rw [if_neg (by omega), if_pos hkd, doc, e1, e2, List.reverse_reverse, if_pos ⟨he, by simp; omega, hc, fun v hv' => List.all_eq_true.mp hv v (by simpa using hv'), hJ⟩, if_neg (by omega)]
  cases as with
  | nil => cases hb
  | cons w as' =>
    cases hb
    dsimp only
    rw [if_pos hk]
theorem r_ci {k kd na J' b : Nat} {as rest : List Value} (hm : mt J = (o, y, c, ml, rt)) (hd : decode c pc = .ok (.invokespecial k, 3)) (ht : pk mtab o k = some (kd, na, J')) (hkd : kd = 4 ∨ kd = 5) (hst : stk = as.reverse ++ rest) (hn : as.length = na + 1) (hb : as.head? = some (.ref b)) (hk : mK M b = (mt J').1) (he : (enL as).length ≤ (mt J').2.2.2.1) (hc : (rest.map fun v => v.category).sum ≤ 8) (hv : as.all isV = true) (hJ : J' < 233) (hr : rk J' as < n) : run n J pc L stk M = (call J' as M).bind (fun r => run n J (pc + 3) L (r.1.toList ++ rest) r.2) := by
  subst hst
  have e1 : (as.reverse ++ rest).take (na + 1) = as.reverse := by rw [← hn, ← List.length_reverse, List.take_left]
  have e2 : (as.reverse ++ rest).drop (na + 1) = rest := by rw [← hn, ← List.length_reverse, List.drop_left]
  refine run_call ?_ hr
  unfold sti ins
  rw [hm]
  dsimp only
  rw [hd]
  show (pk mtab (mt J).1 k).bind _ = _
  rw [hm]
  dsimp only
  rw [ht]
  show (if kd = 9 then _ else if kd = 4 ∨ kd = 5 then doc kd (na + 1) J' L _ M else _) = _
  rw [if_neg (by omega), if_pos hkd, doc, e1, e2, List.reverse_reverse, if_pos ⟨he, by simp; omega, hc, fun v hv' => List.all_eq_true.mp hv v (by simpa using hv'), hJ⟩, if_neg (by omega)]
  cases as with
  | nil => cases hb
  | cons w as' =>
    cases hb
    dsimp only
    rw [if_pos hk]
theorem r_iret {x : Int32} (hm : mt J = (o, y, c, ml, rt)) (hd : decode c pc = .ok (.ireturn, 1)) (hr : rtI rt x = true) : run n J pc L [.int x] M = some (some (.int x), M) := by
  refine run_ret ?_
  unfold sti ins
  rw [hm]
  dsimp only
  rw [hd]
  show (if rtI (mt J).2.2.2.2 x = true then _ else _) = _
  rw [if_pos (by rw [hm]; exact hr)]
theorem r_lret {x : Int64} (hm : mt J = (o, y, c, ml, rt)) (hd : decode c pc = .ok (.lreturn, 1)) (hr : rt = some .long) : run n J pc L [.long x] M = some (some (.long x), M) := by
  refine run_ret ?_
  unfold sti ins
  rw [hm]
  dsimp only
  rw [hd]
  show (if (mt J).2.2.2.2 = some .long then _ else _) = _
  rw [if_pos (by rw [hm]; exact hr)]
theorem r_aret {x : Nat} (hm : mt J = (o, y, c, ml, rt)) (hd : decode c pc = .ok (.areturn, 1)) (hr : rtR rt = true) : run n J pc L [.ref x] M = some (some (.ref x), M) := by
  refine run_ret ?_
  unfold sti ins
  rw [hm]
  dsimp only
  rw [hd]
  show (if rtR (mt J).2.2.2.2 = true then _ else _) = _
  rw [if_pos (by rw [hm]; exact hr)]
theorem r_vret (hm : mt J = (o, y, c, ml, rt)) (hd : decode c pc = .ok (.return_, 1)) (hr : rt = none) : run n J pc L [] M = some (none, M) := by
  refine run_ret ?_
  unfold sti ins
  rw [hm]
  dsimp only
  rw [hd]
  show (if (mt J).2.2.2.2 = none then _ else _) = _
  rw [if_pos (by rw [hm]; exact hr)]
theorem r_ts {x v : Int32} {d lo hi off : Int} {t : Array Int} {len tt : Nat} (hm : mt J = (o, y, c, ml, rt)) (hd : decode c pc = .ok (.tableswitch d lo hi t, len)) (hx : x = v) (ho : ((¬ (v.toInt < lo ∨ hi < v.toInt)) ∧ t[(v.toInt - lo).toNat]? = some off)) (ht : (pc : Int) + off = (tt : Int)) : run n J pc L (.int x :: stk) M = run n J tt L stk M := by
  subst hx
  refine run_next ?_
  unfold sti ins
  rw [hm]
  dsimp only
  rw [hd]
  show (if x.toInt < lo ∨ hi < x.toInt then jmp pc d L stk M else (t[(x.toInt - lo).toNat]?).bind (fun off => jmp pc off L stk M)) = _
  rw [if_neg ho.1, ho.2]
  show jmp pc off L stk M = _
  rw [jmp, ht, if_pos (Int.natCast_nonneg tt), Int.toNat_natCast]
  rfl
theorem r_tsD {x : Int32} {d lo hi : Int} {t : Array Int} {len tt : Nat} (hm : mt J = (o, y, c, ml, rt)) (hd : decode c pc = .ok (.tableswitch d lo hi t, len)) (hx : x.toInt < lo ∨ hi < x.toInt) (ht : (pc : Int) + d = (tt : Int)) : run n J pc L (.int x :: stk) M = run n J tt L stk M := by
  refine run_next ?_
  unfold sti ins
  rw [hm]
  dsimp only
  rw [hd]
  show (if x.toInt < lo ∨ hi < x.toInt then jmp pc d L stk M else _) = _
  rw [if_pos hx]
  rw [jmp, ht, if_pos (Int.natCast_nonneg tt), Int.toNat_natCast]
  rfl
theorem r_lsD {x : Int32} {d off : Int} {ps : Array (Int × Int)} {len tt : Nat} (hm : mt J = (o, y, c, ml, rt)) (hd : decode c pc = .ok (.lookupswitch d ps, len)) (ho : Op.lookupswitch.offset ps.toList d x.toInt = off) (hp : (ps.toList.zip (ps.toList.drop 1)).all (fun (a, next) => a.1 < next.1) = true) (ht : (pc : Int) + off = (tt : Int)) : run n J pc L (.int x :: stk) M = run n J tt L stk M := by
  refine run_next ?_
  unfold sti ins
  rw [hm]
  dsimp only
  rw [hd]
  show (if (ps.toList.zip (ps.toList.drop 1)).all (fun (a, next) => a.1 < next.1) = true then jmp pc (Op.lookupswitch.offset ps.toList d x.toInt) L stk M else none) = _
  rw [if_pos hp, ho, jmp, ht, if_pos (Int.natCast_nonneg tt), Int.toNat_natCast]
  rfl
end EQS
