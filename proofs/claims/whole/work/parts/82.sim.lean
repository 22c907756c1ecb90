/-! SIMULATION, 2: a step that is no call -/
/-- the String constants, as the kit says them, but for their being apart -/
def vS (adK adV : Nat → Nat) (A : Nat → Prop) (U : State) (H : Heap) : Prop := ∀ i : Nat, i < 22 → va_O "java/lang/String" (adK i) A U H ∧ va_OF "java/lang/String" "coder" "B" (.int 0) (adK i) A U H ∧ va_OF "java/lang/String" "value" "[B" (.ref (adV i)) (adK i) A U H ∧ va_T .byte (adV i) (slen.getD i 0) (fun j => .int ((sbyt.getD i []).getD j 0)) A U H
theorem vS.moved {adK adV : Nat → Nat} {A : Nat → Prop} {u U : State} {H : Heap} (hvm : u.vm.Alike U.vm) (h : vS adK adV A u H) : vS adK adV A U H := fun i hi => ⟨va_O.moved hvm (h i hi).1, va_OF.moved hvm (h i hi).2.1, va_OF.moved hvm (h i hi).2.2.1, va_T.moved hvm (h i hi).2.2.2⟩
theorem vS.kept {adK adV : Nat → Nat} {A : Nat → Prop} {U : State} {H H1 : Heap} (h : vS adK adV A U H) (hq : ∀ a : Nat, a < H.size → ¬ A a → H1[a]? = H[a]?) : vS adK adV A U H1 := fun i hi => ⟨(h i hi).1.kept hq, (h i hi).2.1.kept hq, (h i hi).2.2.1.kept hq, (h i hi).2.2.2.kept hq⟩
theorem vS.recv {adK adV : Nat → Nat} {A : Nat → Prop} {s : State} {H : Heap} {locs : List Loc} {i : Nat} (hE : vS adK adV A s s.heap) (hi : i < 22) (hS : va_S A s.heap H locs) : ∃ cell : Cell, H[adK i]? = some cell ∧ cell.vm.isStatics = false ∧ s.vm.findClass "java/lang/String" = some cell.cls := by
  obtain ⟨cell, h1, h2, h3, h4⟩ := (hE i hi).1.kept (H1 := H) hS.2.1
  exact ⟨cell, h1, h2, h3⟩
def WS (g : aG) (U : State) : Prop := va_K (gD g) vwCl (tys g) U ∧ (∀ w ∈ ntb, va_Nw w U) ∧ (va_AO RX0 U ∧ va_AO RX3 U ∧ va_AO RX4 U ∧ va_AO RX8 U) ∧ vS (gK g) (gV g) (wA g) U U.heap ∧ (∀ q ∈ strs, vk_R q.1 q.2.1 q.2.2.1 (gK g q.2.2.2) U) ∧ va_X (gS g) (gN g) (gX g) U U.heap ∧ gS g < gB g ∧ gB g ≤ U.heap.size ∧ va_Z "java/lang/String" "COMPACT_STRINGS" "Z" (.int 1) (wA g) U U.heap ∧ va_Zq "jdk/internal/util/Preconditions" "SIOOBE_FORMATTER" "Ljava/util/function/BiFunction;" (wA g) U U.heap
theorem nest_on {w : Cond} (h : isNest w = true) : w.onTables = true := by
  cases w <;> first | rfl | cases h
theorem WS.same {g : aG} {u U : State} (hv : U.vm = u.vm) (hh : U.heap = u.heap) (h : WS g u) : WS g U := by
  obtain ⟨h1, h2, ⟨a1, a2, a3, a4⟩, h4, h5, h6, h7, h8, h9, h10⟩ := h
  have hA : u.vm.Alike U.vm := by rw [hv]; exact Vm.Alike.refl _
  refine ⟨va_K.moved hA h1, fun w hw => va_tabs (nest_on (List.mem_filter.mp hw).2) hv.symm (h2 w hw), ⟨va_AO.moved hA a1, va_AO.moved hA a2, va_AO.moved hA a3, va_AO.moved hA a4⟩, ?_, fun q hq => vk_R.same hv (h5 q hq), ?_, h7, by rw [hh]; exact h8, ?_, ?_⟩
  · rw [hh]; exact vS.moved hA h4
  · rw [hh]; exact va_X.moved hA h6
  · rw [hh]; exact va_Z.moved hA h9
  · rw [hh]; exact va_Zq.moved hA h10
theorem WS.warm {g : aG} {s U : State} {H : Heap} {locs : List Loc} (hW : s.WarmedH U.vm) (hh : U.heap = H) (hS : va_S (wA g) s.heap H locs) (h : WS g s) : WS g U := by
  obtain ⟨h1, h2, ⟨a1, a2, a3, a4⟩, h4, h5, h6, h7, h8, h9, h10⟩ := h
  have hA := hW.alike
  have hk : ∀ a : Nat, a < s.heap.size → ¬ wA g a → U.heap[a]? = s.heap[a]? := fun a p q => by rw [hh]; exact hS.2.1 a p q
  refine ⟨va_K.moved hA h1, fun w hw => ?_, ⟨va_AO.moved hA a1, va_AO.moved hA a2, va_AO.moved hA a3, va_AO.moved hA a4⟩, vS.kept (vS.moved hA h4) hk, fun q hq => vk_R.warm hW (h5 q hq), ?_, h7, by rw [hh]; exact Nat.le_trans h8 hS.1, va_Z.kept (va_Z.moved hA h9) hk, va_Zq.kept (va_Zq.moved hA h10) hk⟩
  · have hn := (List.mem_filter.mp hw).2
    have hz := h2 w hw
    cases w <;> first | exact va_Nw.warmF hW hz | exact va_Nw.warmM hW hz | cases hn
  · exact va_X.kept (va_X.moved hA h6) (hk _ (Nat.lt_of_lt_of_le h7 h8) (fun q => absurd h7 (Nat.not_lt.mpr q)))
/-- what stays through a method's frame -/
def Fr (g : aG) (J n C0 : Nat) (p : Program) (R : Room) (s : State) (m : MethodId) (args : Array Value) (meth : Method) (c : Code) : Prop :=
  p.tables.exec = Jvm.exec ∧ c.code = (mt J).2.2.1 ∧ c.maxLocals = (mt J).2.2.2.1 ∧ s.vm.findClass (ROf (mt J).1) = some m.cls ∧ (∀ w ∈ gtb, w.before args s = true) ∧ WS g s ∧ ((mt J).2.1.name = "<init>" → meth.name = "<init>") ∧ n + 8 ≤ R.frames ∧ 64 * n + 400 ≤ R.locals ∧ s.heap.size = gB g + C0
def SimAt (g : aG) (J C0 S0 : Nat) (p : Program) (l : Launch) (e : Env) (R : Room) (s : State) (m : MethodId) (args : Array Value) (below : List Frame) (meth : Method) (c : Code) (Q : State → Prop) (pc : Nat) (L stk : List Value) (M : aM) : Prop :=
  ∀ (H : Heap) (locs : List Loc) (ls : Array Slot) (cells slots : Nat), va_S (wA g) s.heap H locs → HM g M H → lvR g ls (mt J).2.2.2.1 L → L.length = (mt J).2.2.2.1 → cells + C0 = mX M → slots + S0 = mU M → W p l e R s m args below meth c H locs cells slots Q (F0 m pc ls (stk.map (rv g)))
def isSw (i : Instr) : Bool := match i with
  | .tableswitch .. => true
  | .lookupswitch .. => true
  | _ => false
theorem ins_dec {J pc : Nat} {i : Instr} (h : ins J pc = some i) : ∃ n, decode (mt J).2.2.1 pc = .ok (i, n) ∧ (n = iln i ∨ isSw i = true) := by
  unfold ins at h
  split at h
  · rename_i d lo hi t n he
    cases h
    exact ⟨n, he, Or.inr rfl⟩
  · rename_i d ps n he
    cases h
    exact ⟨n, he, Or.inr rfl⟩
  · rename_i i' n _ _ he
    split at h
    · rename_i hn
      cases h
      exact ⟨n, he, Or.inl hn⟩
    · cases h
  · cases h
theorem st1_len {L : List Value} {j : Nat} {v : Value} : (st1 L j v).length = L.length := by simp [st1, kl_len]
theorem st2_len {L : List Value} {j : Nat} {v : Value} : (st2 L j v).length = L.length := by simp [st2, kl_len]
theorem W.size {p : Program} {l : Launch} {e : Env} {R : Room} {s : State} {m : MethodId} {args : Array Value} {below : List Frame} {meth : Method} {c : Code} {H : Heap} {locs : List Loc} {cells slots : Nat} {Q : State → Prop} {f : JFrame} (k : H.size ≤ s.heap.size + cells → W p l e R s m args below meth c H locs cells slots Q f) : W p l e R s m args below meth c H locs cells slots Q f := fun T hT X => k (by rw [← hT]; exact X.heapSize) T hT X
theorem HM.sz {g : aG} {M : aM} {H H0 : Heap} {locs : List Loc} {C0 cells : Nat} (h : HM g M H) (h0 : H0.size = gB g + C0) (hS : va_S (wA g) H0 H locs) (hc : cells + C0 = mX M) (hz : H.size ≤ H0.size + cells) : H.size = gB g + mX M := by
  rcases Nat.eq_zero_or_pos (mX M) with e | e
  · have := hS.1
    omega
  · have := h.lo (i := mX M - 1) (by omega)
    omega
theorem va_ldcSw {p : Program} {l : Launch} {e : Env} {R : Room} {s : State} {m : MethodId} {args : Array Value} {below : List Frame} {meth : Method} {c : Code} {H : Heap} {locs : List Loc} {cells slots : Nat} {Q : State → Prop} {cc : ByteArray} {pc : Nat} {ls : Array Slot} {rest : List Value} (hexec : p.tables.exec = Jvm.exec) (hb : c.code = cc) {own tx : String} {index q : Nat} (hown : s.vm.findClass own = some m.cls) (hZ : vk_R own index tx q s) (hdg : decode cc pc = .ok (.ldc_w index, 3))
    (k : W p l e R s m args below meth c H locs cells slots Q (F0 m (pc + 3) ls (.ref q :: rest))) : W p l e R s m args below meth c H locs cells slots Q (F0 m pc ls rest) := by
  intro T hT X
  obtain ⟨t, a1, b1⟩ := k T hT X
  refine ⟨t, ?_, b1⟩
  obtain ⟨kc, cf, i, a', hk, hcf, hcp, -, hr, hev'⟩ := Cond.stringRef_spec (args := #[]) hown hZ.1
  cases hZ.2.symm.trans hev'
  obtain ⟨k', hk', he⟩ := X.warmed.alike.2.2 _ _ hk
  have hr' : k'.resolved[index]? = some (some (.string q)) := by
    rcases X.warmed.entry hk hk' index with h | ⟨h, -⟩
    · rw [h]; exact hr
    · rw [hr] at h; cases h
  subst hb
  jvm_step X.here [hexec, hdg, ldc_w.wp_string (e := e) (s := T) (f := F0 m pc ls rest) X.here.top hk' (by rw [he]; exact hcf) hcp hr']
  exact a1
section SIMN
variable {g : aG} {J n C0 S0 : Nat} {p : Program} {l : Launch} {e : Env} {R : Room} {s : State} {m : MethodId} {args : Array Value} {below : List Frame} {meth : Method} {c : Code} {Q : State → Prop} {pc : Nat} {L stk : List Value} {M : aM}
theorem sn_iconst {k : Int} (F : Fr g J n C0 p R s m args meth c) (hd : decode (mt J).2.2.1 pc = .ok (.iconst k, 1))  (K : SimAt g J C0 S0 p l e R s m args below meth c Q (pc + 1) L (.int (Int32.ofInt k) :: stk) M) : SimAt g J C0 S0 p l e R s m args below meth c Q pc L stk M := by
  intro H locs ls cells slots hS hM hl hL hc hu
  exact lv_iconst F.1 F.2.1 hd rfl (K H locs ls cells slots hS hM hl hL hc hu)
theorem sn_bipush {k : Int} (F : Fr g J n C0 p R s m args meth c) (hd : decode (mt J).2.2.1 pc = .ok (.bipush k, 2))  (K : SimAt g J C0 S0 p l e R s m args below meth c Q (pc + 2) L (.int (Int8.ofInt k).toInt32 :: stk) M) : SimAt g J C0 S0 p l e R s m args below meth c Q pc L stk M := by
  intro H locs ls cells slots hS hM hl hL hc hu
  exact lv_bipush F.1 F.2.1 hd rfl (K H locs ls cells slots hS hM hl hL hc hu)
theorem sn_sipush {k : Int} (F : Fr g J n C0 p R s m args meth c) (hd : decode (mt J).2.2.1 pc = .ok (.sipush k, 3))  (K : SimAt g J C0 S0 p l e R s m args below meth c Q (pc + 3) L (.int (Int16.ofInt k).toInt32 :: stk) M) : SimAt g J C0 S0 p l e R s m args below meth c Q pc L stk M := by
  intro H locs ls cells slots hS hM hl hL hc hu
  exact lv_sipush F.1 F.2.1 hd rfl (K H locs ls cells slots hS hM hl hL hc hu)
theorem sn_lconst {k : Fin 2} (F : Fr g J n C0 p R s m args meth c) (hd : decode (mt J).2.2.1 pc = .ok (.lconst k, 1))  (K : SimAt g J C0 S0 p l e R s m args below meth c Q (pc + 1) L (.long (Int64.ofNat k.val) :: stk) M) : SimAt g J C0 S0 p l e R s m args below meth c Q pc L stk M := by
  intro H locs ls cells slots hS hM hl hL hc hu
  exact lv_lconst F.1 F.2.1 hd rfl (K H locs ls cells slots hS hM hl hL hc hu)
theorem sn_null  (F : Fr g J n C0 p R s m args meth c) (hd : decode (mt J).2.2.1 pc = .ok (.aconst_null, 1))  (K : SimAt g J C0 S0 p l e R s m args below meth c Q (pc + 1) L (.ref 0 :: stk) M) : SimAt g J C0 S0 p l e R s m args below meth c Q pc L stk M := by
  intro H locs ls cells slots hS hM hl hL hc hu
  have k := (K H locs ls cells slots hS hM hl hL hc hu)
  rw [List.map_cons, rv_ref0] at k
  exact lv_null F.1 F.2.1 hd k
theorem sn_iadd {x y : Int32} (F : Fr g J n C0 p R s m args meth c) (hd : decode (mt J).2.2.1 pc = .ok (.iadd, 1))  (K : SimAt g J C0 S0 p l e R s m args below meth c Q (pc + 1) L (.int (x + y) :: stk) M) : SimAt g J C0 S0 p l e R s m args below meth c Q pc L (.int y :: .int x :: stk) M := by
  intro H locs ls cells slots hS hM hl hL hc hu
  exact lv_iadd F.1 F.2.1 hd (K H locs ls cells slots hS hM hl hL hc hu)
theorem sn_isub {x y : Int32} (F : Fr g J n C0 p R s m args meth c) (hd : decode (mt J).2.2.1 pc = .ok (.isub, 1))  (K : SimAt g J C0 S0 p l e R s m args below meth c Q (pc + 1) L (.int (x - y) :: stk) M) : SimAt g J C0 S0 p l e R s m args below meth c Q pc L (.int y :: .int x :: stk) M := by
  intro H locs ls cells slots hS hM hl hL hc hu
  exact lv_isub F.1 F.2.1 hd (K H locs ls cells slots hS hM hl hL hc hu)
theorem sn_imul {x y : Int32} (F : Fr g J n C0 p R s m args meth c) (hd : decode (mt J).2.2.1 pc = .ok (.imul, 1))  (K : SimAt g J C0 S0 p l e R s m args below meth c Q (pc + 1) L (.int (x * y) :: stk) M) : SimAt g J C0 S0 p l e R s m args below meth c Q pc L (.int y :: .int x :: stk) M := by
  intro H locs ls cells slots hS hM hl hL hc hu
  exact lv_imul F.1 F.2.1 hd (K H locs ls cells slots hS hM hl hL hc hu)
theorem sn_iand {x y : Int32} (F : Fr g J n C0 p R s m args meth c) (hd : decode (mt J).2.2.1 pc = .ok (.iand, 1))  (K : SimAt g J C0 S0 p l e R s m args below meth c Q (pc + 1) L (.int (x &&& y) :: stk) M) : SimAt g J C0 S0 p l e R s m args below meth c Q pc L (.int y :: .int x :: stk) M := by
  intro H locs ls cells slots hS hM hl hL hc hu
  exact lv_iand F.1 F.2.1 hd (K H locs ls cells slots hS hM hl hL hc hu)
theorem sn_ior {x y : Int32} (F : Fr g J n C0 p R s m args meth c) (hd : decode (mt J).2.2.1 pc = .ok (.ior, 1))  (K : SimAt g J C0 S0 p l e R s m args below meth c Q (pc + 1) L (.int (x ||| y) :: stk) M) : SimAt g J C0 S0 p l e R s m args below meth c Q pc L (.int y :: .int x :: stk) M := by
  intro H locs ls cells slots hS hM hl hL hc hu
  exact lv_ior F.1 F.2.1 hd (K H locs ls cells slots hS hM hl hL hc hu)
theorem sn_ishl {x y : Int32} (F : Fr g J n C0 p R s m args meth c) (hd : decode (mt J).2.2.1 pc = .ok (.ishl, 1))  (K : SimAt g J C0 S0 p l e R s m args below meth c Q (pc + 1) L (.int (x <<< (y &&& 31)) :: stk) M) : SimAt g J C0 S0 p l e R s m args below meth c Q pc L (.int y :: .int x :: stk) M := by
  intro H locs ls cells slots hS hM hl hL hc hu
  exact lv_ishl F.1 F.2.1 hd (K H locs ls cells slots hS hM hl hL hc hu)
theorem sn_ishr {x y : Int32} (F : Fr g J n C0 p R s m args meth c) (hd : decode (mt J).2.2.1 pc = .ok (.ishr, 1))  (K : SimAt g J C0 S0 p l e R s m args below meth c Q (pc + 1) L (.int (x >>> (y &&& 31)) :: stk) M) : SimAt g J C0 S0 p l e R s m args below meth c Q pc L (.int y :: .int x :: stk) M := by
  intro H locs ls cells slots hS hM hl hL hc hu
  exact lv_ishr F.1 F.2.1 hd (K H locs ls cells slots hS hM hl hL hc hu)
theorem sn_idiv {x y : Int32} (F : Fr g J n C0 p R s m args meth c) (hd : decode (mt J).2.2.1 pc = .ok (.idiv, 1)) (hz : ¬ y = 0) (K : SimAt g J C0 S0 p l e R s m args below meth c Q (pc + 1) L (.int (x / y) :: stk) M) : SimAt g J C0 S0 p l e R s m args below meth c Q pc L (.int y :: .int x :: stk) M := by
  intro H locs ls cells slots hS hM hl hL hc hu
  exact lv_idiv F.1 F.2.1 hd hz (K H locs ls cells slots hS hM hl hL hc hu)
theorem sn_irem {x y : Int32} (F : Fr g J n C0 p R s m args meth c) (hd : decode (mt J).2.2.1 pc = .ok (.irem, 1)) (hz : ¬ y = 0) (K : SimAt g J C0 S0 p l e R s m args below meth c Q (pc + 1) L (.int (x - x / y * y) :: stk) M) : SimAt g J C0 S0 p l e R s m args below meth c Q pc L (.int y :: .int x :: stk) M := by
  intro H locs ls cells slots hS hM hl hL hc hu
  exact lv_irem F.1 F.2.1 hd hz (K H locs ls cells slots hS hM hl hL hc hu)
theorem sn_ladd {x y : Int64} (F : Fr g J n C0 p R s m args meth c) (hd : decode (mt J).2.2.1 pc = .ok (.ladd, 1))  (K : SimAt g J C0 S0 p l e R s m args below meth c Q (pc + 1) L (.long (x + y) :: stk) M) : SimAt g J C0 S0 p l e R s m args below meth c Q pc L (.long y :: .long x :: stk) M := by
  intro H locs ls cells slots hS hM hl hL hc hu
  exact lv_ladd F.1 F.2.1 hd (K H locs ls cells slots hS hM hl hL hc hu)
theorem sn_lsub {x y : Int64} (F : Fr g J n C0 p R s m args meth c) (hd : decode (mt J).2.2.1 pc = .ok (.lsub, 1))  (K : SimAt g J C0 S0 p l e R s m args below meth c Q (pc + 1) L (.long (x - y) :: stk) M) : SimAt g J C0 S0 p l e R s m args below meth c Q pc L (.long y :: .long x :: stk) M := by
  intro H locs ls cells slots hS hM hl hL hc hu
  exact lv_lsub F.1 F.2.1 hd (K H locs ls cells slots hS hM hl hL hc hu)
theorem sn_lmul {x y : Int64} (F : Fr g J n C0 p R s m args meth c) (hd : decode (mt J).2.2.1 pc = .ok (.lmul, 1))  (K : SimAt g J C0 S0 p l e R s m args below meth c Q (pc + 1) L (.long (x * y) :: stk) M) : SimAt g J C0 S0 p l e R s m args below meth c Q pc L (.long y :: .long x :: stk) M := by
  intro H locs ls cells slots hS hM hl hL hc hu
  exact lv_lmul F.1 F.2.1 hd (K H locs ls cells slots hS hM hl hL hc hu)
theorem sn_land {x y : Int64} (F : Fr g J n C0 p R s m args meth c) (hd : decode (mt J).2.2.1 pc = .ok (.land, 1))  (K : SimAt g J C0 S0 p l e R s m args below meth c Q (pc + 1) L (.long (x &&& y) :: stk) M) : SimAt g J C0 S0 p l e R s m args below meth c Q pc L (.long y :: .long x :: stk) M := by
  intro H locs ls cells slots hS hM hl hL hc hu
  exact lv_land F.1 F.2.1 hd (K H locs ls cells slots hS hM hl hL hc hu)
theorem sn_lor {x y : Int64} (F : Fr g J n C0 p R s m args meth c) (hd : decode (mt J).2.2.1 pc = .ok (.lor, 1))  (K : SimAt g J C0 S0 p l e R s m args below meth c Q (pc + 1) L (.long (x ||| y) :: stk) M) : SimAt g J C0 S0 p l e R s m args below meth c Q pc L (.long y :: .long x :: stk) M := by
  intro H locs ls cells slots hS hM hl hL hc hu
  exact lv_lor F.1 F.2.1 hd (K H locs ls cells slots hS hM hl hL hc hu)
theorem sn_ldiv {x y : Int64} (F : Fr g J n C0 p R s m args meth c) (hd : decode (mt J).2.2.1 pc = .ok (.ldiv, 1)) (hz : ¬ y = 0) (K : SimAt g J C0 S0 p l e R s m args below meth c Q (pc + 1) L (.long (x / y) :: stk) M) : SimAt g J C0 S0 p l e R s m args below meth c Q pc L (.long y :: .long x :: stk) M := by
  intro H locs ls cells slots hS hM hl hL hc hu
  exact lv_ldiv F.1 F.2.1 hd hz (K H locs ls cells slots hS hM hl hL hc hu)
theorem sn_lrem {x y : Int64} (F : Fr g J n C0 p R s m args meth c) (hd : decode (mt J).2.2.1 pc = .ok (.lrem, 1)) (hz : ¬ y = 0) (K : SimAt g J C0 S0 p l e R s m args below meth c Q (pc + 1) L (.long (x - x / y * y) :: stk) M) : SimAt g J C0 S0 p l e R s m args below meth c Q pc L (.long y :: .long x :: stk) M := by
  intro H locs ls cells slots hS hM hl hL hc hu
  exact lv_lrem F.1 F.2.1 hd hz (K H locs ls cells slots hS hM hl hL hc hu)
theorem sn_ineg {x : Int32} (F : Fr g J n C0 p R s m args meth c) (hd : decode (mt J).2.2.1 pc = .ok (.ineg, 1))  (K : SimAt g J C0 S0 p l e R s m args below meth c Q (pc + 1) L (.int (-x) :: stk) M) : SimAt g J C0 S0 p l e R s m args below meth c Q pc L (.int x :: stk) M := by
  intro H locs ls cells slots hS hM hl hL hc hu
  exact lv_ineg F.1 F.2.1 hd (K H locs ls cells slots hS hM hl hL hc hu)
theorem sn_i2l {x : Int32} (F : Fr g J n C0 p R s m args meth c) (hd : decode (mt J).2.2.1 pc = .ok (.i2l, 1))  (K : SimAt g J C0 S0 p l e R s m args below meth c Q (pc + 1) L (.long x.toInt64 :: stk) M) : SimAt g J C0 S0 p l e R s m args below meth c Q pc L (.int x :: stk) M := by
  intro H locs ls cells slots hS hM hl hL hc hu
  exact lv_i2l F.1 F.2.1 hd rfl (K H locs ls cells slots hS hM hl hL hc hu)
theorem sn_l2i {x : Int64} (F : Fr g J n C0 p R s m args meth c) (hd : decode (mt J).2.2.1 pc = .ok (.l2i, 1))  (K : SimAt g J C0 S0 p l e R s m args below meth c Q (pc + 1) L (.int x.toInt32 :: stk) M) : SimAt g J C0 S0 p l e R s m args below meth c Q pc L (.long x :: stk) M := by
  intro H locs ls cells slots hS hM hl hL hc hu
  exact lv_l2i F.1 F.2.1 hd rfl (K H locs ls cells slots hS hM hl hL hc hu)
theorem sn_i2b {x : Int32} (F : Fr g J n C0 p R s m args meth c) (hd : decode (mt J).2.2.1 pc = .ok (.i2b, 1))  (K : SimAt g J C0 S0 p l e R s m args below meth c Q (pc + 1) L (.int x.toInt8.toInt32 :: stk) M) : SimAt g J C0 S0 p l e R s m args below meth c Q pc L (.int x :: stk) M := by
  intro H locs ls cells slots hS hM hl hL hc hu
  exact lv_i2b F.1 F.2.1 hd rfl (K H locs ls cells slots hS hM hl hL hc hu)
theorem sn_lcmp {x y : Int64} (F : Fr g J n C0 p R s m args meth c) (hd : decode (mt J).2.2.1 pc = .ok (.lcmp, 1))  (K : SimAt g J C0 S0 p l e R s m args below meth c Q (pc + 1) L (.int (lg_cmp x y) :: stk) M) : SimAt g J C0 S0 p l e R s m args below meth c Q pc L (.long y :: .long x :: stk) M := by
  intro H locs ls cells slots hS hM hl hL hc hu
  exact W.lcmp F.1 F.2.1 hd (K H locs ls cells slots hS hM hl hL hc hu)
theorem sn_dup {v : Value} (F : Fr g J n C0 p R s m args meth c) (hd : decode (mt J).2.2.1 pc = .ok (.dup, 1)) (hv : v.category = 1) (K : SimAt g J C0 S0 p l e R s m args below meth c Q (pc + 1) L (v :: v :: stk) M) : SimAt g J C0 S0 p l e R s m args below meth c Q pc L (v :: stk) M := by
  intro H locs ls cells slots hS hM hl hL hc hu
  exact lv_dup F.1 F.2.1 hd (by rw [rv_cat]; exact hv) (K H locs ls cells slots hS hM hl hL hc hu)
theorem sn_dup2 {v w : Value} (F : Fr g J n C0 p R s m args meth c) (hd : decode (mt J).2.2.1 pc = .ok (.dup2, 1)) (hv : v.category = 1) (hw : w.category = 1) (K : SimAt g J C0 S0 p l e R s m args below meth c Q (pc + 1) L (v :: w :: v :: w :: stk) M) : SimAt g J C0 S0 p l e R s m args below meth c Q pc L (v :: w :: stk) M := by
  intro H locs ls cells slots hS hM hl hL hc hu
  exact lv_dup2_11 F.1 F.2.1 hd (by rw [rv_cat]; exact hv) (by rw [rv_cat]; exact hw) (K H locs ls cells slots hS hM hl hL hc hu)
theorem sn_pop {v : Value} (F : Fr g J n C0 p R s m args meth c) (hd : decode (mt J).2.2.1 pc = .ok (.pop, 1)) (hv : v.category = 1) (K : SimAt g J C0 S0 p l e R s m args below meth c Q (pc + 1) L stk M) : SimAt g J C0 S0 p l e R s m args below meth c Q pc L (v :: stk) M := by
  intro H locs ls cells slots hS hM hl hL hc hu
  exact lv_pop F.1 F.2.1 hd (by rw [rv_cat]; exact hv) (K H locs ls cells slots hS hM hl hL hc hu)
theorem sn_ldc {x : Nat} {v : Int32} (F : Fr g J n C0 p R s m args meth c) (hd : decode (mt J).2.2.1 pc = .ok (.ldc x, 2)) (ht : pk itab (mt J).1 x = some v) (K : SimAt g J C0 S0 p l e R s m args below meth c Q (pc + 2) L (.int v :: stk) M) : SimAt g J C0 S0 p l e R s m args below meth c Q pc L stk M := by
  intro H locs ls cells slots hS hM hl hL hc hu
  exact lv_ldc F.1 F.2.1 F.2.2.2.1 (F.2.2.2.2.1 _ (ipt_in ht)) hd (K H locs ls cells slots hS hM hl hL hc hu)
theorem sn_ldcw {x : Nat} {v : Int32} (F : Fr g J n C0 p R s m args meth c) (hd : decode (mt J).2.2.1 pc = .ok (.ldc_w x, 3)) (ht : pk itab (mt J).1 x = some v) (K : SimAt g J C0 S0 p l e R s m args below meth c Q (pc + 3) L (.int v :: stk) M) : SimAt g J C0 S0 p l e R s m args below meth c Q pc L stk M := by
  intro H locs ls cells slots hS hM hl hL hc hu
  exact lv_ldcw F.1 F.2.1 F.2.2.2.1 (F.2.2.2.2.1 _ (ipt_in ht)) hd (K H locs ls cells slots hS hM hl hL hc hu)
theorem sn_ldc2 {x : Nat} {v : Int64} (F : Fr g J n C0 p R s m args meth c) (hd : decode (mt J).2.2.1 pc = .ok (.ldc2_w x, 3)) (ht : pk jtab (mt J).1 x = some v) (K : SimAt g J C0 S0 p l e R s m args below meth c Q (pc + 3) L (.long v :: stk) M) : SimAt g J C0 S0 p l e R s m args below meth c Q pc L stk M := by
  intro H locs ls cells slots hS hM hl hL hc hu
  exact lv_ldc2 F.1 F.2.1 F.2.2.2.1 (F.2.2.2.2.1 _ (lpt_in ht)) hd (K H locs ls cells slots hS hM hl hL hc hu)
theorem sn_ldcs {x j : Nat} (F : Fr g J n C0 p R s m args meth c) (hd : decode (mt J).2.2.1 pc = .ok (.ldc x, 2)) (ht : pk stab (mt J).1 x = some j) (K : SimAt g J C0 S0 p l e R s m args below meth c Q (pc + 2) L (.ref (j + 2) :: stk) M) : SimAt g J C0 S0 p l e R s m args below meth c Q pc L stk M := by
  intro H locs ls cells slots hS hM hl hL hc hu
  obtain ⟨tx, hx⟩ := str_ok ht
  have hZ := F.2.2.2.2.2.1.2.2.2.2.1 _ hx
  have k := (K H locs ls cells slots hS hM hl hL hc hu)
  rw [List.map_cons, rv_refP (by omega), show adr g (j + 2) = gK g j from by have := List.all_eq_true.mp str_lt _ hx; simp only [decide_eq_true_eq] at this; unfold adr; rw [if_pos (by omega), if_neg (by omega), Nat.add_sub_cancel]] at k
  exact va_ldcS F.1 F.2.1 F.2.2.2.1 hZ hd k
theorem sn_ldcws {x j : Nat} (F : Fr g J n C0 p R s m args meth c) (hd : decode (mt J).2.2.1 pc = .ok (.ldc_w x, 3)) (ht : pk stab (mt J).1 x = some j) (K : SimAt g J C0 S0 p l e R s m args below meth c Q (pc + 3) L (.ref (j + 2) :: stk) M) : SimAt g J C0 S0 p l e R s m args below meth c Q pc L stk M := by
  intro H locs ls cells slots hS hM hl hL hc hu
  obtain ⟨tx, hx⟩ := str_ok ht
  have hZ := F.2.2.2.2.2.1.2.2.2.2.1 _ hx
  have k := (K H locs ls cells slots hS hM hl hL hc hu)
  rw [List.map_cons, rv_refP (by omega), show adr g (j + 2) = gK g j from by have := List.all_eq_true.mp str_lt _ hx; simp only [decide_eq_true_eq] at this; unfold adr; rw [if_pos (by omega), if_neg (by omega), Nat.add_sub_cancel]] at k
  exact va_ldcSw F.1 F.2.1 F.2.2.2.1 hZ hd k
theorem sn_iload {j : Nat} {x : Int32} (F : Fr g J n C0 p R s m args meth c) (hd : decode (mt J).2.2.1 pc = .ok (.iload j, 2)) (hj : L[j]? = some (.int x)) (K : SimAt g J C0 S0 p l e R s m args below meth c Q (pc + 2) L (.int x :: stk) M) : SimAt g J C0 S0 p l e R s m args below meth c Q pc L stk M := by
  intro H locs ls cells slots hS hM hl hL hc hu
  exact lv_iload F.1 F.2.1 hd (lvR_at hl hj rfl) (K H locs ls cells slots hS hM hl hL hc hu)
theorem sn_iload_n {j : Fin 4} {x : Int32} (F : Fr g J n C0 p R s m args meth c) (hd : decode (mt J).2.2.1 pc = .ok (.iload_n j, 1)) (hj : L[j.val]? = some (.int x)) (K : SimAt g J C0 S0 p l e R s m args below meth c Q (pc + 1) L (.int x :: stk) M) : SimAt g J C0 S0 p l e R s m args below meth c Q pc L stk M := by
  intro H locs ls cells slots hS hM hl hL hc hu
  exact lv_iload_n F.1 F.2.1 hd rfl (lvR_at hl hj rfl) (K H locs ls cells slots hS hM hl hL hc hu)
theorem sn_lload {j : Nat} {x : Int64} (F : Fr g J n C0 p R s m args meth c) (hd : decode (mt J).2.2.1 pc = .ok (.lload j, 2)) (hj : L[j]? = some (.long x)) (K : SimAt g J C0 S0 p l e R s m args below meth c Q (pc + 2) L (.long x :: stk) M) : SimAt g J C0 S0 p l e R s m args below meth c Q pc L stk M := by
  intro H locs ls cells slots hS hM hl hL hc hu
  exact lv_lload F.1 F.2.1 hd (lvR_at hl hj rfl) (K H locs ls cells slots hS hM hl hL hc hu)
theorem sn_lload_n {j : Fin 4} {x : Int64} (F : Fr g J n C0 p R s m args meth c) (hd : decode (mt J).2.2.1 pc = .ok (.lload_n j, 1)) (hj : L[j.val]? = some (.long x)) (K : SimAt g J C0 S0 p l e R s m args below meth c Q (pc + 1) L (.long x :: stk) M) : SimAt g J C0 S0 p l e R s m args below meth c Q pc L stk M := by
  intro H locs ls cells slots hS hM hl hL hc hu
  exact lv_lload_n F.1 F.2.1 hd rfl (lvR_at hl hj rfl) (K H locs ls cells slots hS hM hl hL hc hu)
theorem sn_aload {j : Nat} {x : Nat} (F : Fr g J n C0 p R s m args meth c) (hd : decode (mt J).2.2.1 pc = .ok (.aload j, 2)) (hj : L[j]? = some (.ref x)) (K : SimAt g J C0 S0 p l e R s m args below meth c Q (pc + 2) L (.ref x :: stk) M) : SimAt g J C0 S0 p l e R s m args below meth c Q pc L stk M := by
  intro H locs ls cells slots hS hM hl hL hc hu
  have k := (K H locs ls cells slots hS hM hl hL hc hu)
  have q := lvR_at hl hj rfl
  by_cases h0 : x = 0
  · subst h0
    rw [List.map_cons, rv_ref0] at k
    rw [rv_ref0] at q
    exact lv_aloadN F.1 F.2.1 hd q k
  · rw [List.map_cons, rv_refP h0] at k
    rw [rv_refP h0] at q
    exact lv_aload F.1 F.2.1 hd q k
theorem sn_aload_n {j : Fin 4} {x : Nat} (F : Fr g J n C0 p R s m args meth c) (hd : decode (mt J).2.2.1 pc = .ok (.aload_n j, 1)) (hj : L[j.val]? = some (.ref x)) (K : SimAt g J C0 S0 p l e R s m args below meth c Q (pc + 1) L (.ref x :: stk) M) : SimAt g J C0 S0 p l e R s m args below meth c Q pc L stk M := by
  intro H locs ls cells slots hS hM hl hL hc hu
  have k := (K H locs ls cells slots hS hM hl hL hc hu)
  have q := lvR_at hl hj rfl
  by_cases h0 : x = 0
  · subst h0
    rw [List.map_cons, rv_ref0] at k
    rw [rv_ref0] at q
    exact lv_aload_nN F.1 F.2.1 hd rfl q k
  · rw [List.map_cons, rv_refP h0] at k
    rw [rv_refP h0] at q
    exact lv_aload_n F.1 F.2.1 hd rfl q k
theorem sn_istore {j : Nat} {x : Int32} (F : Fr g J n C0 p R s m args meth c) (hd : decode (mt J).2.2.1 pc = .ok (.istore j, 2)) (hj : j < L.length) (K : SimAt g J C0 S0 p l e R s m args below meth c Q (pc + 2) (st1 L j (.int x)) stk M) : SimAt g J C0 S0 p l e R s m args below meth c Q pc L (.int x :: stk) M := by
  intro H locs ls cells slots hS hM hl hL hc hu
  exact lv_istore F.1 F.2.1 hd  hl (by rw [← hL]; exact hj) rfl (fun ls2 h2 => K H locs ls2 cells slots hS hM (lvR_st1 h2) (by rw [st1_len]; exact hL) hc hu)
theorem sn_istore_n {j : Fin 4} {x : Int32} (F : Fr g J n C0 p R s m args meth c) (hd : decode (mt J).2.2.1 pc = .ok (.istore_n j, 1)) (hj : j.val < L.length) (K : SimAt g J C0 S0 p l e R s m args below meth c Q (pc + 1) (st1 L j.val (.int x)) stk M) : SimAt g J C0 S0 p l e R s m args below meth c Q pc L (.int x :: stk) M := by
  intro H locs ls cells slots hS hM hl hL hc hu
  exact lv_istore_n F.1 F.2.1 hd rfl hl (by rw [← hL]; exact hj) rfl (fun ls2 h2 => K H locs ls2 cells slots hS hM (lvR_st1 h2) (by rw [st1_len]; exact hL) hc hu)
theorem sn_lstore {j : Nat} {x : Int64} (F : Fr g J n C0 p R s m args meth c) (hd : decode (mt J).2.2.1 pc = .ok (.lstore j, 2)) (hj : j + 1 < L.length) (K : SimAt g J C0 S0 p l e R s m args below meth c Q (pc + 2) (st2 L j (.long x)) stk M) : SimAt g J C0 S0 p l e R s m args below meth c Q pc L (.long x :: stk) M := by
  intro H locs ls cells slots hS hM hl hL hc hu
  exact lv_lstore F.1 F.2.1 hd  hl (by rw [← hL]; exact hj) rfl (fun ls2 h2 => K H locs ls2 cells slots hS hM (lvR_st2 h2) (by rw [st2_len]; exact hL) hc hu)
theorem sn_lstore_n {j : Fin 4} {x : Int64} (F : Fr g J n C0 p R s m args meth c) (hd : decode (mt J).2.2.1 pc = .ok (.lstore_n j, 1)) (hj : j.val + 1 < L.length) (K : SimAt g J C0 S0 p l e R s m args below meth c Q (pc + 1) (st2 L j.val (.long x)) stk M) : SimAt g J C0 S0 p l e R s m args below meth c Q pc L (.long x :: stk) M := by
  intro H locs ls cells slots hS hM hl hL hc hu
  exact lv_lstore_n F.1 F.2.1 hd rfl hl (by rw [← hL]; exact hj) rfl (fun ls2 h2 => K H locs ls2 cells slots hS hM (lvR_st2 h2) (by rw [st2_len]; exact hL) hc hu)
theorem sn_astore {j : Nat} {x : Nat} (F : Fr g J n C0 p R s m args meth c) (hd : decode (mt J).2.2.1 pc = .ok (.astore j, 2)) (hj : j < L.length) (K : SimAt g J C0 S0 p l e R s m args below meth c Q (pc + 2) (st1 L j (.ref x)) stk M) : SimAt g J C0 S0 p l e R s m args below meth c Q pc L (.ref x :: stk) M := by
  intro H locs ls cells slots hS hM hl hL hc hu
  by_cases h0 : x = 0
  · subst h0
    rw [List.map_cons, rv_ref0]
    exact lv_astoreN F.1 F.2.1 hd  hl (by rw [← hL]; exact hj) rfl (fun ls2 h2 => K H locs ls2 cells slots hS hM (lvR_st1 (by rw [rv_ref0]; exact h2)) (by rw [st1_len]; exact hL) hc hu)
  · rw [List.map_cons, rv_refP h0]
    exact lv_astore F.1 F.2.1 hd  hl (by rw [← hL]; exact hj) rfl (fun ls2 h2 => K H locs ls2 cells slots hS hM (lvR_st1 (by rw [rv_refP h0]; exact h2)) (by rw [st1_len]; exact hL) hc hu)
theorem sn_astore_n {j : Fin 4} {x : Nat} (F : Fr g J n C0 p R s m args meth c) (hd : decode (mt J).2.2.1 pc = .ok (.astore_n j, 1)) (hj : j.val < L.length) (K : SimAt g J C0 S0 p l e R s m args below meth c Q (pc + 1) (st1 L j.val (.ref x)) stk M) : SimAt g J C0 S0 p l e R s m args below meth c Q pc L (.ref x :: stk) M := by
  intro H locs ls cells slots hS hM hl hL hc hu
  by_cases h0 : x = 0
  · subst h0
    rw [List.map_cons, rv_ref0]
    exact lv_astore_nN F.1 F.2.1 hd rfl hl (by rw [← hL]; exact hj) rfl (fun ls2 h2 => K H locs ls2 cells slots hS hM (lvR_st1 (by rw [rv_ref0]; exact h2)) (by rw [st1_len]; exact hL) hc hu)
  · rw [List.map_cons, rv_refP h0]
    exact lv_astore_n F.1 F.2.1 hd rfl hl (by rw [← hL]; exact hj) rfl (fun ls2 h2 => K H locs ls2 cells slots hS hM (lvR_st1 (by rw [rv_refP h0]; exact h2)) (by rw [st1_len]; exact hL) hc hu)
theorem sn_iinc {j : Nat} {k : Int} {x : Int32} (F : Fr g J n C0 p R s m args meth c) (hd : decode (mt J).2.2.1 pc = .ok (.iinc j k, 3)) (hj : L[j]? = some (.int x)) (K : SimAt g J C0 S0 p l e R s m args below meth c Q (pc + 3) (st1 L j (.int (x + Int32.ofInt k))) stk M) : SimAt g J C0 S0 p l e R s m args below meth c Q pc L stk M := by
  intro H locs ls cells slots hS hM hl hL hc hu
  have hq : (j, Value.int x) ∈ lvA g 0 L := (lvA_mem L 0 _).mpr ⟨j, .int x, hj, rfl, by simp [rv]⟩
  obtain ⟨i, hi⟩ := List.mem_iff_getElem?.mp hq
  exact lv_iinc F.1 F.2.1 hd hl hi rfl (by rw [← hL]; exact (List.getElem?_eq_some_iff.mp hj).1) rfl (fun ls2 h2 => K H locs ls2 cells slots hS hM (lvR_st1 h2) (by rw [st1_len]; exact hL) hc hu)
theorem sn_if_eq {x : Int32} {off : Int} {t : Nat} (F : Fr g J n C0 p R s m args meth c) (hd : decode (mt J).2.2.1 pc = .ok (.ifCond .eq off, 3)) (ht : (pc : Int) + off = (t : Int)) (K1 : x = 0 → SimAt g J C0 S0 p l e R s m args below meth c Q t L stk M) (K2 : ¬ (x = 0) → SimAt g J C0 S0 p l e R s m args below meth c Q (pc + 3) L stk M) : SimAt g J C0 S0 p l e R s m args below meth c Q pc L (.int x :: stk) M := by
  intro H locs ls cells slots hS hM hl hL hc hu
  exact lv_if_eq F.1 F.2.1 hd ht (fun h => (K1 h) H locs ls cells slots hS hM hl hL hc hu) (fun h => (K2 h) H locs ls cells slots hS hM hl hL hc hu)
theorem sn_icmp_eq {x y : Int32} {off : Int} {t : Nat} (F : Fr g J n C0 p R s m args meth c) (hd : decode (mt J).2.2.1 pc = .ok (.if_icmp .eq off, 3)) (ht : (pc : Int) + off = (t : Int)) (K1 : x = y → SimAt g J C0 S0 p l e R s m args below meth c Q t L stk M) (K2 : ¬ (x = y) → SimAt g J C0 S0 p l e R s m args below meth c Q (pc + 3) L stk M) : SimAt g J C0 S0 p l e R s m args below meth c Q pc L (.int y :: .int x :: stk) M := by
  intro H locs ls cells slots hS hM hl hL hc hu
  exact lv_icmp_eq F.1 F.2.1 hd ht (fun h => (K1 h) H locs ls cells slots hS hM hl hL hc hu) (fun h => (K2 h) H locs ls cells slots hS hM hl hL hc hu)
theorem sn_if_ne {x : Int32} {off : Int} {t : Nat} (F : Fr g J n C0 p R s m args meth c) (hd : decode (mt J).2.2.1 pc = .ok (.ifCond .ne off, 3)) (ht : (pc : Int) + off = (t : Int)) (K1 : ¬ x = 0 → SimAt g J C0 S0 p l e R s m args below meth c Q t L stk M) (K2 : ¬ (¬ x = 0) → SimAt g J C0 S0 p l e R s m args below meth c Q (pc + 3) L stk M) : SimAt g J C0 S0 p l e R s m args below meth c Q pc L (.int x :: stk) M := by
  intro H locs ls cells slots hS hM hl hL hc hu
  exact lv_if_ne F.1 F.2.1 hd ht (fun h => (K1 h) H locs ls cells slots hS hM hl hL hc hu) (fun h => (K2 (fun q => q h)) H locs ls cells slots hS hM hl hL hc hu)
theorem sn_icmp_ne {x y : Int32} {off : Int} {t : Nat} (F : Fr g J n C0 p R s m args meth c) (hd : decode (mt J).2.2.1 pc = .ok (.if_icmp .ne off, 3)) (ht : (pc : Int) + off = (t : Int)) (K1 : ¬ x = y → SimAt g J C0 S0 p l e R s m args below meth c Q t L stk M) (K2 : ¬ (¬ x = y) → SimAt g J C0 S0 p l e R s m args below meth c Q (pc + 3) L stk M) : SimAt g J C0 S0 p l e R s m args below meth c Q pc L (.int y :: .int x :: stk) M := by
  intro H locs ls cells slots hS hM hl hL hc hu
  exact lv_icmp_ne F.1 F.2.1 hd ht (fun h => (K1 h) H locs ls cells slots hS hM hl hL hc hu) (fun h => (K2 (fun q => q h)) H locs ls cells slots hS hM hl hL hc hu)
theorem sn_if_lt {x : Int32} {off : Int} {t : Nat} (F : Fr g J n C0 p R s m args meth c) (hd : decode (mt J).2.2.1 pc = .ok (.ifCond .lt off, 3)) (ht : (pc : Int) + off = (t : Int)) (K1 : x < 0 → SimAt g J C0 S0 p l e R s m args below meth c Q t L stk M) (K2 : ¬ (x < 0) → SimAt g J C0 S0 p l e R s m args below meth c Q (pc + 3) L stk M) : SimAt g J C0 S0 p l e R s m args below meth c Q pc L (.int x :: stk) M := by
  intro H locs ls cells slots hS hM hl hL hc hu
  exact lv_if_lt F.1 F.2.1 hd ht (fun h => (K1 h) H locs ls cells slots hS hM hl hL hc hu) (fun h => (K2 h) H locs ls cells slots hS hM hl hL hc hu)
theorem sn_icmp_lt {x y : Int32} {off : Int} {t : Nat} (F : Fr g J n C0 p R s m args meth c) (hd : decode (mt J).2.2.1 pc = .ok (.if_icmp .lt off, 3)) (ht : (pc : Int) + off = (t : Int)) (K1 : x < y → SimAt g J C0 S0 p l e R s m args below meth c Q t L stk M) (K2 : ¬ (x < y) → SimAt g J C0 S0 p l e R s m args below meth c Q (pc + 3) L stk M) : SimAt g J C0 S0 p l e R s m args below meth c Q pc L (.int y :: .int x :: stk) M := by
  intro H locs ls cells slots hS hM hl hL hc hu
  exact lv_icmp_lt F.1 F.2.1 hd ht (fun h => (K1 h) H locs ls cells slots hS hM hl hL hc hu) (fun h => (K2 h) H locs ls cells slots hS hM hl hL hc hu)
theorem sn_if_ge {x : Int32} {off : Int} {t : Nat} (F : Fr g J n C0 p R s m args meth c) (hd : decode (mt J).2.2.1 pc = .ok (.ifCond .ge off, 3)) (ht : (pc : Int) + off = (t : Int)) (K1 : ¬ x < 0 → SimAt g J C0 S0 p l e R s m args below meth c Q t L stk M) (K2 : ¬ (¬ x < 0) → SimAt g J C0 S0 p l e R s m args below meth c Q (pc + 3) L stk M) : SimAt g J C0 S0 p l e R s m args below meth c Q pc L (.int x :: stk) M := by
  intro H locs ls cells slots hS hM hl hL hc hu
  exact lv_if_ge F.1 F.2.1 hd ht (fun h => (K1 (Int32.not_lt.mpr h)) H locs ls cells slots hS hM hl hL hc hu) (fun h => (K2 (fun q => h (Int32.not_lt.mp q))) H locs ls cells slots hS hM hl hL hc hu)
theorem sn_icmp_ge {x y : Int32} {off : Int} {t : Nat} (F : Fr g J n C0 p R s m args meth c) (hd : decode (mt J).2.2.1 pc = .ok (.if_icmp .ge off, 3)) (ht : (pc : Int) + off = (t : Int)) (K1 : ¬ x < y → SimAt g J C0 S0 p l e R s m args below meth c Q t L stk M) (K2 : ¬ (¬ x < y) → SimAt g J C0 S0 p l e R s m args below meth c Q (pc + 3) L stk M) : SimAt g J C0 S0 p l e R s m args below meth c Q pc L (.int y :: .int x :: stk) M := by
  intro H locs ls cells slots hS hM hl hL hc hu
  exact lv_icmp_ge F.1 F.2.1 hd ht (fun h => (K1 (Int32.not_lt.mpr h)) H locs ls cells slots hS hM hl hL hc hu) (fun h => (K2 (fun q => h (Int32.not_lt.mp q))) H locs ls cells slots hS hM hl hL hc hu)
theorem sn_if_gt {x : Int32} {off : Int} {t : Nat} (F : Fr g J n C0 p R s m args meth c) (hd : decode (mt J).2.2.1 pc = .ok (.ifCond .gt off, 3)) (ht : (pc : Int) + off = (t : Int)) (K1 : 0 < x → SimAt g J C0 S0 p l e R s m args below meth c Q t L stk M) (K2 : ¬ (0 < x) → SimAt g J C0 S0 p l e R s m args below meth c Q (pc + 3) L stk M) : SimAt g J C0 S0 p l e R s m args below meth c Q pc L (.int x :: stk) M := by
  intro H locs ls cells slots hS hM hl hL hc hu
  exact lv_if_gt F.1 F.2.1 hd ht (fun h => (K1 h) H locs ls cells slots hS hM hl hL hc hu) (fun h => (K2 h) H locs ls cells slots hS hM hl hL hc hu)
theorem sn_icmp_gt {x y : Int32} {off : Int} {t : Nat} (F : Fr g J n C0 p R s m args meth c) (hd : decode (mt J).2.2.1 pc = .ok (.if_icmp .gt off, 3)) (ht : (pc : Int) + off = (t : Int)) (K1 : y < x → SimAt g J C0 S0 p l e R s m args below meth c Q t L stk M) (K2 : ¬ (y < x) → SimAt g J C0 S0 p l e R s m args below meth c Q (pc + 3) L stk M) : SimAt g J C0 S0 p l e R s m args below meth c Q pc L (.int y :: .int x :: stk) M := by
  intro H locs ls cells slots hS hM hl hL hc hu
  exact lv_icmp_gt F.1 F.2.1 hd ht (fun h => (K1 h) H locs ls cells slots hS hM hl hL hc hu) (fun h => (K2 h) H locs ls cells slots hS hM hl hL hc hu)
theorem sn_if_le {x : Int32} {off : Int} {t : Nat} (F : Fr g J n C0 p R s m args meth c) (hd : decode (mt J).2.2.1 pc = .ok (.ifCond .le off, 3)) (ht : (pc : Int) + off = (t : Int)) (K1 : ¬ 0 < x → SimAt g J C0 S0 p l e R s m args below meth c Q t L stk M) (K2 : ¬ (¬ 0 < x) → SimAt g J C0 S0 p l e R s m args below meth c Q (pc + 3) L stk M) : SimAt g J C0 S0 p l e R s m args below meth c Q pc L (.int x :: stk) M := by
  intro H locs ls cells slots hS hM hl hL hc hu
  exact lv_if_le F.1 F.2.1 hd ht (fun h => (K1 (Int32.not_lt.mpr h)) H locs ls cells slots hS hM hl hL hc hu) (fun h => (K2 (fun q => h (Int32.not_lt.mp q))) H locs ls cells slots hS hM hl hL hc hu)
theorem sn_icmp_le {x y : Int32} {off : Int} {t : Nat} (F : Fr g J n C0 p R s m args meth c) (hd : decode (mt J).2.2.1 pc = .ok (.if_icmp .le off, 3)) (ht : (pc : Int) + off = (t : Int)) (K1 : ¬ y < x → SimAt g J C0 S0 p l e R s m args below meth c Q t L stk M) (K2 : ¬ (¬ y < x) → SimAt g J C0 S0 p l e R s m args below meth c Q (pc + 3) L stk M) : SimAt g J C0 S0 p l e R s m args below meth c Q pc L (.int y :: .int x :: stk) M := by
  intro H locs ls cells slots hS hM hl hL hc hu
  exact lv_icmp_le F.1 F.2.1 hd ht (fun h => (K1 (Int32.not_lt.mpr h)) H locs ls cells slots hS hM hl hL hc hu) (fun h => (K2 (fun q => h (Int32.not_lt.mp q))) H locs ls cells slots hS hM hl hL hc hu)
theorem sn_goto {off : Int} {t : Nat} (F : Fr g J n C0 p R s m args meth c) (hd : decode (mt J).2.2.1 pc = .ok (.goto off, 3)) (ht : (pc : Int) + off = (t : Int)) (K : SimAt g J C0 S0 p l e R s m args below meth c Q t L stk M) : SimAt g J C0 S0 p l e R s m args below meth c Q pc L stk M := by
  intro H locs ls cells slots hS hM hl hL hc hu
  exact lv_goto F.1 F.2.1 hd ht (K H locs ls cells slots hS hM hl hL hc hu)
theorem sn_ifnn {off : Int} {t a : Nat} (F : Fr g J n C0 p R s m args meth c) (hd : decode (mt J).2.2.1 pc = .ok (.ifnonnull off, 3)) (ht : (pc : Int) + off = (t : Int)) (h0 : ¬ a = 0) (K : SimAt g J C0 S0 p l e R s m args below meth c Q t L stk M) : SimAt g J C0 S0 p l e R s m args below meth c Q pc L (.ref a :: stk) M := by
  intro H locs ls cells slots hS hM hl hL hc hu
  rw [List.map_cons, rv_refP h0]
  exact lv_ifnonnull F.1 F.2.1 hd ht (K H locs ls cells slots hS hM hl hL hc hu)
theorem sn_ifnnN {off : Int} (F : Fr g J n C0 p R s m args meth c) (hd : decode (mt J).2.2.1 pc = .ok (.ifnonnull off, 3))  (K : SimAt g J C0 S0 p l e R s m args below meth c Q (pc + 3) L stk M) : SimAt g J C0 S0 p l e R s m args below meth c Q pc L (.ref 0 :: stk) M := by
  intro H locs ls cells slots hS hM hl hL hc hu
  rw [List.map_cons, rv_ref0]
  exact lv_ifnonnullN F.1 F.2.1 hd (K H locs ls cells slots hS hM hl hL hc hu)
theorem sn_tsD {x : Int32} {d lo hi : Int} {t : Array Int} {len tt : Nat} (F : Fr g J n C0 p R s m args meth c) (hd : decode (mt J).2.2.1 pc = .ok (.tableswitch d lo hi t, len)) (h : x.toInt < lo ∨ hi < x.toInt) (ht : (pc : Int) + d = (tt : Int)) (K : SimAt g J C0 S0 p l e R s m args below meth c Q tt L stk M) : SimAt g J C0 S0 p l e R s m args below meth c Q pc L (.int x :: stk) M := by
  intro H locs ls cells slots hS hM hl hL hc hu
  exact lv_tableOut F.1 F.2.1 hd h ht (K H locs ls cells slots hS hM hl hL hc hu)
theorem sn_tsI {x : Int32} {d lo hi off : Int} {t : Array Int} {len tt : Nat} (F : Fr g J n C0 p R s m args meth c) (hd : decode (mt J).2.2.1 pc = .ok (.tableswitch d lo hi t, len)) (h1 : ¬ x.toInt < lo) (h2 : ¬ hi < x.toInt) (ho : t[(x.toInt - lo).toNat]? = some off) (ht : (pc : Int) + off = (tt : Int)) (K : SimAt g J C0 S0 p l e R s m args below meth c Q tt L stk M) : SimAt g J C0 S0 p l e R s m args below meth c Q pc L (.int x :: stk) M := by
  intro H locs ls cells slots hS hM hl hL hc hu
  exact lv_tableIn F.1 F.2.1 hd h1 h2 ho ht (K H locs ls cells slots hS hM hl hL hc hu)
theorem sn_ls {x : Int32} {d off : Int} {ps : Array (Int × Int)} {len tt : Nat} (F : Fr g J n C0 p R s m args meth c) (hd : decode (mt J).2.2.1 pc = .ok (.lookupswitch d ps, len)) (hp : (ps.toList.zip (ps.toList.drop 1)).all (fun (a, next) => a.1 < next.1) = true) (ho : Op.lookupswitch.offset ps.toList d x.toInt = off) (ht : (pc : Int) + off = (tt : Int)) (K : SimAt g J C0 S0 p l e R s m args below meth c Q tt L stk M) : SimAt g J C0 S0 p l e R s m args below meth c Q pc L (.int x :: stk) M := by
  intro H locs ls cells slots hS hM hl hL hc hu
  exact lv_lookup F.1 F.2.1 hd hp ho ht (K H locs ls cells slots hS hM hl hL hc hu)
end SIMN
