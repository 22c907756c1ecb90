/-! THE ABSTRACT MACHINE: a step, a run with fuel, a run's limit -/
abbrev aO : Type := (Nat × List Value × List Value × aM) ⊕ (Option Value) ⊕ (Nat × List Value × List Value)
abbrev ib (i : Int32) (n : Nat) : Prop := ¬ (i < 0 ∨ n ≤ i.toNatClampNeg)
def iln (i : Instr) : Nat := match i with
  | .bipush _ => 2 | .ldc _ => 2 | .iload _ => 2 | .lload _ => 2 | .aload _ => 2 | .istore _ => 2 | .lstore _ => 2 | .astore _ => 2 | .newarray _ => 2
  | .sipush _ => 3 | .ldc_w _ => 3 | .ldc2_w _ => 3 | .iinc _ _ => 3 | .if_icmp _ _ => 3 | .ifCond _ _ => 3 | .goto _ => 3 | .ifnonnull _ => 3 | .ifnull _ => 3
  | .getfield _ => 3 | .putfield _ => 3 | .invokevirtual _ => 3 | .invokestatic _ => 3 | .invokespecial _ => 3 | .new _ => 3 | .anewarray _ => 3
  | _ => 1
def ins (J pc : Nat) : Option Instr := match decode (mt J).2.2.1 pc with
  | .ok (.tableswitch d lo hi t, _) => some (.tableswitch d lo hi t)
  | .ok (.lookupswitch d ps, _) => some (.lookupswitch d ps)
  | .ok (i, n) => if n = iln i then some i else none
  | _ => none
def cT (c : Jvm.ClassFile.Cond) (x y : Int32) : Bool := match c with
  | .eq => decide (x = y) | .ne => decide (¬ x = y) | .lt => decide (x < y) | .ge => decide (¬ x < y) | .gt => decide (y < x) | .le => decide (¬ y < x)
def nxt (pc : Nat) (L stk : List Value) (M : aM) : Option aO := some (.inl (pc, L, stk, M))
def jmp (pc : Nat) (off : Int) (L stk : List Value) (M : aM) : Option aO := if 0 ≤ (pc : Int) + off then nxt ((pc : Int) + off).toNat L stk M else none
/-- two ints to one -/
def op2 (i : Instr) (x y : Int32) : Option Int32 := match i with
  | .iadd => some (x + y) | .isub => some (x - y) | .imul => some (x * y) | .iand => some (x &&& y) | .ior => some (x ||| y)
  | .ishl => some (x <<< (y &&& 31)) | .ishr => some (x >>> (y &&& 31))
  | .idiv => if y = 0 then none else some (x / y) | .irem => if y = 0 then none else some (x - x / y * y)
  | _ => none
def op2L (i : Instr) (x y : Int64) : Option Int64 := match i with
  | .ladd => some (x + y) | .lsub => some (x - y) | .lmul => some (x * y) | .land => some (x &&& y) | .lor => some (x ||| y)
  | .ldiv => if y = 0 then none else some (x / y) | .lrem => if y = 0 then none else some (x - x / y * y)
  | _ => none
def d2 (i : Instr) (pc : Nat) (L stk : List Value) (M : aM) : Option aO := match stk with
  | .int y :: .int x :: st => (op2 i x y).bind (fun z => nxt (pc + 1) L (.int z :: st) M)
  | _ => none
def d2L (i : Instr) (pc : Nat) (L stk : List Value) (M : aM) : Option aO := match stk with
  | .long y :: .long x :: st => (op2L i x y).bind (fun z => nxt (pc + 1) L (.long z :: st) M)
  | _ => none
def isI (v : Value) : Bool := match v with
  | .int _ => true | _ => false
def isL (v : Value) : Bool := match v with
  | .long _ => true | _ => false
def isR (v : Value) : Bool := match v with
  | .ref _ => true | _ => false
def ld (p : Value → Bool) (j pc : Nat) (L stk : List Value) (M : aM) : Option aO := match L[j]? with
  | some v => if p v = true then nxt pc L (v :: stk) M else none
  | none => none
def so (p : Value → Bool) (j pc : Nat) (L stk : List Value) (M : aM) : Option aO := match stk with
  | v :: st => if p v = true ∧ j < L.length then nxt pc (st1 L j v) st M else none
  | _ => none
def soL (j pc : Nat) (L stk : List Value) (M : aM) : Option aO := match stk with
  | .long x :: st => if j + 1 < L.length then nxt pc (st2 L j (.long x)) st M else none
  | _ => none
def ent (J : Nat) (as : List Value) : List Value := enL as ++ List.replicate ((mt J).2.2.2.1 - (enL as).length) xU
def doc (k na J' : Nat) (L stk : List Value) (M : aM) : Option aO :=
  if (enL ((stk.take na).reverse)).length ≤ (mt J').2.2.2.1 ∧ na ≤ stk.length ∧ (((stk.drop na).map fun v => v.category).sum ≤ 8) ∧ (∀ v ∈ stk.take na, isV v = true) ∧ J' < 233 then
    (if k = 2 ∨ k = 3 then some (.inr (.inr (J', (stk.take na).reverse, stk.drop na))) else
      match (stk.take na).reverse with
      | .ref b :: as => if mK M b = (mt J').1 then some (.inr (.inr (J', .ref b :: as, stk.drop na))) else none
      | _ => none)
  else none
def rtI (ret : Option FieldType) (x : Int32) : Bool := match ret with
  | some .int => true
  | some .boolean => decide (x = 0 ∨ x = 1)
  | _ => false
def rtR (ret : Option FieldType) : Bool := match ret with
  | some (.object _) => true
  | some (.array _) => true
  | _ => false
def aky (t : ArrayType) : Nat := match t with
  | .int => 12 | .byte => 13 | .boolean => 14 | .long => 15 | _ => 99
def akc (ci : Nat) : Nat := match ci with
  | 0 => 16 | 3 => 17 | 4 => 18 | 8 => 19 | _ => 99
def akC (ki : Nat) : Nat := match ki with
  | 16 => 0 | 17 => 3 | 18 => 4 | 19 => 8 | _ => 99
def bty (ci k : Nat) (x : Int32) : Bool := match tyF ci k with
  | .int => true
  | .boolean => decide (x = 0 ∨ x = 1)
  | _ => false
/-- the static call of a member of the JDK -/
def jst (q : Nat) (pc : Nat) (L stk : List Value) (M : aM) : Option aO := match q, stk with
  | 1201, .int y :: .int x :: st => if (st.map fun v => v.category).sum ≤ 8 then nxt (pc + 3) L (.int (if x < y then y else x) :: st) M else none
  | 1202, .int y :: .int x :: st => if (st.map fun v => v.category).sum ≤ 8 then nxt (pc + 3) L (.int (if y < x then y else x) :: st) M else none
  | 1203, .int x :: st => if (st.map fun v => v.category).sum ≤ 8 then nxt (pc + 3) L (.int (if 0 ≤ x then x else 0 - x) :: st) M else none
  | 1204, .int n :: .int dp :: .ref a1 :: .int sp :: .ref a0 :: st => if (st.map fun v => v.category).sum ≤ 8 ∧ mK M a0 = 12 ∧ mK M a1 = 12 ∧ ¬ sp < 0 ∧ ¬ dp < 0 ∧ ¬ n < 0 ∧ sp.toNatClampNeg + n.toNatClampNeg ≤ mN M a0 ∧ dp.toNatClampNeg + n.toNatClampNeg ≤ mN M a1 then nxt (pc + 3) L st (wC M a0 sp.toNatClampNeg a1 dp.toNatClampNeg n.toNatClampNeg) else none
  | _, _ => none
/-- a member of String, of a constant -/
def jvi (q : Nat) (pc : Nat) (L stk : List Value) (M : aM) : Option aO := match q, stk with
  | 1205, .ref a :: st => if (st.map fun v => v.category).sum ≤ 8 ∧ 2 ≤ a ∧ a < 24 then nxt (pc + 3) L (.int (Int32.ofNat (slen.getD (a - 2) 0)) :: st) M else none
  | 1206, .int i :: .ref a :: st => if (st.map fun v => v.category).sum ≤ 8 ∧ 2 ≤ a ∧ a < 24 ∧ ib i (slen.getD (a - 2) 0) then nxt (pc + 3) L (.int ((sbyt.getD (a - 2) []).getD i.toNatClampNeg 0) :: st) M else none
  | _, _ => none
def stp (J : Nat) (i : Instr) (pc : Nat) (L stk : List Value) (M : aM) : Option aO := match i with
  | .aconst_null => nxt (pc + 1) L (.ref 0 :: stk) M
  | .iconst n => nxt (pc + 1) L (.int (Int32.ofInt n) :: stk) M
  | .bipush n => nxt (pc + 2) L (.int (Int8.ofInt n).toInt32 :: stk) M
  | .sipush n => nxt (pc + 3) L (.int (Int16.ofInt n).toInt32 :: stk) M
  | .lconst n => nxt (pc + 1) L (.long (Int64.ofNat n.val) :: stk) M
  | .ldc x => match pk itab (mt J).1 x with
    | some v => nxt (pc + 2) L (.int v :: stk) M
    | none => (pk stab (mt J).1 x).bind (fun j => nxt (pc + 2) L (.ref (j + 2) :: stk) M)
  | .ldc_w x => match pk itab (mt J).1 x with
    | some v => nxt (pc + 3) L (.int v :: stk) M
    | none => (pk stab (mt J).1 x).bind (fun j => nxt (pc + 3) L (.ref (j + 2) :: stk) M)
  | .ldc2_w x => (pk jtab (mt J).1 x).bind (fun v => nxt (pc + 3) L (.long v :: stk) M)
  | .iload j => ld isI j (pc + 2) L stk M
  | .iload_n j => ld isI j.val (pc + 1) L stk M
  | .lload j => ld isL j (pc + 2) L stk M
  | .lload_n j => ld isL j.val (pc + 1) L stk M
  | .aload j => ld isR j (pc + 2) L stk M
  | .aload_n j => ld isR j.val (pc + 1) L stk M
  | .istore j => so isI j (pc + 2) L stk M
  | .istore_n j => so isI j.val (pc + 1) L stk M
  | .astore j => so isR j (pc + 2) L stk M
  | .astore_n j => so isR j.val (pc + 1) L stk M
  | .lstore j => soL j (pc + 2) L stk M
  | .lstore_n j => soL j.val (pc + 1) L stk M
  | .iinc j n => match L[j]? with
    | some (.int x) => nxt (pc + 3) (st1 L j (.int (x + Int32.ofInt n))) stk M
    | _ => none
  | .iadd => d2 .iadd pc L stk M
  | .isub => d2 .isub pc L stk M
  | .imul => d2 .imul pc L stk M
  | .iand => d2 .iand pc L stk M
  | .ior => d2 .ior pc L stk M
  | .ishl => d2 .ishl pc L stk M
  | .ishr => d2 .ishr pc L stk M
  | .idiv => d2 .idiv pc L stk M
  | .irem => d2 .irem pc L stk M
  | .ladd => d2L .ladd pc L stk M
  | .lsub => d2L .lsub pc L stk M
  | .lmul => d2L .lmul pc L stk M
  | .land => d2L .land pc L stk M
  | .lor => d2L .lor pc L stk M
  | .ldiv => d2L .ldiv pc L stk M
  | .lrem => d2L .lrem pc L stk M
  | .ineg => match stk with
    | .int x :: st => nxt (pc + 1) L (.int (-x) :: st) M
    | _ => none
  | .i2l => match stk with
    | .int x :: st => nxt (pc + 1) L (.long x.toInt64 :: st) M
    | _ => none
  | .l2i => match stk with
    | .long x :: st => nxt (pc + 1) L (.int x.toInt32 :: st) M
    | _ => none
  | .i2b => match stk with
    | .int x :: st => nxt (pc + 1) L (.int x.toInt8.toInt32 :: st) M
    | _ => none
  | .lcmp => match stk with
    | .long y :: .long x :: st => nxt (pc + 1) L (.int (lg_cmp x y) :: st) M
    | _ => none
  | .dup => match stk with
    | v :: st => if v.category = 1 then nxt (pc + 1) L (v :: v :: st) M else none
    | _ => none
  | .dup2 => match stk with
    | v :: w :: st => if v.category = 1 ∧ w.category = 1 then nxt (pc + 1) L (v :: w :: v :: w :: st) M else none
    | _ => none
  | .pop => match stk with
    | v :: st => if v.category = 1 then nxt (pc + 1) L st M else none
    | _ => none
  | .ifCond c off => match stk with
    | .int x :: st => if cT c x 0 = true then jmp pc off L st M else if 0 ≤ (pc : Int) + off then nxt (pc + 3) L st M else none
    | _ => none
  | .if_icmp c off => match stk with
    | .int y :: .int x :: st => if cT c x y = true then jmp pc off L st M else if 0 ≤ (pc : Int) + off then nxt (pc + 3) L st M else none
    | _ => none
  | .goto off => jmp pc off L stk M
  | .ifnonnull off => match stk with
    | .ref a :: st => if a = 0 then nxt (pc + 3) L st M else jmp pc off L st M
    | _ => none
  | .tableswitch d lo hi t => match stk with
    | .int x :: st => if x.toInt < lo ∨ hi < x.toInt then jmp pc d L st M else (t[(x.toInt - lo).toNat]?).bind (fun off => jmp pc off L st M)
    | _ => none
  | .lookupswitch d ps => match stk with
    | .int x :: st => if (ps.toList.zip (ps.toList.drop 1)).all (fun (a, next) => a.1 < next.1) = true then jmp pc (Op.lookupswitch.offset ps.toList d x.toInt) L st M else none
    | _ => none
  | .getfield x => match stk with
    | .ref a :: st => (pk ftab (mt J).1 x).bind (fun q => if mK M a = q.1 ∧ q.2 < nF q.1 then nxt (pc + 3) L ((if rfF q.1 q.2 = true then .ref (mR M a q.2) else .int (mI M a q.2)) :: st) M else none)
    | _ => none
  | .putfield x => match stk with
    | v :: .ref a :: st => (pk ftab (mt J).1 x).bind (fun q => if mK M a = q.1 ∧ q.2 < nF q.1 ∧ ((TF q.1 q.2).2.2.2 = false ∨ ((mt J).2.1.name = "<init>" ∧ (mt J).1 = q.1)) then (match v with
      | .int y => if rfF q.1 q.2 = false ∧ bty q.1 q.2 y = true then nxt (pc + 3) L st (wI M a q.2 y) else none
      | .ref b => if rfF q.1 q.2 = true then nxt (pc + 3) L st (wR M a q.2 b) else none
      | _ => none) else none)
    | _ => none
  | .iaload => match stk with
    | .int j :: .ref a :: st => if (mK M a = 12 ∨ mK M a = 20) ∧ ib j (mN M a) then nxt (pc + 1) L (.int (mI M a j.toNatClampNeg) :: st) M else none
    | _ => none
  | .baload => match stk with
    | .int j :: .ref a :: st => if (mK M a = 13 ∨ mK M a = 14) ∧ ib j (mN M a) then nxt (pc + 1) L (.int (mI M a j.toNatClampNeg) :: st) M else none
    | _ => none
  | .laload => match stk with
    | .int j :: .ref a :: st => if mK M a = 15 ∧ ib j (mN M a) then nxt (pc + 1) L (.long (mL M a j.toNatClampNeg) :: st) M else none
    | _ => none
  | .aaload => match stk with
    | .int j :: .ref a :: st => if (16 ≤ mK M a ∧ mK M a < 20) ∧ ib j (mN M a) then nxt (pc + 1) L (.ref (mR M a j.toNatClampNeg) :: st) M else none
    | _ => none
  | .iastore => match stk with
    | .int x :: .int j :: .ref a :: st => if mK M a = 12 ∧ ib j (mN M a) then nxt (pc + 1) L st (wI M a j.toNatClampNeg x) else none
    | _ => none
  | .bastore => match stk with
    | .int x :: .int j :: .ref a :: st => if mK M a = 13 ∧ ib j (mN M a) then nxt (pc + 1) L st (wI M a j.toNatClampNeg (vp_nar .byte x)) else if mK M a = 14 ∧ ib j (mN M a) then nxt (pc + 1) L st (wI M a j.toNatClampNeg (vp_nar .boolean x)) else none
    | _ => none
  | .lastore => match stk with
    | .long x :: .int j :: .ref a :: st => if mK M a = 15 ∧ ib j (mN M a) then nxt (pc + 1) L st (wL M a j.toNatClampNeg x) else none
    | _ => none
  | .aastore => match stk with
    | .ref b :: .int j :: .ref a :: st => if (16 ≤ mK M a ∧ mK M a < 20) ∧ mK M b = akC (mK M a) ∧ ib j (mN M a) then nxt (pc + 1) L st (wR M a j.toNatClampNeg b) else none
    | _ => none
  | .arraylength => match stk with
    | .ref a :: st => if 12 ≤ mK M a ∧ mK M a < 21 then nxt (pc + 1) L (.int (Int32.ofNat (mN M a)) :: st) M else none
    | _ => none
  | .new x => (pk ctab (mt J).1 x).bind (fun ci => if ci < 12 then nxt (pc + 3) L (.ref (mX M + 32) :: stk) (wN M ci 0 (nF ci)) else none)
  | .newarray t => match stk with
    | .int n :: st => if aky t < 20 ∧ ¬ n < 0 ∧ n.toNatClampNeg * 8 ≤ 536870912 then nxt (pc + 2) L (.ref (mX M + 32) :: st) (wN M (aky t) n.toNatClampNeg n.toNatClampNeg) else none
    | _ => none
  | .anewarray x => match stk with
    | .int n :: st => (pk ctab (mt J).1 x).bind (fun ci => if akc ci < 20 ∧ ¬ n < 0 ∧ n.toNatClampNeg * 8 ≤ 536870912 then nxt (pc + 3) L (.ref (mX M + 32) :: st) (wN M (akc ci) n.toNatClampNeg n.toNatClampNeg) else none)
    | _ => none
  | .invokevirtual x => (pk mtab (mt J).1 x).bind (fun q => if q.1 = 9 then jvi q.2.2 pc L stk M else if q.1 < 2 then doc q.1 (q.2.1 + 1) q.2.2 L stk M else none)
  | .invokestatic x => (pk mtab (mt J).1 x).bind (fun q => if q.1 = 9 then jst q.2.2 pc L stk M else if q.1 = 2 ∨ q.1 = 3 then doc q.1 q.2.1 q.2.2 L stk M else none)
  | .invokespecial x => (pk mtab (mt J).1 x).bind (fun q => if q.1 = 9 then (match stk with
      | .ref a :: st => if q.2.2 = 1200 ∧ mK M a < 12 ∧ (st.map fun v => v.category).sum ≤ 8 then nxt (pc + 3) L st M else none
      | _ => none) else if q.1 = 4 ∨ q.1 = 5 then doc q.1 (q.2.1 + 1) q.2.2 L stk M else none)
  | .ireturn => match stk with
    | [.int x] => if rtI (mt J).2.2.2.2 x = true then some (.inr (.inl (some (.int x)))) else none
    | _ => none
  | .lreturn => match stk with
    | [.long x] => if (mt J).2.2.2.2 = some .long then some (.inr (.inl (some (.long x)))) else none
    | _ => none
  | .areturn => match stk with
    | [.ref a] => if rtR (mt J).2.2.2.2 = true then some (.inr (.inl (some (.ref a)))) else none
    | _ => none
  | .return_ => match stk with
    | [] => if (mt J).2.2.2.2 = none then some (.inr (.inl none)) else none
    | _ => none
  | _ => none
def sti (J pc : Nat) (L stk : List Value) (M : aM) : Option aO := (ins J pc).bind (fun i => stp J i pc L stk M)
def ev : Nat → Nat → Nat → Nat → List Value → List Value → aM → Option (Option Value × aM)
  | 0, _, _, _, _, _, _ => none
  | f + 1, n, J, pc, L, stk, M => match sti J pc L stk M with
    | none => none
    | some (.inl q) => ev f n J q.1 q.2.1 q.2.2.1 q.2.2.2
    | some (.inr (.inl v)) => some (v, M)
    | some (.inr (.inr q)) => if rk q.1 q.2.1 < n then (match ev f (rk q.1 q.2.1) q.1 0 (ent q.1 q.2.1) [] M with
      | some r => ev f n J (pc + 3) L (r.1.toList ++ q.2.2) r.2
      | none => none) else none
theorem ev_succ : ∀ (f n J pc : Nat) (L stk : List Value) (M : aM) (r : Option Value × aM), ev f n J pc L stk M = some r → ev (f + 1) n J pc L stk M = some r := by
  intro f
  induction f with
  | zero => intro n J pc L stk M r h; simp [ev] at h
  | succ f ih =>
    intro n J pc L stk M r h
    rw [ev] at h ⊢
    cases hs : sti J pc L stk M with
    | none => rw [hs] at h; cases h
    | some q =>
      rw [hs] at h
      rcases q with q | v | q
      · exact ih _ _ _ _ _ _ _ h
      · exact h
      · dsimp only at h ⊢
        split at h
        · rename_i hr
          rw [if_pos hr]
          cases he : ev f (rk q.1 q.2.1) q.1 0 (ent q.1 q.2.1) [] M with
          | none => rw [he] at h; cases h
          | some w =>
            rw [he] at h
            rw [ih _ _ _ _ _ _ _ he]
            exact ih _ _ _ _ _ _ _ h
        · cases h
theorem ev_le {f f' n J pc : Nat} {L stk : List Value} {M : aM} {r : Option Value × aM} (h : ev f n J pc L stk M = some r) (hf : f ≤ f') : ev f' n J pc L stk M = some r := by
  obtain ⟨k, rfl⟩ := Nat.le.dest hf
  clear hf
  induction k with
  | zero => exact h
  | succ k ih => exact ev_succ _ _ _ _ _ _ _ _ ih
noncomputable def run (n J pc : Nat) (L stk : List Value) (M : aM) : Option (Option Value × aM) :=
  @dite _ (∃ (r : Option Value × aM) (f : Nat), ev f n J pc L stk M = some r) (Classical.propDecidable _) (fun h => some (Classical.choose h)) (fun _ => none)
theorem run_iff {n J pc : Nat} {L stk : List Value} {M : aM} {r : Option Value × aM} : run n J pc L stk M = some r ↔ ∃ f, ev f n J pc L stk M = some r := by
  unfold run
  by_cases h : ∃ (r : Option Value × aM) (f : Nat), ev f n J pc L stk M = some r
  · rw [dif_pos h]
    have hc := Classical.choose_spec h
    constructor
    · intro e
      rw [← Option.some.inj e]
      exact hc
    · rintro ⟨f, hf⟩
      obtain ⟨f', hf'⟩ := hc
      have h1 := ev_le hf (Nat.le_max_left f f')
      have h2 := ev_le hf' (Nat.le_max_right f f')
      rw [h1] at h2
      rw [Option.some.inj h2]
  · rw [dif_neg h]
    constructor
    · intro e; cases e
    · rintro ⟨f, hf⟩
      exact absurd ⟨r, f, hf⟩ h
theorem run_next {n J pc pc' : Nat} {L stk L' stk' : List Value} {M M' : aM} (h : sti J pc L stk M = some (.inl (pc', L', stk', M'))) : run n J pc L stk M = run n J pc' L' stk' M' := by
  apply Option.ext
  intro r
  rw [run_iff, run_iff]
  constructor
  · rintro ⟨f, hf⟩
    cases f with
    | zero => simp [ev] at hf
    | succ f => rw [ev, h] at hf; exact ⟨f, hf⟩
  · rintro ⟨f, hf⟩
    exact ⟨f + 1, by rw [ev, h]; exact hf⟩
theorem run_ret {n J pc : Nat} {L stk : List Value} {M : aM} {v : Option Value} (h : sti J pc L stk M = some (.inr (.inl v))) : run n J pc L stk M = some (v, M) :=
  run_iff.mpr ⟨1, by rw [ev, h]⟩
noncomputable def call (J : Nat) (as : List Value) (M : aM) : Option (Option Value × aM) := run (rk J as) J 0 (ent J as) [] M
theorem run_call {n J pc J' : Nat} {L stk as rest : List Value} {M : aM} (h : sti J pc L stk M = some (.inr (.inr (J', as, rest)))) (hr : rk J' as < n) : run n J pc L stk M = (call J' as M).bind (fun r => run n J (pc + 3) L (r.1.toList ++ rest) r.2) := by
  apply Option.ext
  intro r
  rw [run_iff, Option.bind_eq_some_iff]
  constructor
  · rintro ⟨f, hf⟩
    cases f with
    | zero => simp [ev] at hf
    | succ f =>
      rw [ev, h] at hf
      dsimp only at hf
      rw [if_pos hr] at hf
      cases he : ev f (rk J' as) J' 0 (ent J' as) [] M with
      | none => rw [he] at hf; cases hf
      | some w =>
        rw [he] at hf
        exact ⟨w, run_iff.mpr ⟨f, he⟩, run_iff.mpr ⟨f, hf⟩⟩
  · rintro ⟨w, hw, hf⟩
    obtain ⟨f1, h1⟩ := run_iff.mp hw
    obtain ⟨f2, h2⟩ := run_iff.mp hf
    refine ⟨max f1 f2 + 1, ?_⟩
    rw [ev, h]
    dsimp only
    rw [if_pos hr, ev_le h1 (Nat.le_max_left _ _)]
    exact ev_le h2 (Nat.le_max_right _ _)
