/-! THE CLAIM OUT OF ONE WALK OF THE LAW'S BODY. Your part is whole_start (and what it stands on); all else here is the same for every law, but numbers. -/
def R_law : String := "TreacleTankLaw"
def lw_P (b : Addr) (xs : List Int32) (args : Array Value) (s : State) : Prop := args = #[.ref b] ∧ s.IntsAt b xs ∧ xs.length ≤ 4608 ∧ (Jvm.Cond.and given_1 narrow_1).before args s = true
def lw_Q (_ : Array Value) (s : State) (o : Outcome) (t : State) : Prop := o = .returned (some (.int 1)) ∧ Framed s o t [] 600000 7302250
def lw_Z (below : List Frame) (a : Array Value) (s : State) : State → Prop := fun t => ∃ o, t.status = .running ∧ Ended t below o ∧ lw_Q a s o t
/-- the law's own end, with 1 on the stack, nothing written that was there before, its room as the claim has it -/
theorem lw_ret {p : Program} {l : Launch} {e : Env} {s : State} {m : MethodId} {below : List Frame} {meth : Method} {c : Code} {b : Nat} (hx : p.tables.exec = Jvm.exec) (hb : c.code = code) (hr : meth.sig.returnType = ret) (hlocks : meth.locks = false) {pc : Nat} {H : Heap} {ls : Array Slot} (hdg : decode code pc = .ok (.ireturn, 1)) : W p l e room_1 s m #[Value.ref b] below meth c H [] 600000 7302250 (lw_Z below #[Value.ref b] s) (F0 m pc ls [.int 1]) := by
  intro T hT X
  obtain ⟨fs, hret, hrun, hended, hW, hframe⟩ := X.leave (v := some (.int 1)) (hlocks := hlocks) (fun h => by rw [hr] at h; cases h)
  have hmeth' : T.vm.method? m = some meth := X.method'
  refine ⟨T.setFrames fs, ?_, .returned (some (.int 1)), hrun, hended, rfl, ⟨_, rfl⟩, hW, hframe⟩
  jvm_step X.here [X.here.top, hx, hb, hdg, hmeth', hr, ret, narrow_b1]
  (try refine ⟨rfl, ?_⟩); (try refine ⟨rfl, ?_⟩)
  first | (intro acts; rw [hret _ acts rfl rfl rfl]) | rw [hret _ _ rfl rfl rfl]
  exact Steps.refl _
/-- what holds at the law's entry: the machine, the code, the tables' words (any of lw_tbl by 'hts w (by decide +kernel)'), the script of L ints xs at the cell b, what the Statement gives of the start (any of its parts by flat_of_before) -/
def lw_At (p : Program) (s : State) (m : MethodId) (meth : Method) (c : Code) (b L : Nat) (xs : Nat → Int32) : Prop :=
  p.tables.exec = Jvm.exec ∧ c.code = code ∧ meth.sig.returnType = ret ∧ c.maxLocals = 4 ∧ s.vm.findClass R_law = some m.cls ∧ (∀ w ∈ lw_tbl, w.before #[Value.ref b] s = true) ∧ va_X b L xs s s.heap ∧ b < s.heap.size ∧ meth.locks = false ∧ (Jvm.Cond.and given_1 narrow_1).before #[Value.ref b] s = true
-- the start: an abstract memory that holds the script alone
def M0 (L : Nat) (xs : Nat → Int32) : aM := ((fun a k => if a = 1 then xs k else 0), (fun _ _ => 0), (fun _ _ => 0), (fun a => if a = 1 then (20, L) else (99, 0)), 0, 0)
theorem arr_ok {s : State} {args : Array Value} {ty : FieldType} (hn : ∀ C, ty ≠ .object C) (h : (Cond.arrayClass ty).before args s = true) : ∃ cA : ClassId, ArrOfT s cA ty ∧ va_RA s cA ty := by
  obtain ⟨c, k, comp, h1, h2, h3⟩ := Cond.arrayClass_spec h
  refine ⟨c, fun n z => ⟨fun k h => (by cases h), k, h2, comp, h3⟩, ?_⟩
  cases ty with
  | object C => exact absurd rfl (hn C)
  | _ => exact h1
theorem arO_ok {s : State} {args : Array Value} {C : String} (h : (Cond.arrayOver (.object C)).before args s = true) : ∃ cA : ClassId, ArrOfT s cA (.object C) ∧ va_RA s cA (.object C) := by
  obtain ⟨comp, c, k, h1, -, h2, h3, h4⟩ := Cond.arrayOver_spec h
  exact ⟨c, fun n z => ⟨fun k h => (by cases h), k, h2, comp, h3⟩, k, comp, h2, h3, h1, h4⟩
theorem eqR {args : Array Value} {s : State} {t u : Term} {a b : Nat} (h : (Cond.eq t u).before args s = true) (ht : t.eval args s none [] s = some (.ref a)) (hu : u.eval args s none [] s = some (.ref b)) : a = b := by
  simp [Cond.before, Cond.holds, Cond.value, ht, hu] at h
  exact h
def strT (i : Nat) : Term := .string "TreacleTank$Tape" ([72, 74, 76, 78, 80, 82, 84, 86, 88, 93, 95, 97, 99, 101, 103, 105, 107, 109, 111, 113, 115, 117].getD i 0)
def strU (i : Nat) : Term := .string "TreacleTankModel" ([363, 365, 367, 390, 392, 385, 345, 359, 361, 253, 254, 255, 256, 258, 260, 261, 263, 265, 267, 268, 269, 271].getD i 0)
def strF : List Cond := flatC (Jvm.Cond.and given_1 narrow_1)
set_option maxRecDepth 100000 in
theorem sf_x : (List.range 22).all (fun i => decide (Cond.exactly (strT i) "java/lang/String" ∈ strF)) = true := by decide +kernel
set_option maxRecDepth 100000 in
theorem sf_y : (List.range 22).all (fun i => decide (Cond.exactly (strU i) "java/lang/String" ∈ strF)) = true := by decide +kernel
set_option maxRecDepth 100000 in
theorem sf_c : (List.range 22).all (fun i => decide (Cond.eq (.field (strT i) "java/lang/String" "coder" "B") (.int 0) ∈ strF)) = true := by decide +kernel
set_option maxRecDepth 100000 in
theorem sf_a : (List.range 22).all (fun i => decide (Cond.arrayOf (.field (strT i) "java/lang/String" "value" "[B") .byte ∈ strF)) = true := by decide +kernel
set_option maxRecDepth 100000 in
theorem sf_l : (List.range 22).all (fun i => decide (Cond.eq (.length (.field (strT i) "java/lang/String" "value" "[B")) (.int (Int32.ofNat (slen.getD i 0))) ∈ strF)) = true := by decide +kernel
set_option maxRecDepth 100000 in
theorem sf_e : (List.range 22).all (fun i => (List.range (slen.getD i 0)).all (fun j => decide (Cond.eq (.elem (.field (strT i) "java/lang/String" "value" "[B") (.int (Int32.ofNat j))) (.int ((sbyt.getD i []).getD j 0)) ∈ strF))) = true := by decide +kernel
set_option maxRecDepth 100000 in
theorem sf_q : (List.range 22).all (fun i => decide (Cond.eq (strT i) (strU i) ∈ strF)) = true := by decide +kernel
set_option maxRecDepth 100000 in
theorem sf_s : strs.all (fun q => decide (q.2.2.2 < 22) && (decide (Term.string q.1 q.2.1 = strT q.2.2.2) || decide (Term.string q.1 q.2.1 = strU q.2.2.2)) && decide (Cond.stringRef q.1 q.2.1 q.2.2.1 ∈ tables_1)) = true := by decide +kernel
set_option maxRecDepth 100000 in
theorem sf_st : Cond.eq (.static "java/lang/String" "COMPACT_STRINGS" "Z") (.int 1) ∈ strF ∧ Cond.isRef (.static "jdk/internal/util/Preconditions" "SIOOBE_FORMATTER" "Ljava/util/function/BiFunction;") ∈ strF := by decide +kernel
set_option maxRecDepth 100000 in
theorem sf_w : Cond.laysStatic "java/lang/String" "COMPACT_STRINGS" "Z" ∈ lw_tbl ∧ Cond.laysStatic "jdk/internal/util/Preconditions" "SIOOBE_FORMATTER" "Ljava/util/function/BiFunction;" ∈ lw_tbl ∧ Cond.initialized "java/lang/String" ∈ lw_tbl ∧ Cond.initialized "jdk/internal/util/Preconditions" ∈ lw_tbl := ⟨tb_at 589 (by decide +kernel), tb_at 605 (by decide +kernel), tb_at 12 (by decide +kernel), tb_at 14 (by decide +kernel)⟩
theorem sf_o : Cond.arrayOver (.object RX0) ∈ lw_tbl ∧ Cond.arrayOver (.object RX3) ∈ lw_tbl ∧ Cond.arrayOver (.object RX4) ∈ lw_tbl ∧ Cond.arrayOver (.object RX8) ∈ lw_tbl := ⟨tb_at 262 (by decide +kernel), tb_at 40 (by decide +kernel), tb_at 224 (by decide +kernel), tb_at 311 (by decide +kernel)⟩
theorem nest_in {w : Cond} (h : w ∈ ntb) : w ∈ lw_tbl := (List.mem_filter.mp h).1
theorem gtb_in {w : Cond} (h : w ∈ gtb) : w ∈ lw_tbl := (List.mem_filter.mp h).1
set_option maxHeartbeats 4000000 in
theorem start_ws {s : State} {args : Array Value} {b L : Nat} {xs : Nat → Int32} (hts : ∀ w ∈ lw_tbl, w.before args s = true) (hX : va_X b L xs s s.heap) (hbl : b < s.heap.size) (hgv : (Jvm.Cond.and given_1 narrow_1).before args s = true) : ∃ g : aG, WS g s ∧ gB g = s.heap.size ∧ gS g = b ∧ gN g = L ∧ gX g = xs := by
  have hf := flat_of_before _ hgv
  have hnA : ∀ a : Nat, a < s.heap.size → ¬ (fun q : Nat => s.heap.size ≤ q) a := fun a h q => absurd h (Nat.not_lt.mpr q)
  have hcl : ∀ ci : Nat, ∃ q : ClassId × (Nat → Nat), ci < 12 → u_Kn s (RF ci) (TF ci) (nF ci) q.1 q.2 := by
    intro ci
    by_cases h : ci < 12
    · obtain ⟨cC, iS, hk⟩ := u_known (C := RF ci) (T := TF ci) (N := nF ci) (n := nF ci) hts (fun w hw => gtb_in (inG h w hw)) (hts _ (gtb_in (inst_ok h).1))
      exact ⟨(cC, iS), fun _ => hk⟩
    · exact ⟨(0, fun _ => 0), fun q => absurd q h⟩
  obtain ⟨fc, hfc⟩ := Classical.axiomOfChoice hcl
  obtain ⟨a12, h12⟩ := arr_ok (ty := .int) (fun _ h => by cases h) (hts _ (gtb_in w_aI))
  obtain ⟨a13, h13⟩ := arr_ok (ty := .byte) (fun _ h => by cases h) (hts _ (gtb_in w_aB))
  obtain ⟨a14, h14⟩ := arr_ok (ty := .boolean) (fun _ h => by cases h) (hts _ (gtb_in w_aZ))
  obtain ⟨a15, h15⟩ := arr_ok (ty := .long) (fun _ h => by cases h) (hts _ (gtb_in w_aJ_))
  obtain ⟨a16, h16⟩ := arO_ok (hts _ sf_o.1)
  obtain ⟨a17, h17⟩ := arO_ok (hts _ sf_o.2.1)
  obtain ⟨a18, h18⟩ := arO_ok (hts _ sf_o.2.2.1)
  obtain ⟨a19, h19⟩ := arO_ok (hts _ sf_o.2.2.2)
  have hst : ∀ i : Nat, ∃ q : Nat × Nat, i < 22 → (va_O "java/lang/String" q.1 (fun q : Nat => s.heap.size ≤ q) s s.heap ∧ va_OF "java/lang/String" "coder" "B" (.int 0) q.1 (fun q : Nat => s.heap.size ≤ q) s s.heap ∧ va_OF "java/lang/String" "value" "[B" (.ref q.2) q.1 (fun q : Nat => s.heap.size ≤ q) s s.heap ∧ va_T .byte q.2 (slen.getD i 0) (fun j => .int ((sbyt.getD i []).getD j 0)) (fun q : Nat => s.heap.size ≤ q) s s.heap) ∧ (strT i).eval args s none [] s = some (.ref q.1) ∧ (strU i).eval args s none [] s = some (.ref q.1) := by
    intro i
    by_cases hi : i < 22
    · have m1 := List.mem_range.mpr hi
      have q1 := of_decide_eq_true (List.all_eq_true.mp sf_x i m1)
      have q2 := of_decide_eq_true (List.all_eq_true.mp sf_y i m1)
      have q3 := of_decide_eq_true (List.all_eq_true.mp sf_c i m1)
      have q4 := of_decide_eq_true (List.all_eq_true.mp sf_a i m1)
      have q5 := of_decide_eq_true (List.all_eq_true.mp sf_l i m1)
      have q6 := List.all_eq_true.mp sf_e i m1
      have q7 := of_decide_eq_true (List.all_eq_true.mp sf_q i m1)
      have hsl : slen.getD i 0 < 2 ^ 31 := by
        have := List.all_eq_true.mp sby_all i m1
        simp only [Bool.and_eq_true, beq_iff_eq, decide_eq_true_eq] at this
        omega
      obtain ⟨adK, adV, hS, hE⟩ := vk_Sof (args := args) (s := s) (N := 1) (tm := fun _ => strT i) (len := [slen.getD i 0]) (byt := [sbyt.getD i []]) (A := fun q : Nat => s.heap.size ≤ q) (fun k hk => by rw [show k = 0 by omega]; exact hsl) (fun k hk => hf _ q1) (fun k hk => hf _ q3) (fun k hk => hf _ q4) (fun k hk => by rw [show k = 0 by omega]; exact hf _ q5) (fun k hk j hj => by
        rw [show k = 0 by omega] at hj ⊢
        exact hf _ (of_decide_eq_true (List.all_eq_true.mp q6 j (List.mem_range.mpr hj)))) (fun k k' hk hk' h => absurd (show k = k' by omega) h) hnA
      obtain ⟨a, -, -, -, z1, -⟩ := Cond.exactly_spec (args := args) (first := s) (o := none) (s := s) (idx := []) (t := strU i) (cls := "java/lang/String") (hf _ q2)
      have he := eqR (hf _ q7) (hE 0 (by omega)) z1
      refine ⟨(adK 0, adV 0), fun _ => ⟨hS.1 0 (by omega), hE 0 (by omega), ?_⟩⟩
      rw [z1, ← he]
    · exact ⟨(0, 0), fun h => absurd h hi⟩
  obtain ⟨fs, hfs⟩ := Classical.axiomOfChoice hst
  refine ⟨((fun c => (fc c).1, fun c => (fc c).2), (fun k => if k = 12 then a12 else if k = 13 then a13 else if k = 14 then a14 else if k = 15 then a15 else if k = 16 then a16 else if k = 17 then a17 else if k = 18 then a18 else a19), s.heap.size, b, L, xs, (fun i => (fs i).1), (fun i => (fs i).2)), ⟨⟨?_, ?_⟩, ?_, ⟨?_, ?_, ?_, ?_⟩, ?_, ?_, hX, hbl, Nat.le_refl _, ?_, ?_⟩, rfl, rfl, rfl, rfl⟩
  · intro k q hq
    by_cases h : k < 12
    · rw [clG h] at hq
      cases hq
      exact hfc k h
    · exfalso
      have := (List.getElem?_eq_some_iff.mp hq).1
      exact h this
  · intro k q hq
    match k, hq with
    | 0, hq => cases hq; exact h12
    | 1, hq => cases hq; exact h13
    | 2, hq => cases hq; exact h14
    | 3, hq => cases hq; exact h15
    | 4, hq => cases hq; exact h16
    | 5, hq => cases hq; exact h17
    | 6, hq => cases hq; exact h18
    | 7, hq => cases hq; exact h19
    | k + 8, hq => simp [tys] at hq
  · intro w hw
    exact va_tabs (nest_on (List.mem_filter.mp hw).2) rfl (hts w (nest_in hw))
  · exact va_AO.of (hts _ sf_o.1)
  · exact va_AO.of (hts _ sf_o.2.1)
  · exact va_AO.of (hts _ sf_o.2.2.1)
  · exact va_AO.of (hts _ sf_o.2.2.2)
  · intro i hi
    exact (hfs i hi).1
  · intro q hq
    have hz := List.all_eq_true.mp sf_s q hq
    simp only [Bool.and_eq_true, Bool.or_eq_true, decide_eq_true_eq] at hz
    obtain ⟨⟨h22, hor⟩, hmem⟩ := hz
    refine vk_R.same (u := s) rfl (vk_R.of (A := args) (hts _ (List.mem_append_right _ hmem)) ?_)
    rcases hor with h | h
    · rw [h]; exact (hfs _ h22).2.1
    · rw [h]; exact (hfs _ h22).2.2
  · exact va_Zof (hts _ sf_w.1) (hts _ sf_w.2.2.1) (va_eqt (hf _ sf_st.1)) hnA
  · exact va_Zqof (hts _ sf_w.2.1) (hts _ sf_w.2.2.2) (hf _ sf_st.2) hnA
/-- THE WALK OUT OF AN ABSTRACT RUN -/
theorem start_of {p : Program} {e : Env} {s : State} {m : MethodId} {below : List Frame} {meth : Method} {c : Code} (l : Launch) {b L : Nat} {xs : Nat → Int32} {M' : aM} (C0 : lw_At p s m meth c b L xs) (hrun : run 63 232 0 [.ref 1, xU, xU, xU] [] (M0 L xs) = some (some (.int 1), M')) (hc : mX M' ≤ 600000) (hu : mU M' ≤ 7302250) : W p l e room_1 s m #[Value.ref b] below meth c s.heap [] 0 0 (lw_Z below #[Value.ref b] s) (entryFrame m ([Value.ref b] : List Value).toArray 4) := by
  obtain ⟨hx, hb, hr, hml, hown, hts, hX, hbl, hlocks, hgv⟩ := id C0
  obtain ⟨g, hWS, hB, hgS, hgN, hgX⟩ := start_ws hts hX hbl hgv
  obtain ⟨f, hev⟩ := run_iff.mp hrun
  have hl := lv_entry ([.ref b]) (n := 4) (Nat.le_of_ble_eq_true rfl)
  rw [lg_entry_eq]
  generalize (lg_sl ([.ref b]) ++ List.replicate (4 - (lg_sl ([.ref b])).length) Slot.unset).toArray = ls at hl ⊢
  have hl : lv_has ls 4 [(0, .ref b)] := hl
  have had : rv g (.ref 1) = .ref b := by
    rw [rv_refP (by omega)]
    unfold adr
    rw [if_pos (by omega), if_pos rfl, hgS]
  have hlr : lvR g ls 4 [.ref 1, xU, xU, xU] := by
    refine ⟨hl.1, hl.2.1, fun q hq => ?_⟩
    have e1 : lvA g 0 [.ref 1, xU, xU, xU] = [(0, rv g (.ref 1))] := rfl
    rw [e1, had] at hq
    exact hl.2.2 q hq
  have hM : HM g (M0 L xs) s.heap := by
    refine ⟨fun k q h => ?_, fun a h => ?_, fun a h => ?_, ?_, fun j => ?_⟩
    · have : wsl g (M0 L xs) = [] := rfl
      rw [this] at h
      simp at h
    · unfold mK M0 at h
      dsimp only at h
      split at h <;> simp at h
    · unfold mK M0 at h
      dsimp only at h
      split at h
      · assumption
      · simp at h
    · show mN (M0 L xs) 1 = gN g
      rw [hgN]
      rfl
    · rw [hgX]
      rfl
  have key := sim_all (l := l) (g := g) strM f 63 232 0 _ _ _ _ hev 0 0 p e room_1 s m #[Value.ref b] below meth c (lw_Z below #[Value.ref b] s) ⟨hx, hb, hml, hown, fun w hw => hts w (gtb_in hw), hWS, fun h => absurd h (by decide +kernel), Nat.le_of_ble_eq_true rfl, Nat.le_of_ble_eq_true rfl, by rw [hB]; rfl⟩ (by show mX M' ≤ 600000 + 0; omega) (by show mU M' ≤ 7302250 + 0; omega) ?_
  · exact key s.heap [] ls 0 0 va_S.rf hM hlr rfl rfl rfl
  · intro pc' ls' H locs cells slots hret hS hM' hc' hu'
    have hd : decode code pc' = .ok (.ireturn, 1) := by
      rcases hret with ⟨x, hi, -, -⟩ | ⟨x, -, h, -⟩ | ⟨x, -, h, -⟩ | ⟨-, h, -⟩
      · obtain ⟨n0, hd, hn0⟩ := ins_dec hi
        rcases hn0 with rfl | hn0
        · exact hd
        · cases hn0
      · cases h
      · cases h
      · cases h
    refine va_forget (fun q hq => by have := hS.2.2 q hq; unfold wA at this; rw [hB] at this; exact this) ?_
    refine W.widen (k := 600000) (n := 7302250) (by simp only at hc'; omega) (by simp only at hu'; omega) ?_
    exact lw_ret hx hb hr hlocks hd
