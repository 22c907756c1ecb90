/-! SIMULATION, 6: every abstract run is a run of the machine -/
theorem lg_sl_len {g : aG} : ∀ vs : List Value, (lg_sl (vs.map (rv g))).length = (enL vs).length := by
  intro vs
  induction vs with
  | nil => rfl
  | cons v vs ih =>
    have e : lg_sl ((v :: vs).map (rv g)) = (if (rv g v).category = 2 then [Slot.val (rv g v), .second] else [.val (rv g v)]) ++ lg_sl (vs.map (rv g)) := rfl
    rw [e, List.length_append, ih, rv_cat]
    unfold enL
    by_cases hc : v.category = 2
    · rw [if_pos hc, if_pos hc]
      simp only [List.length_cons, List.length_nil]
      conv => rhs; unfold enL
      omega
    · rw [if_neg hc, if_neg hc]
      simp only [List.length_cons, List.length_nil]
      conv => rhs; unfold enL
      omega
section SIMZ
variable {g : aG} {J n C0 S0 : Nat} {p : Program} {l : Launch} {e : Env} {R : Room} {s : State} {m : MethodId} {args : Array Value} {below : List Frame} {meth : Method} {c : Code}
theorem ret_mq (hx : p.tables.exec = Jvm.exec) (hb : c.code = (mt J).2.2.1) (hr : meth.sig.returnType = (mt J).2.2.2.2) (hlocks : meth.locks = false) {Qc : Array Value → State → Outcome → State → Prop} {free : Addr → Prop} {pc : Nat} {v : Option Value} {H : Heap} {locs : List Loc} {ls : Array Slot} {cells slots : Nat} (hret : retAt J pc v) (hf : ∀ q ∈ locs, free q.base) (hq : ∀ t : State, t.heap = H → s.WarmedH t.vm → Qc args s (.returned (v.map (rv g))) t) : W p l e R s m args below meth c H locs cells slots (MQ below Qc args s cells slots free) (F0 m pc ls ((v.map (rv g)).toList)) := by
  rcases hret with ⟨x, hi, rfl, ht⟩ | ⟨x, hi, rfl, ht⟩ | ⟨a, hi, rfl, ht⟩ | ⟨hi, rfl, ht⟩
  · obtain ⟨n0, hd, hn0⟩ := ins_dec hi
    rcases hn0 with rfl | hn0
    rotate_left
    · cases hn0
    unfold rtI at ht
    split at ht
    · rename_i e0
      rw [e0] at hr
      exact W.iret hx hb hr hq hf hd hlocks
    · rename_i e0
      rw [e0] at hr
      simp only [decide_eq_true_eq] at ht
      exact W.zret hx hb hr (by rcases ht with rfl | rfl <;> rfl) hq hf hd hlocks
    · cases ht
  · obtain ⟨n0, hd, hn0⟩ := ins_dec hi
    rcases hn0 with rfl | hn0
    rotate_left
    · cases hn0
    rw [ht] at hr
    exact W.lret hx hb hr hq hf hd hlocks
  · obtain ⟨n0, hd, hn0⟩ := ins_dec hi
    rcases hn0 with rfl | hn0
    rotate_left
    · cases hn0
    unfold rtR at ht
    have hv : rv g (.ref a) = .null ∨ ∃ b, rv g (.ref a) = .ref b := by
      by_cases h : a = 0
      · subst h; exact Or.inl rv_ref0
      · exact Or.inr ⟨_, rv_refP h⟩
    split at ht
    · rename_i nm e0
      rw [e0] at hr
      exact W.aret hx hb hr (Or.inl ⟨nm, rfl⟩) hv hq hf hd hlocks
    · rename_i t e0
      rw [e0] at hr
      exact W.aret hx hb hr (Or.inr ⟨t, rfl⟩) hv hq hf hd hlocks
    · cases ht
  · obtain ⟨n0, hd, hn0⟩ := ins_dec hi
    rcases hn0 with rfl | hn0
    rotate_left
    · cases hn0
    rw [ht] at hr
    exact W.vret hx hb hr hq hf hd hlocks
end SIMZ
/-- what is said of runs of fuel f -/
def SimS (l : Launch) (g : aG) (f : Nat) : Prop := ∀ (n J pc : Nat) (L stk : List Value) (M : aM) (r : Option Value × aM), ev f n J pc L stk M = some r → ∀ (C0 S0 : Nat) (p : Program) (e : Env) (R : Room) (s : State) (m : MethodId) (args : Array Value) (below : List Frame) (meth : Method) (c : Code) (Q : State → Prop), Fr g J n C0 p R s m args meth c → mX r.2 ≤ R.cells + C0 → mU r.2 ≤ R.slots + S0 →
  (∀ (pc' : Nat) (ls : Array Slot) (H : Heap) (locs : List Loc) (cells slots : Nat), retAt J pc' r.1 → va_S (wA g) s.heap H locs → HM g r.2 H → cells + C0 = mX r.2 → slots + S0 = mU r.2 → W p l e R s m args below meth c H locs cells slots Q (F0 m pc' ls ((r.1.map (rv g)).toList))) → SimAt g J C0 S0 p l e R s m args below meth c Q pc L stk M
theorem calAt_lt {J pc J2 : Nat} {as rest stk : List Value} {M : aM} (h : calAt J pc J2 as rest stk M) : J2 < 232 := by
  obtain ⟨x, k, na, hpk, -, -, -, -, -, hkind⟩ := h
  obtain ⟨pp, hp⟩ := mth_ok hpk
  have hk9 : ¬ k = 9 := by
    rcases hkind with h | h | h
    · have := h.2.1; omega
    · have := h.2.1; omega
    · have := h.2.1; omega
  unfold mck at hp
  rw [if_neg hk9] at hp
  simp only [Bool.and_eq_true, decide_eq_true_eq] at hp
  exact hp.1.1.1
theorem metJ_of {l : Launch} {g : aG} {f : Nat} (IH : SimS l g f) {J2 : Nat} {as : List Value} {M : aM} {w : Option Value × aM} (h232 : J2 < 232) (hen : (enL as).length ≤ (mt J2).2.2.2.1) (he : ev f (rk J2 as) J2 0 (ent J2 as) [] M = some w) : MetJ l g J2 as M w := by
  have hj := jck_all h232
  unfold jck at hj
  simp only [Bool.and_eq_true, decide_eq_true_eq] at hj
  obtain ⟨⟨⟨⟨⟨⟨⟨⟨hini, hsi⟩, hsel⟩, hini2⟩, hpl⟩, hcls⟩, h12⟩, hmh⟩, hvh⟩ := hj
  have hmo := ev_mono _ _ _ _ _ _ _ _ he
  refine Met.ofW (cc := (mt J2).2.2.1) (maxL := (mt J2).2.2.2.1) (ret := (mt J2).2.2.2.2) hpl rfl ?_
  intro p e s m args below meth c s₁ B hml hv
  obtain ⟨rfl, hWS, hM, hsz⟩ := hv
  have hts := atoms_spec (ws := mws J2) B.pre
  have hown : s.vm.findClass (ROf (mt J2).1) = some m.cls := by
    rw [ROf_lt h12, ← hcls]
    exact findClass_of_methodNamed B.named
  have hnm : meth.name = (mt J2).2.1.name := (name_of_methodNamed B.named B.method).1
  have hl := lv_entry (as.map (rv g)) (n := (mt J2).2.2.2.1) (by rw [lg_sl_len]; exact hen)
  rw [lg_entry_eq]
  generalize (lg_sl (as.map (rv g)) ++ List.replicate ((mt J2).2.2.2.1 - (lg_sl (as.map (rv g))).length) Slot.unset).toArray = ls at hl ⊢
  have hlr : lvR g ls (mt J2).2.2.2.1 (ent J2 as) := ⟨hl.1, hl.2.1, fun q hq => hl.2.2 q (enL_args as _ 0 q hq)⟩
  have key := IH _ _ _ _ _ _ _ he (mX M) (mU M) p e { frames := rk J2 as + 8, cells := mX w.2 - mX M, slots := mU w.2 - mU M, locals := 64 * rk J2 as + 400 } s m (as.map (rv g)).toArray below meth c (MQ below (fun _ st oc t => oc = .returned (w.1.map (rv g)) ∧ HM g w.2 t.heap ∧ va_F (wA g) st t) (as.map (rv g)).toArray s (mX w.2 - mX M) (mU w.2 - mU M) (wA g)) ⟨B.exec, B.bytes, hml, hown, fun w' hw' => hts w' (List.mem_cons_of_mem _ hw'), hWS, fun h => by rw [hnm]; exact h, Nat.le_refl _, Nat.le_refl _, hsz⟩ (by show mX w.2 ≤ mX w.2 - mX M + mX M; omega) (by show mU w.2 ≤ mU w.2 - mU M + mU M; omega) ?_
  · exact key s.heap [] ls 0 0 va_S.rf hM hlr (by unfold ent; rw [List.length_append, List.length_replicate]; omega) (Nat.zero_add _) (Nat.zero_add _)
  · intro pc' ls' H locs cells slots hret hS hM' hc hu
    obtain rfl : cells = mX w.2 - mX M := by omega
    obtain rfl : slots = mU w.2 - mU M := by omega
    exact ret_mq B.exec B.bytes B.returns B.notSynchronized hret hS.2.2 (fun t ht hW => ⟨rfl, by rw [ht]; exact hM', hS.F ht⟩)
theorem sim_all {l : Launch} {g : aG} (hStr : StrM l g) : ∀ f, SimS l g f := by
  intro f
  induction f with
  | zero => intro n J pc L stk M r h; simp [ev] at h
  | succ f ih =>
    intro n J pc L stk M r h C0 S0 p e R s m args below meth c Q F hC hU HR
    rw [ev] at h
    cases hs : sti J pc L stk M with
    | none => rw [hs] at h; cases h
    | some q =>
      rw [hs] at h
      rcases q with q | v | q
      · have h' : ev f n J q.1 q.2.1 q.2.2.1 q.2.2.2 = some r := h
        have hmo := ev_mono _ _ _ _ _ _ _ _ h'
        unfold sti at hs
        rw [Option.bind_eq_some_iff] at hs
        obtain ⟨i, hi, hs⟩ := hs
        exact sim_next hStr F hi hs (Nat.le_trans hmo.1 hC) (Nat.le_trans hmo.2 hU) (ih _ _ _ _ _ _ _ h' C0 S0 p e R s m args below meth c Q F hC hU HR)
      · cases h
        obtain ⟨hret, hst⟩ := sti_ret hs
        intro H locs ls cells slots hS hM hl hL hc hu
        have := HR pc ls H locs cells slots hret hS hM hc hu
        rw [hst]
        have e2 : v.toList.map (rv g) = (v.map (rv g)).toList := by cases v <;> rfl
        rw [e2]
        exact this
      · dsimp only at h
        split at h
        · rename_i hrk
          cases he : ev f (rk q.1 q.2.1) q.1 0 (ent q.1 q.2.1) [] M with
          | none => rw [he] at h; cases h
          | some w =>
            rw [he] at h
            have h' : ev f n J (pc + 3) L (w.1.toList ++ q.2.2) w.2 = some r := h
            have hmo := ev_mono _ _ _ _ _ _ _ _ h'
            have hca := sti_call (J2 := q.1) (as := q.2.1) (rest := q.2.2) hs
            have hen : (enL q.2.1).length ≤ (mt q.1).2.2.2.1 := by
              obtain ⟨x, k, na, -, -, h3, -⟩ := hca
              exact h3
            exact sim_call F hca hrk (ev_mono _ _ _ _ _ _ _ _ he) (metJ_of ih (calAt_lt hca) hen he) (Nat.le_trans hmo.1 hC) (Nat.le_trans hmo.2 hU) (ih _ _ _ _ _ _ _ h' C0 S0 p e R s m args below meth c Q F hC hU HR)
        · cases h
