/-! SIMULATION, 4: every step that is no call and no end -/
theorem nxt_inv {pc : Nat} {L stk : List Value} {M : aM} {q : Nat × List Value × List Value × aM} (h : nxt pc L stk M = some (.inl q)) : q = (pc, L, stk, M) := by cases h; rfl
theorem jmp_inv {pc : Nat} {off : Int} {L stk : List Value} {M : aM} {q : Nat × List Value × List Value × aM} (h : jmp pc off L stk M = some (.inl q)) : ∃ t : Nat, (pc : Int) + off = (t : Int) ∧ q = (t, L, stk, M) := by
  unfold jmp at h
  split at h
  · rename_i h0
    exact ⟨((pc : Int) + off).toNat, (Int.toNat_of_nonneg h0).symm, nxt_inv h⟩
  · cases h
theorem d2_inv {i : Instr} {pc : Nat} {L stk : List Value} {M : aM} {q : Nat × List Value × List Value × aM} (h : d2 i pc L stk M = some (.inl q)) : ∃ (x y z : Int32) (st : List Value), stk = .int y :: .int x :: st ∧ op2 i x y = some z ∧ q = (pc + 1, L, .int z :: st, M) := by
  unfold d2 at h
  split at h
  · rename_i y x st
    rw [Option.bind_eq_some_iff] at h
    obtain ⟨z, h1, h2⟩ := h
    exact ⟨x, y, z, st, rfl, h1, nxt_inv h2⟩
  · cases h
theorem d2L_inv {i : Instr} {pc : Nat} {L stk : List Value} {M : aM} {q : Nat × List Value × List Value × aM} (h : d2L i pc L stk M = some (.inl q)) : ∃ (x y z : Int64) (st : List Value), stk = .long y :: .long x :: st ∧ op2L i x y = some z ∧ q = (pc + 1, L, .long z :: st, M) := by
  unfold d2L at h
  split at h
  · rename_i y x st
    rw [Option.bind_eq_some_iff] at h
    obtain ⟨z, h1, h2⟩ := h
    exact ⟨x, y, z, st, rfl, h1, nxt_inv h2⟩
  · cases h
theorem ld_inv {P : Value → Bool} {j pc : Nat} {L stk : List Value} {M : aM} {q : Nat × List Value × List Value × aM} (h : ld P j pc L stk M = some (.inl q)) : ∃ v, L[j]? = some v ∧ P v = true ∧ q = (pc, L, v :: stk, M) := by
  unfold ld at h
  split at h
  · rename_i v hv
    split at h
    · rename_i hp
      exact ⟨v, hv, hp, nxt_inv h⟩
    · cases h
  · cases h
theorem so_inv {P : Value → Bool} {j pc : Nat} {L stk : List Value} {M : aM} {q : Nat × List Value × List Value × aM} (h : so P j pc L stk M = some (.inl q)) : ∃ v st, stk = v :: st ∧ P v = true ∧ j < L.length ∧ q = (pc, st1 L j v, st, M) := by
  unfold so at h
  split at h
  · rename_i v st
    split at h
    · rename_i hp
      exact ⟨v, st, rfl, hp.1, hp.2, nxt_inv h⟩
    · cases h
  · cases h
theorem soL_inv {j pc : Nat} {L stk : List Value} {M : aM} {q : Nat × List Value × List Value × aM} (h : soL j pc L stk M = some (.inl q)) : ∃ x st, stk = .long x :: st ∧ j + 1 < L.length ∧ q = (pc, st2 L j (.long x), st, M) := by
  unfold soL at h
  split at h
  · rename_i x st
    split at h
    · rename_i hp
      exact ⟨x, st, rfl, hp, nxt_inv h⟩
    · cases h
  · cases h
theorem isI_inv {v : Value} (h : isI v = true) : ∃ x, v = .int x := by
  cases v <;> first | exact ⟨_, rfl⟩ | cases h
theorem isL_inv {v : Value} (h : isL v = true) : ∃ x, v = .long x := by
  cases v <;> first | exact ⟨_, rfl⟩ | cases h
theorem isR_inv {v : Value} (h : isR v = true) : ∃ x, v = .ref x := by
  cases v <;> first | exact ⟨_, rfl⟩ | cases h
theorem doc_inv {k na J' : Nat} {L stk : List Value} {M : aM} {q : Nat × List Value × List Value × aM} (h : doc k na J' L stk M = some (.inl q)) : False := by
  unfold doc at h
  split at h
  · split at h
    · cases h
    · split at h
      · split at h <;> cases h
      · cases h
  · cases h
theorem akc_inv {ci : Nat} (h : akc ci < 20) : ci = 0 ∨ ci = 3 ∨ ci = 4 ∨ ci = 8 := by
  unfold akc at h
  split at h
  · exact Or.inl rfl
  · exact Or.inr (Or.inl rfl)
  · exact Or.inr (Or.inr (Or.inl rfl))
  · exact Or.inr (Or.inr (Or.inr rfl))
  · omega
set_option maxRecDepth 100000 in
theorem mth_na0_a : mtab.all (fun e => !(e.2.2.2.2 == 1205) || (e.2.2.2.1 == 0)) = true := by decide +kernel
theorem mth_na0 {a b k na : Nat} (h : pk mtab a b = some (k, na, 1205)) : pk mtab a b = some (k, 0, 1205) := by
  have := List.all_eq_true.mp mth_na0_a _ (pk_mem h)
  simp only [beq_self_eq_true, Bool.not_true, Bool.false_or, beq_iff_eq] at this
  rw [this] at h
  exact h
set_option maxRecDepth 100000 in
theorem mth_na1_a : mtab.all (fun e => !(e.2.2.2.2 == 1206) || (e.2.2.2.1 == 1)) = true := by decide +kernel
theorem mth_na1 {a b k na : Nat} (h : pk mtab a b = some (k, na, 1206)) : pk mtab a b = some (k, 1, 1206) := by
  have := List.all_eq_true.mp mth_na1_a _ (pk_mem h)
  simp only [beq_self_eq_true, Bool.not_true, Bool.false_or, beq_iff_eq] at this
  rw [this] at h
  exact h
set_option maxRecDepth 100000 in
theorem mth_s0_a : mtab.all (fun e => !(e.2.2.2.2 == 1200) || (e.2.2.2.1 == 0)) = true := by decide +kernel
theorem mth_s0 {a b k na : Nat} (h : pk mtab a b = some (k, na, 1200)) : pk mtab a b = some (k, 0, 1200) := by
  have := List.all_eq_true.mp mth_s0_a _ (pk_mem h)
  simp only [beq_self_eq_true, Bool.not_true, Bool.false_or, beq_iff_eq] at this
  rw [this] at h
  exact h
set_option maxRecDepth 100000 in
theorem mth_s1_a : mtab.all (fun e => !(e.2.2.2.2 == 1201) || (e.2.2.2.1 == 2)) = true := by decide +kernel
theorem mth_s1 {a b k na : Nat} (h : pk mtab a b = some (k, na, 1201)) : pk mtab a b = some (k, 2, 1201) := by
  have := List.all_eq_true.mp mth_s1_a _ (pk_mem h)
  simp only [beq_self_eq_true, Bool.not_true, Bool.false_or, beq_iff_eq] at this
  rw [this] at h
  exact h
set_option maxRecDepth 100000 in
theorem mth_s2_a : mtab.all (fun e => !(e.2.2.2.2 == 1202) || (e.2.2.2.1 == 2)) = true := by decide +kernel
theorem mth_s2 {a b k na : Nat} (h : pk mtab a b = some (k, na, 1202)) : pk mtab a b = some (k, 2, 1202) := by
  have := List.all_eq_true.mp mth_s2_a _ (pk_mem h)
  simp only [beq_self_eq_true, Bool.not_true, Bool.false_or, beq_iff_eq] at this
  rw [this] at h
  exact h
set_option maxRecDepth 100000 in
theorem mth_s3_a : mtab.all (fun e => !(e.2.2.2.2 == 1203) || (e.2.2.2.1 == 1)) = true := by decide +kernel
theorem mth_s3 {a b k na : Nat} (h : pk mtab a b = some (k, na, 1203)) : pk mtab a b = some (k, 1, 1203) := by
  have := List.all_eq_true.mp mth_s3_a _ (pk_mem h)
  simp only [beq_self_eq_true, Bool.not_true, Bool.false_or, beq_iff_eq] at this
  rw [this] at h
  exact h
set_option maxRecDepth 100000 in
theorem mth_s4_a : mtab.all (fun e => !(e.2.2.2.2 == 1204) || (e.2.2.2.1 == 5)) = true := by decide +kernel
theorem mth_s4 {a b k na : Nat} (h : pk mtab a b = some (k, na, 1204)) : pk mtab a b = some (k, 5, 1204) := by
  have := List.all_eq_true.mp mth_s4_a _ (pk_mem h)
  simp only [beq_self_eq_true, Bool.not_true, Bool.false_or, beq_iff_eq] at this
  rw [this] at h
  exact h
set_option maxHeartbeats 4000000 in
theorem stp_mono {J pc : Nat} {i : Instr} {L stk : List Value} {M : aM} {q : Nat × List Value × List Value × aM} (h : stp J i pc L stk M = some (.inl q)) : mX M ≤ mX q.2.2.2 ∧ mU M ≤ mU q.2.2.2 := by
  cases i
  case iconst k =>
    have e := nxt_inv h; subst e
    exact ⟨Nat.le_refl _, Nat.le_refl _⟩
  case bipush k =>
    have e := nxt_inv h; subst e
    exact ⟨Nat.le_refl _, Nat.le_refl _⟩
  case sipush k =>
    have e := nxt_inv h; subst e
    exact ⟨Nat.le_refl _, Nat.le_refl _⟩
  case lconst k =>
    have e := nxt_inv h; subst e
    exact ⟨Nat.le_refl _, Nat.le_refl _⟩
  case aconst_null =>
    have e := nxt_inv h; subst e
    exact ⟨Nat.le_refl _, Nat.le_refl _⟩
  case ldc x =>
    dsimp only [stp] at h
    split at h
    · rename_i v hv
      have e := nxt_inv h; subst e
      exact ⟨Nat.le_refl _, Nat.le_refl _⟩
    · rw [Option.bind_eq_some_iff] at h
      obtain ⟨j, hj, h⟩ := h
      have e := nxt_inv h; subst e
      exact ⟨Nat.le_refl _, Nat.le_refl _⟩
  case ldc_w x =>
    dsimp only [stp] at h
    split at h
    · rename_i v hv
      have e := nxt_inv h; subst e
      exact ⟨Nat.le_refl _, Nat.le_refl _⟩
    · rw [Option.bind_eq_some_iff] at h
      obtain ⟨j, hj, h⟩ := h
      have e := nxt_inv h; subst e
      exact ⟨Nat.le_refl _, Nat.le_refl _⟩
  case ldc2_w x =>
    dsimp only [stp] at h
    rw [Option.bind_eq_some_iff] at h
    obtain ⟨v, hv, h⟩ := h
    have e := nxt_inv h; subst e
    exact ⟨Nat.le_refl _, Nat.le_refl _⟩
  case iload j =>
    obtain ⟨v, hj, hp, e⟩ := ld_inv h; subst e
    obtain ⟨x, rfl⟩ := isI_inv hp
    exact ⟨Nat.le_refl _, Nat.le_refl _⟩
  case iload_n j =>
    obtain ⟨v, hj, hp, e⟩ := ld_inv h; subst e
    obtain ⟨x, rfl⟩ := isI_inv hp
    exact ⟨Nat.le_refl _, Nat.le_refl _⟩
  case lload j =>
    obtain ⟨v, hj, hp, e⟩ := ld_inv h; subst e
    obtain ⟨x, rfl⟩ := isL_inv hp
    exact ⟨Nat.le_refl _, Nat.le_refl _⟩
  case lload_n j =>
    obtain ⟨v, hj, hp, e⟩ := ld_inv h; subst e
    obtain ⟨x, rfl⟩ := isL_inv hp
    exact ⟨Nat.le_refl _, Nat.le_refl _⟩
  case aload j =>
    obtain ⟨v, hj, hp, e⟩ := ld_inv h; subst e
    obtain ⟨x, rfl⟩ := isR_inv hp
    exact ⟨Nat.le_refl _, Nat.le_refl _⟩
  case aload_n j =>
    obtain ⟨v, hj, hp, e⟩ := ld_inv h; subst e
    obtain ⟨x, rfl⟩ := isR_inv hp
    exact ⟨Nat.le_refl _, Nat.le_refl _⟩
  case istore j =>
    obtain ⟨v, st, rfl, hp, hj, e⟩ := so_inv h; subst e
    obtain ⟨x, rfl⟩ := isI_inv hp
    exact ⟨Nat.le_refl _, Nat.le_refl _⟩
  case istore_n j =>
    obtain ⟨v, st, rfl, hp, hj, e⟩ := so_inv h; subst e
    obtain ⟨x, rfl⟩ := isI_inv hp
    exact ⟨Nat.le_refl _, Nat.le_refl _⟩
  case astore j =>
    obtain ⟨v, st, rfl, hp, hj, e⟩ := so_inv h; subst e
    obtain ⟨x, rfl⟩ := isR_inv hp
    exact ⟨Nat.le_refl _, Nat.le_refl _⟩
  case astore_n j =>
    obtain ⟨v, st, rfl, hp, hj, e⟩ := so_inv h; subst e
    obtain ⟨x, rfl⟩ := isR_inv hp
    exact ⟨Nat.le_refl _, Nat.le_refl _⟩
  case lstore j =>
    obtain ⟨x, st, rfl, hj, e⟩ := soL_inv h; subst e
    exact ⟨Nat.le_refl _, Nat.le_refl _⟩
  case lstore_n j =>
    obtain ⟨x, st, rfl, hj, e⟩ := soL_inv h; subst e
    exact ⟨Nat.le_refl _, Nat.le_refl _⟩
  case iinc j k =>
    dsimp only [stp] at h
    split at h
    · rename_i x hj
      have e := nxt_inv h; subst e
      exact ⟨Nat.le_refl _, Nat.le_refl _⟩
    · cases h
  case iadd =>
    obtain ⟨x, y, z, st, rfl, hz, e⟩ := d2_inv h; subst e
    cases hz
    exact ⟨Nat.le_refl _, Nat.le_refl _⟩
  case isub =>
    obtain ⟨x, y, z, st, rfl, hz, e⟩ := d2_inv h; subst e
    cases hz
    exact ⟨Nat.le_refl _, Nat.le_refl _⟩
  case imul =>
    obtain ⟨x, y, z, st, rfl, hz, e⟩ := d2_inv h; subst e
    cases hz
    exact ⟨Nat.le_refl _, Nat.le_refl _⟩
  case iand =>
    obtain ⟨x, y, z, st, rfl, hz, e⟩ := d2_inv h; subst e
    cases hz
    exact ⟨Nat.le_refl _, Nat.le_refl _⟩
  case ior =>
    obtain ⟨x, y, z, st, rfl, hz, e⟩ := d2_inv h; subst e
    cases hz
    exact ⟨Nat.le_refl _, Nat.le_refl _⟩
  case ishl =>
    obtain ⟨x, y, z, st, rfl, hz, e⟩ := d2_inv h; subst e
    cases hz
    exact ⟨Nat.le_refl _, Nat.le_refl _⟩
  case ishr =>
    obtain ⟨x, y, z, st, rfl, hz, e⟩ := d2_inv h; subst e
    cases hz
    exact ⟨Nat.le_refl _, Nat.le_refl _⟩
  case idiv =>
    obtain ⟨x, y, z, st, rfl, hz, e⟩ := d2_inv h; subst e
    dsimp only [op2] at hz
    split at hz
    · cases hz
    · rename_i h0
      cases hz
      exact ⟨Nat.le_refl _, Nat.le_refl _⟩
  case irem =>
    obtain ⟨x, y, z, st, rfl, hz, e⟩ := d2_inv h; subst e
    dsimp only [op2] at hz
    split at hz
    · cases hz
    · rename_i h0
      cases hz
      exact ⟨Nat.le_refl _, Nat.le_refl _⟩
  case ladd =>
    obtain ⟨x, y, z, st, rfl, hz, e⟩ := d2L_inv h; subst e
    cases hz
    exact ⟨Nat.le_refl _, Nat.le_refl _⟩
  case lsub =>
    obtain ⟨x, y, z, st, rfl, hz, e⟩ := d2L_inv h; subst e
    cases hz
    exact ⟨Nat.le_refl _, Nat.le_refl _⟩
  case lmul =>
    obtain ⟨x, y, z, st, rfl, hz, e⟩ := d2L_inv h; subst e
    cases hz
    exact ⟨Nat.le_refl _, Nat.le_refl _⟩
  case land =>
    obtain ⟨x, y, z, st, rfl, hz, e⟩ := d2L_inv h; subst e
    cases hz
    exact ⟨Nat.le_refl _, Nat.le_refl _⟩
  case lor =>
    obtain ⟨x, y, z, st, rfl, hz, e⟩ := d2L_inv h; subst e
    cases hz
    exact ⟨Nat.le_refl _, Nat.le_refl _⟩
  case ldiv =>
    obtain ⟨x, y, z, st, rfl, hz, e⟩ := d2L_inv h; subst e
    dsimp only [op2L] at hz
    split at hz
    · cases hz
    · rename_i h0
      cases hz
      exact ⟨Nat.le_refl _, Nat.le_refl _⟩
  case lrem =>
    obtain ⟨x, y, z, st, rfl, hz, e⟩ := d2L_inv h; subst e
    dsimp only [op2L] at hz
    split at hz
    · cases hz
    · rename_i h0
      cases hz
      exact ⟨Nat.le_refl _, Nat.le_refl _⟩
  case ineg =>
    dsimp only [stp] at h
    split at h
    rotate_left
    · cases h
    have e := nxt_inv h; subst e
    exact ⟨Nat.le_refl _, Nat.le_refl _⟩
  case i2l =>
    dsimp only [stp] at h
    split at h
    rotate_left
    · cases h
    have e := nxt_inv h; subst e
    exact ⟨Nat.le_refl _, Nat.le_refl _⟩
  case l2i =>
    dsimp only [stp] at h
    split at h
    rotate_left
    · cases h
    have e := nxt_inv h; subst e
    exact ⟨Nat.le_refl _, Nat.le_refl _⟩
  case i2b =>
    dsimp only [stp] at h
    split at h
    rotate_left
    · cases h
    have e := nxt_inv h; subst e
    exact ⟨Nat.le_refl _, Nat.le_refl _⟩
  case lcmp =>
    dsimp only [stp] at h
    split at h
    rotate_left
    · cases h
    have e := nxt_inv h; subst e
    exact ⟨Nat.le_refl _, Nat.le_refl _⟩
  case dup =>
    dsimp only [stp] at h
    split at h
    rotate_left
    · cases h
    split at h
    rotate_left
    · cases h
    rename_i hc
    have e := nxt_inv h; subst e
    exact ⟨Nat.le_refl _, Nat.le_refl _⟩
  case dup2 =>
    dsimp only [stp] at h
    split at h
    rotate_left
    · cases h
    split at h
    rotate_left
    · cases h
    rename_i hc
    have e := nxt_inv h; subst e
    exact ⟨Nat.le_refl _, Nat.le_refl _⟩
  case pop =>
    dsimp only [stp] at h
    split at h
    rotate_left
    · cases h
    split at h
    rotate_left
    · cases h
    rename_i hc
    have e := nxt_inv h; subst e
    exact ⟨Nat.le_refl _, Nat.le_refl _⟩
  case ifCond cnd off =>
    dsimp only [stp] at h
    split at h
    rotate_left
    · cases h
    split at h
    · rename_i hcT
      obtain ⟨t, ht, e⟩ := jmp_inv h; subst e
      exact ⟨Nat.le_refl _, Nat.le_refl _⟩
    · rename_i hcF
      split at h
      rotate_left
      · cases h
      rename_i h0
      have ht : (pc : Int) + off = ((((pc : Int) + off).toNat : Nat) : Int) := (Int.toNat_of_nonneg h0).symm
      have e := nxt_inv h; subst e
      exact ⟨Nat.le_refl _, Nat.le_refl _⟩
  case if_icmp cnd off =>
    dsimp only [stp] at h
    split at h
    rotate_left
    · cases h
    split at h
    · rename_i hcT
      obtain ⟨t, ht, e⟩ := jmp_inv h; subst e
      exact ⟨Nat.le_refl _, Nat.le_refl _⟩
    · rename_i hcF
      split at h
      rotate_left
      · cases h
      rename_i h0
      have ht : (pc : Int) + off = ((((pc : Int) + off).toNat : Nat) : Int) := (Int.toNat_of_nonneg h0).symm
      have e := nxt_inv h; subst e
      exact ⟨Nat.le_refl _, Nat.le_refl _⟩
  case goto off =>
    dsimp only [stp] at h
    obtain ⟨t, ht, e⟩ := jmp_inv h; subst e
    exact ⟨Nat.le_refl _, Nat.le_refl _⟩
  case ifnonnull off =>
    dsimp only [stp] at h
    split at h
    rotate_left
    · cases h
    split at h
    · rename_i h0
      have e := nxt_inv h; subst e
      subst h0
      exact ⟨Nat.le_refl _, Nat.le_refl _⟩
    · rename_i h0
      obtain ⟨t, ht, e⟩ := jmp_inv h; subst e
      exact ⟨Nat.le_refl _, Nat.le_refl _⟩
  case getfield x =>
    dsimp only [stp] at h
    split at h
    rotate_left
    · cases h
    rw [Option.bind_eq_some_iff] at h
    obtain ⟨⟨ci, k⟩, hk, h⟩ := h
    dsimp only at h
    split at h
    rotate_left
    · cases h
    rename_i hc
    have e := nxt_inv h; subst e
    exact ⟨Nat.le_refl _, Nat.le_refl _⟩
  case putfield x =>
    dsimp only [stp] at h
    split at h
    rotate_left
    · cases h
    rw [Option.bind_eq_some_iff] at h
    obtain ⟨⟨ci, k⟩, hk, h⟩ := h
    dsimp only at h
    split at h
    rotate_left
    · cases h
    rename_i hc
    split at h
    · split at h
      rotate_left
      · cases h
      rename_i hr
      have e := nxt_inv h; subst e
      exact ⟨Nat.le_refl _, Nat.le_refl _⟩
    · split at h
      rotate_left
      · cases h
      rename_i hr
      have e := nxt_inv h; subst e
      exact ⟨Nat.le_refl _, Nat.le_refl _⟩
    · cases h
  case iaload =>
    dsimp only [stp] at h
    split at h
    rotate_left
    · cases h
    split at h
    rotate_left
    · cases h
    rename_i hc
    have e := nxt_inv h; subst e
    rcases hc.1 with hk | hk
    · exact ⟨Nat.le_refl _, Nat.le_refl _⟩
    · exact ⟨Nat.le_refl _, Nat.le_refl _⟩
  case baload =>
    dsimp only [stp] at h
    split at h
    rotate_left
    · cases h
    split at h
    rotate_left
    · cases h
    rename_i hc
    have e := nxt_inv h; subst e
    rcases hc.1 with hk | hk
    · exact ⟨Nat.le_refl _, Nat.le_refl _⟩
    · exact ⟨Nat.le_refl _, Nat.le_refl _⟩
  case laload =>
    dsimp only [stp] at h
    split at h
    rotate_left
    · cases h
    split at h
    rotate_left
    · cases h
    rename_i hc
    have e := nxt_inv h; subst e
    exact ⟨Nat.le_refl _, Nat.le_refl _⟩
  case aaload =>
    dsimp only [stp] at h
    split at h
    rotate_left
    · cases h
    rename_i j a st
    split at h
    rotate_left
    · cases h
    rename_i hc
    have e := nxt_inv h; subst e
    obtain ⟨⟨h16, h20⟩, hj⟩ := hc
    rcases (by omega : mK M a = 16 ∨ mK M a = 17 ∨ mK M a = 18 ∨ mK M a = 19) with hk | hk | hk | hk
    · exact ⟨Nat.le_refl _, Nat.le_refl _⟩
    · exact ⟨Nat.le_refl _, Nat.le_refl _⟩
    · exact ⟨Nat.le_refl _, Nat.le_refl _⟩
    · exact ⟨Nat.le_refl _, Nat.le_refl _⟩
  case iastore =>
    dsimp only [stp] at h
    split at h
    rotate_left
    · cases h
    split at h
    rotate_left
    · cases h
    rename_i hc
    have e := nxt_inv h; subst e
    exact ⟨Nat.le_refl _, Nat.le_refl _⟩
  case bastore =>
    dsimp only [stp] at h
    split at h
    rotate_left
    · cases h
    split at h
    · rename_i hc
      have e := nxt_inv h; subst e
      exact ⟨Nat.le_refl _, Nat.le_refl _⟩
    · split at h
      rotate_left
      · cases h
      rename_i hc
      have e := nxt_inv h; subst e
      exact ⟨Nat.le_refl _, Nat.le_refl _⟩
  case lastore =>
    dsimp only [stp] at h
    split at h
    rotate_left
    · cases h
    split at h
    rotate_left
    · cases h
    rename_i hc
    have e := nxt_inv h; subst e
    exact ⟨Nat.le_refl _, Nat.le_refl _⟩
  case aastore =>
    dsimp only [stp] at h
    split at h
    rotate_left
    · cases h
    rename_i b j a st
    split at h
    rotate_left
    · cases h
    rename_i hc
    have e := nxt_inv h; subst e
    obtain ⟨⟨h16, h20⟩, hb, hj⟩ := hc
    rcases (by omega : mK M a = 16 ∨ mK M a = 17 ∨ mK M a = 18 ∨ mK M a = 19) with hk | hk | hk | hk
    · rw [hk] at hb
      exact ⟨Nat.le_refl _, Nat.le_refl _⟩
    · rw [hk] at hb
      exact ⟨Nat.le_refl _, Nat.le_refl _⟩
    · rw [hk] at hb
      exact ⟨Nat.le_refl _, Nat.le_refl _⟩
    · rw [hk] at hb
      exact ⟨Nat.le_refl _, Nat.le_refl _⟩
  case arraylength =>
    dsimp only [stp] at h
    split at h
    rotate_left
    · cases h
    rename_i a st
    split at h
    rotate_left
    · cases h
    rename_i hc
    have e := nxt_inv h; subst e
    rcases (by omega : mK M a = 12 ∨ mK M a = 13 ∨ mK M a = 14 ∨ mK M a = 15 ∨ mK M a = 16 ∨ mK M a = 17 ∨ mK M a = 18 ∨ mK M a = 19 ∨ mK M a = 20) with hk | hk | hk | hk | hk | hk | hk | hk | hk
    · exact ⟨Nat.le_refl _, Nat.le_refl _⟩
    · exact ⟨Nat.le_refl _, Nat.le_refl _⟩
    · exact ⟨Nat.le_refl _, Nat.le_refl _⟩
    · exact ⟨Nat.le_refl _, Nat.le_refl _⟩
    · exact ⟨Nat.le_refl _, Nat.le_refl _⟩
    · exact ⟨Nat.le_refl _, Nat.le_refl _⟩
    · exact ⟨Nat.le_refl _, Nat.le_refl _⟩
    · exact ⟨Nat.le_refl _, Nat.le_refl _⟩
    · exact ⟨Nat.le_refl _, Nat.le_refl _⟩
  case new x =>
    dsimp only [stp] at h
    rw [Option.bind_eq_some_iff] at h
    obtain ⟨ci, hk, h⟩ := h
    split at h
    rotate_left
    · cases h
    rename_i hc
    have e := nxt_inv h; subst e
    exact ⟨Nat.le_succ _, Nat.le_add_right _ _⟩
  case newarray t =>
    dsimp only [stp] at h
    split at h
    rotate_left
    · cases h
    split at h
    rotate_left
    · cases h
    rename_i hc
    have e := nxt_inv h; subst e
    cases t
    case int => exact ⟨Nat.le_succ _, Nat.le_add_right _ _⟩
    case byte => exact ⟨Nat.le_succ _, Nat.le_add_right _ _⟩
    case boolean => exact ⟨Nat.le_succ _, Nat.le_add_right _ _⟩
    case long => exact ⟨Nat.le_succ _, Nat.le_add_right _ _⟩
    all_goals exact absurd hc.1 (by decide)
  case anewarray x =>
    dsimp only [stp] at h
    split at h
    rotate_left
    · cases h
    rw [Option.bind_eq_some_iff] at h
    obtain ⟨ci, hk, h⟩ := h
    split at h
    rotate_left
    · cases h
    rename_i hc
    have e := nxt_inv h; subst e
    rcases akc_inv hc.1 with rfl | rfl | rfl | rfl
    · exact ⟨Nat.le_succ _, Nat.le_add_right _ _⟩
    · exact ⟨Nat.le_succ _, Nat.le_add_right _ _⟩
    · exact ⟨Nat.le_succ _, Nat.le_add_right _ _⟩
    · exact ⟨Nat.le_succ _, Nat.le_add_right _ _⟩
  case invokevirtual x =>
    dsimp only [stp] at h
    rw [Option.bind_eq_some_iff] at h
    obtain ⟨⟨k, na, J2⟩, hk, h⟩ := h
    dsimp only at h
    split at h
    rotate_left
    · split at h
      · exact (doc_inv h).elim
      · cases h
    rename_i hk9
    subst hk9
    unfold jvi at h
    split at h
    · split at h
      rotate_left
      · cases h
      rename_i hc
      have e := nxt_inv h; subst e
      exact ⟨Nat.le_refl _, Nat.le_refl _⟩
    · split at h
      rotate_left
      · cases h
      rename_i hc
      have e := nxt_inv h; subst e
      exact ⟨Nat.le_refl _, Nat.le_refl _⟩
    · cases h
  case invokestatic x =>
    dsimp only [stp] at h
    rw [Option.bind_eq_some_iff] at h
    obtain ⟨⟨k, na, J2⟩, hk, h⟩ := h
    dsimp only at h
    split at h
    rotate_left
    · split at h
      · exact (doc_inv h).elim
      · cases h
    rename_i hk9
    subst hk9
    unfold jst at h
    split at h
    · split at h
      rotate_left
      · cases h
      rename_i hc
      have e := nxt_inv h; subst e
      exact ⟨Nat.le_refl _, Nat.le_refl _⟩
    · split at h
      rotate_left
      · cases h
      rename_i hc
      have e := nxt_inv h; subst e
      exact ⟨Nat.le_refl _, Nat.le_refl _⟩
    · split at h
      rotate_left
      · cases h
      rename_i hc
      have e := nxt_inv h; subst e
      exact ⟨Nat.le_refl _, Nat.le_refl _⟩
    · split at h
      rotate_left
      · cases h
      rename_i hc
      have e := nxt_inv h; subst e
      exact ⟨Nat.le_refl _, Nat.le_refl _⟩
    · cases h
  case invokespecial x =>
    dsimp only [stp] at h
    rw [Option.bind_eq_some_iff] at h
    obtain ⟨⟨k, na, J2⟩, hk, h⟩ := h
    dsimp only at h
    split at h
    rotate_left
    · split at h
      · exact (doc_inv h).elim
      · cases h
    rename_i hk9
    subst hk9
    split at h
    rotate_left
    · cases h
    split at h
    rotate_left
    · cases h
    rename_i hc
    have e := nxt_inv h; subst e
    obtain ⟨rfl, h12, h8⟩ := hc
    exact ⟨Nat.le_refl _, Nat.le_refl _⟩
  case ireturn =>
    dsimp only [stp] at h
    split at h
    rotate_left
    · cases h
    split at h <;> cases h
  case lreturn =>
    dsimp only [stp] at h
    split at h
    rotate_left
    · cases h
    split at h <;> cases h
  case areturn =>
    dsimp only [stp] at h
    split at h
    rotate_left
    · cases h
    split at h <;> cases h
  case return_ =>
    dsimp only [stp] at h
    split at h
    rotate_left
    · cases h
    split at h <;> cases h
  case tableswitch d lo hi t =>
    skip
    dsimp only [stp] at h
    split at h
    rotate_left
    · cases h
    split at h
    · rename_i hc
      obtain ⟨tt, ht, e⟩ := jmp_inv h; subst e
      exact ⟨Nat.le_refl _, Nat.le_refl _⟩
    · rename_i hc
      rw [Option.bind_eq_some_iff] at h
      obtain ⟨off, ho, h⟩ := h
      obtain ⟨tt, ht, e⟩ := jmp_inv h; subst e
      exact ⟨Nat.le_refl _, Nat.le_refl _⟩
  case lookupswitch d ps =>
    skip
    dsimp only [stp] at h
    split at h
    rotate_left
    · cases h
    split at h
    rotate_left
    · cases h
    rename_i hc
    obtain ⟨tt, ht, e⟩ := jmp_inv h; subst e
    exact ⟨Nat.le_refl _, Nat.le_refl _⟩
  all_goals cases h
section SIMD
variable {g : aG} {J n C0 S0 : Nat} {p : Program} {l : Launch} {e : Env} {R : Room} {s : State} {m : MethodId} {args : Array Value} {below : List Frame} {meth : Method} {c : Code} {Q : State → Prop} {pc : Nat} {L stk : List Value} {M : aM}
set_option maxHeartbeats 4000000 in
theorem sim_next (hStr : StrM l g) (F : Fr g J n C0 p R s m args meth c) {i : Instr} (hi : ins J pc = some i) {q : Nat × List Value × List Value × aM} (h : stp J i pc L stk M = some (.inl q)) (hC : mX q.2.2.2 ≤ R.cells + C0) (hU : mU q.2.2.2 ≤ R.slots + S0) (K : SimAt g J C0 S0 p l e R s m args below meth c Q q.1 q.2.1 q.2.2.1 q.2.2.2) : SimAt g J C0 S0 p l e R s m args below meth c Q pc L stk M := by
  cases i
  case iconst k =>
    obtain ⟨n0, hd, hn⟩ := ins_dec hi
    rcases hn with rfl | hn
    rotate_left
    · cases hn
    have e := nxt_inv h; subst e
    exact sn_iconst F hd K
  case bipush k =>
    obtain ⟨n0, hd, hn⟩ := ins_dec hi
    rcases hn with rfl | hn
    rotate_left
    · cases hn
    have e := nxt_inv h; subst e
    exact sn_bipush F hd K
  case sipush k =>
    obtain ⟨n0, hd, hn⟩ := ins_dec hi
    rcases hn with rfl | hn
    rotate_left
    · cases hn
    have e := nxt_inv h; subst e
    exact sn_sipush F hd K
  case lconst k =>
    obtain ⟨n0, hd, hn⟩ := ins_dec hi
    rcases hn with rfl | hn
    rotate_left
    · cases hn
    have e := nxt_inv h; subst e
    exact sn_lconst F hd K
  case aconst_null =>
    obtain ⟨n0, hd, hn⟩ := ins_dec hi
    rcases hn with rfl | hn
    rotate_left
    · cases hn
    have e := nxt_inv h; subst e
    exact sn_null F hd K
  case ldc x =>
    obtain ⟨n0, hd, hn⟩ := ins_dec hi
    rcases hn with rfl | hn
    rotate_left
    · cases hn
    dsimp only [stp] at h
    split at h
    · rename_i v hv
      have e := nxt_inv h; subst e
      exact sn_ldc F hd hv K
    · rw [Option.bind_eq_some_iff] at h
      obtain ⟨j, hj, h⟩ := h
      have e := nxt_inv h; subst e
      exact sn_ldcs F hd hj K
  case ldc_w x =>
    obtain ⟨n0, hd, hn⟩ := ins_dec hi
    rcases hn with rfl | hn
    rotate_left
    · cases hn
    dsimp only [stp] at h
    split at h
    · rename_i v hv
      have e := nxt_inv h; subst e
      exact sn_ldcw F hd hv K
    · rw [Option.bind_eq_some_iff] at h
      obtain ⟨j, hj, h⟩ := h
      have e := nxt_inv h; subst e
      exact sn_ldcws F hd hj K
  case ldc2_w x =>
    obtain ⟨n0, hd, hn⟩ := ins_dec hi
    rcases hn with rfl | hn
    rotate_left
    · cases hn
    dsimp only [stp] at h
    rw [Option.bind_eq_some_iff] at h
    obtain ⟨v, hv, h⟩ := h
    have e := nxt_inv h; subst e
    exact sn_ldc2 F hd hv K
  case iload j =>
    obtain ⟨n0, hd, hn⟩ := ins_dec hi
    rcases hn with rfl | hn
    rotate_left
    · cases hn
    obtain ⟨v, hj, hp, e⟩ := ld_inv h; subst e
    obtain ⟨x, rfl⟩ := isI_inv hp
    exact sn_iload F hd hj K
  case iload_n j =>
    obtain ⟨n0, hd, hn⟩ := ins_dec hi
    rcases hn with rfl | hn
    rotate_left
    · cases hn
    obtain ⟨v, hj, hp, e⟩ := ld_inv h; subst e
    obtain ⟨x, rfl⟩ := isI_inv hp
    exact sn_iload_n F hd hj K
  case lload j =>
    obtain ⟨n0, hd, hn⟩ := ins_dec hi
    rcases hn with rfl | hn
    rotate_left
    · cases hn
    obtain ⟨v, hj, hp, e⟩ := ld_inv h; subst e
    obtain ⟨x, rfl⟩ := isL_inv hp
    exact sn_lload F hd hj K
  case lload_n j =>
    obtain ⟨n0, hd, hn⟩ := ins_dec hi
    rcases hn with rfl | hn
    rotate_left
    · cases hn
    obtain ⟨v, hj, hp, e⟩ := ld_inv h; subst e
    obtain ⟨x, rfl⟩ := isL_inv hp
    exact sn_lload_n F hd hj K
  case aload j =>
    obtain ⟨n0, hd, hn⟩ := ins_dec hi
    rcases hn with rfl | hn
    rotate_left
    · cases hn
    obtain ⟨v, hj, hp, e⟩ := ld_inv h; subst e
    obtain ⟨x, rfl⟩ := isR_inv hp
    exact sn_aload F hd hj K
  case aload_n j =>
    obtain ⟨n0, hd, hn⟩ := ins_dec hi
    rcases hn with rfl | hn
    rotate_left
    · cases hn
    obtain ⟨v, hj, hp, e⟩ := ld_inv h; subst e
    obtain ⟨x, rfl⟩ := isR_inv hp
    exact sn_aload_n F hd hj K
  case istore j =>
    obtain ⟨n0, hd, hn⟩ := ins_dec hi
    rcases hn with rfl | hn
    rotate_left
    · cases hn
    obtain ⟨v, st, rfl, hp, hj, e⟩ := so_inv h; subst e
    obtain ⟨x, rfl⟩ := isI_inv hp
    exact sn_istore F hd hj K
  case istore_n j =>
    obtain ⟨n0, hd, hn⟩ := ins_dec hi
    rcases hn with rfl | hn
    rotate_left
    · cases hn
    obtain ⟨v, st, rfl, hp, hj, e⟩ := so_inv h; subst e
    obtain ⟨x, rfl⟩ := isI_inv hp
    exact sn_istore_n F hd hj K
  case astore j =>
    obtain ⟨n0, hd, hn⟩ := ins_dec hi
    rcases hn with rfl | hn
    rotate_left
    · cases hn
    obtain ⟨v, st, rfl, hp, hj, e⟩ := so_inv h; subst e
    obtain ⟨x, rfl⟩ := isR_inv hp
    exact sn_astore F hd hj K
  case astore_n j =>
    obtain ⟨n0, hd, hn⟩ := ins_dec hi
    rcases hn with rfl | hn
    rotate_left
    · cases hn
    obtain ⟨v, st, rfl, hp, hj, e⟩ := so_inv h; subst e
    obtain ⟨x, rfl⟩ := isR_inv hp
    exact sn_astore_n F hd hj K
  case lstore j =>
    obtain ⟨n0, hd, hn⟩ := ins_dec hi
    rcases hn with rfl | hn
    rotate_left
    · cases hn
    obtain ⟨x, st, rfl, hj, e⟩ := soL_inv h; subst e
    exact sn_lstore F hd hj K
  case lstore_n j =>
    obtain ⟨n0, hd, hn⟩ := ins_dec hi
    rcases hn with rfl | hn
    rotate_left
    · cases hn
    obtain ⟨x, st, rfl, hj, e⟩ := soL_inv h; subst e
    exact sn_lstore_n F hd hj K
  case iinc j k =>
    obtain ⟨n0, hd, hn⟩ := ins_dec hi
    rcases hn with rfl | hn
    rotate_left
    · cases hn
    dsimp only [stp] at h
    split at h
    · rename_i x hj
      have e := nxt_inv h; subst e
      exact sn_iinc F hd hj K
    · cases h
  case iadd =>
    obtain ⟨n0, hd, hn⟩ := ins_dec hi
    rcases hn with rfl | hn
    rotate_left
    · cases hn
    obtain ⟨x, y, z, st, rfl, hz, e⟩ := d2_inv h; subst e
    cases hz
    exact sn_iadd F hd K
  case isub =>
    obtain ⟨n0, hd, hn⟩ := ins_dec hi
    rcases hn with rfl | hn
    rotate_left
    · cases hn
    obtain ⟨x, y, z, st, rfl, hz, e⟩ := d2_inv h; subst e
    cases hz
    exact sn_isub F hd K
  case imul =>
    obtain ⟨n0, hd, hn⟩ := ins_dec hi
    rcases hn with rfl | hn
    rotate_left
    · cases hn
    obtain ⟨x, y, z, st, rfl, hz, e⟩ := d2_inv h; subst e
    cases hz
    exact sn_imul F hd K
  case iand =>
    obtain ⟨n0, hd, hn⟩ := ins_dec hi
    rcases hn with rfl | hn
    rotate_left
    · cases hn
    obtain ⟨x, y, z, st, rfl, hz, e⟩ := d2_inv h; subst e
    cases hz
    exact sn_iand F hd K
  case ior =>
    obtain ⟨n0, hd, hn⟩ := ins_dec hi
    rcases hn with rfl | hn
    rotate_left
    · cases hn
    obtain ⟨x, y, z, st, rfl, hz, e⟩ := d2_inv h; subst e
    cases hz
    exact sn_ior F hd K
  case ishl =>
    obtain ⟨n0, hd, hn⟩ := ins_dec hi
    rcases hn with rfl | hn
    rotate_left
    · cases hn
    obtain ⟨x, y, z, st, rfl, hz, e⟩ := d2_inv h; subst e
    cases hz
    exact sn_ishl F hd K
  case ishr =>
    obtain ⟨n0, hd, hn⟩ := ins_dec hi
    rcases hn with rfl | hn
    rotate_left
    · cases hn
    obtain ⟨x, y, z, st, rfl, hz, e⟩ := d2_inv h; subst e
    cases hz
    exact sn_ishr F hd K
  case idiv =>
    obtain ⟨n0, hd, hn⟩ := ins_dec hi
    rcases hn with rfl | hn
    rotate_left
    · cases hn
    obtain ⟨x, y, z, st, rfl, hz, e⟩ := d2_inv h; subst e
    dsimp only [op2] at hz
    split at hz
    · cases hz
    · rename_i h0
      cases hz
      exact sn_idiv F hd h0 K
  case irem =>
    obtain ⟨n0, hd, hn⟩ := ins_dec hi
    rcases hn with rfl | hn
    rotate_left
    · cases hn
    obtain ⟨x, y, z, st, rfl, hz, e⟩ := d2_inv h; subst e
    dsimp only [op2] at hz
    split at hz
    · cases hz
    · rename_i h0
      cases hz
      exact sn_irem F hd h0 K
  case ladd =>
    obtain ⟨n0, hd, hn⟩ := ins_dec hi
    rcases hn with rfl | hn
    rotate_left
    · cases hn
    obtain ⟨x, y, z, st, rfl, hz, e⟩ := d2L_inv h; subst e
    cases hz
    exact sn_ladd F hd K
  case lsub =>
    obtain ⟨n0, hd, hn⟩ := ins_dec hi
    rcases hn with rfl | hn
    rotate_left
    · cases hn
    obtain ⟨x, y, z, st, rfl, hz, e⟩ := d2L_inv h; subst e
    cases hz
    exact sn_lsub F hd K
  case lmul =>
    obtain ⟨n0, hd, hn⟩ := ins_dec hi
    rcases hn with rfl | hn
    rotate_left
    · cases hn
    obtain ⟨x, y, z, st, rfl, hz, e⟩ := d2L_inv h; subst e
    cases hz
    exact sn_lmul F hd K
  case land =>
    obtain ⟨n0, hd, hn⟩ := ins_dec hi
    rcases hn with rfl | hn
    rotate_left
    · cases hn
    obtain ⟨x, y, z, st, rfl, hz, e⟩ := d2L_inv h; subst e
    cases hz
    exact sn_land F hd K
  case lor =>
    obtain ⟨n0, hd, hn⟩ := ins_dec hi
    rcases hn with rfl | hn
    rotate_left
    · cases hn
    obtain ⟨x, y, z, st, rfl, hz, e⟩ := d2L_inv h; subst e
    cases hz
    exact sn_lor F hd K
  case ldiv =>
    obtain ⟨n0, hd, hn⟩ := ins_dec hi
    rcases hn with rfl | hn
    rotate_left
    · cases hn
    obtain ⟨x, y, z, st, rfl, hz, e⟩ := d2L_inv h; subst e
    dsimp only [op2L] at hz
    split at hz
    · cases hz
    · rename_i h0
      cases hz
      exact sn_ldiv F hd h0 K
  case lrem =>
    obtain ⟨n0, hd, hn⟩ := ins_dec hi
    rcases hn with rfl | hn
    rotate_left
    · cases hn
    obtain ⟨x, y, z, st, rfl, hz, e⟩ := d2L_inv h; subst e
    dsimp only [op2L] at hz
    split at hz
    · cases hz
    · rename_i h0
      cases hz
      exact sn_lrem F hd h0 K
  case ineg =>
    obtain ⟨n0, hd, hn⟩ := ins_dec hi
    rcases hn with rfl | hn
    rotate_left
    · cases hn
    dsimp only [stp] at h
    split at h
    rotate_left
    · cases h
    have e := nxt_inv h; subst e
    exact sn_ineg F hd K
  case i2l =>
    obtain ⟨n0, hd, hn⟩ := ins_dec hi
    rcases hn with rfl | hn
    rotate_left
    · cases hn
    dsimp only [stp] at h
    split at h
    rotate_left
    · cases h
    have e := nxt_inv h; subst e
    exact sn_i2l F hd K
  case l2i =>
    obtain ⟨n0, hd, hn⟩ := ins_dec hi
    rcases hn with rfl | hn
    rotate_left
    · cases hn
    dsimp only [stp] at h
    split at h
    rotate_left
    · cases h
    have e := nxt_inv h; subst e
    exact sn_l2i F hd K
  case i2b =>
    obtain ⟨n0, hd, hn⟩ := ins_dec hi
    rcases hn with rfl | hn
    rotate_left
    · cases hn
    dsimp only [stp] at h
    split at h
    rotate_left
    · cases h
    have e := nxt_inv h; subst e
    exact sn_i2b F hd K
  case lcmp =>
    obtain ⟨n0, hd, hn⟩ := ins_dec hi
    rcases hn with rfl | hn
    rotate_left
    · cases hn
    dsimp only [stp] at h
    split at h
    rotate_left
    · cases h
    have e := nxt_inv h; subst e
    exact sn_lcmp F hd K
  case dup =>
    obtain ⟨n0, hd, hn⟩ := ins_dec hi
    rcases hn with rfl | hn
    rotate_left
    · cases hn
    dsimp only [stp] at h
    split at h
    rotate_left
    · cases h
    split at h
    rotate_left
    · cases h
    rename_i hc
    have e := nxt_inv h; subst e
    exact sn_dup F hd hc K
  case dup2 =>
    obtain ⟨n0, hd, hn⟩ := ins_dec hi
    rcases hn with rfl | hn
    rotate_left
    · cases hn
    dsimp only [stp] at h
    split at h
    rotate_left
    · cases h
    split at h
    rotate_left
    · cases h
    rename_i hc
    have e := nxt_inv h; subst e
    exact sn_dup2 F hd hc.1 hc.2 K
  case pop =>
    obtain ⟨n0, hd, hn⟩ := ins_dec hi
    rcases hn with rfl | hn
    rotate_left
    · cases hn
    dsimp only [stp] at h
    split at h
    rotate_left
    · cases h
    split at h
    rotate_left
    · cases h
    rename_i hc
    have e := nxt_inv h; subst e
    exact sn_pop F hd hc K
  case ifCond cnd off =>
    obtain ⟨n0, hd, hn⟩ := ins_dec hi
    rcases hn with rfl | hn
    rotate_left
    · cases hn
    dsimp only [stp] at h
    split at h
    rotate_left
    · cases h
    split at h
    · rename_i hcT
      obtain ⟨t, ht, e⟩ := jmp_inv h; subst e
      cases cnd
      · simp only [cT, decide_eq_true_eq] at hcT
        exact sn_if_eq F hd ht (fun _ => K) (fun q => absurd hcT q)
      · simp only [cT, decide_eq_true_eq] at hcT
        exact sn_if_ne F hd ht (fun _ => K) (fun q => absurd hcT q)
      · simp only [cT, decide_eq_true_eq] at hcT
        exact sn_if_lt F hd ht (fun _ => K) (fun q => absurd hcT q)
      · simp only [cT, decide_eq_true_eq] at hcT
        exact sn_if_ge F hd ht (fun _ => K) (fun q => absurd hcT q)
      · simp only [cT, decide_eq_true_eq] at hcT
        exact sn_if_gt F hd ht (fun _ => K) (fun q => absurd hcT q)
      · simp only [cT, decide_eq_true_eq] at hcT
        exact sn_if_le F hd ht (fun _ => K) (fun q => absurd hcT q)
    · rename_i hcF
      split at h
      rotate_left
      · cases h
      rename_i h0
      have ht : (pc : Int) + off = ((((pc : Int) + off).toNat : Nat) : Int) := (Int.toNat_of_nonneg h0).symm
      have e := nxt_inv h; subst e
      cases cnd
      · simp only [cT, decide_eq_true_eq] at hcF
        exact sn_if_eq F hd ht (fun q => absurd q hcF) (fun _ => K)
      · simp only [cT, decide_eq_true_eq] at hcF
        exact sn_if_ne F hd ht (fun q => absurd q hcF) (fun _ => K)
      · simp only [cT, decide_eq_true_eq] at hcF
        exact sn_if_lt F hd ht (fun q => absurd q hcF) (fun _ => K)
      · simp only [cT, decide_eq_true_eq] at hcF
        exact sn_if_ge F hd ht (fun q => absurd q hcF) (fun _ => K)
      · simp only [cT, decide_eq_true_eq] at hcF
        exact sn_if_gt F hd ht (fun q => absurd q hcF) (fun _ => K)
      · simp only [cT, decide_eq_true_eq] at hcF
        exact sn_if_le F hd ht (fun q => absurd q hcF) (fun _ => K)
  case if_icmp cnd off =>
    obtain ⟨n0, hd, hn⟩ := ins_dec hi
    rcases hn with rfl | hn
    rotate_left
    · cases hn
    dsimp only [stp] at h
    split at h
    rotate_left
    · cases h
    split at h
    · rename_i hcT
      obtain ⟨t, ht, e⟩ := jmp_inv h; subst e
      cases cnd
      · simp only [cT, decide_eq_true_eq] at hcT
        exact sn_icmp_eq F hd ht (fun _ => K) (fun q => absurd hcT q)
      · simp only [cT, decide_eq_true_eq] at hcT
        exact sn_icmp_ne F hd ht (fun _ => K) (fun q => absurd hcT q)
      · simp only [cT, decide_eq_true_eq] at hcT
        exact sn_icmp_lt F hd ht (fun _ => K) (fun q => absurd hcT q)
      · simp only [cT, decide_eq_true_eq] at hcT
        exact sn_icmp_ge F hd ht (fun _ => K) (fun q => absurd hcT q)
      · simp only [cT, decide_eq_true_eq] at hcT
        exact sn_icmp_gt F hd ht (fun _ => K) (fun q => absurd hcT q)
      · simp only [cT, decide_eq_true_eq] at hcT
        exact sn_icmp_le F hd ht (fun _ => K) (fun q => absurd hcT q)
    · rename_i hcF
      split at h
      rotate_left
      · cases h
      rename_i h0
      have ht : (pc : Int) + off = ((((pc : Int) + off).toNat : Nat) : Int) := (Int.toNat_of_nonneg h0).symm
      have e := nxt_inv h; subst e
      cases cnd
      · simp only [cT, decide_eq_true_eq] at hcF
        exact sn_icmp_eq F hd ht (fun q => absurd q hcF) (fun _ => K)
      · simp only [cT, decide_eq_true_eq] at hcF
        exact sn_icmp_ne F hd ht (fun q => absurd q hcF) (fun _ => K)
      · simp only [cT, decide_eq_true_eq] at hcF
        exact sn_icmp_lt F hd ht (fun q => absurd q hcF) (fun _ => K)
      · simp only [cT, decide_eq_true_eq] at hcF
        exact sn_icmp_ge F hd ht (fun q => absurd q hcF) (fun _ => K)
      · simp only [cT, decide_eq_true_eq] at hcF
        exact sn_icmp_gt F hd ht (fun q => absurd q hcF) (fun _ => K)
      · simp only [cT, decide_eq_true_eq] at hcF
        exact sn_icmp_le F hd ht (fun q => absurd q hcF) (fun _ => K)
  case goto off =>
    obtain ⟨n0, hd, hn⟩ := ins_dec hi
    rcases hn with rfl | hn
    rotate_left
    · cases hn
    dsimp only [stp] at h
    obtain ⟨t, ht, e⟩ := jmp_inv h; subst e
    exact sn_goto F hd ht K
  case ifnonnull off =>
    obtain ⟨n0, hd, hn⟩ := ins_dec hi
    rcases hn with rfl | hn
    rotate_left
    · cases hn
    dsimp only [stp] at h
    split at h
    rotate_left
    · cases h
    split at h
    · rename_i h0
      have e := nxt_inv h; subst e
      subst h0
      exact sn_ifnnN F hd K
    · rename_i h0
      obtain ⟨t, ht, e⟩ := jmp_inv h; subst e
      exact sn_ifnn F hd ht h0 K
  case getfield x =>
    obtain ⟨n0, hd, hn⟩ := ins_dec hi
    rcases hn with rfl | hn
    rotate_left
    · cases hn
    dsimp only [stp] at h
    split at h
    rotate_left
    · cases h
    rw [Option.bind_eq_some_iff] at h
    obtain ⟨⟨ci, k⟩, hk, h⟩ := h
    dsimp only at h
    split at h
    rotate_left
    · cases h
    rename_i hc
    have e := nxt_inv h; subst e
    exact sn_getf F hd hk hc.1 K
  case putfield x =>
    obtain ⟨n0, hd, hn⟩ := ins_dec hi
    rcases hn with rfl | hn
    rotate_left
    · cases hn
    dsimp only [stp] at h
    split at h
    rotate_left
    · cases h
    rw [Option.bind_eq_some_iff] at h
    obtain ⟨⟨ci, k⟩, hk, h⟩ := h
    dsimp only at h
    split at h
    rotate_left
    · cases h
    rename_i hc
    split at h
    · split at h
      rotate_left
      · cases h
      rename_i hr
      have e := nxt_inv h; subst e
      exact sn_puti F hd hk hc.1 hc.2.2 hr.1 hr.2 K
    · split at h
      rotate_left
      · cases h
      rename_i hr
      have e := nxt_inv h; subst e
      exact sn_putr F hd hk hc.1 hc.2.2 hr K
    · cases h
  case iaload =>
    obtain ⟨n0, hd, hn⟩ := ins_dec hi
    rcases hn with rfl | hn
    rotate_left
    · cases hn
    dsimp only [stp] at h
    split at h
    rotate_left
    · cases h
    split at h
    rotate_left
    · cases h
    rename_i hc
    have e := nxt_inv h; subst e
    rcases hc.1 with hk | hk
    · exact sn_iald F hd hk hc.2 K
    · exact sn_sald F hd hk hc.2 K
  case baload =>
    obtain ⟨n0, hd, hn⟩ := ins_dec hi
    rcases hn with rfl | hn
    rotate_left
    · cases hn
    dsimp only [stp] at h
    split at h
    rotate_left
    · cases h
    split at h
    rotate_left
    · cases h
    rename_i hc
    have e := nxt_inv h; subst e
    rcases hc.1 with hk | hk
    · exact sn_bald F hd hk hc.2 K
    · exact sn_zald F hd hk hc.2 K
  case laload =>
    obtain ⟨n0, hd, hn⟩ := ins_dec hi
    rcases hn with rfl | hn
    rotate_left
    · cases hn
    dsimp only [stp] at h
    split at h
    rotate_left
    · cases h
    split at h
    rotate_left
    · cases h
    rename_i hc
    have e := nxt_inv h; subst e
    exact sn_lald F hd hc.1 hc.2 K
  case aaload =>
    obtain ⟨n0, hd, hn⟩ := ins_dec hi
    rcases hn with rfl | hn
    rotate_left
    · cases hn
    dsimp only [stp] at h
    split at h
    rotate_left
    · cases h
    rename_i j a st
    split at h
    rotate_left
    · cases h
    rename_i hc
    have e := nxt_inv h; subst e
    obtain ⟨⟨h16, h20⟩, hj⟩ := hc
    rcases (by omega : mK M a = 16 ∨ mK M a = 17 ∨ mK M a = 18 ∨ mK M a = 19) with hk | hk | hk | hk
    · exact sn_aald16 F hd hk hj K
    · exact sn_aald17 F hd hk hj K
    · exact sn_aald18 F hd hk hj K
    · exact sn_aald19 F hd hk hj K
  case iastore =>
    obtain ⟨n0, hd, hn⟩ := ins_dec hi
    rcases hn with rfl | hn
    rotate_left
    · cases hn
    dsimp only [stp] at h
    split at h
    rotate_left
    · cases h
    split at h
    rotate_left
    · cases h
    rename_i hc
    have e := nxt_inv h; subst e
    exact sn_iast F hd hc.1 hc.2 K
  case bastore =>
    obtain ⟨n0, hd, hn⟩ := ins_dec hi
    rcases hn with rfl | hn
    rotate_left
    · cases hn
    dsimp only [stp] at h
    split at h
    rotate_left
    · cases h
    split at h
    · rename_i hc
      have e := nxt_inv h; subst e
      exact sn_bast F hd hc.1 hc.2 K
    · split at h
      rotate_left
      · cases h
      rename_i hc
      have e := nxt_inv h; subst e
      exact sn_zast F hd hc.1 hc.2 K
  case lastore =>
    obtain ⟨n0, hd, hn⟩ := ins_dec hi
    rcases hn with rfl | hn
    rotate_left
    · cases hn
    dsimp only [stp] at h
    split at h
    rotate_left
    · cases h
    split at h
    rotate_left
    · cases h
    rename_i hc
    have e := nxt_inv h; subst e
    exact sn_last F hd hc.1 hc.2 K
  case aastore =>
    obtain ⟨n0, hd, hn⟩ := ins_dec hi
    rcases hn with rfl | hn
    rotate_left
    · cases hn
    dsimp only [stp] at h
    split at h
    rotate_left
    · cases h
    rename_i b j a st
    split at h
    rotate_left
    · cases h
    rename_i hc
    have e := nxt_inv h; subst e
    obtain ⟨⟨h16, h20⟩, hb, hj⟩ := hc
    rcases (by omega : mK M a = 16 ∨ mK M a = 17 ∨ mK M a = 18 ∨ mK M a = 19) with hk | hk | hk | hk
    · rw [hk] at hb
      exact sn_aast16 F hd hk hb hj K
    · rw [hk] at hb
      exact sn_aast17 F hd hk hb hj K
    · rw [hk] at hb
      exact sn_aast18 F hd hk hb hj K
    · rw [hk] at hb
      exact sn_aast19 F hd hk hb hj K
  case arraylength =>
    obtain ⟨n0, hd, hn⟩ := ins_dec hi
    rcases hn with rfl | hn
    rotate_left
    · cases hn
    dsimp only [stp] at h
    split at h
    rotate_left
    · cases h
    rename_i a st
    split at h
    rotate_left
    · cases h
    rename_i hc
    have e := nxt_inv h; subst e
    rcases (by omega : mK M a = 12 ∨ mK M a = 13 ∨ mK M a = 14 ∨ mK M a = 15 ∨ mK M a = 16 ∨ mK M a = 17 ∨ mK M a = 18 ∨ mK M a = 19 ∨ mK M a = 20) with hk | hk | hk | hk | hk | hk | hk | hk | hk
    · exact sn_alen12 F hd hk K
    · exact sn_alen13 F hd hk K
    · exact sn_alen14 F hd hk K
    · exact sn_alen15 F hd hk K
    · exact sn_alen16 F hd hk K
    · exact sn_alen17 F hd hk K
    · exact sn_alen18 F hd hk K
    · exact sn_alen19 F hd hk K
    · exact sn_slenA F hd hk K
  case new x =>
    obtain ⟨n0, hd, hn⟩ := ins_dec hi
    rcases hn with rfl | hn
    rotate_left
    · cases hn
    dsimp only [stp] at h
    rw [Option.bind_eq_some_iff] at h
    obtain ⟨ci, hk, h⟩ := h
    split at h
    rotate_left
    · cases h
    rename_i hc
    have e := nxt_inv h; subst e
    exact sn_new F hd hk hC hU K
  case newarray t =>
    obtain ⟨n0, hd, hn⟩ := ins_dec hi
    rcases hn with rfl | hn
    rotate_left
    · cases hn
    dsimp only [stp] at h
    split at h
    rotate_left
    · cases h
    split at h
    rotate_left
    · cases h
    rename_i hc
    have e := nxt_inv h; subst e
    cases t
    case int => exact sn_newa12 F hd hc.2.1 hc.2.2 hC hU K
    case byte => exact sn_newa13 F hd hc.2.1 hc.2.2 hC hU K
    case boolean => exact sn_newa14 F hd hc.2.1 hc.2.2 hC hU K
    case long => exact sn_newa15 F hd hc.2.1 hc.2.2 hC hU K
    all_goals exact absurd hc.1 (by decide)
  case anewarray x =>
    obtain ⟨n0, hd, hn⟩ := ins_dec hi
    rcases hn with rfl | hn
    rotate_left
    · cases hn
    dsimp only [stp] at h
    split at h
    rotate_left
    · cases h
    rw [Option.bind_eq_some_iff] at h
    obtain ⟨ci, hk, h⟩ := h
    split at h
    rotate_left
    · cases h
    rename_i hc
    have e := nxt_inv h; subst e
    rcases akc_inv hc.1 with rfl | rfl | rfl | rfl
    · exact sn_newr16 F hd hk hc.2.1 hc.2.2 hC hU K
    · exact sn_newr17 F hd hk hc.2.1 hc.2.2 hC hU K
    · exact sn_newr18 F hd hk hc.2.1 hc.2.2 hC hU K
    · exact sn_newr19 F hd hk hc.2.1 hc.2.2 hC hU K
  case invokevirtual x =>
    obtain ⟨n0, hd, hn⟩ := ins_dec hi
    rcases hn with rfl | hn
    rotate_left
    · cases hn
    dsimp only [stp] at h
    rw [Option.bind_eq_some_iff] at h
    obtain ⟨⟨k, na, J2⟩, hk, h⟩ := h
    dsimp only at h
    split at h
    rotate_left
    · split at h
      · exact (doc_inv h).elim
      · cases h
    rename_i hk9
    subst hk9
    unfold jvi at h
    split at h
    · split at h
      rotate_left
      · cases h
      rename_i hc
      have e := nxt_inv h; subst e
      exact sn_slen F hd hStr (mth_na0 hk) hc.2.1 hc.2.2 hc.1 hC hU K
    · split at h
      rotate_left
      · cases h
      rename_i hc
      have e := nxt_inv h; subst e
      exact sn_sch F hd hStr (mth_na1 hk) hc.2.1 hc.2.2.1 hc.2.2.2 hc.1 hC hU K
    · cases h
  case invokestatic x =>
    obtain ⟨n0, hd, hn⟩ := ins_dec hi
    rcases hn with rfl | hn
    rotate_left
    · cases hn
    dsimp only [stp] at h
    rw [Option.bind_eq_some_iff] at h
    obtain ⟨⟨k, na, J2⟩, hk, h⟩ := h
    dsimp only at h
    split at h
    rotate_left
    · split at h
      · exact (doc_inv h).elim
      · cases h
    rename_i hk9
    subst hk9
    unfold jst at h
    split at h
    · split at h
      rotate_left
      · cases h
      rename_i hc
      have e := nxt_inv h; subst e
      exact sn_max F hd (mth_s1 hk) hc hC hU K
    · split at h
      rotate_left
      · cases h
      rename_i hc
      have e := nxt_inv h; subst e
      exact sn_min F hd (mth_s2 hk) hc hC hU K
    · split at h
      rotate_left
      · cases h
      rename_i hc
      have e := nxt_inv h; subst e
      exact sn_abs F hd (mth_s3 hk) hc hC hU K
    · split at h
      rotate_left
      · cases h
      rename_i hc
      have e := nxt_inv h; subst e
      exact sn_copy F hd (mth_s4 hk) hc.1 hc.2.1 hc.2.2.1 hc.2.2.2.1 hc.2.2.2.2.1 hc.2.2.2.2.2.1 hc.2.2.2.2.2.2.1 hc.2.2.2.2.2.2.2 K
    · cases h
  case invokespecial x =>
    obtain ⟨n0, hd, hn⟩ := ins_dec hi
    rcases hn with rfl | hn
    rotate_left
    · cases hn
    dsimp only [stp] at h
    rw [Option.bind_eq_some_iff] at h
    obtain ⟨⟨k, na, J2⟩, hk, h⟩ := h
    dsimp only at h
    split at h
    rotate_left
    · split at h
      · exact (doc_inv h).elim
      · cases h
    rename_i hk9
    subst hk9
    split at h
    rotate_left
    · cases h
    split at h
    rotate_left
    · cases h
    rename_i hc
    have e := nxt_inv h; subst e
    obtain ⟨rfl, h12, h8⟩ := hc
    exact sn_oin F hd (mth_s0 hk) h12 h8 K
  case ireturn =>
    obtain ⟨n0, hd, hn⟩ := ins_dec hi
    rcases hn with rfl | hn
    rotate_left
    · cases hn
    dsimp only [stp] at h
    split at h
    rotate_left
    · cases h
    split at h <;> cases h
  case lreturn =>
    obtain ⟨n0, hd, hn⟩ := ins_dec hi
    rcases hn with rfl | hn
    rotate_left
    · cases hn
    dsimp only [stp] at h
    split at h
    rotate_left
    · cases h
    split at h <;> cases h
  case areturn =>
    obtain ⟨n0, hd, hn⟩ := ins_dec hi
    rcases hn with rfl | hn
    rotate_left
    · cases hn
    dsimp only [stp] at h
    split at h
    rotate_left
    · cases h
    split at h <;> cases h
  case return_ =>
    obtain ⟨n0, hd, hn⟩ := ins_dec hi
    rcases hn with rfl | hn
    rotate_left
    · cases hn
    dsimp only [stp] at h
    split at h
    rotate_left
    · cases h
    split at h <;> cases h
  case tableswitch d lo hi t =>
    obtain ⟨n0, hd, -⟩ := ins_dec hi
    dsimp only [stp] at h
    split at h
    rotate_left
    · cases h
    split at h
    · rename_i hc
      obtain ⟨tt, ht, e⟩ := jmp_inv h; subst e
      exact sn_tsD F hd hc ht K
    · rename_i hc
      rw [Option.bind_eq_some_iff] at h
      obtain ⟨off, ho, h⟩ := h
      obtain ⟨tt, ht, e⟩ := jmp_inv h; subst e
      exact sn_tsI F hd (fun q => hc (Or.inl q)) (fun q => hc (Or.inr q)) ho ht K
  case lookupswitch d ps =>
    obtain ⟨n0, hd, -⟩ := ins_dec hi
    dsimp only [stp] at h
    split at h
    rotate_left
    · cases h
    split at h
    rotate_left
    · cases h
    rename_i hc
    obtain ⟨tt, ht, e⟩ := jmp_inv h; subst e
    exact sn_ls F hd hc rfl ht K
  all_goals cases h
end SIMD
