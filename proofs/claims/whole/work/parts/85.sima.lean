/-! SIMULATION, 5: calls, ends, all -/
theorem nxt_no {pc : Nat} {L stk : List Value} {M : aM} {q : Option Value ⊕ (Nat × List Value × List Value)} (h : nxt pc L stk M = some (.inr q)) : False := by cases h
theorem jmp_no {pc : Nat} {off : Int} {L stk : List Value} {M : aM} {q : Option Value ⊕ (Nat × List Value × List Value)} (h : jmp pc off L stk M = some (.inr q)) : False := by
  unfold jmp at h
  split at h <;> cases h
theorem d2_no {i : Instr} {pc : Nat} {L stk : List Value} {M : aM} {q : Option Value ⊕ (Nat × List Value × List Value)} (h : d2 i pc L stk M = some (.inr q)) : False := by
  unfold d2 at h
  split at h
  · rw [Option.bind_eq_some_iff] at h
    obtain ⟨z, h1, h2⟩ := h
    cases h2
  · cases h
theorem d2L_no {i : Instr} {pc : Nat} {L stk : List Value} {M : aM} {q : Option Value ⊕ (Nat × List Value × List Value)} (h : d2L i pc L stk M = some (.inr q)) : False := by
  unfold d2L at h
  split at h
  · rw [Option.bind_eq_some_iff] at h
    obtain ⟨z, h1, h2⟩ := h
    cases h2
  · cases h
theorem ld_no {P : Value → Bool} {j pc : Nat} {L stk : List Value} {M : aM} {q : Option Value ⊕ (Nat × List Value × List Value)} (h : ld P j pc L stk M = some (.inr q)) : False := by
  unfold ld at h
  split at h
  · split at h <;> cases h
  · cases h
theorem so_no {P : Value → Bool} {j pc : Nat} {L stk : List Value} {M : aM} {q : Option Value ⊕ (Nat × List Value × List Value)} (h : so P j pc L stk M = some (.inr q)) : False := by
  unfold so at h
  split at h
  · split at h <;> cases h
  · cases h
theorem soL_no {j pc : Nat} {L stk : List Value} {M : aM} {q : Option Value ⊕ (Nat × List Value × List Value)} (h : soL j pc L stk M = some (.inr q)) : False := by
  unfold soL at h
  split at h
  · split at h <;> cases h
  · cases h
def isRC (i : Instr) : Bool := match i with
  | .ireturn => true | .lreturn => true | .areturn => true | .return_ => true
  | .invokevirtual _ => true | .invokestatic _ => true | .invokespecial _ => true
  | _ => false
set_option maxHeartbeats 8000000 in
theorem stp_ord {J pc : Nat} {i : Instr} {L stk : List Value} {M : aM} {q : Option Value ⊕ (Nat × List Value × List Value)} (hr : isRC i = false) (h : stp J i pc L stk M = some (.inr q)) : False := by
  cases i <;> first | (cases hr; done) | (dsimp only [stp] at h; (first | exact (nxt_no h).elim | exact (jmp_no h).elim | exact (d2_no h).elim | exact (d2L_no h).elim | exact (ld_no h).elim | exact (so_no h).elim | exact (soL_no h).elim | cases h | (split at h <;> (first | exact (nxt_no h).elim | exact (jmp_no h).elim | exact (d2_no h).elim | exact (d2L_no h).elim | exact (ld_no h).elim | exact (so_no h).elim | exact (soL_no h).elim | cases h | (split at h <;> (first | exact (nxt_no h).elim | exact (jmp_no h).elim | exact (d2_no h).elim | exact (d2L_no h).elim | exact (ld_no h).elim | exact (so_no h).elim | exact (soL_no h).elim | cases h | (split at h <;> (first | exact (nxt_no h).elim | exact (jmp_no h).elim | exact (d2_no h).elim | exact (d2L_no h).elim | exact (ld_no h).elim | exact (so_no h).elim | exact (soL_no h).elim | cases h | (split at h <;> (first | exact (nxt_no h).elim | exact (jmp_no h).elim | exact (d2_no h).elim | exact (d2L_no h).elim | exact (ld_no h).elim | exact (so_no h).elim | exact (soL_no h).elim | cases h | (split at h <;> (first | exact (nxt_no h).elim | exact (jmp_no h).elim | exact (d2_no h).elim | exact (d2L_no h).elim | exact (ld_no h).elim | exact (so_no h).elim | exact (soL_no h).elim | cases h)) | (rw [Option.bind_eq_some_iff] at h; obtain ⟨z, hz, h⟩ := h; (try dsimp only at h); (first | exact (nxt_no h).elim | exact (jmp_no h).elim | exact (d2_no h).elim | exact (d2L_no h).elim | exact (ld_no h).elim | exact (so_no h).elim | exact (soL_no h).elim | cases h)))) | (rw [Option.bind_eq_some_iff] at h; obtain ⟨z, hz, h⟩ := h; (try dsimp only at h); (first | exact (nxt_no h).elim | exact (jmp_no h).elim | exact (d2_no h).elim | exact (d2L_no h).elim | exact (ld_no h).elim | exact (so_no h).elim | exact (soL_no h).elim | cases h | (split at h <;> (first | exact (nxt_no h).elim | exact (jmp_no h).elim | exact (d2_no h).elim | exact (d2L_no h).elim | exact (ld_no h).elim | exact (so_no h).elim | exact (soL_no h).elim | cases h)) | (rw [Option.bind_eq_some_iff] at h; obtain ⟨z, hz, h⟩ := h; (try dsimp only at h); (first | exact (nxt_no h).elim | exact (jmp_no h).elim | exact (d2_no h).elim | exact (d2L_no h).elim | exact (ld_no h).elim | exact (so_no h).elim | exact (soL_no h).elim | cases h)))))) | (rw [Option.bind_eq_some_iff] at h; obtain ⟨z, hz, h⟩ := h; (try dsimp only at h); (first | exact (nxt_no h).elim | exact (jmp_no h).elim | exact (d2_no h).elim | exact (d2L_no h).elim | exact (ld_no h).elim | exact (so_no h).elim | exact (soL_no h).elim | cases h | (split at h <;> (first | exact (nxt_no h).elim | exact (jmp_no h).elim | exact (d2_no h).elim | exact (d2L_no h).elim | exact (ld_no h).elim | exact (so_no h).elim | exact (soL_no h).elim | cases h | (split at h <;> (first | exact (nxt_no h).elim | exact (jmp_no h).elim | exact (d2_no h).elim | exact (d2L_no h).elim | exact (ld_no h).elim | exact (so_no h).elim | exact (soL_no h).elim | cases h)) | (rw [Option.bind_eq_some_iff] at h; obtain ⟨z, hz, h⟩ := h; (try dsimp only at h); (first | exact (nxt_no h).elim | exact (jmp_no h).elim | exact (d2_no h).elim | exact (d2L_no h).elim | exact (ld_no h).elim | exact (so_no h).elim | exact (soL_no h).elim | cases h)))) | (rw [Option.bind_eq_some_iff] at h; obtain ⟨z, hz, h⟩ := h; (try dsimp only at h); (first | exact (nxt_no h).elim | exact (jmp_no h).elim | exact (d2_no h).elim | exact (d2L_no h).elim | exact (ld_no h).elim | exact (so_no h).elim | exact (soL_no h).elim | cases h | (split at h <;> (first | exact (nxt_no h).elim | exact (jmp_no h).elim | exact (d2_no h).elim | exact (d2L_no h).elim | exact (ld_no h).elim | exact (so_no h).elim | exact (soL_no h).elim | cases h)) | (rw [Option.bind_eq_some_iff] at h; obtain ⟨z, hz, h⟩ := h; (try dsimp only at h); (first | exact (nxt_no h).elim | exact (jmp_no h).elim | exact (d2_no h).elim | exact (d2L_no h).elim | exact (ld_no h).elim | exact (so_no h).elim | exact (soL_no h).elim | cases h)))))))) | (rw [Option.bind_eq_some_iff] at h; obtain ⟨z, hz, h⟩ := h; (try dsimp only at h); (first | exact (nxt_no h).elim | exact (jmp_no h).elim | exact (d2_no h).elim | exact (d2L_no h).elim | exact (ld_no h).elim | exact (so_no h).elim | exact (soL_no h).elim | cases h | (split at h <;> (first | exact (nxt_no h).elim | exact (jmp_no h).elim | exact (d2_no h).elim | exact (d2L_no h).elim | exact (ld_no h).elim | exact (so_no h).elim | exact (soL_no h).elim | cases h | (split at h <;> (first | exact (nxt_no h).elim | exact (jmp_no h).elim | exact (d2_no h).elim | exact (d2L_no h).elim | exact (ld_no h).elim | exact (so_no h).elim | exact (soL_no h).elim | cases h | (split at h <;> (first | exact (nxt_no h).elim | exact (jmp_no h).elim | exact (d2_no h).elim | exact (d2L_no h).elim | exact (ld_no h).elim | exact (so_no h).elim | exact (soL_no h).elim | cases h)) | (rw [Option.bind_eq_some_iff] at h; obtain ⟨z, hz, h⟩ := h; (try dsimp only at h); (first | exact (nxt_no h).elim | exact (jmp_no h).elim | exact (d2_no h).elim | exact (d2L_no h).elim | exact (ld_no h).elim | exact (so_no h).elim | exact (soL_no h).elim | cases h)))) | (rw [Option.bind_eq_some_iff] at h; obtain ⟨z, hz, h⟩ := h; (try dsimp only at h); (first | exact (nxt_no h).elim | exact (jmp_no h).elim | exact (d2_no h).elim | exact (d2L_no h).elim | exact (ld_no h).elim | exact (so_no h).elim | exact (soL_no h).elim | cases h | (split at h <;> (first | exact (nxt_no h).elim | exact (jmp_no h).elim | exact (d2_no h).elim | exact (d2L_no h).elim | exact (ld_no h).elim | exact (so_no h).elim | exact (soL_no h).elim | cases h)) | (rw [Option.bind_eq_some_iff] at h; obtain ⟨z, hz, h⟩ := h; (try dsimp only at h); (first | exact (nxt_no h).elim | exact (jmp_no h).elim | exact (d2_no h).elim | exact (d2L_no h).elim | exact (ld_no h).elim | exact (so_no h).elim | exact (soL_no h).elim | cases h)))))) | (rw [Option.bind_eq_some_iff] at h; obtain ⟨z, hz, h⟩ := h; (try dsimp only at h); (first | exact (nxt_no h).elim | exact (jmp_no h).elim | exact (d2_no h).elim | exact (d2L_no h).elim | exact (ld_no h).elim | exact (so_no h).elim | exact (soL_no h).elim | cases h | (split at h <;> (first | exact (nxt_no h).elim | exact (jmp_no h).elim | exact (d2_no h).elim | exact (d2L_no h).elim | exact (ld_no h).elim | exact (so_no h).elim | exact (soL_no h).elim | cases h | (split at h <;> (first | exact (nxt_no h).elim | exact (jmp_no h).elim | exact (d2_no h).elim | exact (d2L_no h).elim | exact (ld_no h).elim | exact (so_no h).elim | exact (soL_no h).elim | cases h)) | (rw [Option.bind_eq_some_iff] at h; obtain ⟨z, hz, h⟩ := h; (try dsimp only at h); (first | exact (nxt_no h).elim | exact (jmp_no h).elim | exact (d2_no h).elim | exact (d2L_no h).elim | exact (ld_no h).elim | exact (so_no h).elim | exact (soL_no h).elim | cases h)))) | (rw [Option.bind_eq_some_iff] at h; obtain ⟨z, hz, h⟩ := h; (try dsimp only at h); (first | exact (nxt_no h).elim | exact (jmp_no h).elim | exact (d2_no h).elim | exact (d2L_no h).elim | exact (ld_no h).elim | exact (so_no h).elim | exact (soL_no h).elim | cases h | (split at h <;> (first | exact (nxt_no h).elim | exact (jmp_no h).elim | exact (d2_no h).elim | exact (d2L_no h).elim | exact (ld_no h).elim | exact (so_no h).elim | exact (soL_no h).elim | cases h)) | (rw [Option.bind_eq_some_iff] at h; obtain ⟨z, hz, h⟩ := h; (try dsimp only at h); (first | exact (nxt_no h).elim | exact (jmp_no h).elim | exact (d2_no h).elim | exact (d2L_no h).elim | exact (ld_no h).elim | exact (so_no h).elim | exact (soL_no h).elim | cases h)))))))))) | (rw [Option.bind_eq_some_iff] at h; obtain ⟨z, hz, h⟩ := h; (try dsimp only at h); (first | exact (nxt_no h).elim | exact (jmp_no h).elim | exact (d2_no h).elim | exact (d2L_no h).elim | exact (ld_no h).elim | exact (so_no h).elim | exact (soL_no h).elim | cases h | (split at h <;> (first | exact (nxt_no h).elim | exact (jmp_no h).elim | exact (d2_no h).elim | exact (d2L_no h).elim | exact (ld_no h).elim | exact (so_no h).elim | exact (soL_no h).elim | cases h | (split at h <;> (first | exact (nxt_no h).elim | exact (jmp_no h).elim | exact (d2_no h).elim | exact (d2L_no h).elim | exact (ld_no h).elim | exact (so_no h).elim | exact (soL_no h).elim | cases h | (split at h <;> (first | exact (nxt_no h).elim | exact (jmp_no h).elim | exact (d2_no h).elim | exact (d2L_no h).elim | exact (ld_no h).elim | exact (so_no h).elim | exact (soL_no h).elim | cases h | (split at h <;> (first | exact (nxt_no h).elim | exact (jmp_no h).elim | exact (d2_no h).elim | exact (d2L_no h).elim | exact (ld_no h).elim | exact (so_no h).elim | exact (soL_no h).elim | cases h)) | (rw [Option.bind_eq_some_iff] at h; obtain ⟨z, hz, h⟩ := h; (try dsimp only at h); (first | exact (nxt_no h).elim | exact (jmp_no h).elim | exact (d2_no h).elim | exact (d2L_no h).elim | exact (ld_no h).elim | exact (so_no h).elim | exact (soL_no h).elim | cases h)))) | (rw [Option.bind_eq_some_iff] at h; obtain ⟨z, hz, h⟩ := h; (try dsimp only at h); (first | exact (nxt_no h).elim | exact (jmp_no h).elim | exact (d2_no h).elim | exact (d2L_no h).elim | exact (ld_no h).elim | exact (so_no h).elim | exact (soL_no h).elim | cases h | (split at h <;> (first | exact (nxt_no h).elim | exact (jmp_no h).elim | exact (d2_no h).elim | exact (d2L_no h).elim | exact (ld_no h).elim | exact (so_no h).elim | exact (soL_no h).elim | cases h)) | (rw [Option.bind_eq_some_iff] at h; obtain ⟨z, hz, h⟩ := h; (try dsimp only at h); (first | exact (nxt_no h).elim | exact (jmp_no h).elim | exact (d2_no h).elim | exact (d2L_no h).elim | exact (ld_no h).elim | exact (so_no h).elim | exact (soL_no h).elim | cases h)))))) | (rw [Option.bind_eq_some_iff] at h; obtain ⟨z, hz, h⟩ := h; (try dsimp only at h); (first | exact (nxt_no h).elim | exact (jmp_no h).elim | exact (d2_no h).elim | exact (d2L_no h).elim | exact (ld_no h).elim | exact (so_no h).elim | exact (soL_no h).elim | cases h | (split at h <;> (first | exact (nxt_no h).elim | exact (jmp_no h).elim | exact (d2_no h).elim | exact (d2L_no h).elim | exact (ld_no h).elim | exact (so_no h).elim | exact (soL_no h).elim | cases h | (split at h <;> (first | exact (nxt_no h).elim | exact (jmp_no h).elim | exact (d2_no h).elim | exact (d2L_no h).elim | exact (ld_no h).elim | exact (so_no h).elim | exact (soL_no h).elim | cases h)) | (rw [Option.bind_eq_some_iff] at h; obtain ⟨z, hz, h⟩ := h; (try dsimp only at h); (first | exact (nxt_no h).elim | exact (jmp_no h).elim | exact (d2_no h).elim | exact (d2L_no h).elim | exact (ld_no h).elim | exact (so_no h).elim | exact (soL_no h).elim | cases h)))) | (rw [Option.bind_eq_some_iff] at h; obtain ⟨z, hz, h⟩ := h; (try dsimp only at h); (first | exact (nxt_no h).elim | exact (jmp_no h).elim | exact (d2_no h).elim | exact (d2L_no h).elim | exact (ld_no h).elim | exact (so_no h).elim | exact (soL_no h).elim | cases h | (split at h <;> (first | exact (nxt_no h).elim | exact (jmp_no h).elim | exact (d2_no h).elim | exact (d2L_no h).elim | exact (ld_no h).elim | exact (so_no h).elim | exact (soL_no h).elim | cases h)) | (rw [Option.bind_eq_some_iff] at h; obtain ⟨z, hz, h⟩ := h; (try dsimp only at h); (first | exact (nxt_no h).elim | exact (jmp_no h).elim | exact (d2_no h).elim | exact (d2L_no h).elim | exact (ld_no h).elim | exact (so_no h).elim | exact (soL_no h).elim | cases h)))))))) | (rw [Option.bind_eq_some_iff] at h; obtain ⟨z, hz, h⟩ := h; (try dsimp only at h); (first | exact (nxt_no h).elim | exact (jmp_no h).elim | exact (d2_no h).elim | exact (d2L_no h).elim | exact (ld_no h).elim | exact (so_no h).elim | exact (soL_no h).elim | cases h | (split at h <;> (first | exact (nxt_no h).elim | exact (jmp_no h).elim | exact (d2_no h).elim | exact (d2L_no h).elim | exact (ld_no h).elim | exact (so_no h).elim | exact (soL_no h).elim | cases h | (split at h <;> (first | exact (nxt_no h).elim | exact (jmp_no h).elim | exact (d2_no h).elim | exact (d2L_no h).elim | exact (ld_no h).elim | exact (so_no h).elim | exact (soL_no h).elim | cases h | (split at h <;> (first | exact (nxt_no h).elim | exact (jmp_no h).elim | exact (d2_no h).elim | exact (d2L_no h).elim | exact (ld_no h).elim | exact (so_no h).elim | exact (soL_no h).elim | cases h)) | (rw [Option.bind_eq_some_iff] at h; obtain ⟨z, hz, h⟩ := h; (try dsimp only at h); (first | exact (nxt_no h).elim | exact (jmp_no h).elim | exact (d2_no h).elim | exact (d2L_no h).elim | exact (ld_no h).elim | exact (so_no h).elim | exact (soL_no h).elim | cases h)))) | (rw [Option.bind_eq_some_iff] at h; obtain ⟨z, hz, h⟩ := h; (try dsimp only at h); (first | exact (nxt_no h).elim | exact (jmp_no h).elim | exact (d2_no h).elim | exact (d2L_no h).elim | exact (ld_no h).elim | exact (so_no h).elim | exact (soL_no h).elim | cases h | (split at h <;> (first | exact (nxt_no h).elim | exact (jmp_no h).elim | exact (d2_no h).elim | exact (d2L_no h).elim | exact (ld_no h).elim | exact (so_no h).elim | exact (soL_no h).elim | cases h)) | (rw [Option.bind_eq_some_iff] at h; obtain ⟨z, hz, h⟩ := h; (try dsimp only at h); (first | exact (nxt_no h).elim | exact (jmp_no h).elim | exact (d2_no h).elim | exact (d2L_no h).elim | exact (ld_no h).elim | exact (so_no h).elim | exact (soL_no h).elim | cases h)))))) | (rw [Option.bind_eq_some_iff] at h; obtain ⟨z, hz, h⟩ := h; (try dsimp only at h); (first | exact (nxt_no h).elim | exact (jmp_no h).elim | exact (d2_no h).elim | exact (d2L_no h).elim | exact (ld_no h).elim | exact (so_no h).elim | exact (soL_no h).elim | cases h | (split at h <;> (first | exact (nxt_no h).elim | exact (jmp_no h).elim | exact (d2_no h).elim | exact (d2L_no h).elim | exact (ld_no h).elim | exact (so_no h).elim | exact (soL_no h).elim | cases h | (split at h <;> (first | exact (nxt_no h).elim | exact (jmp_no h).elim | exact (d2_no h).elim | exact (d2L_no h).elim | exact (ld_no h).elim | exact (so_no h).elim | exact (soL_no h).elim | cases h)) | (rw [Option.bind_eq_some_iff] at h; obtain ⟨z, hz, h⟩ := h; (try dsimp only at h); (first | exact (nxt_no h).elim | exact (jmp_no h).elim | exact (d2_no h).elim | exact (d2L_no h).elim | exact (ld_no h).elim | exact (so_no h).elim | exact (soL_no h).elim | cases h)))) | (rw [Option.bind_eq_some_iff] at h; obtain ⟨z, hz, h⟩ := h; (try dsimp only at h); (first | exact (nxt_no h).elim | exact (jmp_no h).elim | exact (d2_no h).elim | exact (d2L_no h).elim | exact (ld_no h).elim | exact (so_no h).elim | exact (soL_no h).elim | cases h | (split at h <;> (first | exact (nxt_no h).elim | exact (jmp_no h).elim | exact (d2_no h).elim | exact (d2L_no h).elim | exact (ld_no h).elim | exact (so_no h).elim | exact (soL_no h).elim | cases h)) | (rw [Option.bind_eq_some_iff] at h; obtain ⟨z, hz, h⟩ := h; (try dsimp only at h); (first | exact (nxt_no h).elim | exact (jmp_no h).elim | exact (d2_no h).elim | exact (d2L_no h).elim | exact (ld_no h).elim | exact (so_no h).elim | exact (soL_no h).elim | cases h)))))))))))) | (cases h; done)
theorem jvi_no {k pc : Nat} {L stk : List Value} {M : aM} {q : Option Value ⊕ (Nat × List Value × List Value)} (h : jvi k pc L stk M = some (.inr q)) : False := by
  unfold jvi at h
  split at h
  · split at h <;> cases h
  · split at h <;> cases h
  · cases h
theorem jst_no {k pc : Nat} {L stk : List Value} {M : aM} {q : Option Value ⊕ (Nat × List Value × List Value)} (h : jst k pc L stk M = some (.inr q)) : False := by
  unfold jst at h
  split at h
  · split at h <;> cases h
  · split at h <;> cases h
  · split at h <;> cases h
  · split at h <;> cases h
  · cases h
/-- an end -/
def retAt (J pc : Nat) (v : Option Value) : Prop := (∃ x, ins J pc = some .ireturn ∧ v = some (.int x) ∧ rtI (mt J).2.2.2.2 x = true) ∨ (∃ x, ins J pc = some .lreturn ∧ v = some (.long x) ∧ (mt J).2.2.2.2 = some .long) ∨ (∃ a, ins J pc = some .areturn ∧ v = some (.ref a) ∧ rtR (mt J).2.2.2.2 = true) ∨ (ins J pc = some .return_ ∧ v = none ∧ (mt J).2.2.2.2 = none)
theorem doc_ret {k na J' : Nat} {L stk : List Value} {M : aM} {v : Option Value} (h : doc k na J' L stk M = some (.inr (.inl v))) : False := by
  unfold doc at h
  split at h
  · split at h
    · cases h
    · split at h
      · split at h <;> cases h
      · cases h
  · cases h
theorem doc_call {k na J' J2 : Nat} {L stk as rest : List Value} {M : aM} (h : doc k na J' L stk M = some (.inr (.inr (J2, as, rest)))) : J2 = J' ∧ as = (stk.take na).reverse ∧ rest = stk.drop na ∧ (enL as).length ≤ (mt J').2.2.2.1 ∧ na ≤ stk.length ∧ (rest.map fun v => v.category).sum ≤ 8 ∧ (∀ v ∈ as, isV v = true) ∧ J' < 233 ∧ ((k = 2 ∨ k = 3) ∨ ∃ b as', as = .ref b :: as' ∧ mK M b = (mt J').1) := by
  unfold doc at h
  split at h
  · rename_i hc
    split at h
    · rename_i hk
      cases h
      exact ⟨rfl, rfl, rfl, hc.1, hc.2.1, hc.2.2.1, fun v hv => hc.2.2.2.1 v (by simpa using hv), hc.2.2.2.2, Or.inl hk⟩
    · split at h
      · rename_i b as' e
        split at h
        · rename_i hb
          cases h
          refine ⟨rfl, e.symm, rfl, by rw [← e]; exact hc.1, hc.2.1, hc.2.2.1, fun v hv => hc.2.2.2.1 v ?_, hc.2.2.2.2, Or.inr ⟨b, as', rfl, hb⟩⟩
          rw [← e] at hv
          simpa using hv
        · cases h
      · cases h
  · cases h
theorem sti_ret {J pc : Nat} {L stk : List Value} {M : aM} {v : Option Value} (h : sti J pc L stk M = some (.inr (.inl v))) : retAt J pc v ∧ stk = v.toList := by
  unfold sti at h
  rw [Option.bind_eq_some_iff] at h
  obtain ⟨i, hi, h⟩ := h
  cases hr : isRC i with
  | false => exact (stp_ord hr h).elim
  | true =>
    unfold retAt
    cases i
    case ireturn =>
      dsimp only [stp] at h
      split at h
      · split at h
        · rename_i hc
          cases h
          exact ⟨Or.inl ⟨_, hi, rfl, hc⟩, rfl⟩
        · cases h
      · cases h
    case lreturn =>
      dsimp only [stp] at h
      split at h
      · split at h
        · rename_i hc
          cases h
          exact ⟨Or.inr (Or.inl ⟨_, hi, rfl, hc⟩), rfl⟩
        · cases h
      · cases h
    case areturn =>
      dsimp only [stp] at h
      split at h
      · split at h
        · rename_i hc
          cases h
          exact ⟨Or.inr (Or.inr (Or.inl ⟨_, hi, rfl, hc⟩)), rfl⟩
        · cases h
      · cases h
    case return_ =>
      dsimp only [stp] at h
      split at h
      · split at h
        · rename_i hc
          cases h
          exact ⟨Or.inr (Or.inr (Or.inr ⟨hi, rfl, hc⟩)), rfl⟩
        · cases h
      · cases h
    case invokevirtual x =>
      dsimp only [stp] at h
      rw [Option.bind_eq_some_iff] at h
      obtain ⟨z, hz, h⟩ := h
      split at h
      · exact (jvi_no h).elim
      · split at h
        · exact (doc_ret h).elim
        · cases h
    case invokestatic x =>
      dsimp only [stp] at h
      rw [Option.bind_eq_some_iff] at h
      obtain ⟨z, hz, h⟩ := h
      split at h
      · exact (jst_no h).elim
      · split at h
        · exact (doc_ret h).elim
        · cases h
    case invokespecial x =>
      dsimp only [stp] at h
      rw [Option.bind_eq_some_iff] at h
      obtain ⟨z, hz, h⟩ := h
      split at h
      · split at h
        · split at h <;> cases h
        · cases h
      · split at h
        · exact (doc_ret h).elim
        · cases h
    all_goals cases hr
/-- a call of a method of ours -/
def calAt (J pc J2 : Nat) (as rest : List Value) (stk : List Value) (M : aM) : Prop := ∃ (x k na : Nat), pk mtab (mt J).1 x = some (k, na, J2) ∧ stk = as.reverse ++ rest ∧ (enL as).length ≤ (mt J2).2.2.2.1 ∧ (rest.map fun v => v.category).sum ≤ 8 ∧ (∀ v ∈ as, isV v = true) ∧ J2 < 233 ∧
  ((ins J pc = some (.invokevirtual x) ∧ k < 2 ∧ as.length = na + 1 ∧ ∃ b as', as = .ref b :: as' ∧ mK M b = (mt J2).1) ∨ (ins J pc = some (.invokestatic x) ∧ (k = 2 ∨ k = 3) ∧ as.length = na) ∨ (ins J pc = some (.invokespecial x) ∧ (k = 4 ∨ k = 5) ∧ as.length = na + 1 ∧ ∃ b as', as = .ref b :: as' ∧ mK M b = (mt J2).1))
theorem sti_call {J pc J2 : Nat} {L stk as rest : List Value} {M : aM} (h : sti J pc L stk M = some (.inr (.inr (J2, as, rest)))) : calAt J pc J2 as rest stk M := by
  unfold sti at h
  rw [Option.bind_eq_some_iff] at h
  obtain ⟨i, hi, h⟩ := h
  have hst : ∀ n : Nat, as = (stk.take n).reverse → rest = stk.drop n → stk = as.reverse ++ rest := fun n h1 h2 => by rw [h1, h2, List.reverse_reverse, List.take_append_drop]
  have hln : ∀ n : Nat, n ≤ stk.length → as = (stk.take n).reverse → as.length = n := fun n h0 h1 => by rw [h1, List.length_reverse, List.length_take]; omega
  cases hr : isRC i with
  | false => exact (stp_ord hr h).elim
  | true =>
    unfold calAt
    cases i
    case ireturn =>
      dsimp only [stp] at h
      split at h
      · split at h <;> cases h
      · cases h
    case lreturn =>
      dsimp only [stp] at h
      split at h
      · split at h <;> cases h
      · cases h
    case areturn =>
      dsimp only [stp] at h
      split at h
      · split at h <;> cases h
      · cases h
    case return_ =>
      dsimp only [stp] at h
      split at h
      · split at h <;> cases h
      · cases h
    case invokevirtual x =>
      dsimp only [stp] at h
      rw [Option.bind_eq_some_iff] at h
      obtain ⟨⟨k, na, J3⟩, hz, h⟩ := h
      dsimp only at h
      split at h
      · exact (jvi_no h).elim
      · split at h
        · rename_i hk
          obtain ⟨e, h1, h2, h3, h4, h5, h6, h7, h8⟩ := doc_call h
          subst e
          refine ⟨x, k, na, hz, hst _ h1 h2, h3, h5, h6, h7, Or.inl ⟨hi, hk, hln _ h4 h1, ?_⟩⟩
          rcases h8 with h8 | h8
          · omega
          · exact h8
        · cases h
    case invokestatic x =>
      dsimp only [stp] at h
      rw [Option.bind_eq_some_iff] at h
      obtain ⟨⟨k, na, J3⟩, hz, h⟩ := h
      dsimp only at h
      split at h
      · exact (jst_no h).elim
      · split at h
        · rename_i hk
          obtain ⟨e, h1, h2, h3, h4, h5, h6, h7, h8⟩ := doc_call h
          subst e
          exact ⟨x, k, na, hz, hst _ h1 h2, h3, h5, h6, h7, Or.inr (Or.inl ⟨hi, hk, hln _ h4 h1⟩)⟩
        · cases h
    case invokespecial x =>
      dsimp only [stp] at h
      rw [Option.bind_eq_some_iff] at h
      obtain ⟨⟨k, na, J3⟩, hz, h⟩ := h
      dsimp only at h
      split at h
      · split at h
        · split at h <;> cases h
        · cases h
      · split at h
        · rename_i hk
          obtain ⟨e, h1, h2, h3, h4, h5, h6, h7, h8⟩ := doc_call h
          subst e
          refine ⟨x, k, na, hz, hst _ h1 h2, h3, h5, h6, h7, Or.inr (Or.inr ⟨hi, hk, hln _ h4 h1, ?_⟩)⟩
          rcases h8 with h8 | h8
          · omega
          · exact h8
        · cases h
    all_goals cases hr
theorem ev_mono : ∀ (f n J pc : Nat) (L stk : List Value) (M : aM) (r : Option Value × aM), ev f n J pc L stk M = some r → mX M ≤ mX r.2 ∧ mU M ≤ mU r.2 := by
  intro f
  induction f with
  | zero => intro n J pc L stk M r h; simp [ev] at h
  | succ f ih =>
    intro n J pc L stk M r h
    rw [ev] at h
    cases hs : sti J pc L stk M with
    | none => rw [hs] at h; cases h
    | some q =>
      rw [hs] at h
      rcases q with q | v | q
      · have h1 := ih _ _ _ _ _ _ _ h
        unfold sti at hs
        rw [Option.bind_eq_some_iff] at hs
        obtain ⟨i, -, hs⟩ := hs
        have h2 := stp_mono hs
        exact ⟨Nat.le_trans h2.1 h1.1, Nat.le_trans h2.2 h1.2⟩
      · cases h
        exact ⟨Nat.le_refl _, Nat.le_refl _⟩
      · dsimp only at h
        split at h
        · cases he : ev f (rk q.1 q.2.1) q.1 0 (ent q.1 q.2.1) [] M with
          | none => rw [he] at h; cases h
          | some w =>
            rw [he] at h
            have h1 := ih _ _ _ _ _ _ _ he
            have h2 := ih _ _ _ _ _ _ _ h
            exact ⟨Nat.le_trans h1.1 h2.1, Nat.le_trans h1.2 h2.2⟩
        · cases h
def mws (J : Nat) : List Cond := .code (mt J).2.1 (mt J).2.2.1 (mt J).2.2.2.1 (mt J).2.2.2.2 :: gtb
/-- the contract that an abstract run gives -/
def MetJ (l : Launch) (g : aG) (J : Nat) (as : List Value) (M : aM) (r : Option Value × aM) : Prop := Met l (mt J).2.1 (mws J) { frames := rk J as + 8, cells := mX r.2 - mX M, slots := mU r.2 - mU M, locals := 64 * rk J as + 400 } (va_Pc (as.map (rv g)) (fun U => WS g U ∧ HM g M U.heap ∧ U.heap.size = gB g + mX M)) (fun _ st oc t => oc = .returned (r.1.map (rv g)) ∧ HM g r.2 t.heap ∧ va_F (wA g) st t) (mX r.2 - mX M) (mU r.2 - mU M) (wA g)
set_option maxRecDepth 100000 in
theorem mx_all : (List.range 233).all (fun J => decide ((mt J).2.2.2.1 ≤ 40)) = true := by decide +kernel
theorem mx_le {J : Nat} (h : J < 233) : (mt J).2.2.2.1 ≤ 40 := by
  have := List.all_eq_true.mp mx_all J (List.mem_range.mpr h)
  simpa using this
set_option maxRecDepth 100000 in
theorem ir_all : (List.range 232).all (fun J => !(jkd J == 2) || decide ((mt J).2.2.2.2 = none)) = true := by decide +kernel
theorem init_ret {J : Nat} (h : J < 232) (hk : (jpt.getD J (9, 0, 0, 0, 0, 0)).1 = 2) : (mt J).2.2.2.2 = none := by
  have := List.all_eq_true.mp ir_all J (List.mem_range.mpr h)
  unfold jkd at this
  rw [hk] at this
  simpa using this
section SIMC
variable {g : aG} {J n C0 S0 : Nat} {p : Program} {l : Launch} {e : Env} {R : Room} {s : State} {m : MethodId} {args : Array Value} {below : List Frame} {meth : Method} {c : Code} {Q : State → Prop} {pc : Nat} {L stk : List Value} {M : aM}
theorem callGo {H : Heap} {locs : List Loc} {cells slots mc ms : Nat} {ls : Array Slot} {st0 rest : List Value} {v : Option Value} {B : Heap → Prop} {A : Nat → Prop} (hr : va_Run p l e R s m args below meth c H locs cells slots mc ms (F0 m pc ls st0) rest (fun st oc t => oc = .returned v ∧ B t.heap ∧ va_F A st t) A) (hS : va_S A s.heap H locs)
    (kk : ∀ (H1 : Heap) (locs1 : List Loc), B H1 → va_S A s.heap H1 locs1 → W p l e R s m args below meth c H1 locs1 (cells + mc) (slots + ms) Q (F0 m (pc + 3) ls (v.toList ++ rest))) : W p l e R s m args below meth c H locs cells slots Q (F0 m pc ls st0) := by
  intro T hT X
  obtain ⟨v', st₀, t, T', L', h0, X', hL, e1, e2, ⟨hv, hb, hz, hk⟩, st⟩ := hr T hT X
  cases hv
  rw [h0] at hz hk
  obtain ⟨t2, a1, b1⟩ := kk T'.heap (locs ++ L') (by rw [e1]; exact hb) ⟨Nat.le_trans hS.1 (by rw [e1]; exact hz), fun q h1 h2 => by rw [e1, hk q (Nat.lt_of_lt_of_le h1 hS.1) h2]; exact hS.2.1 q h1 h2, fun q hq => by
    rcases List.mem_append.mp hq with h | h
    · exact hS.2.2 q h
    · exact hL q h⟩ T' rfl X'
  exact ⟨t2, st t2 a1, b1⟩
theorem mws_good {J2 : Nat} (h : J2 < 232) : GoodIn gtb (mws J2) := by
  intro w hw
  have hj := jck_all h
  unfold jck at hj
  simp only [Bool.and_eq_true, decide_eq_true_eq] at hj
  rcases List.mem_cons.mp hw with rfl | h2
  · exact gtb_good _ (jc_mt h hj.1.1.2)
  · exact gtb_good _ h2
theorem blind {as : List Value} : FrameBlind (va_Pc (as.map (rv g)) (fun U => WS g U ∧ HM g M U.heap ∧ U.heap.size = gB g + mX M)) := fun a U f mk q => ⟨q.1, WS.same (u := U) (U := U.calling f mk a) rfl rfl q.2.1, q.2.2.1, q.2.2.2⟩
theorem sim_call (F : Fr g J n C0 p R s m args meth c) {J2 : Nat} {as rest : List Value} {r : Option Value × aM} (hca : calAt J pc J2 as rest stk M) (hrk : rk J2 as < n) (hmo : mX M ≤ mX r.2 ∧ mU M ≤ mU r.2) (hMet : MetJ l g J2 as M r) (hC : mX r.2 ≤ R.cells + C0) (hU : mU r.2 ≤ R.slots + S0) (K : SimAt g J C0 S0 p l e R s m args below meth c Q (pc + 3) L (r.1.toList ++ rest) r.2) : SimAt g J C0 S0 p l e R s m args below meth c Q pc L stk M := by
  obtain ⟨x, k, na, hpk, hst, hen, h8, hV, h233, hkind⟩ := hca
  obtain ⟨pp, hp⟩ := mth_ok hpk
  intro H locs ls cells slots hS hM hl hL hc hu
  refine W.size (fun hz => ?_)
  obtain ⟨hx, hb, hml, hown, hts, hWS, hname, hfr, hlo, hsz⟩ := F
  have hK := hWS.1
  have hHs := hM.sz hsz hS hc hz
  have hk9 : ¬ k = 9 := by
    rcases hkind with h | h | h
    · have := h.2.1; omega
    · have := h.2.1; omega
    · have := h.2.1; omega
  unfold mck at hp
  rw [if_neg hk9] at hp
  simp only [Bool.and_eq_true, decide_eq_true_eq] at hp
  obtain ⟨⟨⟨h232, hjk⟩, hpar⟩, hlink⟩ := hp
  have hj := jck_all h232
  unfold jkd at hjk
  unfold jck at hj
  simp only [Bool.and_eq_true, decide_eq_true_eq] at hj
  obtain ⟨⟨⟨⟨⟨⟨⟨⟨hini, hsi⟩, hsel⟩, hini2⟩, hpl⟩, hcls⟩, h12⟩, hmh⟩, hvh⟩ := hj
  have hiniw : Cond.initialized (mt J2).2.1.cls ∈ gtb := gtb_at hini rfl
  have hstk : stk.map (rv g) = (as.map (rv g)).reverse ++ rest.map (rv g) := by rw [hst, List.map_append, List.map_reverse]
  have hr8 : 2 * (F0 m pc ls (stk.map (rv g))).monitorRoom + ((rest.map (rv g)).map fun v => v.category).sum ≤ 8 := lv_room (by rw [cat_map]; exact h8)
  have hpre : ∀ U : State, U.heap = H → s.WarmedH U.vm → va_Pc (as.map (rv g)) (fun U => WS g U ∧ HM g M U.heap ∧ U.heap.size = gB g + mX M) (as.map (rv g)).toArray U := fun U hU hW => ⟨rfl, WS.warm hW hU hS hWS, by rw [hU]; exact hM, by rw [hU]; exact hHs⟩
  have hroom : rk J2 as + 8 + 1 ≤ R.frames ∧ 8 + ((mt J2).2.2.2.1 + 11) + (64 * rk J2 as + 400) ≤ R.locals := by
    have hmx : (mt J2).2.2.2.1 ≤ 40 := mx_le (by omega)
    omega
  have hcs : cells + (mX r.2 - mX M) ≤ R.cells ∧ slots + (mU r.2 - mU M) ≤ R.slots := by omega
  have hdes : (mt J2).2.1.cls ≠ "java/lang/invoke/MethodHandle" ∧ (mt J2).2.1.cls ≠ "java/lang/invoke/VarHandle" ∧ (parseMethodDescriptor (mt J2).2.1.desc).map (fun d => d.parameters.length) = some na := ⟨hmh, hvh, hpar⟩
  have kk : ∀ (H1 : Heap) (locs1 : List Loc), HM g r.2 H1 → va_S (wA g) s.heap H1 locs1 → W p l e R s m args below meth c H1 locs1 (cells + (mX r.2 - mX M)) (slots + (mU r.2 - mU M)) Q (F0 m (pc + 3) ls ((r.1.map (rv g)).toList ++ rest.map (rv g))) := by
    intro H1 locs1 h1 h2
    have k' := K H1 locs1 ls _ _ h2 h1 hl hL (show cells + (mX r.2 - mX M) + C0 = mX r.2 by omega) (show slots + (mU r.2 - mU M) + S0 = mU r.2 by omega)
    have e : (r.1.toList ++ rest).map (rv g) = (r.1.map (rv g)).toList ++ rest.map (rv g) := by cases r.1 <;> simp
    rw [e] at k'
    exact k'
  rcases hkind with ⟨hi, hk2, hlen, b, as', has, hkb⟩ | ⟨hi, hk2, hlen⟩ | ⟨hi, hk2, hlen, b, as', has, hkb⟩
  · obtain ⟨n0, hd, hn0⟩ := ins_dec hi
    rcases hn0 with rfl | hn0
    rotate_left
    · cases hn0
    rw [if_pos hk2] at hjk
    have hbb := hM.2.1 b (by omega)
    have hwb := hM.at (a := b) (by omega)
    rw [cE_obj hkb h12] at hwb
    have hrec := va_recv hK hM.1 (clG h12) hwb
    rw [hjk] at hsi hsel
    rw [if_neg (by decide)] at hsi
    rw [if_pos rfl] at hsel
    have hinst : Cond.instanceMethod (mt J2).2.1 ∈ gtb := gtb_at (decide_eq_true_eq.mp hsi) rfl
    have hselw : Cond.selects (RF (mt J2).1) (mt J2).2.1 (mt J2).2.1 ∈ gtb := by
      rw [← hcls]
      split at hsel
      · exact gtb_at (decide_eq_true_eq.mp hsel) rfl
      · exact sel_at (decide_eq_true_eq.mp hsel) rfl
    subst has
    have hsk : (F0 m pc ls (stk.map (rv g))).stack = (as'.map (rv g)).reverse ++ .ref (adr g b) :: rest.map (rv g) := by
      show stk.map (rv g) = _
      rw [hstk, List.map_cons, rv_refP (by omega), List.reverse_cons, List.append_assoc]
      rfl
    have hpre' : ∀ U : State, U.heap = H → s.WarmedH U.vm → va_Pc ((Value.ref b :: as').map (rv g)) (fun U => WS g U ∧ HM g M U.heap ∧ U.heap.size = gB g + mX M) (Value.ref (adr g b) :: as'.map (rv g)).toArray U := by
      intro U hU hW
      have := hpre U hU hW
      rw [List.map_cons, rv_refP (by omega)] at this ⊢
      exact this
    have hal : (as'.map (rv g)).length = na := by simpa using hlen
    rcases (by omega : k = 0 ∨ k = 1) with hk0 | hk0
    · subst hk0
      rw [if_pos (by decide)] at hlink
      exact callGo (va_runV (C := RF (mt J2).1) ⟨hx, hb, hml, hown, hts⟩ hMet ⟨callB_of na hts (mws_good h232) rfl rfl rfl (hts _ hiniw) (hts _ (gtb_at (decide_eq_true_eq.mp hlink) rfl)) hdes hroom, hts _ hinst, hts _ hselw⟩ ⟨blind, hrec, hpre'⟩ rfl hal hl.1 hsk hr8 hd hcs) hS kk
    · subst hk0
      rw [if_neg (by decide)] at hlink
      exact callGo (va_runVN (C := RF (mt J2).1) (host := "TreacleTank") ⟨hx, hb, hml, hown, hts⟩ hMet ⟨va_cnB na hts (mws_good h232) rfl rfl rfl (hWS.2.1 _ (ntb_at (decide_eq_true_eq.mp hlink) rfl)) (hts _ hiniw) hdes hroom, hts _ hinst, hts _ hselw⟩ ⟨blind, hrec, hpre'⟩ rfl hal hl.1 hsk hr8 hd hcs) hS kk
  · obtain ⟨n0, hd, hn0⟩ := ins_dec hi
    rcases hn0 with rfl | hn0
    rotate_left
    · cases hn0
    rw [if_neg (by omega), if_pos (by omega)] at hjk
    rw [hjk] at hsi
    rw [if_pos rfl] at hsi
    have hstw : Cond.static (mt J2).2.1 ∈ gtb := gtb_at (decide_eq_true_eq.mp hsi) rfl
    have hal : (as.map (rv g)).length = na := by simpa using hlen
    rcases hk2 with hk0 | hk0
    · subst hk0
      rw [if_pos (by decide)] at hlink
      exact callGo (va_runS ⟨hx, hb, hml, hown, hts⟩ hMet ⟨callB_of na hts (mws_good h232) rfl rfl rfl (hts _ hiniw) (hts _ (gtb_at (decide_eq_true_eq.mp hlink) rfl)) hdes hroom, hts _ hstw⟩ ⟨blind, hpre⟩ rfl hal hl.1 hstk hr8 hd hcs) hS kk
    · subst hk0
      rw [if_neg (by decide)] at hlink
      exact callGo (va_runSN (host := "TreacleTank") ⟨hx, hb, hml, hown, hts⟩ hMet ⟨va_cnB na hts (mws_good h232) rfl rfl rfl (hWS.2.1 _ (ntb_at (decide_eq_true_eq.mp hlink) rfl)) (hts _ hiniw) hdes hroom, hts _ hstw, trivial⟩ ⟨blind, hpre⟩ rfl hal hl.1 hstk hr8 hd hcs) hS kk
  · obtain ⟨n0, hd, hn0⟩ := ins_dec hi
    rcases hn0 with rfl | hn0
    rotate_left
    · cases hn0
    rw [if_neg (by omega), if_neg (by omega)] at hjk
    have hbb := hM.2.1 b (by omega)
    rw [hjk] at hsi hini2
    rw [if_neg (by decide)] at hsi
    rw [if_pos rfl] at hini2
    have hinst : Cond.instanceMethod (mt J2).2.1 ∈ gtb := gtb_at (decide_eq_true_eq.mp hsi) rfl
    have hnm : (mt J2).2.1.name = "<init>" := decide_eq_true_eq.mp hini2
    have hrt : (mt J2).2.2.2.2 = none := init_ret h232 hjk
    unfold MetJ mws at hMet
    rw [hrt] at hMet
    have hwg := mws_good h232
    unfold mws at hwg
    rw [hrt] at hwg
    subst has
    have hsk : (F0 m pc ls (stk.map (rv g))).stack = (as'.map (rv g)).reverse ++ .ref (adr g b) :: rest.map (rv g) := by
      show stk.map (rv g) = _
      rw [hstk, List.map_cons, rv_refP (by omega), List.reverse_cons, List.append_assoc]
      rfl
    have hpre' : ∀ U : State, U.heap = H → s.WarmedH U.vm → va_Pc ((Value.ref b :: as').map (rv g)) (fun U => WS g U ∧ HM g M U.heap ∧ U.heap.size = gB g + mX M) (Value.ref (adr g b) :: as'.map (rv g)).toArray U := by
      intro U hU hW
      have := hpre U hU hW
      rw [List.map_cons, rv_refP (by omega)] at this ⊢
      exact this
    have hal : (as'.map (rv g)).length = na := by simpa using hlen
    rcases hk2 with hk0 | hk0
    · subst hk0
      rw [if_pos (by decide)] at hlink
      exact callGo (va_runI ⟨hx, hb, hml, hown, hts⟩ hMet ⟨callB_of na hts hwg rfl rfl rfl (hts _ hiniw) (hts _ (gtb_at (decide_eq_true_eq.mp hlink) rfl)) hdes hroom, hnm, hts _ hinst⟩ ⟨blind, hpre'⟩ rfl hal hl.1 hsk hr8 hd hcs) hS kk
    · subst hk0
      rw [if_neg (by decide)] at hlink
      exact callGo (va_runIN (host := "TreacleTank") ⟨hx, hb, hml, hown, hts⟩ hMet ⟨va_cnB na hts hwg rfl rfl rfl (hWS.2.1 _ (ntb_at (decide_eq_true_eq.mp hlink) rfl)) (hts _ hiniw) hdes hroom, hnm, hts _ hinst⟩ ⟨blind, hpre'⟩ rfl hal hl.1 hsk hr8 hd hcs) hS kk
end SIMC
