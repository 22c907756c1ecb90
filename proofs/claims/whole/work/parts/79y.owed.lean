/-! MEN OWED: both sides say the same -/
def gth (f : Nat → List Int32) : Nat → List Int32
  | 0 => []
  | j + 1 => gth f j ++ f j
theorem mem_gth {f : Nat → List Int32} {x : Int32} : ∀ n, x ∈ gth f n ↔ ∃ j, j < n ∧ x ∈ f j := by
  intro n
  induction n with
  | zero => exact ⟨fun h => (by cases h), fun ⟨j, h, _⟩ => absurd h (Nat.not_lt_zero _)⟩
  | succ n ih =>
    rw [gth, List.mem_append, ih]
    constructor
    · rintro (⟨j, h1, h2⟩ | h)
      · exact ⟨j, by omega, h2⟩
      · exact ⟨n, by omega, h⟩
    · rintro ⟨j, h1, h2⟩
      by_cases e : j = n
      · subst e; exact Or.inr h2
      · exact Or.inl ⟨j, by omega, h2⟩
theorem nbF_or {S : aS} {w : Nat → Int} : ∀ (l : List aK) (a : Int32), nbF S w a l = a ||| orA (l.map (bt1 S w)) := by
  intro l
  induction l with
  | nil => intro a; exact Int32.or_zero.symm
  | cons k l ih => intro a; rw [nbF, ih, Int32.or_assoc]; rfl
theorem cmF_or {S : aS} : ∀ (l : List aK) (a : Int32), cmF S a l = a ||| orA (l.map (bt2 S)) := by
  intro l
  induction l with
  | nil => intro a; exact Int32.or_zero.symm
  | cons k l ih => intro a; rw [cmF, ih, Int32.or_assoc]; rfl
theorem rlF_or {S : aS} {w : Nat → Int} {kt : Nat → List aK} {a : Int32} : ∀ j, rlF S w kt a j = a ||| orA (gth (fun j => (kt j).map (bt1 S w)) j) := by
  intro j
  induction j with
  | zero => exact Int32.or_zero.symm
  | succ j ih => rw [rlF, ih, nbF_or, Int32.zero_or, gth, orA_app, Int32.or_assoc]
theorem owF_or {S : aS} {kt : Nat → List aK} {c : Nat} : ∀ k, owF S kt c k = orA (gth (fun k => gth (fun j => (kt j).map (bt1 S (wZ S (iN k)))) c) k) := by
  intro k
  induction k with
  | zero => rfl
  | succ k ih => rw [owF, rlF_or, ih, gth, orA_app]
theorem owM_or {S : aS} {kt : Nat → List aK} : ∀ j, owM S kt j = orA (gth (fun j => (kt j).map (bt2 S)) j) := by
  intro j
  induction j with
  | zero => rfl
  | succ j ih => rw [owM, cmF_or, ih, gth, orA_app]
theorem askF_iff {S : aS} {l : List Int32} : ∀ n, askF S l n = true ↔ ∃ k, k < n ∧ tst (wZ S (iN k)) l = true := by
  intro n
  induction n with
  | zero => exact ⟨fun h => (by cases h), fun ⟨j, h, _⟩ => absurd h (Nat.not_lt_zero _)⟩
  | succ n ih =>
    rw [askF, Bool.or_eq_true, ih]
    constructor
    · rintro (⟨j, h1, h2⟩ | h)
      · exact ⟨j, by omega, h2⟩
      · exact ⟨n, by omega, h⟩
    · rintro ⟨j, h1, h2⟩
      by_cases e : j = n
      · subst e; exact Or.inr h2
      · exact Or.inl ⟨j, by omega, h2⟩
theorem owed_eq {S : aS} {kt : Nat → List aK} {c : Nat} : owF S kt c (riN S) = owM S kt c := by
  rw [owF_or, owM_or]
  refine orA_eq (fun a ha => ?_) (fun b hb => ?_)
  · obtain ⟨k, hk, h1⟩ := (mem_gth _).mp ha
    obtain ⟨j, hj, h2⟩ := (mem_gth _).mp h1
    obtain ⟨q, hq, rfl⟩ := List.mem_map.mp h2
    by_cases h : lt17 S q = true ∧ tst (wZ S (iN k)) q.2.2.2 = true
    · refine Or.inr ((mem_gth _).mpr ⟨j, hj, List.mem_map.mpr ⟨q, hq, ?_⟩⟩)
      unfold bt1 bt2
      rw [if_pos h, if_pos ⟨h.1, (askF_iff _).mpr ⟨k, hk, h.2⟩⟩]
    · exact Or.inl (if_neg h)
  · obtain ⟨j, hj, h2⟩ := (mem_gth _).mp hb
    obtain ⟨q, hq, rfl⟩ := List.mem_map.mp h2
    by_cases h : lt17 S q = true ∧ askF S q.2.2.2 (riN S) = true
    · obtain ⟨k, hk, hk2⟩ := (askF_iff _).mp h.2
      refine Or.inr ((mem_gth _).mpr ⟨k, hk, (mem_gth _).mpr ⟨j, hj, List.mem_map.mpr ⟨q, hq, ?_⟩⟩⟩)
      unfold bt1 bt2
      rw [if_pos h, if_pos ⟨h.1, hk2⟩]
    · exact Or.inl (if_neg h)
