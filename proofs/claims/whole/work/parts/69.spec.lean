/-! HOW TESTS ARE READ: one function for both sides; steps as the class writes them -/
abbrev aQ : Type := (Nat × Nat × List Int32) ⊕ Nat
def ft (p w : Nat) : Nat := 1 + 8 * p + w
def pV (u : Nat → Int32) (n p c : Nat) (l : List Int32) : aQ :=
  if KK u n p = 2 then (if VV u n p = -1 then .inr (ft p 1) else if 60 ≤ c then .inr (ft p 3) else .inl (nx u n p, c + 1, l ++ [VV u n p]))
  else if 23 ≤ KK u n p then (if 60 ≤ c then .inr (ft p 3) else .inl (nx u n p, c + 1, l ++ [-(iN (KK u n p))])) else .inr (ft p 0)
/-- a step joined, if one waits -/
def jn (j : Nat) (l : List Int32) : List Int32 := if j = 0 then l else l ++ [-(iN j)]
def pS (u : Nat → Int32) (n : Nat) : Nat → Nat → Nat → List Int32 → Nat → Option aQ
  | 0, _, _, _, _ => none
  | f + 1, p, c, l, j => match pV u n p c l with
    | .inr e => some (.inr e)
    | .inl (p1, c1, l1) => if KK u n p1 = 7 ∨ KK u n p1 = 8 then pS u n f (nx u n p1) c1 (jn j l1) (KK u n p1) else some (.inl (p1, c1, jn j l1))
def pC (u : Nat → Int32) (n p c : Nat) (l : List Int32) : Option aQ := match pS u n 70 p c l 0 with
  | none => none
  | some (.inr e) => some (.inr e)
  | some (.inl (p1, c1, l1)) => if 9 ≤ KK u n p1 ∧ KK u n p1 ≤ 13 then (if 60 ≤ c1 then some (.inr (ft p1 3)) else match pS u n 70 (nx u n p1) (c1 + 1) l1 0 with
      | none => none
      | some (.inr e) => some (.inr e)
      | some (.inl (p2, c2, l2)) => some (.inl (p2, c2, l2 ++ [-(iN (KK u n p1))]))) else some (.inr (ft p1 0))
def jb (b : Bool) (k : Nat) (l : List Int32) : List Int32 := if b = true then l ++ [-(iN k)] else l
/-- a fact (t = false), or a test with its and and its or waiting -/
def par (u : Nat → Int32) (n : Nat) : Nat → Bool → Bool → Bool → Nat → Nat → Nat → List Int32 → Option aQ
  | 0, _, _, _, _, _, _, _ => none
  | f + 1, false, _, _, d, p, c, l =>
    if KK u n p = 5 ∨ KK u n p = 20 then (if 10 ≤ d then some (.inr (ft p 2)) else if KK u n p = 5 then (match par u n f true false false (d + 1) (nx u n p) c l with
        | none => none
        | some (.inr e) => some (.inr e)
        | some (.inl (p1, c1, l1)) => if KK u n p1 = 6 then some (.inl (nx u n p1, c1, l1)) else some (.inr (ft p1 0)))
      else (match par u n f false false false (d + 1) (nx u n p) c l with
        | none => none
        | some (.inr e) => some (.inr e)
        | some (.inl (p1, c1, l1)) => some (.inl (p1, c1, l1 ++ [-(iN 20)]))))
    else pC u n p c l
  | f + 1, true, a, o, d, p, c, l => match par u n f false false false d p c l with
    | none => none
    | some (.inr e) => some (.inr e)
    | some (.inl (p1, c1, l1)) => if KK u n p1 = 21 then par u n f true true o d (nx u n p1) c1 (jb a 21 l1)
      else if KK u n p1 = 22 then par u n f true false true d (nx u n p1) c1 (jb o 22 (jb a 21 l1)) else some (.inl (p1, c1, jb o 22 (jb a 21 l1)))
section SPC
variable {u : Nat → Int32} {n : Nat}
theorem wkF_b {i e : Nat} : ∀ m, wkF u i e m = 1 ∨ ∃ j, j < m ∧ wkF u i e m = 14 + j ∧ spl u i e j = true := by
  intro m
  induction m with
  | zero => left; rfl
  | succ m ih =>
    rw [wkF]
    by_cases h : spl u i e m = true
    · rw [if_pos h]
      exact Or.inr ⟨m, by omega, rfl, h⟩
    · rw [if_neg h]
      rcases ih with q | ⟨j, h1, h2, h3⟩
      · exact Or.inl q
      · exact Or.inr ⟨j, by omega, h2, h3⟩
theorem spF_det {u : Nat → Int32} : ∀ (w w' : List Int32) (i : Nat), w.length = w'.length → spF u i w = true → spF u i w' = true → w = w' := by
  intro w
  induction w with
  | nil => intro w' i h _ _; cases w' with
    | nil => rfl
    | cons a b => cases h
  | cons c w ih =>
    intro w' i h h1 h2
    cases w' with
    | nil => cases h
    | cons c' w' =>
      rw [spF, Bool.and_eq_true, decide_eq_true_eq] at h1 h2
      rw [List.length_cons, List.length_cons] at h
      rw [ih w' (i + 1) (by omega) h1.2 h2.2, ← h1.1, ← h2.1]
/-- a word is one word alone -/
theorem spl_det {i e j k : Nat} (hj : j < 22) (hk : k < 22) (h1 : spl u i e j = true) (h2 : spl u i e k = true) : j = k := by
  unfold spl at h1 h2
  rw [Bool.and_eq_true, decide_eq_true_eq] at h1 h2
  have w := spF_det _ _ _ (by rw [(slen_b hj).2, (slen_b hk).2, ← h1.1, ← h2.1]) h1.2 h2.2
  have inj : ∀ j, j < 22 → ∀ k, k < 22 → sbyt.getD j [] = sbyt.getD k [] → j = k := by decide
  exact inj j hj k hk w
theorem wk_iff {i e j : Nat} (hj : j < 22) : wk u i e = 14 + j ↔ spl u i e j = true := by
  unfold wk
  constructor
  · intro h
    rcases wkF_b (u := u) (i := i) (e := e) 22 with q | ⟨k, k1, k2, k3⟩
    · omega
    · rw [show j = k by omega]; exact k3
  · intro h
    rcases wkF_b (u := u) (i := i) (e := e) 22 with q | ⟨k, k1, k2, k3⟩
    · exfalso
      have none : ∀ m, wkF u i e m = 1 → ∀ q, q < m → ¬ spl u i e q = true := by
        intro m
        induction m with
        | zero => intro _ q hq; omega
        | succ m ih =>
          intro hm q hq
          rw [wkF] at hm
          by_cases hs : spl u i e m = true
          · rw [if_pos hs] at hm; omega
          · rw [if_neg hs] at hm
            by_cases e' : q = m
            · rw [e']; exact hs
            · exact ih hm q (by omega)
      exact none 22 q j hj h
    · rw [k2, spl_det hj k1 h k3]
theorem wk_b {i e : Nat} : wk u i e = 1 ∨ (14 ≤ wk u i e ∧ wk u i e < 36) := by
  unfold wk
  rcases wkF_b (u := u) (i := i) (e := e) 22 with q | ⟨k, k1, k2, k3⟩
  · left; exact q
  · right; omega
theorem kos_b {x : Int32} : 1 ≤ kos x ∧ kos x ≤ 13 ∧ kos x ≠ 2 := by
  unfold kos
  repeat' split
  all_goals omega
theorem K_b {p : Nat} : KK u n p < 36 ∧ (KK u n p = 0 → n ≤ p) := by
  unfold KK
  by_cases h : p < n
  · rw [if_pos h]
    unfold tK
    have k := kos_b (x := u p)
    have w := wk_b (u := u) (i := p) (e := rn sm u n p)
    split
    · omega
    · split
      · omega
      · split
        · split <;> omega
        · omega
  · rw [if_neg h]
    omega
theorem K_lt {p : Nat} (h : KK u n p ≠ 0) : p < n := by
  rcases Nat.lt_or_ge p n with q | q
  · exact q
  · exfalso
    apply h
    unfold KK
    rw [if_neg (by omega)]
theorem nx_le {p : Nat} (h : p ≤ n) : p ≤ nx u n p ∧ nx u n p ≤ n := by
  unfold nx
  split
  · rename_i q
    have a := tE_b (u := u) q
    have b := sk_b (u := u) a.2
    omega
  · omega
theorem nx_not {p : Nat} (h : KK u n p = 20) : p + 3 ≤ nx u n p := by
  have hp := K_lt (u := u) (n := n) (p := p) (by omega)
  unfold KK at h
  rw [if_pos hp] at h
  unfold tK at h
  have k := kos_b (x := u p)
  split at h
  · omega
  · rename_i hd
    split at h
    · rename_i hs
      have hw := (wk_iff (u := u) (i := p) (e := rn sm u n p) (j := 6) (by decide)).mp h
      unfold spl at hw
      rw [Bool.and_eq_true, decide_eq_true_eq] at hw
      have e3 : slen.getD 6 0 = 3 := rfl
      unfold nx tE
      rw [if_pos hp, if_neg hd, if_pos hs]
      have a := rn_b (P := sm) (u := u) (n := n) (i := p) (by omega)
      have b := sk_b (u := u) a.2
      omega
    · split at h
      · split at h <;> omega
      · omega
theorem pV_ok {p c p' c' : Nat} {l l' : List Int32} (h : pV u n p c l = .inl (p', c', l')) : p < n ∧ p' = nx u n p ∧ c' = c + 1 ∧ c < 60 ∧ l'.length = l.length + 1 := by
  unfold pV at h
  split at h
  · rename_i h2
    split at h
    · cases h
    · split at h
      · cases h
      · cases h
        refine ⟨K_lt (u := u) (by omega), rfl, rfl, by omega, by simp⟩
  · split at h
    · rename_i h3
      split at h
      · cases h
      · cases h
        refine ⟨K_lt (u := u) (by omega), rfl, rfl, by omega, by simp⟩
    · cases h
theorem jn_len {j : Nat} {l : List Int32} : (jn j l).length ≤ l.length + 1 := by
  unfold jn
  split <;> simp
theorem jb_len {b : Bool} {k : Nat} {l : List Int32} : (jb b k l).length = l.length + (if b = true then 1 else 0) := by
  unfold jb
  split <;> simp
theorem pS_b : ∀ f p c l j p' c' l', p ≤ n → pS u n f p c l j = some (.inl (p', c', l')) → p < p' ∧ p' ≤ n ∧ c < c' ∧ c' ≤ 60 ∧ l.length ≤ l'.length ∧ ∀ e, 3 * (e + l.length) ≤ 6 * c + p → 3 * (e + l'.length) + (if j = 0 then 4 else 1) ≤ 6 * c' + p' := by
  intro f
  induction f with
  | zero => intro p c l j p' c' l' _ h; cases h
  | succ f ih =>
    intro p c l j p' c' l' hp h
    rw [pS] at h
    cases hv : pV u n p c l with
    | inr e => rw [hv] at h; cases h
    | inl q =>
      obtain ⟨p1, c1, l1⟩ := q
      rw [hv] at h
      obtain ⟨v1, v2, v3, v4, v5⟩ := pV_ok hv
      have g := nx_gt (u := u) v1
      have jl := jn_len (j := j) (l := l1)
      have jl0 : j = 0 → (jn j l1).length = l1.length := fun z => by unfold jn; rw [if_pos z]
      have jge : l1.length ≤ (jn j l1).length := by unfold jn; split <;> simp
      dsimp only at h
      split at h
      · rename_i hk
        have hp1 : p1 < n := K_lt (u := u) (by omega)
        have g1 := nx_gt (u := u) hp1
        obtain ⟨a1, a2, a3, a4, a5, a6⟩ := ih _ _ _ _ _ _ _ (by omega) h
        refine ⟨by omega, a2, by omega, a4, by omega, fun e he => ?_⟩
        have key := a6 e
        have hj : ¬ KK u n p1 = 0 := by omega
        rw [if_neg hj] at key
        by_cases j0 : j = 0
        · rw [if_pos j0]
          have := jl0 j0
          -- first value, then joined ones: the first leaves room
          obtain ⟨a1', a2', a3', a4', a5', a6'⟩ := ih _ _ _ _ _ _ _ (by omega) h
          have key2 := a6' (e + 1)
          rw [if_neg hj] at key2
          have := key2 (by omega)
          omega
        · rw [if_neg j0]
          have := key (by omega)
          omega
      · cases h
        refine ⟨by omega, by omega, by omega, by omega, by omega, fun e he => ?_⟩
        by_cases j0 : j = 0
        · rw [if_pos j0]
          have := jl0 j0
          omega
        · rw [if_neg j0]
          omega
theorem pS_n : ∀ f p c l j, 62 ≤ f + c → pS u n f p c l j = none → c > 60 := by
  intro f
  induction f with
  | zero => intro p c l j h _; omega
  | succ f ih =>
    intro p c l j h hn
    rw [pS] at hn
    cases hv : pV u n p c l with
    | inr e => rw [hv] at hn; cases hn
    | inl q =>
      obtain ⟨p1, c1, l1⟩ := q
      rw [hv] at hn
      obtain ⟨v1, v2, v3, v4, v5⟩ := pV_ok hv
      dsimp only at hn
      split at hn
      · have := ih _ _ _ _ (by omega) hn
        omega
      · cases hn
theorem pC_b {p c : Nat} {l : List Int32} {p' c' : Nat} {l' : List Int32} (hp : p ≤ n) (h : pC u n p c l = some (.inl (p', c', l'))) : p < p' ∧ p' ≤ n ∧ c ≤ c' ∧ c' ≤ 60 ∧ l.length ≤ l'.length ∧ ∀ e, 3 * (e + l.length) ≤ 6 * c + p → 3 * (e + l'.length + 1) ≤ 6 * c' + p' := by
  unfold pC at h
  cases h1 : pS u n 70 p c l 0 with
  | none => rw [h1] at h; cases h
  | some q =>
    rw [h1] at h
    rcases q with ⟨p1, c1, l1⟩ | e
    · obtain ⟨a1, a2, a3, a4, a5, a6⟩ := pS_b _ _ _ _ _ _ _ _ hp h1
      dsimp only at h
      split at h
      · rename_i hk
        have hp1 : p1 < n := K_lt (u := u) (by omega)
        have g1 := nx_gt (u := u) hp1
        split at h
        · cases h
        · rename_i hc
          cases h2 : pS u n 70 (nx u n p1) (c1 + 1) l1 0 with
          | none => rw [h2] at h; cases h
          | some q =>
            rw [h2] at h
            rcases q with ⟨p2, c2, l2⟩ | e
            · obtain ⟨b1, b2, b3, b4, b5, b6⟩ := pS_b _ _ _ _ _ _ _ _ (by omega) h2
              cases h
              refine ⟨by omega, by omega, by omega, by omega, by simp; omega, fun e he => ?_⟩
              have x1 := a6 e he
              rw [if_pos rfl] at x1
              have x2 := b6 (e + 3) (by omega)
              rw [if_pos rfl] at x2
              rw [List.length_append, List.length_cons, List.length_nil]
              omega
            · cases h
      · cases h
    · cases h
theorem pC_n {p c : Nat} {l : List Int32} (hp : p ≤ n) (hc : c ≤ 60) : pC u n p c l ≠ none := by
  intro h
  unfold pC at h
  cases h1 : pS u n 70 p c l 0 with
  | none => have := pS_n _ _ _ _ _ (by omega) h1; omega
  | some q =>
    rw [h1] at h
    rcases q with ⟨p1, c1, l1⟩ | e
    · dsimp only at h
      split at h
      · split at h
        · cases h
        · rename_i hc1
          cases h2 : pS u n 70 (nx u n p1) (c1 + 1) l1 0 with
          | none => have := pS_n _ _ _ _ _ (by omega) h2; omega
          | some q =>
            rw [h2] at h
            rcases q with ⟨p2, c2, l2⟩ | e
            · cases h
            · cases h
      · cases h
    · cases h
theorem par_b : ∀ f t a o d p c l p' c' l', p ≤ n → c ≤ 60 → par u n f t a o d p c l = some (.inl (p', c', l')) → p < p' ∧ p' ≤ n ∧ c ≤ c' ∧ c' ≤ 60 ∧ l.length ≤ l'.length ∧ ∀ e, 3 * (e + l.length + (if t = true then (if a = true then 1 else 0) + (if o = true then 1 else 0) else 0)) ≤ 6 * c + p → 3 * (e + l'.length + 1) ≤ 6 * c' + p' := by
  intro f
  induction f with
  | zero => intro t a o d p c l p' c' l' _ _ h; cases h
  | succ f ih =>
    intro t a o d p c l p' c' l' hp hc h
    cases t with
    | false =>
      rw [par] at h
      split at h
      · rename_i hk
        have hpn : p < n := K_lt (u := u) (by omega)
        have g := nx_gt (u := u) hpn
        split at h
        · cases h
        · split at h
          · rename_i h5
            cases h1 : par u n f true false false (d + 1) (nx u n p) c l with
            | none => rw [h1] at h; cases h
            | some q =>
              rw [h1] at h
              rcases q with ⟨p1, c1, l1⟩ | e
              · obtain ⟨a1, a2, a3, a4, a5, a6⟩ := ih _ _ _ _ _ _ _ _ _ _ (by omega) hc h1
                dsimp only at h
                split at h
                · rename_i h6
                  have hp1 : p1 < n := K_lt (u := u) (by omega)
                  have g1 := nx_gt (u := u) hp1
                  cases h
                  refine ⟨by omega, by omega, by omega, by omega, by omega, fun e he => ?_⟩
                  have := a6 e (by simp at he ⊢; omega)
                  omega
                · cases h
              · cases h
          · rename_i h5
            have h20 : KK u n p = 20 := by omega
            have g3 := nx_not h20
            cases h1 : par u n f false false false (d + 1) (nx u n p) c l with
            | none => rw [h1] at h; cases h
            | some q =>
              rw [h1] at h
              rcases q with ⟨p1, c1, l1⟩ | e
              · obtain ⟨a1, a2, a3, a4, a5, a6⟩ := ih _ _ _ _ _ _ _ _ _ _ (by omega) hc h1
                cases h
                refine ⟨by omega, by omega, by omega, by omega, by simp; omega, fun e he => ?_⟩
                have := a6 (e + 1) (by simp at he ⊢; omega)
                rw [List.length_append, List.length_cons, List.length_nil]
                omega
              · cases h
      · have := pC_b hp h
        refine ⟨this.1, this.2.1, this.2.2.1, this.2.2.2.1, this.2.2.2.2.1, fun e he => this.2.2.2.2.2 e (by simp at he; omega)⟩
    | true =>
      rw [par] at h
      cases h1 : par u n f false false false d p c l with
      | none => rw [h1] at h; cases h
      | some q =>
        rw [h1] at h
        rcases q with ⟨p1, c1, l1⟩ | e
        · obtain ⟨a1, a2, a3, a4, a5, a6⟩ := ih _ _ _ _ _ _ _ _ _ _ hp hc h1
          have la := jb_len (b := a) (k := 21) (l := l1)
          have lo := jb_len (b := o) (k := 22) (l := jb a 21 l1)
          dsimp only at h
          split at h
          · rename_i hk
            have hp1 : p1 < n := K_lt (u := u) (by omega)
            have g1 := nx_gt (u := u) hp1
            obtain ⟨b1, b2, b3, b4, b5, b6⟩ := ih _ _ _ _ _ _ _ _ _ _ (by omega) (by omega) h
            refine ⟨by omega, by omega, by omega, by omega, by omega, fun e he => ?_⟩
            have x := a6 (e + (if a = true then 1 else 0) + (if o = true then 1 else 0)) (by simp at he ⊢; omega)
            have y := b6 e (by simp; omega)
            omega
          · split at h
            · rename_i hk
              have hp1 : p1 < n := K_lt (u := u) (by omega)
              have g1 := nx_gt (u := u) hp1
              obtain ⟨b1, b2, b3, b4, b5, b6⟩ := ih _ _ _ _ _ _ _ _ _ _ (by omega) (by omega) h
              refine ⟨by omega, by omega, by omega, by omega, by omega, fun e he => ?_⟩
              have x := a6 (e + (if a = true then 1 else 0) + (if o = true then 1 else 0)) (by simp at he ⊢; omega)
              have y := b6 e (by simp; omega)
              omega
            · cases h
              refine ⟨by omega, by omega, by omega, by omega, by omega, fun e he => ?_⟩
              have x := a6 (e + (if a = true then 1 else 0) + (if o = true then 1 else 0)) (by simp at he ⊢; omega)
              omega
        · cases h
theorem par_n : ∀ f t a o d p c l, p ≤ n → c ≤ 60 → 2 * (n - p) + (if t = true then 2 else 1) ≤ f → par u n f t a o d p c l ≠ none := by
  intro f
  induction f with
  | zero => intro t a o d p c l _ _ h; split at h <;> omega
  | succ f ih =>
    intro t a o d p c l hp hc hf h
    cases t with
    | false =>
      rw [par] at h
      split at h
      · rename_i hk
        have hpn : p < n := K_lt (u := u) (by omega)
        have g := nx_gt (u := u) hpn
        split at h
        · cases h
        · split at h
          · cases h1 : par u n f true false false (d + 1) (nx u n p) c l with
            | none => exact ih _ _ _ _ _ _ _ (by omega) hc (by simp at hf ⊢; omega) h1
            | some q =>
              rw [h1] at h
              rcases q with ⟨p1, c1, l1⟩ | e
              · dsimp only at h
                split at h <;> cases h
              · cases h
          · cases h1 : par u n f false false false (d + 1) (nx u n p) c l with
            | none => exact ih _ _ _ _ _ _ _ (by omega) hc (by simp at hf ⊢; omega) h1
            | some q =>
              rw [h1] at h
              rcases q with ⟨p1, c1, l1⟩ | e
              · cases h
              · cases h
      · exact pC_n hp hc h
    | true =>
      rw [par] at h
      cases h1 : par u n f false false false d p c l with
      | none => exact ih _ _ _ _ _ _ _ hp hc (by simp at hf ⊢; omega) h1
      | some q =>
        rw [h1] at h
        rcases q with ⟨p1, c1, l1⟩ | e
        · obtain ⟨a1, a2, a3, a4, a5, a6⟩ := par_b _ _ _ _ _ _ _ _ _ _ _ hp hc h1
          dsimp only at h
          split at h
          · rename_i hk
            have hp1 : p1 < n := K_lt (u := u) (by omega)
            have g1 := nx_gt (u := u) hp1
            exact ih _ _ _ _ _ _ _ (by omega) (by omega) (by simp at hf ⊢; omega) h
          · split at h
            · rename_i hk
              have hp1 : p1 < n := K_lt (u := u) (by omega)
              have g1 := nx_gt (u := u) hp1
              exact ih _ _ _ _ _ _ _ (by omega) (by omega) (by simp at hf ⊢; omega) h
            · cases h
        · cases h
end SPC
