/-! STEPS CHECKED: what a test's steps do to a stack; 0 is a truth, m is a number of at most m times 10^7 -/
def ck (x : Int32) (T : List Nat) : Option (List Nat) :=
  if 0 ≤ x.toInt then (if x.toInt ≤ 99999 ∧ T.length < 40 then some (1 :: T) else none)
  else if 23 ≤ (-x).toNatClampNeg then (if (-x).toNatClampNeg < 36 ∧ T.length < 40 then some (1 :: T) else none)
  else match T with
    | [] => none
    | b :: T1 => if (-x).toNatClampNeg = 20 then (if b = 0 then some (0 :: T1) else none) else match T1 with
      | [] => none
      | a :: T2 => if (-x).toNatClampNeg = 7 ∨ (-x).toNatClampNeg = 8 then (if 1 ≤ a ∧ 1 ≤ b ∧ a + b ≤ 100 then some ((a + b) :: T2) else none)
        else if 9 ≤ (-x).toNatClampNeg ∧ (-x).toNatClampNeg ≤ 13 then (if 1 ≤ a ∧ 1 ≤ b ∧ a ≤ 100 ∧ b ≤ 100 then some (0 :: T2) else none)
        else if (-x).toNatClampNeg = 21 ∨ (-x).toNatClampNeg = 22 then (if a = 0 ∧ b = 0 then some (0 :: T2) else none) else none
def cks : List Int32 → List Nat → Option (List Nat)
  | [], T => some T
  | x :: l, T => (ck x T).bind (fun T' => cks l T')
theorem cks_app : ∀ (a b : List Int32) (T : List Nat), cks (a ++ b) T = (cks a T).bind (fun T' => cks b T') := by
  intro a
  induction a with
  | nil => intro b T; rfl
  | cons x a ih =>
    intro b T
    show (ck x T).bind (fun T' => cks (a ++ b) T') = ((ck x T).bind (fun T' => cks a T')).bind (fun T' => cks b T')
    cases ck x T with
    | none => rfl
    | some T' => exact ih b T'
theorem cks_2 {a b : List Int32} {T T1 T2 : List Nat} (h1 : cks a T = some T1) (h2 : cks b T1 = some T2) : cks (a ++ b) T = some T2 := by
  rw [cks_app, h1]; exact h2
theorem ngk : ∀ k, k < 36 → 1 ≤ k → (-(-(iN k))).toNatClampNeg = k ∧ ¬ 0 ≤ (-(iN k)).toInt := by decide +kernel
theorem cks_1 {x : Int32} {T T1 : List Nat} (h : ck x T = some T1) : cks [x] T = some T1 := by
  show (ck x T).bind (fun T' => cks [] T') = some T1
  rw [h]; rfl
theorem ck_v {x : Int32} {T : List Nat} (h1 : 0 ≤ x.toInt) (h2 : x.toInt ≤ 99999) (h3 : T.length < 40) : ck x T = some (1 :: T) := by
  unfold ck; rw [if_pos h1, if_pos ⟨h2, h3⟩]
theorem ck_w {k : Nat} {T : List Nat} (h1 : 23 ≤ k) (h2 : k < 36) (h3 : T.length < 40) : ck (-(iN k)) T = some (1 :: T) := by
  obtain ⟨a, b⟩ := ngk k h2 (by omega)
  unfold ck; rw [if_neg b, a, if_pos h1, if_pos ⟨h2, h3⟩]
theorem ck_n {T : List Nat} : ck (-(iN 20)) (0 :: T) = some (0 :: T) := by
  obtain ⟨a, b⟩ := ngk 20 (by decide) (by decide)
  unfold ck
  rw [if_neg b, a, if_neg (by decide)]
  rfl
theorem ck_j {k a b : Nat} {T : List Nat} (h : k = 7 ∨ k = 8) (h1 : 1 ≤ a) (h2 : 1 ≤ b) (h3 : a + b ≤ 100) : ck (-(iN k)) (b :: a :: T) = some ((a + b) :: T) := by
  obtain ⟨p, q⟩ := ngk k (by omega) (by omega)
  unfold ck
  rw [if_neg q, p, if_neg (by omega)]
  dsimp only
  rw [if_neg (by omega), if_pos h, if_pos ⟨h1, h2, h3⟩]
theorem ck_c {k a b : Nat} {T : List Nat} (h : 9 ≤ k ∧ k ≤ 13) (h1 : 1 ≤ a) (h2 : 1 ≤ b) (h3 : a ≤ 100) (h4 : b ≤ 100) : ck (-(iN k)) (b :: a :: T) = some (0 :: T) := by
  obtain ⟨p, q⟩ := ngk k (by omega) (by omega)
  unfold ck
  rw [if_neg q, p, if_neg (by omega)]
  dsimp only
  rw [if_neg (by omega), if_neg (by omega), if_pos h, if_pos ⟨h1, h2, h3, h4⟩]
theorem ck_b {k : Nat} {T : List Nat} (h : k = 21 ∨ k = 22) : ck (-(iN k)) (0 :: 0 :: T) = some (0 :: T) := by
  obtain ⟨p, q⟩ := ngk k (by omega) (by omega)
  unfold ck
  rw [if_neg q, p, if_neg (by omega)]
  dsimp only
  rw [if_neg (by omega), if_neg (by omega), if_neg (by omega), if_pos h, if_pos ⟨rfl, rfl⟩]
section CKS
variable {u : Nat → Int32} {n : Nat}
theorem pV_ck {p c p1 c1 : Nat} {l l1 : List Int32} (h : pV u n p c l = .inl (p1, c1, l1)) : c1 = c + 1 ∧ ∃ x, l1 = l ++ [x] ∧ ∀ T : List Nat, T.length < 40 → ck x T = some (1 :: T) := by
  refine ⟨(pV_ok h).2.2.1, ?_⟩
  unfold pV at h
  by_cases k2 : KK u n p = 2
  · rw [if_pos k2] at h
    by_cases hv : VV u n p = -1
    · rw [if_pos hv] at h; cases h
    · rw [if_neg hv] at h
      have h5 : ¬ 5 < rn dg u n p - p := fun z => hv ((VV_x k2).mpr z)
      obtain ⟨v1, v2, v3⟩ := VV_b k2 h5
      split at h
      · cases h
      · cases h
        exact ⟨_, rfl, fun T hT => ck_v v2 v3 hT⟩
  · rw [if_neg k2] at h
    by_cases k3 : 23 ≤ KK u n p
    · rw [if_pos k3] at h
      split at h
      · cases h
      · cases h
        exact ⟨_, rfl, fun T hT => ck_w k3 (K_b (u := u) (n := n) (p := p)).1 hT⟩
    · rw [if_neg k3] at h; cases h
theorem pS_ck : ∀ f p c l j p' c' l', p ≤ n → pS u n f p c l j = some (.inl (p', c', l')) → (j = 0 ∨ j = 7 ∨ j = 8) → ∃ new, l' = l ++ new ∧ ∀ (T : List Nat) (a : Nat), (j = 0 → a = 0) → (j ≠ 0 → 1 ≤ a) → a + (c' - c) ≤ 100 → T.length + 2 ≤ 40 → ∃ m, 1 ≤ m ∧ m + c ≤ c' + a ∧ cks new (if j = 0 then T else a :: T) = some (m :: T) := by
  intro f
  induction f with
  | zero => intro p c l j p' c' l' _ h; cases h
  | succ f ih =>
    intro p c l j p' c' l' hp h hj
    have hb := pS_b (u := u) (n := n) (f + 1) p c l j p' c' l' hp h
    rw [pS] at h
    cases hpv : pV u n p c l with
    | inr e => rw [hpv] at h; cases h
    | inl w =>
      obtain ⟨p1, c1, l1⟩ := w
      rw [hpv] at h
      dsimp only at h
      obtain ⟨e1, x, e2, e3⟩ := pV_ck hpv
      have hpo := pV_ok hpv
      have hp1 : p1 ≤ n := by rw [hpo.2.1]; exact (nx_le (u := u) hp).2
      -- the value and its join
      have first : ∃ nw, jn j l1 = l ++ nw ∧ ∀ (T : List Nat) (a : Nat), (j = 0 → a = 0) → (j ≠ 0 → 1 ≤ a) → a + 1 ≤ 100 → T.length + 2 ≤ 40 → cks nw (if j = 0 then T else a :: T) = some ((a + 1) :: T) := by
        unfold jn
        by_cases j0 : j = 0
        · rw [if_pos j0]
          refine ⟨[x], e2, fun T a h0 _ _ hT => ?_⟩
          rw [if_pos j0, h0 j0]
          exact cks_1 (e3 T (by omega))
        · rw [if_neg j0]
          refine ⟨[x] ++ [-(iN j)], by rw [e2, List.append_assoc], fun T a _ h1 h2 hT => ?_⟩
          rw [if_neg j0]
          exact cks_2 (cks_1 (e3 (a :: T) (by rw [List.length_cons]; omega))) (cks_1 (ck_j (by omega) (h1 j0) (by omega) h2))
      obtain ⟨nw, n1, n2⟩ := first
      by_cases h78 : KK u n p1 = 7 ∨ KK u n p1 = 8
      · rw [if_pos h78] at h
        have hb2 := pS_b (u := u) (n := n) f (nx u n p1) c1 (jn j l1) (KK u n p1) p' c' l' (nx_le (u := u) hp1).2 h
        obtain ⟨nw2, m1, m2⟩ := ih (nx u n p1) c1 (jn j l1) (KK u n p1) p' c' l' (nx_le (u := u) hp1).2 h (Or.inr h78)
        refine ⟨nw ++ nw2, by rw [m1, n1, List.append_assoc], fun T a h0 h1 h2 hT => ?_⟩
        obtain ⟨m, y1, y2, y3⟩ := m2 T (a + 1) (fun z => by omega) (fun _ => by omega) (by omega) hT
        rw [if_neg (by omega)] at y3
        exact ⟨m, y1, by omega, cks_2 (n2 T a h0 h1 (by omega) hT) y3⟩
      · rw [if_neg h78] at h
        cases h
        exact ⟨nw, n1, fun T a h0 h1 h2 hT => ⟨a + 1, by omega, by omega, n2 T a h0 h1 (by omega) hT⟩⟩
theorem pC_ck {p c p' c' : Nat} {l l' : List Int32} (hp : p ≤ n) (h : pC u n p c l = some (.inl (p', c', l'))) : ∃ new, l' = l ++ new ∧ ∀ T : List Nat, T.length + 3 ≤ 40 → cks new T = some (0 :: T) := by
  unfold pC at h
  cases hs : pS u n 70 p c l 0 with
  | none => rw [hs] at h; cases h
  | some w =>
    rw [hs] at h
    rcases w with ⟨p1, c1, l1⟩ | e
    · dsimp only at h
      have hb := pS_b (u := u) (n := n) 70 p c l 0 p1 c1 l1 hp hs
      obtain ⟨n1, a1, a2⟩ := pS_ck 70 p c l 0 p1 c1 l1 hp hs (Or.inl rfl)
      by_cases hk : 9 ≤ KK u n p1 ∧ KK u n p1 ≤ 13
      · rw [if_pos hk] at h
        by_cases h60 : 60 ≤ c1
        · rw [if_pos h60] at h; cases h
        · rw [if_neg h60] at h
          cases hs2 : pS u n 70 (nx u n p1) (c1 + 1) l1 0 with
          | none => rw [hs2] at h; cases h
          | some w2 =>
            rw [hs2] at h
            rcases w2 with ⟨p2, c2, l2⟩ | e
            · have hp1 := (nx_le (u := u) (n := n) (p := p1) (by omega)).2
              have hb2 := pS_b (u := u) (n := n) 70 (nx u n p1) (c1 + 1) l1 0 p2 c2 l2 hp1 hs2
              obtain ⟨n2, b1, b2⟩ := pS_ck 70 (nx u n p1) (c1 + 1) l1 0 p2 c2 l2 hp1 hs2 (Or.inl rfl)
              cases h
              refine ⟨n1 ++ (n2 ++ [-(iN (KK u n p1))]), by rw [b1, a1, List.append_assoc, List.append_assoc], fun T hT => ?_⟩
              obtain ⟨m, x1, x2, x3⟩ := a2 T 0 (fun _ => rfl) (fun z => absurd rfl z) (by omega) (by omega)
              obtain ⟨m', y1, y2, y3⟩ := b2 (m :: T) 0 (fun _ => rfl) (fun z => absurd rfl z) (by omega) (by rw [List.length_cons]; omega)
              rw [if_pos rfl] at x3 y3
              exact cks_2 x3 (cks_2 y3 (cks_1 (ck_c hk x1 y1 (by omega) (by omega))))
            · cases h
      · rw [if_neg hk] at h; cases h
    · cases h
def wT (a o : Bool) (T : List Nat) : List Nat := (if a = true then [0] else []) ++ ((if o = true then [0] else []) ++ T)
theorem par_ck : ∀ f t a o d p c l p' c' l', p ≤ n → c ≤ 60 → d ≤ 10 → par u n f t a o d p c l = some (.inl (p', c', l')) → ∃ new, l' = l ++ new ∧ ∀ T : List Nat, (t = false → T.length + 3 + 2 * (10 - d) ≤ 40 → cks new T = some (0 :: T)) ∧ (t = true → T.length + 5 + 2 * (10 - d) ≤ 40 → cks new (wT a o T) = some (0 :: T)) := by
  intro f
  induction f with
  | zero => intro t a o d p c l p' c' l' _ _ _ h; cases h
  | succ f ih =>
    intro t a o d p c l p' c' l' hp hc hd h
    have hnl := nx_le (u := u) hp
    cases t with
    | false =>
      rw [par] at h
      by_cases kk : KK u n p = 5 ∨ KK u n p = 20
      · rw [if_pos kk] at h
        by_cases h10 : 10 ≤ d
        · rw [if_pos h10] at h; cases h
        · rw [if_neg h10] at h
          by_cases k5 : KK u n p = 5
          · rw [if_pos k5] at h
            cases hpar : par u n f true false false (d + 1) (nx u n p) c l with
            | none => rw [hpar] at h; cases h
            | some w =>
              rw [hpar] at h
              rcases w with ⟨p1, c1, l1⟩ | e
              · dsimp only at h
                by_cases k6 : KK u n p1 = 6
                · rw [if_pos k6] at h
                  cases h
                  obtain ⟨nw, a1, a2⟩ := ih true false false (d + 1) (nx u n p) c l p1 c' l' hnl.2 hc (by omega) hpar
                  exact ⟨nw, a1, fun T => ⟨fun _ hT => (a2 T).2 rfl (by omega), fun z => by cases z⟩⟩
                · rw [if_neg k6] at h; cases h
              · cases h
          · rw [if_neg k5] at h
            cases hpar : par u n f false false false (d + 1) (nx u n p) c l with
            | none => rw [hpar] at h; cases h
            | some w =>
              rw [hpar] at h
              rcases w with ⟨p1, c1, l1⟩ | e
              · cases h
                obtain ⟨nw, a1, a2⟩ := ih false false false (d + 1) (nx u n p) c l p' c' l1 hnl.2 hc (by omega) hpar
                exact ⟨nw ++ [-(iN 20)], by rw [a1, List.append_assoc], fun T => ⟨fun _ hT => cks_2 ((a2 T).1 rfl (by omega)) (cks_1 ck_n), fun z => by cases z⟩⟩
              · cases h
      · rw [if_neg kk] at h
        obtain ⟨nw, a1, a2⟩ := pC_ck hp h
        exact ⟨nw, a1, fun T => ⟨fun _ hT => a2 T (by omega), fun z => by cases z⟩⟩
    | true =>
      rw [par] at h
      cases hpar : par u n f false false false d p c l with
      | none => rw [hpar] at h; cases h
      | some w =>
        rw [hpar] at h
        rcases w with ⟨p1, c1, l1⟩ | e
        · obtain ⟨y1, y2, y3, y4, y5, y6⟩ := par_b f false false false d p c l p1 c1 l1 hp hc hpar
          have hnl1 := nx_le (u := u) y2
          dsimp only at h
          obtain ⟨nw, a1, a2⟩ := ih false false false d p c l p1 c1 l1 hp hc hd hpar
          have wl : ∀ T : List Nat, (wT a o T).length ≤ T.length + 2 := by
            intro T
            unfold wT
            rw [List.length_append, List.length_append]
            cases a <;> cases o <;> simp <;> omega
          have fact : ∀ T : List Nat, T.length + 5 + 2 * (10 - d) ≤ 40 → cks nw (wT a o T) = some (0 :: wT a o T) := fun T hT => (a2 (wT a o T)).1 rfl (by have := wl T; omega)
          -- the and that waits
          have andJ : ∃ n2, jb a 21 l1 = l ++ n2 ∧ ∀ T : List Nat, T.length + 5 + 2 * (10 - d) ≤ 40 → cks n2 (wT a o T) = some (0 :: wT false o T) := by
            cases a with
            | false => exact ⟨nw, a1, fact⟩
            | true => exact ⟨nw ++ [-(iN 21)], by unfold jb; rw [if_pos rfl, a1, List.append_assoc], fun T hT => cks_2 (fact T hT) (cks_1 (ck_b (Or.inl rfl)))⟩
          obtain ⟨n2, b1, b2⟩ := andJ
          have orJ : ∃ n3, jb o 22 (jb a 21 l1) = l ++ n3 ∧ ∀ T : List Nat, T.length + 5 + 2 * (10 - d) ≤ 40 → cks n3 (wT a o T) = some (0 :: T) := by
            cases o with
            | false => exact ⟨n2, b1, b2⟩
            | true => exact ⟨n2 ++ [-(iN 22)], by unfold jb at b1 ⊢; rw [if_pos rfl, b1, List.append_assoc], fun T hT => cks_2 (b2 T hT) (cks_1 (ck_b (Or.inr rfl)))⟩
          obtain ⟨n3, c1', c2⟩ := orJ
          by_cases k21 : KK u n p1 = 21
          · rw [if_pos k21] at h
            obtain ⟨n4, d1, d2⟩ := ih true true o d (nx u n p1) c1 (jb a 21 l1) p' c' l' hnl1.2 y4 hd h
            exact ⟨n2 ++ n4, by rw [d1, b1, List.append_assoc], fun T => ⟨fun z => (by cases z), fun _ hT => cks_2 (b2 T hT) ((d2 T).2 rfl hT)⟩⟩
          · rw [if_neg k21] at h
            by_cases k22 : KK u n p1 = 22
            · rw [if_pos k22] at h
              obtain ⟨n4, d1, d2⟩ := ih true false true d (nx u n p1) c1 (jb o 22 (jb a 21 l1)) p' c' l' hnl1.2 y4 hd h
              exact ⟨n3 ++ n4, by rw [d1, c1', List.append_assoc], fun T => ⟨fun z => (by cases z), fun _ hT => cks_2 (c2 T hT) ((d2 T).2 rfl hT)⟩⟩
            · rw [if_neg k22] at h
              cases h
              exact ⟨n3, c1', fun T => ⟨fun z => (by cases z), fun _ hT => c2 T hT⟩⟩
        · cases h
/-- a test's steps leave one truth -/
theorem test_ck {f p c p' c' : Nat} {l' : List Int32} (hp : p ≤ n) (hc : c ≤ 60) (h : par u n f true false false 0 p c [] = some (.inl (p', c', l'))) : cks l' [] = some [0] := by
  obtain ⟨nw, a1, a2⟩ := par_ck f true false false 0 p c [] p' c' l' hp hc (by omega) h
  rw [a1]
  exact (a2 []).2 rfl (by decide)
end CKS
