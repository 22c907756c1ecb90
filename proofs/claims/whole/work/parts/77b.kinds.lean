/-! KINDS AGAINST SIGNS -/
section KS
variable {u : Nat → Int32} {n p : Nat}
theorem K_cases (hp : p < n) : (dg (u p) = true ∧ KK u n p = 2 ∧ tE u n p = rn dg u n p) ∨ (dg (u p) = false ∧ sm (u p) = true ∧ KK u n p = wk u p (rn sm u n p) ∧ tE u n p = rn sm u n p) ∨ (dg (u p) = false ∧ sm (u p) = false ∧ two u n p = true ∧ KK u n p = (if u p = 60 then 10 else 12) ∧ tE u n p = p + 2) ∨ (dg (u p) = false ∧ sm (u p) = false ∧ two u n p = false ∧ KK u n p = kos (u p) ∧ tE u n p = p + 1) := by
  unfold KK tK tE
  rw [if_pos hp]
  cases h1 : dg (u p)
  · cases h2 : sm (u p)
    · cases h3 : two u n p
      · exact Or.inr (Or.inr (Or.inr ⟨rfl, rfl, rfl, rfl, rfl⟩))
      · exact Or.inr (Or.inr (Or.inl ⟨rfl, rfl, rfl, rfl, rfl⟩))
    · exact Or.inr (Or.inl ⟨rfl, rfl, rfl, rfl⟩)
  · exact Or.inl ⟨rfl, rfl, rfl⟩
theorem K_end (hp : ¬ p < n) : KK u n p = 0 ∧ sg u n p = -1 := ⟨if_neg hp, if_neg hp⟩
theorem two_iff : two u n p = true ↔ (p + 1 < n ∧ u (p + 1) = 61 ∧ (u p = 60 ∨ u p = 62)) := by
  unfold two
  rw [Bool.and_eq_true, Bool.and_eq_true, Bool.or_eq_true, decide_eq_true_eq, decide_eq_true_eq, decide_eq_true_eq, decide_eq_true_eq]
theorem K_one {c : Int32} {k : Nat} (c1 : dg c = false) (c2 : sm c = false) (c3 : c ≠ 60) (c4 : c ≠ 62) (c5 : c ≠ -1) (k1 : 3 ≤ k) (k2 : k < 14) (k3 : k ≠ 10) (k4 : k ≠ 12) (hk : ∀ x, kos x = k ↔ x = c) : (sg u n p = c ↔ KK u n p = k) ∧ (KK u n p = k → p < n ∧ tE u n p = p + 1) := by
  by_cases hp : p < n
  · have w := wk_b (u := u) (i := p) (e := rn sm u n p)
    rw [show sg u n p = u p from if_pos hp]
    rcases K_cases (u := u) hp with ⟨a, b, d⟩ | ⟨a, b, d, e⟩ | ⟨a, b, d, e, f⟩ | ⟨a, b, d, e, f⟩
    · exact ⟨⟨fun q => (by rw [q, c1] at a; cases a), fun q => by omega⟩, fun q => by omega⟩
    · exact ⟨⟨fun q => (by rw [q, c2] at b; cases b), fun q => by omega⟩, fun q => by omega⟩
    · have t := two_iff.mp d
      have hne : KK u n p ≠ k := by rw [e]; split <;> omega
      refine ⟨⟨fun q => ?_, fun q => absurd q hne⟩, fun q => absurd q hne⟩
      rcases t.2.2 with z | z
      · exact absurd (q.symm.trans z) c3
      · exact absurd (q.symm.trans z) c4
    · exact ⟨by rw [e]; exact (hk _).symm, fun _ => ⟨hp, f⟩⟩
  · obtain ⟨a, b⟩ := K_end (u := u) hp
    rw [a, b]
    exact ⟨⟨fun q => absurd q.symm c5, fun q => by omega⟩, fun q => by omega⟩
theorem kos_i (x : Int32) : (kos x = 4 ↔ x = 59) ∧ (kos x = 5 ↔ x = 91) ∧ (kos x = 6 ↔ x = 93) ∧ (kos x = 7 ↔ x = 43) ∧ (kos x = 8 ↔ x = 45) ∧ (kos x = 9 ↔ x = 60) ∧ (kos x = 11 ↔ x = 61) ∧ (kos x = 13 ↔ x = 62) ∧ (kos x = 3 ↔ inB x 65 80 = true) ∧ kos x ≠ 10 ∧ kos x ≠ 12 := by
  unfold kos
  by_cases h1 : x = 59
  · subst h1; decide
  by_cases h2 : x = 91
  · subst h2; decide
  by_cases h3 : x = 93
  · subst h3; decide
  by_cases h4 : x = 43
  · subst h4; decide
  by_cases h5 : x = 45
  · subst h5; decide
  by_cases h6 : x = 60
  · subst h6; decide
  by_cases h7 : x = 61
  · subst h7; decide
  by_cases h8 : x = 62
  · subst h8; decide
  rw [if_neg h1, if_neg h2, if_neg h3, if_neg h4, if_neg h5, if_neg h6, if_neg h7, if_neg h8]
  by_cases h9 : inB x 65 80 = true
  · rw [if_pos h9]; simp [h1, h2, h3, h4, h5, h6, h7, h8, h9]
  · rw [if_neg h9]; simp [h1, h2, h3, h4, h5, h6, h7, h8, h9]
theorem K4 : (sg u n p = 59 ↔ KK u n p = 4) ∧ (KK u n p = 4 → p < n ∧ tE u n p = p + 1) := K_one (by decide) (by decide) (by decide) (by decide) (by decide) (by decide) (by decide) (by decide) (by decide) (fun x => (kos_i x).1)
theorem K5 : (sg u n p = 91 ↔ KK u n p = 5) ∧ (KK u n p = 5 → p < n ∧ tE u n p = p + 1) := K_one (by decide) (by decide) (by decide) (by decide) (by decide) (by decide) (by decide) (by decide) (by decide) (fun x => (kos_i x).2.1)
theorem K6 : (sg u n p = 93 ↔ KK u n p = 6) ∧ (KK u n p = 6 → p < n ∧ tE u n p = p + 1) := K_one (by decide) (by decide) (by decide) (by decide) (by decide) (by decide) (by decide) (by decide) (by decide) (fun x => (kos_i x).2.2.1)
theorem K7 : (sg u n p = 43 ↔ KK u n p = 7) ∧ (KK u n p = 7 → p < n ∧ tE u n p = p + 1) := K_one (by decide) (by decide) (by decide) (by decide) (by decide) (by decide) (by decide) (by decide) (by decide) (fun x => (kos_i x).2.2.2.1)
theorem K8 : (sg u n p = 45 ↔ KK u n p = 8) ∧ (KK u n p = 8 → p < n ∧ tE u n p = p + 1) := K_one (by decide) (by decide) (by decide) (by decide) (by decide) (by decide) (by decide) (by decide) (by decide) (fun x => (kos_i x).2.2.2.2.1)
theorem K11 : (sg u n p = 61 ↔ KK u n p = 11) ∧ (KK u n p = 11 → p < n ∧ tE u n p = p + 1) := K_one (by decide) (by decide) (by decide) (by decide) (by decide) (by decide) (by decide) (by decide) (by decide) (fun x => (kos_i x).2.2.2.2.2.2.1)
theorem K3 : (inB (sg u n p) 65 80 = true ↔ KK u n p = 3) ∧ (KK u n p = 3 → p < n ∧ tE u n p = p + 1 ∧ VV u n p = u p - 65) := by
  by_cases hp : p < n
  · have w := wk_b (u := u) (i := p) (e := rn sm u n p)
    rw [show sg u n p = u p from if_pos hp]
    rcases K_cases (u := u) hp with ⟨a, b, d⟩ | ⟨a, b, d, e⟩ | ⟨a, b, d, e, f⟩ | ⟨a, b, d, e, f⟩
    · refine ⟨⟨fun q => ?_, fun q => by omega⟩, fun q => by omega⟩
      unfold dg at a
      rw [inB_iff] at a q
      omega
    · refine ⟨⟨fun q => ?_, fun q => by omega⟩, fun q => by omega⟩
      unfold sm at b
      rw [inB_iff] at b q
      omega
    · have t := two_iff.mp d
      have hne : KK u n p ≠ 3 := by rw [e]; split <;> omega
      refine ⟨⟨fun q => ?_, fun q => absurd q hne⟩, fun q => absurd q hne⟩
      rcases t.2.2 with z | z
      · rw [z] at q; exact absurd q (by decide)
      · rw [z] at q; exact absurd q (by decide)
    · refine ⟨by rw [e]; exact (kos_i _).2.2.2.2.2.2.2.2.1.symm, fun _ => ⟨hp, f, ?_⟩⟩
      unfold VV tV
      rw [if_pos hp, a, b, d]
      rfl
  · obtain ⟨a, b⟩ := K_end (u := u) hp
    rw [a, b]
    exact ⟨⟨fun q => absurd q (by decide), fun q => by omega⟩, fun q => by omega⟩
theorem K2 : (dg (sg u n p) = true ↔ KK u n p = 2) ∧ (KK u n p = 2 → p < n ∧ tE u n p = rn dg u n p ∧ VV u n p = if 5 < rn dg u n p - p then -1 else dvF u p (rn dg u n p - p)) := by
  by_cases hp : p < n
  · have w := wk_b (u := u) (i := p) (e := rn sm u n p)
    have kb := kos_b (x := u p)
    rw [show sg u n p = u p from if_pos hp]
    rcases K_cases (u := u) hp with ⟨a, b, d⟩ | ⟨a, b, d, e⟩ | ⟨a, b, d, e, f⟩ | ⟨a, b, d, e, f⟩
    · refine ⟨⟨fun _ => b, fun _ => a⟩, fun _ => ⟨hp, d, ?_⟩⟩
      unfold VV tV
      rw [if_pos hp, if_pos a]
    · exact ⟨⟨fun q => (by rw [a] at q; cases q), fun q => by omega⟩, fun q => by omega⟩
    · have hne : KK u n p ≠ 2 := by rw [e]; split <;> omega
      exact ⟨⟨fun q => (by rw [a] at q; cases q), fun q => absurd q hne⟩, fun q => absurd q hne⟩
    · exact ⟨⟨fun q => (by rw [a] at q; cases q), fun q => by omega⟩, fun q => by omega⟩
  · obtain ⟨a, b⟩ := K_end (u := u) hp
    rw [a, b]
    exact ⟨⟨fun q => absurd q (by decide), fun q => by omega⟩, fun q => by omega⟩
/-- < and <=, > and >= -/
theorem K_cmp {c : Int32} {k k' : Nat} (hc : (c = 60 ∧ k = 9 ∧ k' = 10) ∨ (c = 62 ∧ k = 13 ∧ k' = 12)) : (sg u n p = c ↔ (KK u n p = k ∨ KK u n p = k')) ∧ (sg u n p = c → p < n ∧ (if sg u n (p + 1) = 61 then KK u n p = k' ∧ tE u n p = p + 2 ∧ p + 2 ≤ n else KK u n p = k ∧ tE u n p = p + 1)) := by
  have c1 : dg c = false ∧ sm c = false ∧ c ≠ -1 := by rcases hc with ⟨a, _⟩ | ⟨a, _⟩ <;> rw [a] <;> decide
  have kb : (k = 9 ∨ k = 13) ∧ (k' = 10 ∨ k' = 12) := by omega
  by_cases hp : p < n
  · have w := wk_b (u := u) (i := p) (e := rn sm u n p)
    have hki := kos_i (u p)
    rw [show sg u n p = u p from if_pos hp]
    rcases K_cases (u := u) hp with ⟨a, b, d⟩ | ⟨a, b, d, e⟩ | ⟨a, b, d, e, f⟩ | ⟨a, b, d, e, f⟩
    · exact ⟨⟨fun q => (by rw [q, c1.1] at a; cases a), fun q => by omega⟩, fun q => (by rw [q, c1.1] at a; cases a)⟩
    · exact ⟨⟨fun q => (by rw [q, c1.2.1] at b; cases b), fun q => by omega⟩, fun q => (by rw [q, c1.2.1] at b; cases b)⟩
    · have t := two_iff.mp d
      have s1 : sg u n (p + 1) = 61 := by unfold sg; rw [if_pos t.1]; exact t.2.1
      rw [if_pos s1]
      have t1 := t.1
      refine ⟨?_, fun q => ⟨hp, ?_, f, by omega⟩⟩
      · rw [e]
        rcases hc with ⟨x, y, z⟩ | ⟨x, y, z⟩
        · subst x y z
          constructor
          · intro q; rw [if_pos q]; exact Or.inr rfl
          · intro q
            by_cases h : u p = 60
            · exact h
            · rw [if_neg h] at q; omega
        · subst x y z
          constructor
          · intro q; rw [q]; exact Or.inr rfl
          · intro q
            rcases t.2.2 with h | h
            · rw [h] at q; rcases q with q | q <;> cases q
            · exact h
      · rw [e]
        rcases hc with ⟨x, y, z⟩ | ⟨x, y, z⟩
        · subst x y z; rw [if_pos q]
        · subst x y z; rw [q]; rfl
    · have hk10 := hki.2.2.2.2.2.2.2.2.2
      have h9 := hki.2.2.2.2.2.1
      have h13 := hki.2.2.2.2.2.2.2.1
      have iff1 : u p = c ↔ kos (u p) = k := by
        rcases hc with ⟨x, y, z⟩ | ⟨x, y, z⟩
        · subst x y z; exact h9.symm
        · subst x y z; exact h13.symm
      refine ⟨?_, fun q => ⟨hp, ?_⟩⟩
      · rw [e, iff1]
        constructor
        · exact Or.inl
        · intro q; rcases q with q | q
          · exact q
          · omega
      · have s1 : ¬ sg u n (p + 1) = 61 := by
          intro z
          unfold sg at z
          by_cases h : p + 1 < n
          · rw [if_pos h] at z
            have : two u n p = true := two_iff.mpr ⟨h, z, by rcases hc with ⟨x, _⟩ | ⟨x, _⟩ <;> subst x <;> simp [q]⟩
            rw [this] at d; cases d
          · rw [if_neg h] at z; cases z
        rw [if_neg s1]
        exact ⟨by rw [e]; exact iff1.mp q, f⟩
  · obtain ⟨a, b⟩ := K_end (u := u) hp
    rw [a, b]
    exact ⟨⟨fun q => absurd q.symm c1.2.2, fun q => by omega⟩, fun q => absurd q.symm c1.2.2⟩
theorem slen_p : ∀ j, j < 22 → 2 ≤ slen.getD j 0 := by decide
theorem K_w {j : Nat} (hj : j < 22) : (stW u n p j = true ↔ KK u n p = 14 + j) ∧ (KK u n p = 14 + j → p < n ∧ tE u n p = p + slen.getD j 0 ∧ p + slen.getD j 0 ≤ n) := by
  have sp := slen_p j hj
  have no : rn sm u n p = p → stW u n p j = false := by
    intro h
    unfold stW spl
    rw [h, decide_eq_false (by omega), Bool.false_and]
  by_cases hp : p < n
  · have rs : sm (u p) = false → rn sm u n p = p := by
      intro h
      unfold rn
      rw [show n - p = (n - p - 1) + 1 by omega, rnE, h]
      rfl
    have kb := kos_b (x := u p)
    rcases K_cases (u := u) hp with ⟨a, b, d⟩ | ⟨a, b, d, e⟩ | ⟨a, b, d, e, f⟩ | ⟨a, b, d, e, f⟩
    · have s0 : sm (u p) = false := by
        cases h : sm (u p)
        · rfl
        · exfalso
          unfold sm at h
          unfold dg at a
          rw [inB_iff] at a h
          omega
      rw [no (rs s0)]
      exact ⟨⟨fun q => (by cases q), fun q => by omega⟩, fun q => by omega⟩
    · have hw := wk_iff (u := u) (i := p) (e := rn sm u n p) hj
      have rb := rn_b (P := sm) (u := u) (n := n) (i := p) (by omega)
      refine ⟨by rw [d]; exact hw.symm, fun q => ?_⟩
      rw [d] at q
      have s := hw.mp q
      unfold spl at s
      rw [Bool.and_eq_true, decide_eq_true_eq] at s
      exact ⟨hp, by omega, by omega⟩
    · rw [no (rs b)]
      have hne : KK u n p ≠ 14 + j := by rw [e]; split <;> omega
      exact ⟨⟨fun q => (by cases q), fun q => absurd q hne⟩, fun q => absurd q hne⟩
    · rw [no (rs b)]
      exact ⟨⟨fun q => (by cases q), fun q => by omega⟩, fun q => by omega⟩
  · obtain ⟨a, b⟩ := K_end (u := u) hp
    have rs : rn sm u n p = p := by unfold rn; rw [show n - p = 0 by omega]; rfl
    rw [no rs, a]
    exact ⟨⟨fun q => (by cases q), fun q => by omega⟩, fun q => by omega⟩
end KS
