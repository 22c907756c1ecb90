/-! THE MODEL'S READER: a sum, a comparison -/
section MSU
variable {S : aI} {G : aL} {Z : aZ} {u : Nat → Int32} {n s r c d e p : Nat} {o : List Nat} {L L0 l : List Int32}
/-- a sum begun (j = 0), or gone on with a sign -/
noncomputable def smS (j : Nat) (M : aM) : Option (Option Value × aM) := if j = 0 then (call 177 [.ref 72] M).bind (fun z => run 5 178 4 [.ref 72, xU] (z.1.toList ++ []) z.2) else (call 177 [.ref 72] M).bind (fun z => run 5 178 62 [.ref 72, .int (iN (j - 5))] (z.1.toList ++ []) z.2)
theorem smS_0 (hZ : Shp Z) : call 178 [.ref 72] (S, G, Z) = smS 0 (S, G, Z) := Eq.trans e178 (b178_0 hZ.k72)
theorem sm8_f (hZ : Shp Z) (h : MF S u n s e r) {v : Value} : run 5 178 8 [.ref 72, v] [] (S, G, Z) = some (none, (S, G, Z)) := by
  refine Eq.trans (b178_8 hZ.k72) ?_
  rw [mI_t]
  exact Eq.trans (if_pos h.ne) b178_75
theorem smS_f (hZ : Shp Z) {j : Nat} {S1 : aI} {r1 : Nat} (hv : call 177 [.ref 72] (S, G, Z) = some (none, (S1, G, Z))) (h : MF S1 u n s e r1) (hr : r1 ≤ n) : smS j (S, G, Z) = some (none, (up2 S1 72 28 (iN (sk u n r1)), G, Z)) := by
  have hn := h.t.1
  unfold smS
  by_cases hj : j = 0
  · rw [if_pos hj, hv]
    refine Eq.trans (b178_4 hZ.k72) ?_
    rw [m_blanks hZ h.t (by omega) h.p]
    exact sm8_f hZ h.at
  · rw [if_neg hj, hv]
    refine Eq.trans (b178_62 hZ.k72) ?_
    rw [m_entry_f hZ h]
    refine Eq.trans (b178_68 hZ.k72) ?_
    rw [m_blanks hZ h.t (by omega) h.p]
    exact Eq.trans b178_72 (sm8_f hZ h.at)
theorem m_sum_f (hZ : Shp Z) (h : MF S u n s e r) (hrn : r ≤ n) : ∃ (S' : aI) (r' : Nat), call 178 [.ref 72] (S, G, Z) = some (none, (S', G, Z)) ∧ Ft s S S' ∧ MF S' u n s e r' ∧ r' ≤ n := by
  obtain ⟨S1, r1, a1, a2, a3, a4⟩ := m_value_f (G := G) hZ h hrn
  exact ⟨_, _, Eq.trans (smS_0 hZ) (smS_f hZ a1 a3 a4), Ft_t a2 (Ft_w (by decide) (by decide)), a3.at, (sk_b a4).2.1⟩
theorem m_sum_j (hZ : Shp Z) : ∀ (f p c j r : Nat) (l : List Int32) (S : aI) (q : aQ), MS S u n s r c d o (L0 ++ l) → sk u n r = p → c ≤ 60 → 3 * (L0.length + l.length) ≤ 6 * c + p → (j = 0 ∨ j = 7 ∨ j = 8) → pS u n f p c l j = some q → OkM S G Z u n s d o L0 true (smS j (S, G, Z)) q := by
  intro f
  induction f with
  | zero => intro p c j r l S q _ _ _ _ _ h; cases h
  | succ f ih =>
    intro p c j r l S q h hp hc hB hj hq
    have hn := h.t.1
    have hpn : p ≤ n := by rw [← hp]; exact (sk_b h.r1).2.1
    have hlen : (L0 ++ l).length < 300 := by rw [List.length_append]; omega
    have hv := m_value (G := G) hZ h hp hc hlen
    rw [pS] at hq
    cases hpv : pV u n p c l with
    | inr e =>
      rw [hpv] at hv hq
      cases hq
      obtain ⟨S1, r1, a1, a2, a3, a4⟩ := hv
      exact ⟨_, _, smS_f hZ a1 a3 a4, Ft_t a2 (Ft_w (by decide) (by decide)), a3.at, (sk_b a4).2.1⟩
    | inl w =>
      obtain ⟨p1, c1, l1⟩ := w
      obtain ⟨v1, v2, v3, v4, v5⟩ := pV_ok hpv
      rw [hpv] at hv hq
      dsimp only at hq
      obtain ⟨S1, r1, a1, a2, a3, a4, _⟩ := hv
      have hr1 := a3.r1
      have hp1 : p1 ≤ n := by rw [← a4]; exact (sk_b hr1).2.1
      have hgt : p < p1 := by rw [v2]; exact (nx_gt v1).1
      have hsk1 : sk u n p1 = p1 := by rw [← a4]; exact sk_i hr1
      -- the state at the loop's head
      have head : ∃ (S2 : aI) (v : Value), smS j (S, G, Z) = run 5 178 8 [.ref 72, v] [] (S2, G, Z) ∧ Ft s S S2 ∧ MS S2 u n s p1 c1 d o (L0 ++ jn j l1) := by
        unfold smS jn
        by_cases j0 : j = 0
        · rw [if_pos j0, if_pos j0, a1]
          refine ⟨up2 S1 72 28 (iN p1), xU, ?_, Ft_t a2 (Ft_w (by decide) (by decide)), a3.at hp1⟩
          refine Eq.trans (b178_4 hZ.k72) ?_
          rw [m_blanks hZ a3.t (by omega) a3.p, a4]
          rfl
        · rw [if_neg j0, if_neg j0, a1]
          have ev := enc_k j (by omega) (by omega)
          rw [if_neg (by omega), if_neg (by omega)] at ev
          have hl1 : (L0 ++ l1).length < 300 := by rw [List.length_append]; omega
          obtain ⟨g1, g2⟩ := a3.en hl1 (v := -(iN j))
          refine ⟨up2 (enS S1 s (L0 ++ l1).length (-(iN j))) 72 28 (iN p1), .int (iN (j - 5)), ?_, Ft_t a2 (Ft_t g2 (Ft_w (by decide) (by decide))), by rw [← List.append_assoc]; exact g1.at hp1⟩
          refine Eq.trans (b178_62 hZ.k72) ?_
          rw [m_entry hZ a3 hl1 (v := -(iN j)) (by rw [ev]) (by rw [ev])]
          refine Eq.trans (b178_68 hZ.k72) ?_
          rw [m_blanks hZ g1.t (by omega) g1.p, a4]
          exact b178_72
      obtain ⟨S2, v, b1, b2, b3⟩ := head
      rw [b1]
      have lj := jn_len (j := j) (l := l1)
      have sg1 := m_sign (G := G) hZ b3.t (r := p1) (by omega) b3.p
      have k7 := K7 (u := u) (n := n) (p := p1)
      have k8 := K8 (u := u) (n := n) (p := p1)
      have st : run 5 178 8 [.ref 72, v] [] (S2, G, Z) = if KK u n p1 = 7 ∨ KK u n p1 = 8 then run 5 178 33 [.ref 72, v] [] (S2, G, Z) else some (none, (S2, G, Z)) := by
        refine Eq.trans (b178_8 hZ.k72) ?_
        rw [mI_t]
        refine Eq.trans (if_neg (fun z => z b3.f)) (Eq.trans (b178_15 hZ.k72) ?_)
        rw [sg1]
        refine Eq.trans b178_19 ?_
        by_cases h7 : KK u n p1 = 7
        · rw [if_pos (k7.1.mpr h7), if_pos (Or.inl h7)]
        · rw [if_neg (fun z => h7 (k7.1.mp z))]
          refine Eq.trans (b178_24 hZ.k72) ?_
          rw [sg1]
          refine Eq.trans b178_28 ?_
          by_cases h8 : KK u n p1 = 8
          · rw [if_neg (fun z => z (k8.1.mpr h8)), if_pos (Or.inr h8)]
          · rw [if_pos (fun z => h8 (k8.1.mp z)), if_neg (by omega)]
            exact b178_75
      rw [st]
      by_cases h78 : KK u n p1 = 7 ∨ KK u n p1 = 8
      · rw [if_pos h78] at hq ⊢
        have t1 : p1 < n ∧ tE u n p1 = p1 + 1 := by
          rcases h78 with z | z
          · exact k7.2 z
          · exact k8.2 z
        have go : run 5 178 33 [.ref 72, v] [] (S2, G, Z) = smS (KK u n p1) (up2 S2 72 28 (iN (p1 + 1)), G, Z) := by
          refine Eq.trans (b178_33 hZ.k72) ?_
          rw [sg1]
          refine Eq.trans b178_37 ?_
          unfold smS
          rcases h78 with z | z
          · rw [if_neg (fun y => y (k7.1.mpr z)), z, if_neg (by decide)]
            refine Eq.trans b178_42 (Eq.trans (b178_47 hZ.k72) ?_)
            rw [mI_t, b3.p, wI_t, iN_succ]
            rfl
          · rw [if_pos (fun y => by have := k7.1.mp y; omega), z, if_neg (by decide)]
            refine Eq.trans b178_46 (Eq.trans (b178_47 hZ.k72) ?_)
            rw [mI_t, b3.p, wI_t, iN_succ]
            rfl
        rw [go]
        have hnx : sk u n (p1 + 1) = nx u n p1 := by rw [nx_e t1.1, t1.2]
        have hnl := nx_gt (u := u) t1.1
        have := ih (nx u n p1) c1 (KK u n p1) (p1 + 1) (jn j l1) (up2 S2 72 28 (iN (p1 + 1))) q (b3.at (by omega)) hnx (by omega) (by omega) (Or.inr h78) hq
        rcases q with ⟨p2, c2, l2⟩ | e
        · obtain ⟨S3, r3, x1, x2, x3, x4, x5⟩ := this
          exact ⟨S3, r3, x1, Ft_t b2 (Ft_t (Ft_w (by decide) (by decide)) x2), x3, x4, x5⟩
        · obtain ⟨S3, r3, x1, x2, x3, x4⟩ := this
          exact ⟨S3, r3, x1, Ft_t b2 (Ft_t (Ft_w (by decide) (by decide)) x2), x3, x4⟩
      · rw [if_neg h78] at hq ⊢
        cases hq
        exact ⟨S2, p1, rfl, b2, b3, hsk1, fun _ => rfl⟩
theorem m_sum (hZ : Shp Z) {f : Nat} {q : aQ} (h : MS S u n s r c d o (L0 ++ l)) (hp : sk u n r = p) (hc : c ≤ 60) (hB : 3 * (L0.length + l.length) ≤ 6 * c + p) (hq : pS u n f p c l 0 = some q) : OkM S G Z u n s d o L0 true (call 178 [.ref 72] (S, G, Z)) q := by
  rw [smS_0 hZ]
  exact m_sum_j hZ f p c 0 r l S q h hp hc hB (Or.inl rfl) hq
/-- the sign of a comparison -/
abbrev cmp3 (x : Int32) : Prop := x = 60 ∨ x = 61 ∨ x = 62
theorem cmp_K : (cmp3 (sg u n p) ↔ 9 ≤ KK u n p ∧ KK u n p ≤ 13) := by
  have k11 := (K11 (u := u) (n := n) (p := p)).1
  have k9 := (K_cmp (u := u) (n := n) (p := p) (Or.inl ⟨rfl, rfl, rfl⟩)).1
  have k13 := (K_cmp (u := u) (n := n) (p := p) (Or.inr ⟨rfl, rfl, rfl⟩)).1

  show (sg u n p = 60 ∨ sg u n p = 61 ∨ sg u n p = 62) ↔ _
  rw [k9, k11, k13]
  omega
theorem m_cmp_45 (hZ : Shp Z) (hT : MT S u n) (h28 : S 72 28 = iN r) (hr : r < n) (hc : cmp3 (sg u n r)) : run 6 179 45 [.ref 72, .int (sg u n r), xU] [] (S, G, Z) = (call 178 [.ref 72] (up2 S 72 28 (iN (tE u n r)), G, Z)).bind (fun z => run 6 179 98 [.ref 72, .int (sg u n r), .int (bI (decide (KK u n r = 10 ∨ KK u n r = 12)))] (z.1.toList ++ []) z.2) := by
  have hn := hT.1
  refine Eq.trans (b179_45 hZ.k72) ?_
  rw [mI_t, h28, wI_t, iN_succ]
  have hT1 : MT (up2 S 72 28 (iN (r + 1))) u n := MT_u hT (by decide)
  have plain : KK u n r ≠ 10 → KK u n r ≠ 12 → tE u n r = r + 1 → run 6 179 74 [.ref 72, .int (sg u n r), xU] [] (up2 S 72 28 (iN (r + 1)), G, Z) = (call 178 [.ref 72] (up2 S 72 28 (iN (tE u n r)), G, Z)).bind (fun z => run 6 179 98 [.ref 72, .int (sg u n r), .int (bI (decide (KK u n r = 10 ∨ KK u n r = 12)))] (z.1.toList ++ []) z.2) := by
    intro h1 h2 h3
    rw [decide_eq_false (by omega), h3]
    refine Eq.trans b179_74 (Eq.trans (b179_75 hZ.k72) (Eq.trans (if_pos rfl) (Eq.trans b179_89 (Eq.trans (b179_90 hZ.k72 hZ.k72) ?_))))
    rw [mI_t, up2_s, wI_t, up2_2, Int32.add_zero]
    rfl
  by_cases h61 : sg u n r = 61
  · have k := K11.1.mp h61
    rw [if_pos h61]
    exact plain (by omega) (by omega) (K11.2 k).2
  · rw [if_neg h61]
    refine Eq.trans (b179_61 hZ.k72) ?_
    rw [m_sign hZ hT1 (by omega) up2_s]
    refine Eq.trans b179_65 ?_
    have tw : ∀ k k', (if sg u n (r + 1) = 61 then KK u n r = k' ∧ tE u n r = r + 2 ∧ r + 2 ≤ n else KK u n r = k ∧ tE u n r = r + 1) → (k' = 10 ∨ k' = 12) → (k = 9 ∨ k = 13) → (if ¬ sg u n (r + 1) = 61 then run 6 179 74 [.ref 72, .int (sg u n r), xU] [] (up2 S 72 28 (iN (r + 1)), G, Z) else run 6 179 70 [.ref 72, .int (sg u n r), xU] [] (up2 S 72 28 (iN (r + 1)), G, Z)) = (call 178 [.ref 72] (up2 S 72 28 (iN (tE u n r)), G, Z)).bind (fun z => run 6 179 98 [.ref 72, .int (sg u n r), .int (bI (decide (KK u n r = 10 ∨ KK u n r = 12)))] (z.1.toList ++ []) z.2) := by
      intro k k' hk h1 h2
      by_cases h : sg u n (r + 1) = 61
      · rw [if_pos h] at hk
        rw [if_neg (fun z => z h), decide_eq_true (by omega), hk.2.1]
        refine Eq.trans b179_70 (Eq.trans (b179_75 hZ.k72) (Eq.trans (if_neg (by decide)) (Eq.trans b179_85 (Eq.trans (b179_90 hZ.k72 hZ.k72) ?_))))
        rw [mI_t, up2_s, wI_t, up2_2, iN_succ]
        rfl
      · rw [if_neg h] at hk
        rw [if_pos h]
        exact plain (by omega) (by omega) hk.2
    rcases hc with z | z | z
    · exact tw 9 10 ((K_cmp (u := u) (n := n) (p := r) (Or.inl ⟨rfl, rfl, rfl⟩)).2 z).2 (by omega) (by omega)
    · exact absurd z h61
    · exact tw 13 12 ((K_cmp (u := u) (n := n) (p := r) (Or.inr ⟨rfl, rfl, rfl⟩)).2 z).2 (by omega) (by omega)
theorem m_cmp_98 {M : aM} (hk : mK M 72 = 11) (hc : cmp3 (sg u n r)) : run 6 179 98 [.ref 72, .int (sg u n r), .int (bI (decide (KK u n r = 10 ∨ KK u n r = 12)))] [] M = (call 174 [.ref 72, .int (iN (KK u n r - 5)), .int 0] M).bind (fun z => run 6 179 143 [.ref 72, .int (sg u n r), .int (bI (decide (KK u n r = 10 ∨ KK u n r = 12)))] (z.1.toList ++ []) z.2) := by
  refine Eq.trans b179_98 ?_
  by_cases h61 : sg u n r = 61
  · have k := K11.1.mp h61
    rw [if_neg (fun z => z h61), k]
    exact Eq.trans b179_105 (b179_139 hk)
  · rw [if_pos h61]
    refine Eq.trans b179_110 ?_
    by_cases h60 : sg u n r = 60
    · rw [if_neg (fun z => z h60)]
      refine Eq.trans b179_116 ?_
      rcases (K_cmp (u := u) (n := n) (p := r) (Or.inl ⟨rfl, rfl, rfl⟩)).1.mp h60 with k | k
      · rw [k]
        exact Eq.trans (if_pos rfl) (Eq.trans b179_124 (b179_139 hk))
      · rw [k]
        exact Eq.trans (if_neg (by decide)) (Eq.trans b179_120 (b179_139 hk))
    · rw [if_pos h60]
      refine Eq.trans b179_128 ?_
      have h62 : sg u n r = 62 := by
        rcases hc with z | z | z
        · exact absurd z h60
        · exact absurd z h61
        · exact z
      rcases (K_cmp (u := u) (n := n) (p := r) (Or.inr ⟨rfl, rfl, rfl⟩)).1.mp h62 with k | k
      · rw [k]
        exact Eq.trans (if_pos rfl) (Eq.trans b179_137 (b179_139 hk))
      · rw [k]
        exact Eq.trans (if_neg (by decide)) (Eq.trans b179_132 (b179_139 hk))
theorem m_cmp_f (hZ : Shp Z) (h : MF S u n s e r) (hr : r < n) (hc : cmp3 (sg u n r)) : ∃ (S' : aI) (r' : Nat), run 6 179 45 [.ref 72, .int (sg u n r), xU] [] (S, G, Z) = some (none, (S', G, Z)) ∧ Ft s S S' ∧ MF S' u n s e r' ∧ r' ≤ n := by
  rw [m_cmp_45 hZ h.t h.p hr hc]
  have tb := tE_b (u := u) hr
  obtain ⟨S1, r1, a1, a2, a3, a4⟩ := m_sum_f (G := G) hZ (h.at (r' := tE u n r)) tb.2
  rw [a1]
  refine ⟨S1, r1, ?_, Ft_t (Ft_w (by decide) (by decide)) a2, a3, a4⟩
  refine Eq.trans (m_cmp_98 hZ.k72 hc) ?_
  rw [m_entry_f hZ a3]
  exact b179_143
/-- the sign looked at -/
theorem m_cmp_8 (hZ : Shp Z) {M : aM} (hM : M.2.2 = Z) {x : Int32} : run 6 179 8 [.ref 72, xU, xU] [.int x] M = if cmp3 x then run 6 179 37 [.ref 72, .int x, xU] [] M else run 6 179 27 [.ref 72, .int x, xU] [] M := by

  refine Eq.trans b179_8 ?_
  by_cases h60 : x = 60
  · rw [if_pos h60, if_pos (Or.inl h60)]
  · rw [if_neg h60]
    refine Eq.trans b179_15 ?_
    by_cases h61 : x = 61
    · rw [if_pos h61, if_pos (Or.inr (Or.inl h61))]
    · rw [if_neg h61]
      refine Eq.trans b179_21 ?_
      by_cases h62 : x = 62
      · rw [if_pos h62, if_pos (Or.inr (Or.inr h62))]
      · rw [if_neg h62, if_neg (by rintro (z | z | z); exact h60 z; exact h61 z; exact h62 z)]
end MSU
