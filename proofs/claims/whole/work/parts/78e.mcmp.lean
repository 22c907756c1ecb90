/-! THE MODEL'S READER: a comparison whole -/
section MCM
variable {S : aI} {G : aL} {Z : aZ} {u : Nat → Int32} {n s r c d e p : Nat} {o : List Nat} {L L0 l : List Int32}
theorem m_cmp_4 (hZ : Shp Z) (hT : MT S u n) (hr : r ≤ 1000) (h28 : S 72 28 = iN r) : run 6 179 4 [.ref 72, xU, xU] [] (S, G, Z) = if cmp3 (sg u n r) then run 6 179 37 [.ref 72, .int (sg u n r), xU] [] (S, G, Z) else run 6 179 27 [.ref 72, .int (sg u n r), xU] [] (S, G, Z) := by
  refine Eq.trans (b179_4 hZ.k72) ?_
  rw [m_sign hZ hT hr h28]
  exact m_cmp_8 hZ rfl
theorem m_compared (hZ : Shp Z) {q : aQ} (h : MS S u n s r c d o (L0 ++ l)) (hp : sk u n r = p) (hc : c ≤ 60) (hB : 3 * (L0.length + l.length) ≤ 6 * c + p) (hq : pC u n p c l = some q) : OkM S G Z u n s d o L0 true (call 179 [.ref 72] (S, G, Z)) q := by
  have hn := h.t.1
  have hpn : p ≤ n := by rw [← hp]; exact (sk_b h.r1).2.1
  have e0 : call 179 [.ref 72] (S, G, Z) = (call 178 [.ref 72] (S, G, Z)).bind (fun z => run 6 179 4 [.ref 72, xU, xU] (z.1.toList ++ []) z.2) := Eq.trans e179 (b179_0 hZ.k72)
  rw [e0]
  unfold pC at hq
  cases hs : pS u n 70 p c l 0 with
  | none => rw [hs] at hq; cases hq
  | some w =>
    rw [hs] at hq
    have hm := m_sum (G := G) hZ h hp hc hB hs
    rcases w with ⟨p1, c1, l1⟩ | e
    · obtain ⟨S1, r1, a1, a2, a3, a4, a5⟩ := hm
      have a5 := a5 rfl
      subst a5
      obtain ⟨s1, s2, s3, s4, s5, s6⟩ := pS_b 70 p c l 0 r1 c1 l1 hpn hs
      have s7 := s6 L0.length hB
      rw [if_pos rfl] at s7
      rw [a1]
      dsimp only at hq
      show OkM S G Z u n s d o L0 true (run 6 179 4 [.ref 72, xU, xU] [] (S1, G, Z)) q
      rw [m_cmp_4 hZ a3.t (by omega) a3.p]
      have ck := cmp_K (u := u) (n := n) (p := r1)
      by_cases hk : 9 ≤ KK u n r1 ∧ KK u n r1 ≤ 13
      · rw [if_pos hk] at hq
        have hlt := K_lt (u := u) (n := n) (p := r1) (by omega)
        have hc3 := ck.mpr hk
        rw [if_pos hc3, b179_37 hZ.k72, mI_t, a3.p, m_counted hZ]
        show OkM S G Z u n s d o L0 true (run 6 179 45 [.ref 72, .int (sg u n r1), xU] [] (ctd S1 r1, G, Z)) q
        obtain ⟨f1, f2, f3⟩ := a3.cd (p := r1) s4 (by omega)
        by_cases h60 : 60 ≤ c1
        · rw [if_pos h60] at hq
          cases hq
          have g := f2 (by omega)
          obtain ⟨S2, r2, b1, b2, b3, b4⟩ := m_cmp_f (G := G) hZ g hlt hc3
          exact ⟨S2, r2, b1, Ft_t a2 (Ft_t f3 b2), b3, b4⟩
        · rw [if_neg h60] at hq
          rw [f1 (by omega)]
          have g := a3.ct (c' := c1 + 1)
          rw [m_cmp_45 hZ g.t g.p hlt hc3]
          have tb := tE_b (u := u) hlt
          have hng := nx_gt (u := u) hlt
          cases hs2 : pS u n 70 (nx u n r1) (c1 + 1) l1 0 with
          | none => rw [hs2] at hq; cases hq
          | some w2 =>
            rw [hs2] at hq
            have hm2 := m_sum (G := G) hZ (g.at tb.2) (nx_e hlt).symm (by omega) (by omega) hs2
            rcases w2 with ⟨p2, c2, l2⟩ | e
            · obtain ⟨S3, r3, x1, x2, x3, x4, x5⟩ := hm2
              have x5 := x5 rfl
              subst x5
              obtain ⟨y1, y2, y3, y4, y5, y6⟩ := pS_b 70 (nx u n r1) (c1 + 1) l1 0 r3 c2 l2 hng.2 hs2
              have y7 := y6 L0.length (by omega)
              rw [if_pos rfl] at y7
              rw [x1]
              cases hq
              have hl2 : (L0 ++ l2).length < 300 := by rw [List.length_append]; omega
              have ev := enc_k (KK u n r1) (by omega) (by omega)
              rw [if_neg (by omega), if_neg (by omega)] at ev
              obtain ⟨g1, g2⟩ := x3.en hl2 (v := -(iN (KK u n r1)))
              refine ⟨_, r3, ?_, Ft_t a2 (Ft_t (Ft_w (by decide) (by decide)) (Ft_t (Ft_w (by decide) (by decide)) (Ft_t x2 g2))), by rw [← List.append_assoc]; exact g1, x4, fun _ => rfl⟩
              refine Eq.trans (m_cmp_98 hZ.k72 hc3) ?_
              rw [m_entry hZ x3 hl2 (v := -(iN (KK u n r1))) (by rw [ev]) (by rw [ev])]
              exact b179_143
            · obtain ⟨S3, r3, x1, x2, x3, x4⟩ := hm2
              rw [x1]
              cases hq
              refine ⟨S3, r3, ?_, Ft_t a2 (Ft_t (Ft_w (by decide) (by decide)) (Ft_t (Ft_w (by decide) (by decide)) x2)), x3, x4⟩
              refine Eq.trans (m_cmp_98 hZ.k72 hc3) ?_
              rw [m_entry_f hZ x3]
              exact b179_143
      · rw [if_neg hk] at hq
        cases hq
        rw [if_neg (fun z => hk (ck.mp z)), b179_27 hZ.k72, mI_t, a3.p, show (0 : Int32) = iN 0 from rfl, m_fails hZ]
        obtain ⟨f1, f2, f3⟩ := a3.fl (w := 0) (p := r1) (by decide) (by omega)
        exact ⟨_, r1, b179_36, Ft_t a2 f3, f2, a3.r1⟩
    · obtain ⟨S1, r1, a1, a2, a3, a4⟩ := hm
      rw [a1]
      cases hq
      show OkM S G Z u n s d o L0 true (run 6 179 4 [.ref 72, xU, xU] [] (S1, G, Z)) (.inr e)
      rw [m_cmp_4 hZ a3.t (by omega) a3.p]
      by_cases hc3 : cmp3 (sg u n r1)
      · have hk := (cmp_K (u := u) (n := n) (p := r1)).mp hc3
        have hlt := K_lt (u := u) (n := n) (p := r1) (by omega)
        rw [if_pos hc3, b179_37 hZ.k72, mI_t, a3.p, m_counted hZ]
        show OkM S G Z u n s d o L0 true (run 6 179 45 [.ref 72, .int (sg u n r1), xU] [] (ctd S1 r1, G, Z)) (.inr e)
        obtain ⟨g1, g2⟩ := a3.ct (p := r1)
        obtain ⟨S2, r2, b1, b2, b3, b4⟩ := m_cmp_f (G := G) hZ g1 hlt hc3
        exact ⟨S2, r2, b1, Ft_t a2 (Ft_t g2 b2), b3, b4⟩
      · rw [if_neg hc3, b179_27 hZ.k72, mI_t, a3.p, show (0 : Int32) = iN 0 from rfl, m_fails hZ, a3.fl]
        exact ⟨_, r1, b179_36, a2, a3, a4⟩
end MCM
