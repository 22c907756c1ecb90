/-! THE MODEL'S READER: facts and tests, whole -/
section MPA
variable {G : aL} {Z : aZ} {u : Nat → Int32} {n s : Nat} {L0 : List Int32}
/-- a bracket's end -/
theorem m_close {S : aI} {r c d p : Nat} {o : List Nat} {l : List Int32} (hZ : Shp Z) (h : MS S u n s p c (d + 1) (12 :: o) (L0 ++ l)) (ho : o.length ≤ 390) (hd : d ≤ 10) : OkF S G Z u n s d o L0 (run 8 184 137 [.ref 72, .int 0, .int 1, .int 0, .int 0] [] (S, G, Z)) (if KK u n p = 6 then .inl (nx u n p, c, l) else .inr (ft p 0)) := by
  have hn := h.t.1
  have hpn := h.r1
  have sg1 := m_sign (G := G) hZ h.t (by omega) h.p
  have k6 := K6 (u := u) (n := n) (p := p)
  have st : run 8 184 137 [.ref 72, .int 0, .int 1, .int 0, .int 0] [] (S, G, Z) = run 8 184 164 [.ref 72, .int 0, .int 1, .int 0, .int 0] [] (if KK u n p = 6 then S else flt S 0 p, G, Z) := by
    refine Eq.trans (b184_137 hZ.k72) ?_
    rw [m_top hZ h (by rw [List.length_cons]; omega)]
    refine Eq.trans b184_141 (Eq.trans (if_neg (fun z => z rfl)) (Eq.trans (b184_146 hZ.k72) ?_))
    rw [sg1]
    refine Eq.trans b184_150 ?_
    by_cases k : KK u n p = 6
    · rw [if_pos (k6.1.mpr k), if_pos k]
    · rw [if_neg (fun z => k (k6.1.mp z)), if_neg k]
      refine Eq.trans (b184_155 hZ.k72) ?_
      rw [mI_t, h.p, show (0 : Int32) = iN 0 from rfl, m_fails hZ]
      rfl
  rw [st]
  have pop : ∀ S1 : aI, S1 72 28 = iN p → S1 72 34 = iN (o.length + 1) → S1 72 32 = iN (d + 1) → run 8 184 164 [.ref 72, .int 0, .int 1, .int 0, .int 0] [] (S1, G, Z) = run 8 184 9 [.ref 72, .int 0, .int 1, .int 0, .int 0] [] (up2 (up2 (up2 S1 72 28 (iN (p + 1))) 72 34 (iN o.length)) 72 32 (iN d), G, Z) := by
    intro S1 e1 e2 e3
    refine Eq.trans (b184_164 hZ.k72) (Eq.trans b184_194 (Eq.trans b184_199 ?_))
    have m28 : mI (S1, G, Z) 72 28 + 1 = iN (p + 1) := by rw [mI_t, e1, iN_succ]
    have w1 : wI (S1, G, Z) 72 28 (iN (p + 1)) = (up2 S1 72 28 (iN (p + 1)), G, Z) := rfl
    have m34 : mI (up2 S1 72 28 (iN (p + 1)), G, Z) 72 34 - 1 = iN o.length := by rw [mI_t, up2_k (by decide), e2, iN_pred]
    have m32 : mI (wI (up2 S1 72 28 (iN (p + 1)), G, Z) 72 34 (iN o.length)) 72 32 - 1 = iN d := by rw [wI_t, mI_t, up2_k (by decide), up2_k (by decide), e3, iN_pred]
    rw [m28, w1, m34, m32]
    rfl
  by_cases k : KK u n p = 6
  · rw [if_pos k, if_pos k, pop S h.p h.o1 h.d1]
    obtain ⟨t1, t2⟩ := k6.2 k
    have h2 := (h.at (r' := p + 1) (by omega)).pop (d' := d)
    rw [lp_0 hZ h2.f]
    exact ⟨_, p + 1, .int 0, .int 0, rfl, Ft_t (Ft_w (j := 28) (v := iN (p + 1)) (by decide) (by decide)) (Ft_t (Ft_w (j := 34) (v := iN o.length) (by decide) (by decide)) (Ft_w (by decide) (by decide))), h2, by rw [nx_e t1, t2]⟩
  · rw [if_neg k, if_neg k]
    obtain ⟨f1, f2, f3⟩ := h.fl (w := 0) (p := p) (by decide) (by omega)
    rw [pop _ f2.p (by rw [f1, up2_k (by decide)]; exact h.o1) (by rw [f1, up2_k (by decide)]; exact h.d1)]
    have g := ((f2.at (r' := p + 1)).w (j := 34) (v := iN o.length) (by decide)).w (j := 32) (v := iN d) (by decide)
    rw [lp_f hZ g]
    exact ⟨_, p + 1, rfl, Ft_t f3 (Ft_t (Ft_w (j := 28) (v := iN (p + 1)) (by decide) (by decide)) (Ft_t (Ft_w (j := 34) (v := iN o.length) (by decide) (by decide)) (Ft_w (by decide) (by decide)))), g, by omega⟩
theorem m_par (hZ : Shp Z) : ∀ f : Nat, (∀ (d p c r : Nat) (o : List Nat) (l : List Int32) (S : aI) (v3 v4 : Value) (q : aQ), MS S u n s r c d o (L0 ++ l) → sk u n r = p → c ≤ 60 → d ≤ 10 → o.length ≤ 3 * d + 2 → 3 * (L0.length + l.length) ≤ 6 * c + p → par u n f false false false d p c l = some q → OkF S G Z u n s d o L0 (run 8 184 9 [.ref 72, .int 1, .int 1, v3, v4] [] (S, G, Z)) q) ∧ (∀ (a oo : Bool) (d p c r : Nat) (o : List Nat) (l : List Int32) (S : aI) (v3 v4 : Value) (q : aQ), MS S u n s r c d (wt a oo o) (L0 ++ l) → sk u n r = p → c ≤ 60 → d ≤ 10 → o.length ≤ 3 * d → (o = [] ∨ ∃ o', o = 12 :: o') → 3 * (L0.length + l.length + ((if a = true then 1 else 0) + (if oo = true then 1 else 0))) ≤ 6 * c + p → par u n f true a oo d p c l = some q → OkE S G Z u n s d o L0 (run 8 184 9 [.ref 72, .int 1, .int 1, v3, v4] [] (S, G, Z)) q) := by
  intro f
  induction f with
  | zero => exact ⟨fun d p c r o l S v3 v4 q _ _ _ _ _ _ h => (by cases h), fun a oo d p c r o l S v3 v4 q _ _ _ _ _ _ _ h => (by cases h)⟩
  | succ f ih =>
    obtain ⟨ihF, ihT⟩ := ih
    constructor
    · intro d p c r o l S v3 v4 q h hp hc hd ho hB hq
      have hn := h.t.1
      have hpn : p ≤ n := by rw [← hp]; exact (sk_b h.r1).2.1
      have h1 := h.at hpn
      have F1 : Ft s S (up2 S 72 28 (iN p)) := Ft_w (by decide) (by decide)
      rw [lp_1 hZ h.f, m_fact_0 hZ h.t (by have := h.r1; omega) h.p hp (by omega)]
      rw [par] at hq
      by_cases kk : KK u n p = 5 ∨ KK u n p = 20
      · rw [if_pos kk] at hq
        have hlt : p < n := K_lt (u := u) (by omega)
        have hg := nx_gt (u := u) hlt
        by_cases k5 : KK u n p = 5
        · rw [if_neg (show ¬ KK u n p = 20 by omega), if_pos k5]
          obtain ⟨t1, t2⟩ := K5.2 k5
          by_cases h10 : 10 ≤ d
          · rw [if_pos h10] at hq
            cases hq
            obtain ⟨S2, a1, a2, a3⟩ := m_opens_f (G := G) hZ (k := 12) h1 (by omega) (Or.inr rfl) (by omega)
            have a4 := a3.at (r' := p + 1)
            refine ⟨up2 S2 72 28 (iN (p + 1)), p + 1, ?_, Ft_t F1 (Ft_t a2 (Ft_w (by decide) (by decide))), a4, by omega⟩
            rw [b183_41 hZ.k72, show (12 : Int32) = iN 12 from rfl, a1]
            show ((run 7 183 47 [.ref 72] [] (S2, G, Z)).bind _) = _
            rw [b183_47 hZ.k72, mI_t, a3.p, wI_t, iN_succ]
            exact Eq.trans lp_28a (lp_f hZ a4)
          · rw [if_neg h10, if_pos k5] at hq
            obtain ⟨g1, g2⟩ := (h1.dp (d' := d + 1)).psh (k := 12)
            have g3 := g1.at (r' := p + 1) (by omega)
            have F3 : Ft s S (up2 (opS (up2 (up2 S 72 28 (iN p)) 72 32 (iN (d + 1))) o.length 12) 72 28 (iN (p + 1))) := Ft_t F1 (Ft_t (Ft_w (j := 32) (v := iN (d + 1)) (by decide) (by decide)) (Ft_t g2 (Ft_w (by decide) (by decide))))
            generalize hS3 : up2 (opS (up2 (up2 S 72 28 (iN p)) 72 32 (iN (d + 1))) o.length 12) 72 28 (iN (p + 1)) = S3 at g3 F3
            have st : ((run 7 183 41 [.ref 72] [] (up2 S 72 28 (iN p), G, Z)).bind (fun z => run 8 184 28 [.ref 72, .int 1, .int 1, v3, v4] (z.1.toList ++ []) z.2)) = run 8 184 9 [.ref 72, .int 1, .int 1, v3, v4] [] (S3, G, Z) := by
              rw [b183_41 hZ.k72, show (12 : Int32) = iN 12 from rfl, m_opens_d hZ h1 (by omega) (Or.inr rfl) (by omega)]
              show ((run 7 183 47 [.ref 72] [] (opS (up2 (up2 S 72 28 (iN p)) 72 32 (iN (d + 1))) o.length 12, G, Z)).bind _) = _
              rw [b183_47 hZ.k72, mI_t, g1.p, wI_t, iN_succ, hS3]
              exact lp_28a
            rw [st]
            cases hpar : par u n f true false false (d + 1) (nx u n p) c l with
            | none => rw [hpar] at hq; cases hq
            | some w =>
              rw [hpar] at hq
              have hsk : sk u n (p + 1) = nx u n p := by rw [nx_e t1, t2]
              have hT := ihT false false (d + 1) (nx u n p) c (p + 1) (12 :: o) l S3 v3 v4 w g3 hsk hc (by omega) (by rw [List.length_cons]; omega) (Or.inr ⟨o, rfl⟩) (by show 3 * (L0.length + l.length + (0 + 0)) ≤ _; omega) hpar
              rcases w with ⟨p1, c1, l1⟩ | e
              · obtain ⟨S4, b1, b2, b3, b4⟩ := hT
                rw [b1]
                have hc' := m_close (G := G) (r := 0) hZ b3 (by omega) (by omega)
                have : q = (if KK u n p1 = 6 then .inl (nx u n p1, c1, l1) else .inr (ft p1 0)) := by
                  dsimp only at hq
                  by_cases k6 : KK u n p1 = 6
                  · rw [if_pos k6] at hq ⊢; cases hq; rfl
                  · rw [if_neg k6] at hq ⊢; cases hq; rfl
                rw [this]
                exact OkF_t (Ft_t F3 b2) hc'
              · obtain ⟨S4, r4, b1, b2, b3, b4⟩ := hT
                cases hq
                exact ⟨S4, r4, b1, Ft_t F3 b2, b3, b4⟩
        · have k20 : KK u n p = 20 := by omega
          rw [if_pos k20]
          obtain ⟨t1, t2, t3⟩ := (K_w (u := u) (n := n) (p := p) (j := 6) (by decide)).2 k20
          have e3 : slen.getD 6 0 = 3 := rfl
          rw [e3] at t2 t3
          by_cases h10 : 10 ≤ d
          · rw [if_pos h10] at hq
            cases hq
            obtain ⟨S2, a1, a2, a3⟩ := m_opens_f (G := G) hZ (k := 9) h1 (by omega) (Or.inl rfl) (by omega)
            have a4 := a3.at (r' := p + 3)
            refine ⟨up2 S2 72 28 (iN (p + 3)), p + 3, ?_, Ft_t F1 (Ft_t a2 (Ft_w (by decide) (by decide))), a4, by omega⟩
            rw [b183_14 hZ.k72, show (9 : Int32) = iN 9 from rfl, a1]
            show ((run 7 183 20 [.ref 72] [] (S2, G, Z)).bind _) = _
            rw [b183_20 hZ.k72, mI_t, a3.p, wI_t, show (3 : Int32) = iN 3 from rfl, iN_add]
            exact Eq.trans lp_28a (lp_f hZ a4)
          · rw [if_neg h10, if_neg k5] at hq
            obtain ⟨g1, g2⟩ := (h1.dp (d' := d + 1)).psh (k := 9)
            have g3 := g1.at (r' := p + 3) (by omega)
            have F3 : Ft s S (up2 (opS (up2 (up2 S 72 28 (iN p)) 72 32 (iN (d + 1))) o.length 9) 72 28 (iN (p + 3))) := Ft_t F1 (Ft_t (Ft_w (j := 32) (v := iN (d + 1)) (by decide) (by decide)) (Ft_t g2 (Ft_w (by decide) (by decide))))
            generalize hS3 : up2 (opS (up2 (up2 S 72 28 (iN p)) 72 32 (iN (d + 1))) o.length 9) 72 28 (iN (p + 3)) = S3 at g3 F3
            have st : ((run 7 183 14 [.ref 72] [] (up2 S 72 28 (iN p), G, Z)).bind (fun z => run 8 184 28 [.ref 72, .int 1, .int 1, v3, v4] (z.1.toList ++ []) z.2)) = run 8 184 9 [.ref 72, .int 1, .int 1, v3, v4] [] (S3, G, Z) := by
              rw [b183_14 hZ.k72, show (9 : Int32) = iN 9 from rfl, m_opens_d hZ h1 (by omega) (Or.inl rfl) (by omega)]
              show ((run 7 183 20 [.ref 72] [] (opS (up2 (up2 S 72 28 (iN p)) 72 32 (iN (d + 1))) o.length 9, G, Z)).bind _) = _
              rw [b183_20 hZ.k72, mI_t, g1.p, wI_t, show (3 : Int32) = iN 3 from rfl, iN_add, hS3]
              exact lp_28a
            rw [st]
            cases hpar : par u n f false false false (d + 1) (nx u n p) c l with
            | none => rw [hpar] at hq; cases hq
            | some w =>
              rw [hpar] at hq
              have hsk : sk u n (p + 3) = nx u n p := by rw [nx_e t1, t2]
              have hF := ihF (d + 1) (nx u n p) c (p + 3) (9 :: o) l S3 v3 v4 w g3 hsk hc (by omega) (by rw [List.length_cons]; omega) (by omega) hpar
              rcases w with ⟨p1, c1, l1⟩ | e
              · obtain ⟨y1, y2, y3, y4, y5, y6⟩ := par_b f false false false (d + 1) (nx u n p) c l p1 c1 l1 hg.2 hc hpar
                have y7 := y6 L0.length (by show 3 * (L0.length + l.length + 0) ≤ _; omega)
                obtain ⟨S4, r4, w3, w4, b1, b2, b3, b4⟩ := hF
                cases hq
                rw [b1]
                obtain ⟨S5, c1', c2, c3⟩ := m_ans_pop (G := G) hZ (k := 9) (kk := 20) b3 (by omega) (by rw [List.length_append]; omega) (Or.inl ⟨rfl, rfl⟩) (fun _ => by omega)
                rw [if_pos rfl, Nat.add_sub_cancel, List.append_assoc] at c3
                refine ⟨S5, r4, w3, w4, ?_, Ft_t F3 (Ft_t b2 c2), c3, b4⟩
                refine Eq.trans (b184_40 hZ.k72) (Eq.trans ?_ (b184_40 hZ.k72).symm)
                rw [show (9 : Int32) = iN 9 from rfl, c1']
              · obtain ⟨S4, r4, b1, b2, b3, b4⟩ := hF
                cases hq
                exact ⟨S4, r4, b1, Ft_t F3 b2, b3, b4⟩
      · rw [if_neg kk] at hq
        rw [if_neg (show ¬ KK u n p = 20 by omega), if_neg (show ¬ KK u n p = 5 by omega), b183_59 hZ.k72]
        have hC := m_compared (G := G) hZ h1 (by rw [← hp]; exact sk_i h.r1) hc hB hq
        rcases q with ⟨p1, c1, l1⟩ | e
        · obtain ⟨S2, r2, a1, a2, a3, a4, a5⟩ := hC
          rw [a1]
          refine ⟨S2, r2, v3, v4, ?_, Ft_t F1 a2, a3, a4⟩
          show ((run 7 183 63 [.ref 72] [] (S2, G, Z)).bind _) = _
          rw [b183_63]
          exact Eq.trans lp_28b (lp_0 hZ a3.f)
        · obtain ⟨S2, r2, a1, a2, a3, a4⟩ := hC
          rw [a1]
          refine ⟨S2, r2, ?_, Ft_t F1 a2, a3, by omega⟩
          show ((run 7 183 63 [.ref 72] [] (S2, G, Z)).bind _) = _
          rw [b183_63]
          exact Eq.trans lp_28b (lp_f hZ a3)
    · intro a oo d p c r o l S v3 v4 q h hp hc hd ho hb hB hq
      have hn := h.t.1
      have hpn : p ≤ n := by rw [← hp]; exact (sk_b h.r1).2.1
      rw [par] at hq
      have wl : (wt a oo o).length ≤ 3 * d + 2 := by
        unfold wt
        rw [List.length_append, List.length_append]
        cases a <;> cases oo <;> simp <;> omega
      cases hpar : par u n f false false false d p c l with
      | none => rw [hpar] at hq; cases hq
      | some w =>
        rw [hpar] at hq
        have hF := ihF d p c r (wt a oo o) l S v3 v4 w h hp hc hd wl (by omega) hpar
        rcases w with ⟨p1, c1, l1⟩ | e
        · obtain ⟨y1, y2, y3, y4, y5, y6⟩ := par_b f false false false d p c l p1 c1 l1 hpn hc hpar
          have y7 := y6 (L0.length + ((if a = true then 1 else 0) + (if oo = true then 1 else 0))) (by show 3 * (L0.length + ((if a = true then 1 else 0) + (if oo = true then 1 else 0)) + l.length + 0) ≤ _; omega)
          obtain ⟨S1, r1, w3, w4, b1, b2, b3, b4⟩ := hF
          rw [b1]
          dsimp only at hq
          obtain ⟨j1, j2, j3⟩ := m_join (G := G) (v3 := w3) (v4 := w4) hZ b3 b4 (by omega) hb (by rw [List.length_append]; omega)
          have ja := jb_len (b := a) (k := 21) (l := l1)
          have jo := jb_len (b := oo) (k := 22) (l := jb a 21 l1)
          have hng := nx_le (u := u) (n := n) (p := p1) y2
          by_cases k21 : KK u n p1 = 21
          · rw [if_pos k21] at hq
            obtain ⟨S2, r2, z3, z4, c1', c2, c3, c4⟩ := j1 k21
            rw [c1']
            have := ihT true oo d (nx u n p1) c1 r2 o (jb a 21 l1) S2 z3 z4 q c3 c4 (by omega) hd ho hb (by rw [ja, if_pos rfl]; omega) hq
            exact OkE_t (Ft_t b2 c2) this
          · rw [if_neg k21] at hq
            by_cases k22 : KK u n p1 = 22
            · rw [if_pos k22] at hq
              obtain ⟨S2, r2, z3, z4, c1', c2, c3, c4⟩ := j2 k22
              rw [c1']
              have := ihT false true d (nx u n p1) c1 r2 o (jb oo 22 (jb a 21 l1)) S2 z3 z4 q c3 c4 (by omega) hd ho hb (by rw [jo, ja, if_pos rfl, if_neg (show ¬ false = true by decide)]; omega) hq
              exact OkE_t (Ft_t b2 c2) this
            · rw [if_neg k22] at hq
              cases hq
              obtain ⟨S2, c1', c2, c3⟩ := j3 k21 k22
              rw [c1']
              exact ⟨S2, rfl, Ft_t b2 c2, c3, by rw [← b4]; exact sk_i b3.r1⟩
        · obtain ⟨S1, r1, b1, b2, b3, b4⟩ := hF
          cases hq
          exact ⟨S1, r1, b1, b2, b3, b4⟩
end MPA
