/-! THE MODEL'S READER: facts and tests -/
def OkF (S : aI) (G : aL) (Z : aZ) (u : Nat → Int32) (n s d : Nat) (o : List Nat) (L0 : List Int32) (X : Option (Option Value × aM)) (q : aQ) : Prop := match q with
  | .inl (p1, c1, l1) => ∃ (S' : aI) (r' : Nat) (v3 v4 : Value), X = run 8 184 40 [.ref 72, .int 0, .int 1, v3, v4] [] (S', G, Z) ∧ Ft s S S' ∧ MS S' u n s r' c1 d o (L0 ++ l1) ∧ sk u n r' = p1
  | .inr e => ∃ (S' : aI) (r' : Nat), X = some (none, (S', G, Z)) ∧ Ft s S S' ∧ MF S' u n s e r' ∧ r' ≤ 1000
def OkE (S : aI) (G : aL) (Z : aZ) (u : Nat → Int32) (n s d : Nat) (o : List Nat) (L0 : List Int32) (X : Option (Option Value × aM)) (q : aQ) : Prop := match q with
  | .inl (p1, c1, l1) => ∃ (S' : aI), X = run 8 184 137 [.ref 72, .int 0, .int 1, .int 0, .int 0] [] (S', G, Z) ∧ Ft s S S' ∧ MS S' u n s p1 c1 d o (L0 ++ l1) ∧ sk u n p1 = p1
  | .inr e => ∃ (S' : aI) (r' : Nat), X = some (none, (S', G, Z)) ∧ Ft s S S' ∧ MF S' u n s e r' ∧ r' ≤ 1000
def wt (a oo : Bool) (o : List Nat) : List Nat := (if a = true then [10] else []) ++ ((if oo = true then [11] else []) ++ o)
section MTS
variable {S : aI} {G : aL} {Z : aZ} {u : Nat → Int32} {n s r c d e p : Nat} {o : List Nat} {L L0 l : List Int32}
theorem OkF_t {S1 : aI} {X : Option (Option Value × aM)} {q : aQ} (h1 : Ft s S S1) (h : OkF S1 G Z u n s d o L0 X q) : OkF S G Z u n s d o L0 X q := by
  rcases q with ⟨p1, c1, l1⟩ | e
  · obtain ⟨S', r', v3, v4, a1, a2, a3, a4⟩ := h
    exact ⟨S', r', v3, v4, a1, Ft_t h1 a2, a3, a4⟩
  · obtain ⟨S', r', a1, a2, a3, a4⟩ := h
    exact ⟨S', r', a1, Ft_t h1 a2, a3, a4⟩
theorem OkE_t {S1 : aI} {X : Option (Option Value × aM)} {q : aQ} (h1 : Ft s S S1) (h : OkE S1 G Z u n s d o L0 X q) : OkE S G Z u n s d o L0 X q := by
  rcases q with ⟨p1, c1, l1⟩ | e
  · obtain ⟨S', a1, a2, a3, a4⟩ := h
    exact ⟨S', a1, Ft_t h1 a2, a3, a4⟩
  · obtain ⟨S', r', a1, a2, a3, a4⟩ := h
    exact ⟨S', r', a1, Ft_t h1 a2, a3, a4⟩
theorem lp_f (hZ : Shp Z) (h : MF S u n s e r) {x1 x2 : Int32} {v3 v4 : Value} : run 8 184 9 [.ref 72, .int x1, .int x2, v3, v4] [] (S, G, Z) = some (none, (S, G, Z)) := by
  refine Eq.trans b184_9 ?_
  split
  · exact b184_202
  · refine Eq.trans (b184_13 hZ.k72) ?_
    rw [mI_t]
    exact Eq.trans (if_pos h.ne) b184_202
theorem lp_0 (hZ : Shp Z) (h : S 72 29 = 0) {v3 v4 : Value} : run 8 184 9 [.ref 72, .int 0, .int 1, v3, v4] [] (S, G, Z) = run 8 184 40 [.ref 72, .int 0, .int 1, v3, v4] [] (S, G, Z) := by
  refine Eq.trans b184_9 (Eq.trans (if_neg (by decide)) (Eq.trans (b184_13 hZ.k72) ?_))
  rw [mI_t]
  exact Eq.trans (if_neg (fun z => z h)) (Eq.trans b184_20 (if_pos rfl))
theorem lp_1 (hZ : Shp Z) (h : S 72 29 = 0) {v3 v4 : Value} : run 8 184 9 [.ref 72, .int 1, .int 1, v3, v4] [] (S, G, Z) = (call 183 [.ref 72] (S, G, Z)).bind (fun z => run 8 184 28 [.ref 72, .int 1, .int 1, v3, v4] (z.1.toList ++ []) z.2) := by
  refine Eq.trans b184_9 (Eq.trans (if_neg (by decide)) (Eq.trans (b184_13 hZ.k72) ?_))
  rw [mI_t]
  exact Eq.trans (if_neg (fun z => z h)) (Eq.trans b184_20 (Eq.trans (if_neg (by decide)) (b184_24 hZ.k72)))
theorem lp_28a {M : aM} {v3 v4 : Value} : run 8 184 28 [.ref 72, .int 1, .int 1, v3, v4] [.int 0] M = run 8 184 9 [.ref 72, .int 1, .int 1, v3, v4] [] M := Eq.trans b184_28 (Eq.trans (if_neg (fun z => z rfl)) (Eq.trans b184_31 b184_36))
theorem lp_28b {M : aM} {v3 v4 : Value} : run 8 184 28 [.ref 72, .int 1, .int 1, v3, v4] [.int 1] M = run 8 184 9 [.ref 72, .int 0, .int 1, v3, v4] [] M := Eq.trans b184_28 (Eq.trans (if_pos (by decide)) (Eq.trans b184_35 b184_36))
/-- a fact: its first sign -/
theorem m_fact_0 (hZ : Shp Z) (hT : MT S u n) (hr : r ≤ 1000) (h28 : S 72 28 = iN r) (hp : sk u n r = p) (hp2 : p ≤ 1000) : call 183 [.ref 72] (S, G, Z) = if KK u n p = 20 then run 7 183 14 [.ref 72] [] (up2 S 72 28 (iN p), G, Z) else if KK u n p = 5 then run 7 183 41 [.ref 72] [] (up2 S 72 28 (iN p), G, Z) else run 7 183 59 [.ref 72] [] (up2 S 72 28 (iN p), G, Z) := by
  refine Eq.trans e183 (Eq.trans (b183_0 hZ.k72) ?_)
  rw [m_blanks hZ hT hr h28, hp]
  have hT1 : MT (up2 S 72 28 (iN p)) u n := MT_u hT (by decide)
  refine Eq.trans (b183_4 hZ.k72) ?_
  rw [show (8 : Nat) = 6 + 2 from rfl, m_stands hZ hT1 hp2 up2_s (by decide)]
  refine Eq.trans b183_11 ?_
  by_cases k20 : KK u n p = 20
  · rw [if_pos k20, (K_w (j := 6) (by decide)).1.mpr k20]
    exact if_neg (by decide)
  · rw [if_neg k20, stW_f (j := 6) (by decide) (by omega)]
    refine Eq.trans (if_pos rfl) (Eq.trans (b183_32 hZ.k72) ?_)
    rw [m_sign hZ hT1 hp2 up2_s]
    refine Eq.trans b183_36 ?_
    by_cases k5 : KK u n p = 5
    · rw [if_pos k5]
      exact if_neg (fun z => z (K5.1.mpr k5))
    · rw [if_neg k5]
      exact if_pos (fun z => k5 (K5.1.mp z))
/-- what follows a fact in a test -/
theorem m_join (hZ : Shp Z) {a oo : Bool} {v3 v4 : Value} (h : MS S u n s r c d (wt a oo o) (L0 ++ l)) (hp : sk u n r = p) (ho : o.length ≤ 390) (hb : o = [] ∨ ∃ o', o = 12 :: o') (hL : (L0 ++ l).length + 2 < 300) : (KK u n p = 21 → ∃ (S' : aI) (r' : Nat) (w3 w4 : Value), run 8 184 40 [.ref 72, .int 0, .int 1, v3, v4] [] (S, G, Z) = run 8 184 9 [.ref 72, .int 1, .int 1, w3, w4] [] (S', G, Z) ∧ Ft s S S' ∧ MS S' u n s r' c d (wt true oo o) (L0 ++ jb a 21 l) ∧ sk u n r' = nx u n p) ∧ (KK u n p = 22 → ∃ (S' : aI) (r' : Nat) (w3 w4 : Value), run 8 184 40 [.ref 72, .int 0, .int 1, v3, v4] [] (S, G, Z) = run 8 184 9 [.ref 72, .int 1, .int 1, w3, w4] [] (S', G, Z) ∧ Ft s S S' ∧ MS S' u n s r' c d (wt false true o) (L0 ++ jb oo 22 (jb a 21 l)) ∧ sk u n r' = nx u n p) ∧ (KK u n p ≠ 21 → KK u n p ≠ 22 → ∃ (S' : aI), run 8 184 40 [.ref 72, .int 0, .int 1, v3, v4] [] (S, G, Z) = run 8 184 137 [.ref 72, .int 0, .int 1, .int 0, .int 0] [] (S', G, Z) ∧ Ft s S S' ∧ MS S' u n s p c d o (L0 ++ jb oo 22 (jb a 21 l))) := by
  have hn := h.t.1
  have hrn := h.r1
  have hpn : p ≤ n := by rw [← hp]; exact (sk_b hrn).2.1
  have t9 : ¬ tp (wt a oo o) = 9 := by
    rcases hb with z | ⟨o', z⟩ <;> subst z <;> cases a <;> cases oo <;> first | decide | exact (show ¬ iN 12 = 9 by decide) | exact (show ¬ iN 11 = 9 by decide) | exact (show ¬ iN 10 = 9 by decide)
  have t10 : ¬ tp ((if oo = true then [11] else []) ++ o) = iN 10 := by
    rcases hb with z | ⟨o', z⟩ <;> subst z <;> cases oo <;> first | decide | exact (show ¬ iN 12 = iN 10 by decide) | exact (show ¬ iN 11 = iN 10 by decide)
  have t11 : ¬ tp o = iN 11 := by
    rcases hb with z | ⟨o', z⟩ <;> subst z <;> first | decide | exact (show ¬ iN 12 = iN 11 by decide)
  have wl : (wt a oo o).length ≤ 400 := by
    unfold wt
    rw [List.length_append, List.length_append]
    cases a <;> cases oo <;> simp <;> omega
  have wl2 : ((if oo = true then [11] else []) ++ o).length ≤ 399 := by
    rw [List.length_append]
    cases oo <;> simp <;> omega
  have h1 := h.at hpn
  obtain ⟨S2, a1, a2, a3⟩ := m_ans_b (G := G) hZ (b := a) (k := 10) (kk := 21) (o := (if oo = true then [11] else []) ++ o) h1 wl2 (by omega) (Or.inl ⟨rfl, rfl⟩) t10
  have jl : (jb a 21 l).length ≤ l.length + 1 := by rw [jb_len]; split <;> omega
  have hL2 : (L0 ++ jb a 21 l).length < 300 := by
    rw [List.length_append] at hL ⊢
    omega
  have F2 : Ft s S S2 := Ft_t (Ft_w (j := 28) (v := iN p) (by decide) (by decide)) a2
  have st : run 8 184 40 [.ref 72, .int 0, .int 1, v3, v4] [] (S, G, Z) = run 8 184 73 [.ref 72, .int 0, .int 1, .int (bI (stW u n p 7)), .int (bI (stW u n p 8))] [] (S2, G, Z) := by
    refine Eq.trans (b184_40 hZ.k72) ?_
    rw [m_ans_no hZ h wl t9]
    refine Eq.trans (b184_46 hZ.k72) ?_
    rw [m_blanks hZ h.t (by omega) h.p, hp]
    refine Eq.trans (b184_50 hZ.k72) ?_
    rw [show (9 : Nat) = 7 + 2 from rfl, m_stands hZ h1.t (by omega) up2_s (by decide)]
    refine Eq.trans (b184_57 hZ.k72) ?_
    rw [show (10 : Nat) = 8 + 2 from rfl, m_stands hZ h1.t (by omega) up2_s (by decide)]
    refine Eq.trans (b184_65 hZ.k72) ?_
    rw [show (10 : Int32) = iN 10 from rfl, a1]
    rfl
  rw [st]
  refine ⟨fun k => ?_, fun k => ?_, fun k1 k2 => ?_⟩
  · obtain ⟨w1, w2, w3⟩ := (K_w (u := u) (n := n) (p := p) (j := 7) (by decide)).2 k
    have e3 : slen.getD 7 0 = 3 := rfl
    rw [e3] at w2 w3
    obtain ⟨p1, p2⟩ := a3.psh (k := 10)
    refine ⟨_, p + 3, .int (bI true), .int (bI false), ?_, Ft_t F2 (Ft_t p2 (Ft_w (j := 28) (v := iN (p + 3)) (by decide) (by decide))), p1.at w3, by rw [nx_e w1, w2]⟩
    rw [(K_w (j := 7) (by decide)).1.mpr k, stW_f (j := 8) (by decide) (by omega)]
    refine Eq.trans b184_73 (Eq.trans (if_pos (by decide)) (Eq.trans b184_82 (Eq.trans (if_pos rfl) (Eq.trans b184_93 (Eq.trans (if_neg (by decide)) (Eq.trans b184_98 (Eq.trans (b184_105 hZ.k72) ?_)))))))
    rw [show (10 : Int32) = iN 10 from rfl, m_opens hZ a3 (by omega) (Or.inl rfl)]
    refine Eq.trans (b184_108 hZ.k72) (Eq.trans (if_neg (by decide)) (Eq.trans b184_117 (Eq.trans (b184_122 hZ.k72) (Eq.trans b184_199 ?_))))
    rw [mI_t, p1.p, wI_t, show (3 : Int32) = iN 3 from rfl, iN_add]
  · obtain ⟨w1, w2, w3⟩ := (K_w (u := u) (n := n) (p := p) (j := 8) (by decide)).2 k
    have e3 : slen.getD 8 0 = 2 := rfl
    rw [e3] at w2 w3
    obtain ⟨S3, c1, c2, c3⟩ := m_ans_b (G := G) hZ (b := oo) (k := 11) (kk := 22) (o := o) a3 (by omega) hL2 (Or.inr ⟨rfl, rfl⟩) t11
    obtain ⟨p1, p2⟩ := c3.psh (k := 11)
    refine ⟨_, p + 2, .int (bI false), .int (bI true), ?_, Ft_t F2 (Ft_t c2 (Ft_t p2 (Ft_w (j := 28) (v := iN (p + 2)) (by decide) (by decide)))), p1.at w3, by rw [nx_e w1, w2]⟩
    rw [(K_w (j := 8) (by decide)).1.mpr k, stW_f (j := 7) (by decide) (by omega)]
    refine Eq.trans b184_73 (Eq.trans (if_neg (fun z => z rfl)) (Eq.trans b184_77 (Eq.trans (if_neg (by decide)) (Eq.trans b184_82 (Eq.trans (if_neg (by decide)) (Eq.trans (b184_87 hZ.k72) ?_))))))
    rw [show (11 : Int32) = iN 11 from rfl, c1]
    refine Eq.trans b184_93 (Eq.trans (if_pos rfl) (Eq.trans b184_103 (Eq.trans (b184_105 hZ.k72) ?_)))
    rw [show (11 : Int32) = iN 11 from rfl, m_opens hZ c3 (by omega) (Or.inr rfl)]
    refine Eq.trans (b184_108 hZ.k72) (Eq.trans (if_pos rfl) (Eq.trans b184_121 (Eq.trans (b184_122 hZ.k72) (Eq.trans b184_199 ?_))))
    rw [mI_t, p1.p, wI_t, show (2 : Int32) = iN 2 from rfl, iN_add]
  · obtain ⟨S3, c1, c2, c3⟩ := m_ans_b (G := G) hZ (b := oo) (k := 11) (kk := 22) (o := o) a3 (by omega) hL2 (Or.inr ⟨rfl, rfl⟩) t11
    refine ⟨S3, ?_, Ft_t F2 c2, c3⟩
    rw [stW_f (j := 7) (by decide) (by omega), stW_f (j := 8) (by decide) (by omega)]
    refine Eq.trans b184_73 (Eq.trans (if_neg (fun z => z rfl)) (Eq.trans b184_77 (Eq.trans (if_pos rfl) (Eq.trans (b184_131 hZ.k72) ?_))))
    rw [show (11 : Int32) = iN 11 from rfl, c1]
    rfl
end MTS
