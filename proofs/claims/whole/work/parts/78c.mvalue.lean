/-! THE MODEL'S READER: a value, a sum, a comparison -/
def OkM (S : aI) (G : aL) (Z : aZ) (u : Nat → Int32) (n s d : Nat) (o : List Nat) (L0 : List Int32) (bl : Bool) (X : Option (Option Value × aM)) (q : aQ) : Prop := match q with
  | .inl (p1, c1, l1) => ∃ (S' : aI) (r' : Nat), X = some (none, (S', G, Z)) ∧ Ft s S S' ∧ MS S' u n s r' c1 d o (L0 ++ l1) ∧ sk u n r' = p1 ∧ (bl = true → r' = p1)
  | .inr e => ∃ (S' : aI) (r' : Nat), X = some (none, (S', G, Z)) ∧ Ft s S S' ∧ MF S' u n s e r' ∧ r' ≤ n
theorem enc_k : ∀ k, k < 36 → 7 ≤ k → enc (-(iN k)) = if 23 ≤ k then (1, iN (k - 23)) else if 20 ≤ k then (iN (k - 11), 0) else (iN (k - 5), 0) := by decide +kernel
section MVA
variable {S : aI} {G : aL} {Z : aZ} {u : Nat → Int32} {n s r c d e p : Nat} {o : List Nat} {L L0 l : List Int32}
theorem enc_v {v : Int32} (h : 0 ≤ v.toInt) : enc v = (0, v) := if_neg (by rw [Int32.lt_iff_toInt_lt]; show ¬ v.toInt < 0; omega)
theorem nx_e (h : p < n) : nx u n p = sk u n (tE u n p) := if_pos h
theorem sk_i (h : r ≤ n) : sk u n (sk u n r) = sk u n r := sk_st (fun hq => (sk_b h).2.2 hq)
theorem m_wordOf {j : Nat} (hj : j < 13) {M : aM} : call 167 [.int (iN j)] M = some (some (.ref (j + 9 + 2)), M) := by
  have : j = 0 ∨ j = 1 ∨ j = 2 ∨ j = 3 ∨ j = 4 ∨ j = 5 ∨ j = 6 ∨ j = 7 ∨ j = 8 ∨ j = 9 ∨ j = 10 ∨ j = 11 ∨ j = 12 := by omega
  refine Eq.trans e167 ?_
  rcases this with q | q | q | q | q | q | q | q | q | q | q | q | q <;> subst q
  · exact Eq.trans (b167_0_c0 rfl) b167_64
  · exact Eq.trans (b167_0_c1 rfl) b167_67
  · exact Eq.trans (b167_0_c2 rfl) b167_70
  · exact Eq.trans (b167_0_c3 rfl) b167_73
  · exact Eq.trans (b167_0_c4 rfl) b167_77
  · exact Eq.trans (b167_0_c5 rfl) b167_81
  · exact Eq.trans (b167_0_c6 rfl) b167_85
  · exact Eq.trans (b167_0_c7 rfl) b167_89
  · exact Eq.trans (b167_0_c8 rfl) b167_93
  · exact Eq.trans (b167_0_c9 rfl) b167_97
  · exact Eq.trans (b167_0_c10 rfl) b167_101
  · exact Eq.trans (b167_0_c11 rfl) b167_105
  · exact Eq.trans (b167_0_d (Or.inr (by decide))) b167_109
theorem stW_f {j : Nat} (hj : j < 22) (h : KK u n p ≠ 14 + j) : stW u n p j = false := by
  cases q : stW u n p j
  · rfl
  · exact absurd ((K_w hj).1.mp q) h
/-- how a value begins -/
theorem m_value_0 (hZ : Shp Z) (hT : MT S u n) (hr : r ≤ 1000) (h28 : S 72 28 = iN r) (hp : sk u n r = p) (hp2 : p ≤ 1000) : call 177 [.ref 72] (S, G, Z) = run 4 177 13 [.ref 72, .int (iN p), xU] [.int (bI (dg (sg u n p)))] (up2 S 72 28 (iN p), G, Z) := by
  refine Eq.trans e177 (Eq.trans (b177_0 hZ.k72) ?_)
  rw [m_blanks hZ hT hr h28, hp]
  refine Eq.trans (b177_4 hZ.k72) ?_
  rw [m_dig hZ (MT_u hT (by decide)) hp2 up2_s, mI_t, up2_s]
  rfl
theorem m_value_2 (hZ : Shp Z) (hT : MT S u n) (hr : r ≤ 1000) (h28 : S 72 28 = iN r) (hp : sk u n r = p) (h2 : KK u n p = 2) : call 177 [.ref 72] (S, G, Z) = (call 174 [.ref 72, .int 0, .int (dvF u p (rn dg u n p - p))] (ctd (if 5 < rn dg u n p - p then flt (up2 S 72 28 (iN (rn dg u n p))) 1 p else up2 S 72 28 (iN (rn dg u n p))) p, G, Z)).bind (fun z => run 4 177 34 [.ref 72, .int (iN p), .int (dvF u p (rn dg u n p - p))] (z.1.toList ++ []) z.2) := by
  obtain ⟨hpn, _, _⟩ := K2.2 h2
  have hn := hT.1
  refine Eq.trans (m_value_0 hZ hT hr h28 hp (by omega)) ?_
  rw [K2.1.mpr h2]
  refine Eq.trans b177_13 (Eq.trans (if_neg (by decide)) (Eq.trans (b177_16 hZ.k72) ?_))
  rw [m_digits hZ (MT_u hT (by decide)) up2_s h2, up2_2]
  have hc : (5 < rn dg u n p - p ∨ (99999 : Int32) < dvF u p (rn dg u n p - p)) ↔ 5 < rn dg u n p - p := by
    constructor
    · rintro (z | z)
      · exact z
      · by_cases h5 : 5 < rn dg u n p - p
        · exact h5
        · exfalso
          obtain ⟨v1, v2, v3⟩ := VV_b h2 h5
          rw [← v1, Int32.lt_iff_toInt_lt] at z
          have : (99999 : Int32).toInt = 99999 := by decide
          omega
    · exact Or.inl
  simp only [hc]
  refine Eq.trans (b177_22 hZ.k72) ?_
  rw [m_counted hZ]
  exact b177_28 hZ.k72
theorem m_value_w (hZ : Shp Z) (hT : MT S u n) (hr : r ≤ 1000) (h28 : S 72 28 = iN r) (hp : sk u n r = p) (hp2 : p ≤ 1000) (h2 : KK u n p ≠ 2) : call 177 [.ref 72] (S, G, Z) = run 4 177 60 [.ref 72, .int (iN p), .int (iN (if 23 ≤ KK u n p then KK u n p - 23 else 13))] [] (up2 S 72 28 (iN p), G, Z) := by
  have hd : dg (sg u n p) = false := by
    cases q : dg (sg u n p)
    · rfl
    · exact absurd (K2.1.mp q) h2
  have kb := (K_b (u := u) (n := n) (p := p)).1
  refine Eq.trans (m_value_0 hZ hT hr h28 hp hp2) ?_
  rw [hd]
  refine Eq.trans b177_13 (Eq.trans (if_pos rfl) (Eq.trans b177_35 ?_))
  have hT' : MT (up2 S 72 28 (iN p)) u n := MT_u hT (by decide)
  have hw : (if 23 ≤ KK u n p then KK u n p - 23 else 13) ≤ 13 := by split <;> omega
  have hne : ∀ j, j < (if 23 ≤ KK u n p then KK u n p - 23 else 13) → KK u n p ≠ 14 + (j + 9) := by
    intro j hj
    split at hj <;> omega
  have hlast : (if 23 ≤ KK u n p then KK u n p - 23 else 13) < 13 → KK u n p = 14 + ((if 23 ≤ KK u n p then KK u n p - 23 else 13) + 9) := by
    intro h
    split
    · omega
    · rename_i q; rw [if_neg q] at h; omega
  generalize (if 23 ≤ KK u n p then KK u n p - 23 else 13) = w at hw hne hlast ⊢
  have key := loop_up (fun j => run 4 177 37 [.ref 72, .int (iN p), .int (iN j)] [] (up2 S 72 28 (iN p), G, Z)) w (fun j hj => by
    refine Eq.trans b177_37 (Eq.trans (if_neg (fun z => z ((iN_lt (b := 13) (by omega) (by omega)).mpr (by omega)))) (Eq.trans b177_43 ?_))
    rw [m_wordOf (by omega)]
    refine Eq.trans (b177_48 hZ.k72) ?_
    rw [m_stands hZ hT' hp2 up2_s (by omega), stW_f (by omega) (hne j hj)]
    refine Eq.trans b177_51 (Eq.trans (if_neg (fun z => z rfl)) (Eq.trans b177_54 ?_))
    rw [iN_succ]) 0 (by omega)
  refine Eq.trans key (Eq.trans b177_37 ?_)
  by_cases h13 : w < 13
  · refine Eq.trans (if_neg (fun z => z ((iN_lt (b := 13) (by omega) (by omega)).mpr (by omega)))) (Eq.trans b177_43 ?_)
    rw [m_wordOf h13]
    refine Eq.trans (b177_48 hZ.k72) ?_
    rw [m_stands hZ hT' hp2 up2_s (by omega), (K_w (by omega)).1.mpr (hlast h13)]
    exact Eq.trans b177_51 (if_pos (by decide))
  · exact if_pos (fun z => h13 ((iN_lt (b := 13) (by omega) (by omega)).mp z))
theorem m_value_3 (hZ : Shp Z) (hT : MT S u n) (hr : r ≤ 1000) (h28 : S 72 28 = iN r) (hp : sk u n r = p) (h2 : 23 ≤ KK u n p) : call 177 [.ref 72] (S, G, Z) = (call 174 [.ref 72, .int 1, .int (iN (KK u n p - 23))] (up2 (ctd (up2 S 72 28 (iN p)) p) 72 28 (iN (tE u n p)), G, Z)).bind (fun z => run 4 177 100 [.ref 72, .int (iN p), .int (iN (KK u n p - 23))] (z.1.toList ++ []) z.2) := by
  have hn := hT.1
  have hpn := K_lt (u := u) (n := n) (p := p) (by omega)
  have kb := (K_b (u := u) (n := n) (p := p)).1
  refine Eq.trans (m_value_w hZ hT hr h28 hp (by omega) (by omega)) ?_
  rw [if_pos h2]
  have m28 : ctd (up2 S 72 28 (iN p)) p 72 28 = iN p := by
    unfold ctd
    rw [up2_k (by decide)]
    split
    · unfold flt
      split
      · rw [up2_k (by decide), up2_s]
      · rw [up2_s]
    · rw [up2_s]
  obtain ⟨w1, w2, w3⟩ := (K_w (u := u) (n := n) (p := p) (j := KK u n p - 23 + 9) (by omega)).2 (by omega)
  refine Eq.trans b177_60 (Eq.trans (if_pos (fun z => by have := (iN_inj (b := 13) (by omega) (by omega)).mp z; omega)) (Eq.trans (b177_73 hZ.k72) ?_))
  rw [m_counted hZ]
  refine Eq.trans (b177_78 hZ.k72) ?_
  rw [m_wordOf (by omega), mI_t, m28]
  refine Eq.trans (b177_87 (by omega) (by omega) hZ.k72 hZ.k72) ?_
  rw [show Int32.ofNat (slen.getD (KK u n p - 23 + 9 + 2 - 2) 0) = iN (slen.getD (KK u n p - 23 + 9) 0) from rfl, iN_add, wI_t, w2]
theorem m_value_1 (hZ : Shp Z) (hT : MT S u n) (hr : r ≤ 1000) (h28 : S 72 28 = iN r) (hp : sk u n r = p) (hp2 : p ≤ 1000) (h2 : KK u n p ≠ 2) (h3 : ¬ 23 ≤ KK u n p) : call 177 [.ref 72] (S, G, Z) = some (none, (flt (up2 S 72 28 (iN p)) 0 p, G, Z)) := by
  refine Eq.trans (m_value_w hZ hT hr h28 hp hp2 h2) ?_
  rw [if_neg h3]
  refine Eq.trans b177_60 (Eq.trans (if_neg (fun z => z rfl)) (Eq.trans (b177_66 hZ.k72) ?_))
  rw [show (0 : Int32) = iN 0 from rfl, m_fails hZ]
  exact b177_72
theorem MS.cd (h : MS S u n s r c d o L) (hc : c ≤ 60) (hp : p ≤ 1000) : (c < 60 → ctd S p = up2 S 72 33 (iN (c + 1))) ∧ (c = 60 → MF (ctd S p) u n s (ft p 3) r) ∧ Ft s S (ctd S p) := by
  unfold ctd
  obtain ⟨f1, f2, f3⟩ := h.fl (w := 3) (p := p) (by decide) hp
  refine ⟨fun q => ?_, fun q => ?_, ?_⟩
  · rw [h.c1, if_neg (fun z => by have := (iN_inj (b := 60) (by omega) (by omega)).mp z; omega), iN_succ]
  · rw [h.c1, q, if_pos (show iN 60 = 60 from rfl)]
    exact f2.w (by decide)
  · split
    · exact Ft_t f3 (Ft_w (by decide) (by decide))
    · exact Ft_w (by decide) (by decide)
theorem m_value (hZ : Shp Z) (h : MS S u n s r c d o (L0 ++ l)) (hp : sk u n r = p) (hc : c ≤ 60) (hL : (L0 ++ l).length < 300) : OkM S G Z u n s d o L0 false (call 177 [.ref 72] (S, G, Z)) (pV u n p c l) := by
  have hn := h.t.1
  have hrn := h.r1
  have hpn : p ≤ n := by rw [← hp]; exact (sk_b hrn).2.1
  unfold pV
  by_cases k2 : KK u n p = 2
  · obtain ⟨q1, q2, q3⟩ := K2.2 k2
    have hb := rn_b (P := dg) (u := u) (n := n) (i := p) (by omega)
    have hx := VV_x k2
    rw [if_pos k2, m_value_2 hZ h.t (by omega) h.p hp k2]
    by_cases h5 : 5 < rn dg u n p - p
    · rw [if_pos h5, if_pos (hx.mpr h5)]
      have h1 := h.at hb.2
      obtain ⟨f1, f2, f3⟩ := h1.fl (w := 1) (p := p) (by decide) (by omega)
      obtain ⟨g1, g2⟩ := f2.ct (p := p)
      rw [m_entry_f hZ g1]
      exact ⟨_, _, b177_34, Ft_t (Ft_w (by decide) (by decide)) (Ft_t f3 g2), g1, hb.2⟩
    · rw [if_neg h5, if_neg (fun z => h5 (hx.mp z))]
      have h1 := h.at hb.2
      obtain ⟨v1, v2, v3⟩ := VV_b k2 h5
      obtain ⟨f1, f2, f3⟩ := h1.cd (p := p) hc (by omega)
      by_cases h60 : 60 ≤ c
      · rw [if_pos h60]
        have g := f2 (by omega)
        rw [m_entry_f hZ g]
        exact ⟨_, _, b177_34, Ft_t (Ft_w (by decide) (by decide)) f3, g, hb.2⟩
      · rw [if_neg h60, f1 (by omega)]
        have h2 := h1.ct (c' := c + 1)
        have ev := enc_v v2
        rw [← v1, m_entry hZ h2 hL (v := VV u n p) (by rw [ev]) (by rw [ev])]
        obtain ⟨g1, g2⟩ := h2.en hL (v := VV u n p)
        refine ⟨_, _, b177_34, Ft_t (Ft_w (by decide) (by decide)) (Ft_t (Ft_w (by decide) (by decide)) g2), by rw [← List.append_assoc]; exact g1, ?_, fun z => by cases z⟩
        rw [nx_e q1, q2]
  · rw [if_neg k2]
    by_cases k3 : 23 ≤ KK u n p
    · have kb := (K_b (u := u) (n := n) (p := p)).1
      have q1 := K_lt (u := u) (n := n) (p := p) (by omega)
      have tb := tE_b (u := u) q1
      rw [if_pos k3, m_value_3 hZ h.t (by omega) h.p hp k3]
      have h1 := h.at hpn
      obtain ⟨f1, f2, f3⟩ := h1.cd (p := p) hc (by omega)
      by_cases h60 : 60 ≤ c
      · rw [if_pos h60]
        have g := (f2 (by omega)).at (r' := tE u n p)
        rw [m_entry_f hZ g]
        exact ⟨_, _, b177_100, Ft_t (Ft_w (by decide) (by decide)) (Ft_t f3 (Ft_w (by decide) (by decide))), g, tb.2⟩
      · rw [if_neg h60, f1 (by omega)]
        have h2 := (h1.ct (c' := c + 1)).at tb.2
        have ev := enc_k (KK u n p) kb (by omega)
        rw [if_pos k3] at ev
        rw [m_entry hZ h2 hL (v := -(iN (KK u n p))) (by rw [ev]) (by rw [ev])]
        obtain ⟨g1, g2⟩ := h2.en hL (v := -(iN (KK u n p)))
        refine ⟨_, _, b177_100, Ft_t (Ft_w (by decide) (by decide)) (Ft_t (Ft_w (by decide) (by decide)) (Ft_t (Ft_w (by decide) (by decide)) g2)), by rw [← List.append_assoc]; exact g1, ?_, fun z => by cases z⟩
        rw [nx_e q1]
    · rw [if_neg k3, m_value_1 hZ h.t (by omega) h.p hp (by omega) k2 k3]
      obtain ⟨f1, f2, f3⟩ := (h.at hpn).fl (w := 0) (p := p) (by decide) (by omega)
      exact ⟨_, _, rfl, Ft_t (Ft_w (by decide) (by decide)) f3, f2, hpn⟩
theorem m_value_f (hZ : Shp Z) (h : MF S u n s e r) (hrn : r ≤ n) : ∃ (S' : aI) (r' : Nat), call 177 [.ref 72] (S, G, Z) = some (none, (S', G, Z)) ∧ Ft s S S' ∧ MF S' u n s e r' ∧ r' ≤ n := by
  have hn := h.t.1
  have hpn := (sk_b (u := u) hrn).2.1
  generalize hp : sk u n r = p at hpn
  by_cases k2 : KK u n p = 2
  · obtain ⟨q1, q2, q3⟩ := K2.2 k2
    have hb := rn_b (P := dg) (u := u) (n := n) (i := p) (by omega)
    rw [m_value_2 hZ h.t (by omega) h.p hp k2]
    have h1 := h.at (r' := rn dg u n p)
    obtain ⟨g1, g2⟩ := h1.ct (p := p)
    rw [h1.fl, ite_self, m_entry_f hZ g1]
    exact ⟨_, _, b177_34, Ft_t (Ft_w (by decide) (by decide)) g2, g1, hb.2⟩
  · by_cases k3 : 23 ≤ KK u n p
    · have q1 := K_lt (u := u) (n := n) (p := p) (by omega)
      have tb := tE_b (u := u) q1
      rw [m_value_3 hZ h.t (by omega) h.p hp k3]
      have h1 := h.at (r' := p)
      obtain ⟨g1, g2⟩ := h1.ct (p := p)
      have g := g1.at (r' := tE u n p)
      rw [m_entry_f hZ g]
      exact ⟨_, _, b177_100, Ft_t (Ft_w (by decide) (by decide)) (Ft_t g2 (Ft_w (by decide) (by decide))), g, tb.2⟩
    · rw [m_value_1 hZ h.t (by omega) h.p hp (by omega) k2 k3]
      have h1 := h.at (r' := p)
      rw [h1.fl]
      exact ⟨_, _, rfl, Ft_w (by decide) (by decide), h1, hpn⟩
end MVA
