/-! THE MODEL'S READER: a test called, amounts -/
def MP (S : aI) (u : Nat → Int32) (n s r c : Nat) (L : List Int32) : Prop := MT S u n ∧ r ≤ n ∧ S 72 28 = iN r ∧ S 72 29 = 0 ∧ S 72 30 = iN s ∧ s < 20 ∧ S 72 33 = iN c ∧ S 72 32 = iN 0 ∧ EN S s L
theorem MP.t {S : aI} {u : Nat → Int32} {n s r c : Nat} {L : List Int32} (h : MP S u n s r c L) : MT S u n := h.1
theorem MP.r1 {S : aI} {u : Nat → Int32} {n s r c : Nat} {L : List Int32} (h : MP S u n s r c L) : r ≤ n := h.2.1
theorem MP.p {S : aI} {u : Nat → Int32} {n s r c : Nat} {L : List Int32} (h : MP S u n s r c L) : S 72 28 = iN r := h.2.2.1
theorem MP.f {S : aI} {u : Nat → Int32} {n s r c : Nat} {L : List Int32} (h : MP S u n s r c L) : S 72 29 = 0 := h.2.2.2.1
theorem MP.s1 {S : aI} {u : Nat → Int32} {n s r c : Nat} {L : List Int32} (h : MP S u n s r c L) : S 72 30 = iN s := h.2.2.2.2.1
theorem MP.s2 {S : aI} {u : Nat → Int32} {n s r c : Nat} {L : List Int32} (h : MP S u n s r c L) : s < 20 := h.2.2.2.2.2.1
theorem MP.c1 {S : aI} {u : Nat → Int32} {n s r c : Nat} {L : List Int32} (h : MP S u n s r c L) : S 72 33 = iN c := h.2.2.2.2.2.2.1
theorem MP.e {S : aI} {u : Nat → Int32} {n s r c : Nat} {L : List Int32} (h : MP S u n s r c L) : EN S s L := h.2.2.2.2.2.2.2.2
section MAM
variable {S : aI} {G : aL} {Z : aZ} {u : Nat → Int32} {n s r c d e p : Nat} {o : List Nat} {L L0 l : List Int32}
theorem MS.mq (h : MS S u n s r c 0 o L) : MP S u n s r c L := ⟨h.t, h.r1, h.p, h.f, h.s1, h.s2, h.c1, h.d1, h.e⟩
theorem MP.w (h : MP S u n s r c L) {S' : aI} {r' : Nat} (h84 : S' 84 = S 84) (h86 : S' 86 = S 86) (h87 : S' 87 = S 87) (q28 : S' 72 28 = iN r') (hr : r' ≤ n) (q : ∀ j, j ≠ 28 → j ≠ 34 → S' 72 j = S 72 j) : MP S' u n s r' c L := ⟨⟨h.1.1, by rw [q 27 (by decide) (by decide)]; exact h.1.2.1, fun i hi => by rw [h84]; exact h.1.2.2 i hi⟩, hr, q28, by rw [q 29 (by decide) (by decide)]; exact h.f, by rw [q 30 (by decide) (by decide)]; exact h.s1, h.s2, by rw [q 33 (by decide) (by decide)]; exact h.c1, by rw [q 32 (by decide) (by decide)]; exact h.2.2.2.2.2.2.2.1, by rw [q 31 (by decide) (by decide)]; exact h.e.1, fun i hi => by rw [h86, h87]; exact h.e.2 i hi⟩
theorem MP.at (h : MP S u n s r c L) {r' : Nat} (hr : r' ≤ n) : MP (up2 S 72 28 (iN r')) u n s r' c L := h.w (up_o (by decide)) (up_o (by decide)) (up_o (by decide)) up2_s hr (fun j h1 _ => up2_k h1)
theorem MP.oth (h : MP S u n s r c L) {a j : Nat} {v : Int32} (ha : 88 ≤ a) : MP (up2 S a j v) u n s r c L := h.w (up_o (by omega)) (up_o (by omega)) (up_o (by omega)) (by rw [up2_a (by omega)]; exact h.p) h.r1 (fun j _ _ => up2_a (by omega))
theorem MP.ms (h : MP S u n s r c L) : MS (up2 S 72 34 0) u n s r c 0 [] L := by
  have g := h.w (S' := up2 S 72 34 0) (r' := r) (up_o (by decide)) (up_o (by decide)) (up_o (by decide)) (by rw [up2_k (by decide)]; exact h.p) h.r1 (fun j _ h2 => up2_k h2)
  exact ⟨g.t, g.r1, g.p, g.f, g.s1, g.s2, g.c1, g.2.2.2.2.2.2.2.1, up2_s, trivial, g.e⟩
theorem MP.fl (h : MP S u n s r c L) {w : Nat} (hw : w ≤ 4) (hp : p ≤ 1000) : flt S w p = up2 S 72 29 (iN (ft p w)) ∧ MF (flt S w p) u n s (ft p w) r ∧ Ft s S (flt S w p) := by
  have e0 : flt S w p = up2 S 72 29 (iN (ft p w)) := if_pos h.f
  rw [e0]
  refine ⟨rfl, ⟨MT_u h.t (by decide), ?_, up2_s, ?_, ?_, ?_, h.s2⟩, Ft_w (by decide) (by decide)⟩
  · rw [up2_k (by decide)]; exact h.p
  · unfold ft; omega
  · unfold ft; omega
  · rw [up2_k (by decide)]; exact h.s1
def OkQ (S : aI) (G : aL) (Z : aZ) (u : Nat → Int32) (n s : Nat) (L : List Int32) (X : Option (Option Value × aM)) (q : aQ) : Prop := match q with
  | .inl (p1, c1, l1) => ∃ (S' : aI) (r' : Nat), X = some (none, (S', G, Z)) ∧ Ft s S S' ∧ MP S' u n s r' c1 (L ++ l1) ∧ sk u n r' = p1
  | .inr e => ∃ (S' : aI) (r' : Nat), X = some (none, (S', G, Z)) ∧ Ft s S S' ∧ MF S' u n s e r' ∧ r' ≤ 1000
theorem m_test (hZ : Shp Z) {f : Nat} {q : aQ} (h : MP S u n s r c L) (hp : sk u n r = p) (hc : c ≤ 60) (hB : 3 * L.length ≤ 6 * c + p) (hq : par u n f true false false 0 p c [] = some q) : OkQ S G Z u n s L (call 184 [.ref 72] (S, G, Z)) q := by
  have st : call 184 [.ref 72] (S, G, Z) = run 8 184 9 [.ref 72, .int 1, .int 1, xU, xU] [] (up2 S 72 34 0, G, Z) := Eq.trans e184 (b184_0 hZ.k72)
  rw [st]
  have hm := h.ms
  have hE := (m_par (G := G) (L0 := L) (s := s) hZ f).2 false false 0 p c r [] [] (up2 S 72 34 0) xU xU q (by rw [List.append_nil]; exact hm) hp hc (by omega) (by show 0 ≤ _; omega) (Or.inl rfl) (by show 3 * (L.length + 0 + (0 + 0)) ≤ _; omega) hq
  have F : Ft s S (up2 S 72 34 0) := Ft_w (by decide) (by decide)
  rcases q with ⟨p1, c1, l1⟩ | e
  · obtain ⟨S1, a1, a2, a3, a4⟩ := hE
    refine ⟨S1, p1, ?_, Ft_t F a2, a3.mq, a4⟩
    refine Eq.trans a1 (Eq.trans (b184_137 hZ.k72) ?_)
    rw [m_top hZ a3 (by show 0 ≤ _; omega)]
    exact Eq.trans b184_141 (Eq.trans (if_pos (by decide)) (Eq.trans b184_197 (Eq.trans b184_199 (Eq.trans b184_9 (Eq.trans (if_pos rfl) b184_202)))))
  · obtain ⟨S1, r1, a1, a2, a3, a4⟩ := hE
    exact ⟨S1, r1, a1, Ft_t F a2, a3, a4⟩
theorem m_takes (hZ : Shp Z) {j : Nat} (hj : j < 22) (hT : MT S u n) (hr : r ≤ 1000) (h28 : S 72 28 = iN r) (hp : sk u n r = p) (hp2 : p ≤ 1000) : call 173 [.ref 72, .ref (j + 2)] (S, G, Z) = some (some (.int (bI (stW u n p j))), (up2 S 72 28 (iN (if stW u n p j = true then p + slen.getD j 0 else p)), G, Z)) := by
  refine Eq.trans e173 (Eq.trans (b173_0 hZ.k72) ?_)
  rw [m_blanks hZ hT hr h28, hp]
  refine Eq.trans (b173_4 hZ.k72) ?_
  rw [m_stands hZ (MT_u hT (by decide)) hp2 up2_s hj]
  refine Eq.trans (b173_9 hZ.k72) ?_
  rw [bI_0, mI_t, up2_s]
  cases hs : stW u n p j
  · refine Eq.trans (if_neg (by decide)) (Eq.trans b173_26 (Eq.trans (b173_27 hZ.k72 rt_b) ?_))
    rw [wI_t, up2_2, Int32.add_zero]
    rfl
  · refine Eq.trans (if_pos rfl) (Eq.trans (b173_19 (by omega) (by omega)) (Eq.trans (b173_27 hZ.k72 rt_b) ?_))
    rw [wI_t, up2_2, show j + 2 - 2 = j by omega, show Int32.ofNat (slen.getD j 0) = iN (slen.getD j 0) from rfl, iN_add]
    rfl
/-- the test after an if, or none -/
def ifT (u : Nat → Int32) (n p c : Nat) : Option aQ := if KK u n p = 19 then par u n 810 true false false 0 (nx u n p) c [] else some (.inl (p, c, []))
theorem m_ifTest (hZ : Shp Z) {q : aQ} (h : MP S u n s r c L) (hp : sk u n r = p) (hc : c ≤ 60) (hB : 3 * L.length ≤ 6 * c + p) (hq : ifT u n p c = some q) : OkQ S G Z u n s L (call 188 [.ref 72] (S, G, Z)) q := by
  have hn := h.t.1
  have hrn := h.r1
  have hpn : p ≤ n := by rw [← hp]; exact (sk_b hrn).2.1
  have st : call 188 [.ref 72] (S, G, Z) = (run 9 188 14 [.ref 72] [.int (bI (stW u n p 5))] (up2 S 72 28 (iN (if stW u n p 5 = true then p + slen.getD 5 0 else p)), G, Z)) := by
    refine Eq.trans e188 (Eq.trans (b188_0 hZ.k72) ?_)
    rw [mI_t]
    refine Eq.trans (if_neg (fun z => z h.f)) (Eq.trans (b188_7 hZ.k72) ?_)
    rw [show (7 : Nat) = 5 + 2 from rfl, m_takes hZ (by decide) h.t (by omega) h.p hp (by omega)]
    rfl
  rw [st, b188_14, bI_0]
  unfold ifT at hq
  by_cases k : KK u n p = 19
  · obtain ⟨t1, t2, t3⟩ := (K_w (u := u) (n := n) (p := p) (j := 5) (by decide)).2 k
    have hs := (K_w (u := u) (n := n) (p := p) (j := 5) (by decide)).1.mpr k
    rw [if_pos k] at hq
    rw [if_pos hs, if_pos hs, b188_17 hZ.k72]
    have hg := nx_gt (u := u) t1
    have := m_test (G := G) hZ (h.at t3) (by rw [nx_e t1, t2]) hc (by omega) hq
    rcases q with ⟨p1, c1, l1⟩ | e
    · obtain ⟨S1, r1, a1, a2, a3, a4⟩ := this
      rw [a1]
      exact ⟨S1, r1, b188_21, Ft_t (Ft_w (by decide) (by decide)) a2, a3, a4⟩
    · obtain ⟨S1, r1, a1, a2, a3, a4⟩ := this
      rw [a1]
      exact ⟨S1, r1, b188_21, Ft_t (Ft_w (by decide) (by decide)) a2, a3, a4⟩
  · have hs := stW_f (u := u) (n := n) (p := p) (j := 5) (by decide) k
    rw [if_neg k] at hq
    cases hq
    rw [hs, if_neg (by decide), if_neg (by decide)]
    exact ⟨_, p, b188_21, Ft_w (by decide) (by decide), by rw [List.append_nil]; exact h.at hpn, by rw [← hp]; exact sk_i hrn⟩
theorem m_ifTest_f (hZ : Shp Z) (h : MF S u n s e r) : call 188 [.ref 72] (S, G, Z) = some (none, (S, G, Z)) := by
  refine Eq.trans e188 (Eq.trans (b188_0 hZ.k72) ?_)
  rw [mI_t]
  exact Eq.trans (if_pos h.ne) b188_21
def OkA (S : aI) (G : aL) (Z : aZ) (u : Nat → Int32) (n s c : Nat) (L : List Int32) (X : Option (Option Value × aM)) (q : (Nat × Int32) ⊕ Nat) : Prop := match q with
  | .inl (p1, v) => ∃ (S' : aI) (r' : Nat), X = some (some (.int v), (S', G, Z)) ∧ Ft s S S' ∧ MP S' u n s r' c L ∧ sk u n r' = p1
  | .inr e => ∃ (S' : aI) (r' : Nat) (v : Int32), X = some (some (.int v), (S', G, Z)) ∧ Ft s S S' ∧ MF S' u n s e r' ∧ r' ≤ n
theorem m_amount (hZ : Shp Z) {a b : Nat} (ha : a < 100000) (hb : b < 100000) (h : MP S u n s r c L) (hp : sk u n r = p) : OkA S G Z u n s c L (call 185 [.ref 72, .int (iN a), .int (iN b)] (S, G, Z)) (pN u n a b p) := by
  have hn := h.t.1
  have hrn := h.r1
  have hpn : p ≤ n := by rw [← hp]; exact (sk_b hrn).2.1
  have h1 := h.at hpn
  have F1 : Ft s S (up2 S 72 28 (iN p)) := Ft_w (by decide) (by decide)
  have st : call 185 [.ref 72, .int (iN a), .int (iN b)] (S, G, Z) = (call 176 [.ref 72, .int (iN b)] (up2 S 72 28 (iN p), G, Z)).bind (fun z => run 4 185 14 [.ref 72, .int (iN a), .int (iN b), .int (iN p), xU] (z.1.toList ++ []) z.2) := by
    refine Eq.trans e185 (Eq.trans (b185_0 hZ.k72) ?_)
    rw [m_blanks hZ h.t (by omega) h.p, hp]
    refine Eq.trans (b185_4 hZ.k72) ?_
    rw [mI_t, up2_s]
  rw [st]
  have fin : ∀ (S2 : aI) (v : Int32) (e r2 : Nat), MF S2 u n s e r2 → run 4 185 14 [.ref 72, .int (iN a), .int (iN b), .int (iN p), xU] [.int v] (S2, G, Z) = some (some (.int v), (S2, G, Z)) := by
    intro S2 v e r2 hf
    refine Eq.trans (b185_14 hZ.k72) ?_
    rw [mI_t]
    exact Eq.trans (if_pos hf.ne) b185_35
  unfold pN
  by_cases k2 : KK u n p = 2
  · obtain ⟨q1, q2, q3⟩ := K2.2 k2
    have hr := rn_b (P := dg) (u := u) (n := n) (i := p) (by omega)
    rw [if_pos k2, m_digits hZ h1.t up2_s k2, up2_2]
    have h2 := h.at hr.2
    have F2 : Ft s S (up2 S 72 28 (iN (rn dg u n p))) := Ft_w (by decide) (by decide)
    obtain ⟨f1, f2, f3⟩ := h2.fl (w := 1) (p := p) (by decide) (by omega)
    by_cases h5 : 5 < rn dg u n p - p
    · rw [if_pos (Or.inl h5), (VV_x k2).mpr h5, if_neg (by rw [inB_iff]; show ¬ ((a : Int) ≤ -1 ∧ _); omega)]
      exact ⟨_, _, _, fin _ _ _ _ f2, Ft_t F2 f3, f2, hr.2⟩
    · obtain ⟨v1, v2, v3⟩ := VV_b k2 h5
      rw [← v1]
      have cb : iN b < VV u n p ↔ (b : Int) < (VV u n p).toInt := by rw [Int32.lt_iff_toInt_lt, iN_int (by omega)]
      have ca : VV u n p < iN a ↔ (VV u n p).toInt < (a : Int) := by rw [Int32.lt_iff_toInt_lt, iN_int (by omega)]
      by_cases hbx : iN b < VV u n p
      · have := cb.mp hbx
        rw [if_pos (Or.inr hbx), if_neg (by rw [inB_iff]; omega)]
        exact ⟨_, _, _, fin _ _ _ _ f2, Ft_t F2 f3, f2, hr.2⟩
      · rw [if_neg (by rintro (z | z); exact h5 z; exact hbx z)]
        have hbi : ¬ (b : Int) < (VV u n p).toInt := fun z => hbx (cb.mpr z)
        have st2 : run 4 185 14 [.ref 72, .int (iN a), .int (iN b), .int (iN p), xU] [.int (VV u n p)] (up2 S 72 28 (iN (rn dg u n p)), G, Z) = if ¬ VV u n p < iN a then some (some (.int (VV u n p)), (up2 S 72 28 (iN (rn dg u n p)), G, Z)) else some (some (.int (VV u n p)), (flt (up2 S 72 28 (iN (rn dg u n p))) 1 p, G, Z)) := by
          refine Eq.trans (b185_14 hZ.k72) ?_
          rw [mI_t]
          refine Eq.trans (if_neg (fun z => z h2.f)) (Eq.trans b185_23 ?_)
          by_cases q : VV u n p < iN a
          · rw [if_neg (fun z => z q), if_neg (fun z => z q)]
            refine Eq.trans (b185_29 hZ.k72) ?_
            rw [show (1 : Int32) = iN 1 from rfl, m_fails hZ]
            exact b185_35
          · rw [if_pos q, if_pos q]
            exact b185_35
        by_cases hax : VV u n p < iN a
        · have := ca.mp hax
          rw [if_neg (by rw [inB_iff]; omega)]
          refine ⟨_, _, VV u n p, Eq.trans st2 (if_neg (fun z => z hax)), Ft_t F2 f3, f2, hr.2⟩
        · have hai : ¬ (VV u n p).toInt < (a : Int) := fun z => hax (ca.mpr z)
          rw [if_pos (by rw [inB_iff]; omega)]
          exact ⟨_, _, Eq.trans st2 (if_pos hax), F2, h2, by rw [nx_e q1, q2]⟩
  · rw [if_neg k2, m_digits_n hZ h1.t (by omega) up2_s k2]
    obtain ⟨f1, f2, f3⟩ := h1.fl (w := 0) (p := p) (by decide) (by omega)
    exact ⟨_, _, 0, fin _ _ _ _ f2, Ft_t F1 f3, f2, hpn⟩
end MAM
