/-! THE MODEL'S READER: a rule's clause -/
section MRL
variable {S : aI} {G : aL} {Z : aZ} {u : Nat → Int32} {n s r c d e p i : Nat} {L : List Int32}
theorem m_rc139 (hZ : Shp Z) {x : Nat} (hx : x < 280) {a b : Int32} : run 10 189 139 [.ref 72, .int a, .int b, .int (iN x)] [] (S, G, Z) = some (none, (up2 S 93 x (S 72 31), G, Z)) := by
  refine Eq.trans (b189_139 hZ.k72 hZ.kr72_44 (hZ.ir72_44 (ib_iN (by omega) (by omega)))) ?_
  rw [hZ.r72_44, iN_clamp (by omega), mI_t, wI_t]
theorem m_rc125 (hZ : Shp Z) {x : Nat} (hx : x < 280) {a b : Int32} : run 10 189 125 [.ref 72, .int a, .int b, .int (iN x)] [] (S, G, Z) = (call 188 [.ref 72] (up2 S 92 x (S 72 31), G, Z)).bind (fun z => run 10 189 139 [.ref 72, .int a, .int b, .int (iN x)] (z.1.toList ++ []) z.2) := by
  refine Eq.trans (b189_125 hZ.k72 hZ.kr72_43 (hZ.ir72_43 (ib_iN (by omega) (by omega)))) ?_
  rw [hZ.r72_43, iN_clamp (by omega), mI_t, wI_t]
/-- a fault before the test of a rule -/
theorem m_rcf (hZ : Shp Z) {x : Nat} (hx : x < 280) {a b : Int32} (h : MF S u n s e r) (hr : r ≤ 1000) : ∃ (S' : aI) (r' : Nat), run 10 189 104 [.ref 72, .int a, .int b, .int (iN x)] [] (S, G, Z) = some (none, (S', G, Z)) ∧ Fk s x S S' ∧ MF S' u n s e r' ∧ r' ≤ 1000 := by
  refine ⟨up2 (up2 S 92 x (S 72 31)) 93 x (up2 S 92 x (S 72 31) 72 31), r, ?_, Fk_t (Fk_w (a := 92) (v := S 72 31) (by decide) (by decide)) (Fk_w (by decide) (by decide)), (h.fin (by decide)).fin (by decide), hr⟩
  refine Eq.trans (b189_104 hZ.k72) ?_
  rw [mI_t]
  refine Eq.trans (if_pos h.ne) ?_
  rw [m_rc125 hZ hx, m_ifTest_f hZ (h.fin (by decide))]
  exact m_rc139 hZ hx
theorem m_rc (hZ : Shp Z) (h : MP S u n s p c L) (hi : i ≤ 14) (hc : c ≤ 60) (hB : 3 * L.length ≤ 6 * c + p) {hp : Bool} {q : (Nat × Nat × aK) ⊕ Nat} (hq : cl u n true i hp p c = some q) {x0 : Nat} (hx0 : i < 14 → x0 = 14 * s + i) : OkK S G Z u n s x0 L (call 189 [.ref 72, .int (iN i)] (S, G, Z)) q := by
  have hn := h.t.1
  have hpn := h.r1
  have hs := h.s2
  unfold cl at hq
  have mbv : mb true (KK u n p) = decide (KK u n p = 17) := rfl
  rw [mbv] at hq
  have e0 : call 189 [.ref 72, .int (iN i)] (S, G, Z) = run 10 189 12 [.ref 72, .int (iN i), .int (iN p), xU] [.int (bI (stW u n p 3))] (S, G, Z) := by
    refine Eq.trans e189 (Eq.trans (b189_0 hZ.k72) ?_)
    rw [show (5 : Nat) = 3 + 2 from rfl, m_stands hZ h.t (by omega) h.p (by decide), mI_t, h.p]
    rfl
  rw [e0, b189_12, bI_n]
  by_cases k : KK u n p = 17
  · obtain ⟨t1, t2, t3⟩ := (K_w (u := u) (n := n) (p := p) (j := 3) (by decide)).2 k
    rw [decide_eq_true k, if_neg (by decide)] at hq
    rw [(K_w (j := 3) (by decide)).1.mpr k, if_pos rfl, b189_22]
    by_cases hb : 14 ≤ i ∨ (KK u n p = 14 ∧ hp = true)
    · rw [if_pos hb] at hq
      cases hq
      have i14 : i = 14 := by omega
      rw [if_neg (show ¬ ¬ iN i = 14 from fun z => z (by rw [i14]; rfl)), b189_28 hZ.k72, show (4 : Int32) = iN 4 from rfl, m_fails hZ]
      obtain ⟨f1, f2, f3⟩ := h.fl (w := 4) (p := p) (by decide) (by omega)
      exact ⟨_, _, b189_34, Fk_f f3, f2, by omega⟩
    · rw [if_neg hb, k] at hq
      have hi14 : i < 14 := by omega
      have ex := hx0 hi14
      subst ex
      have hx : 14 * s + i < 280 := by omega
      have hg := nx_gt (u := u) t1
      rw [if_pos (show ¬ iN i = 14 from fun z => by have := (iN_inj (b := 14) (by omega) (by omega)).mp z; omega)]
      have e4 : slen.getD 3 0 = 4 := rfl
      rw [e4] at t2 t3
      have h1 : MP (up2 (up2 S 72 28 (iN (p + 4))) 92 (14 * s + i) (iN L.length)) u n s (p + 4) c L := (h.at t3).oth (by decide)
      have F1 : Fk s (14 * s + i) S (up2 (up2 S 72 28 (iN (p + 4))) 92 (14 * s + i) (iN L.length)) := Fk_t (Fk_f (Ft_w (j := 28) (v := iN (p + 4)) (by decide) (by decide))) (Fk_w (by decide) (by decide))
      have hib : ib (iN (14 * s + i)) 280 := ib_iN (by omega) hx
      have st : run 10 189 35 [.ref 72, .int (iN i), .int (iN p), xU] [] (S, G, Z) = (call 185 [.ref 72, .int (iN 0), .int (iN 9)] (up2 (up2 S 72 28 (iN (p + 4))) 92 (14 * s + i) (iN L.length), G, Z)).bind (fun z => run 10 189 77 [.ref 72, .int (iN i), .int (iN p), .int (iN (14 * s + i))] (z.1.toList ++ [.int (iN (14 * s + i)), .ref 90]) z.2) := by
        have w1 : wI (S, G, Z) 72 28 (mI (S, G, Z) 72 28 + 4) = (up2 S 72 28 (iN (p + 4)), G, Z) := by
          rw [mI_t, h.p, show (4 : Int32) = iN 4 from rfl, iN_add, wI_t]
        have m30 : mI (up2 S 72 28 (iN (p + 4)), G, Z) 72 30 = iN s := by rw [mI_t, up2_k (by decide)]; exact h.s1
        have m31 : mI (up2 S 72 28 (iN (p + 4)), G, Z) 72 31 = iN L.length := by rw [mI_t, up2_k (by decide)]; exact h.e.1
        refine Eq.trans (b189_35 hZ.k72 hZ.kr72_43 (hZ.ir72_43 (by rw [w1, m30, x14i hs hi14]; exact hib))) ?_
        rw [w1, m30, m31, x14i hs hi14, hZ.r72_43, hZ.r72_41, iN_clamp (by omega)]
        rfl
      rw [st]
      generalize hxx : 14 * s + i = x at hx hib h1 F1 ⊢
      generalize hS1 : up2 (up2 S 72 28 (iN (p + 4))) 92 x (iN L.length) = S1 at h1 F1 ⊢
      have hA := m_amount (G := G) hZ (a := 0) (b := 9) (by decide) (by decide) h1 (show sk u n (p + 4) = nx u n p by rw [nx_e t1, t2])
      have hA : OkA S1 G Z u n s c L (call 185 [.ref 72, .int (iN 0), .int (iN 9)] (S1, G, Z)) (pN u n 0 9 (nx u n p)) := hA
      have hd17 : hd u n 17 (nx u n p) = (match pN u n 0 9 (nx u n p) with
        | .inr e => .inr e
        | .inl (p1, m) => if KK u n p1 = 18 then (match pN u n 1 9999 (nx u n p1) with
          | .inl (p2, v) => .inl (p2, m, v)
          | .inr e => .inr e) else .inr (ft p1 0)) := rfl
      rw [hd17] at hq
      have f77 : ∀ (S2 : aI) (v : Int32), run 10 189 77 [.ref 72, .int (iN i), .int (iN p), .int (iN x)] [.int v, .int (iN x), .ref 90] (S2, G, Z) = if ¬ S2 72 29 = 0 then run 10 189 104 [.ref 72, .int (iN i), .int (iN p), .int (iN x)] [] (up2 S2 90 x v, G, Z) else run 10 189 85 [.ref 72, .int (iN i), .int (iN p), .int (iN x)] [] (up2 S2 90 x v, G, Z) := by
        intro S2 v
        refine Eq.trans (b189_77 hZ.k90 (hZ.i90 hib) hZ.k72) ?_
        rw [iN_clamp (by omega), wI_t, mI_t, up2_a (by decide)]
      cases hpn' : pN u n 0 9 (nx u n p) with
      | inr e =>
        rw [hpn'] at hq hA
        obtain ⟨S2, r2, v, a1, a2, a3, a4⟩ := hA
        rw [a1]
        cases hq
        have a5 := a3.fin (a := 90) (x := x) (v := v) (by decide)
        obtain ⟨S3, r3, b1, b2, b3, b4⟩ := m_rcf (G := G) (a := iN i) (b := iN p) hZ hx a5 (by omega)
        exact ⟨S3, r3, Eq.trans (f77 S2 v) (Eq.trans (if_pos a3.ne) b1), Fk_t F1 (Fk_t (Fk_f a2) (Fk_t (Fk_w (a := 90) (v := v) (by decide) (by decide)) b2)), b3, b4⟩
      | inl w =>
        obtain ⟨p1, m⟩ := w
        rw [hpn'] at hq hA
        obtain ⟨S2, r2, a1, a2, a3, a4⟩ := hA
        obtain ⟨z1, z2, z3⟩ := pN_b hpn'
        have hg3 := nx_gt (u := u) z1
        rw [a1]
        dsimp only at hq
        have a5 := a3.oth (a := 90) (j := x) (v := m) (by decide)
        have F2 : Fk s x S (up2 S2 90 x m) := Fk_t F1 (Fk_t (Fk_f a2) (Fk_w (by decide) (by decide)))
        have q90 : up2 S2 90 x m 90 x = m := up2_s
        show OkK S G Z u n s x L (run 10 189 77 [.ref 72, .int (iN i), .int (iN p), .int (iN x)] [.int m, .int (iN x), .ref 90] (S2, G, Z)) q
        rw [f77, if_neg (fun z => z a3.f)]
        generalize up2 S2 90 x m = S3 at a5 F2 q90 ⊢
        have hp1n : p1 ≤ n := by omega
        have tk : run 10 189 85 [.ref 72, .int (iN i), .int (iN p), .int (iN x)] [] (S3, G, Z) = run 10 189 92 [.ref 72, .int (iN i), .int (iN p), .int (iN x)] [.int (bI (stW u n p1 4))] (up2 S3 72 28 (iN (if stW u n p1 4 = true then p1 + slen.getD 4 0 else p1)), G, Z) := by
          refine Eq.trans (b189_85 hZ.k72) ?_
          rw [show (6 : Nat) = 4 + 2 from rfl, m_takes hZ (by decide) a5.t (by have := a5.r1; omega) a5.p a4 (by omega)]
          rfl
        rw [tk, b189_92, bI_n]
        by_cases k18 : KK u n p1 = 18
        · obtain ⟨y1, y2, y3⟩ := (K_w (u := u) (n := n) (p := p1) (j := 4) (by decide)).2 k18
          rw [if_pos k18] at hq
          rw [(K_w (j := 4) (by decide)).1.mpr k18, if_pos rfl, if_pos rfl]
          have a6 := a5.at y3
          have hA := m_amount (G := G) hZ (a := 1) (b := 9999) (by decide) (by decide) a6 (show sk u n (p1 + slen.getD 4 0) = nx u n p1 by rw [nx_e y1, y2])
          have F3 : Fk s x S (up2 S3 72 28 (iN (p1 + slen.getD 4 0))) := Fk_t F2 (Fk_f (Ft_w (by decide) (by decide)))
          have q90' : up2 S3 72 28 (iN (p1 + slen.getD 4 0)) 90 x = m := by rw [up2_a (by decide)]; exact q90
          generalize up2 S3 72 28 (iN (p1 + slen.getD 4 0)) = S4 at a6 hA F3 q90' ⊢
          have hA : OkA S4 G Z u n s c L (call 185 [.ref 72, .int (iN 1), .int (iN 9999)] (S4, G, Z)) (pN u n 1 9999 (nx u n p1)) := hA
          have st2 : run 10 189 104 [.ref 72, .int (iN i), .int (iN p), .int (iN x)] [] (S4, G, Z) = (call 185 [.ref 72, .int (iN 1), .int (iN 9999)] (S4, G, Z)).bind (fun z => run 10 189 124 [.ref 72, .int (iN i), .int (iN p), .int (iN x)] (z.1.toList ++ [.int (iN x), .ref 91]) z.2) := by
            refine Eq.trans (b189_104 hZ.k72) ?_
            rw [mI_t]
            refine Eq.trans (if_neg (fun z => z a6.f)) (Eq.trans (b189_111 hZ.k72) ?_)
            rw [hZ.r72_42]
            rfl
          rw [st2]
          have hg4 := nx_gt (u := u) y1
          have f124 : ∀ (S5 : aI) (v : Int32), run 10 189 124 [.ref 72, .int (iN i), .int (iN p), .int (iN x)] [.int v, .int (iN x), .ref 91] (S5, G, Z) = run 10 189 125 [.ref 72, .int (iN i), .int (iN p), .int (iN x)] [] (up2 S5 91 x v, G, Z) := by
            intro S5 v
            refine Eq.trans (b189_124 hZ.k91 (hZ.i91 hib)) ?_
            rw [iN_clamp (by omega), wI_t]
          cases hpn2 : pN u n 1 9999 (nx u n p1) with
          | inr e =>
            rw [hpn2] at hq hA
            obtain ⟨S5, r5, v, b1, b2, b3, b4⟩ := hA
            rw [b1]
            cases hq
            have b5 := (b3.fin (a := 91) (x := x) (v := v) (by decide)).fin (a := 92) (x := x) (v := up2 S5 91 x v 72 31) (by decide)
            refine ⟨_, r5, Eq.trans (f124 S5 v) (Eq.trans (m_rc125 hZ hx) (by rw [m_ifTest_f hZ b5]; exact m_rc139 hZ hx)), Fk_t F3 (Fk_t (Fk_f b2) (Fk_t (Fk_w (a := 91) (v := v) (by decide) (by decide)) (Fk_t (Fk_w (a := 92) (v := up2 S5 91 x v 72 31) (by decide) (by decide)) (Fk_w (by decide) (by decide))))), b5.fin (by decide), by omega⟩
          | inl w =>
            obtain ⟨p2, v⟩ := w
            rw [hpn2] at hq hA
            obtain ⟨S5, r5, b1, b2, b3, b4⟩ := hA
            rw [b1]
            dsimp only at hq
            obtain ⟨w, hif, hq⟩ := ifT_cl (kd := 17) (by decide) (by decide) hq
            obtain ⟨z4, z5, z6⟩ := pN_b hpn2
            have hg5 := nx_gt (u := u) z4
            have b5 := (b3.oth (a := 91) (j := x) (v := v) (by decide)).oth (a := 92) (j := x) (v := up2 S5 91 x v 72 31) (by decide)
            have q31 : up2 S5 91 x v 72 31 = iN L.length := by rw [up2_a (by decide)]; exact b3.e.1
            have F5 : Fk s x S (up2 (up2 S5 91 x v) 92 x (up2 S5 91 x v 72 31)) := Fk_t F3 (Fk_t (Fk_f b2) (Fk_t (Fk_w (a := 91) (v := v) (by decide) (by decide)) (Fk_w (by decide) (by decide))))
            have r92 : up2 (up2 S5 91 x v) 92 x (up2 S5 91 x v 72 31) 92 x = iN L.length := by rw [up2_s, q31]
            have r91 : up2 (up2 S5 91 x v) 92 x (up2 S5 91 x v 72 31) 91 x = v := by rw [up2_a (by decide), up2_s]
            have r90 : up2 (up2 S5 91 x v) 92 x (up2 S5 91 x v 72 31) 90 x = m := by rw [up2_a (by decide), up2_a (by decide), b2.1 90 (by decide) (by decide) (by decide) (by decide)]; exact q90'
            have st3 : run 10 189 124 [.ref 72, .int (iN i), .int (iN p), .int (iN x)] [.int v, .int (iN x), .ref 91] (S5, G, Z) = (call 188 [.ref 72] (up2 (up2 S5 91 x v) 92 x (up2 S5 91 x v 72 31), G, Z)).bind (fun z => run 10 189 139 [.ref 72, .int (iN i), .int (iN p), .int (iN x)] (z.1.toList ++ []) z.2) := Eq.trans (f124 S5 v) (m_rc125 hZ hx)
            show OkK S G Z u n s x L (run 10 189 124 [.ref 72, .int (iN i), .int (iN p), .int (iN x)] [.int v, .int (iN x), .ref 91] (S5, G, Z)) q
            rw [st3]
            generalize up2 (up2 S5 91 x v) 92 x (up2 S5 91 x v 72 31) = S6 at b5 F5 r92 r91 r90 ⊢
            have hI := m_ifTest (G := G) hZ b5 b4 hc (by omega) hif
            rcases w with ⟨p3, c3', l3⟩ | e
            · obtain ⟨S7, r7, d1, d2, d3, d4⟩ := hI
              rw [d1]
              subst hq
              have e7 : ∀ a, a = 90 ∨ a = 91 ∨ a = 92 → up2 S7 93 x (S7 72 31) a x = S6 a x := fun a ha => by rw [up2_a (by omega), d2.1 a (by omega) (by omega) (by omega) (by omega)]
              refine ⟨_, r7, m_rc139 hZ hx, Fk_t F5 (Fk_t (Fk_f d2) (Fk_w (by decide) (by decide))), d3.oth (by decide), d4, ?_⟩
              exact ⟨by rw [e7 92 (by omega)]; exact r92, by rw [up2_s, d3.e.1, List.length_append], fun z => (by simp at z), fun z => (by simp at z), fun z => (by simp at z), fun _ => ⟨by rw [e7 90 (by omega)]; exact r90, by rw [e7 91 (by omega)]; exact r91⟩⟩
            · obtain ⟨S7, r7, d1, d2, d3, d4⟩ := hI
              rw [d1]
              subst hq
              exact ⟨_, r7, m_rc139 hZ hx, Fk_t F5 (Fk_t (Fk_f d2) (Fk_w (by decide) (by decide))), d3.fin (by decide), d4⟩
        · rw [if_neg k18] at hq
          cases hq
          rw [stW_f (j := 4) (by decide) k18, if_neg (by decide), if_neg (by decide), b189_95 hZ.k72, mI_t, up2_s, show (0 : Int32) = iN 0 from rfl, m_fails hZ]
          obtain ⟨f1, f2, f3⟩ := (a5.at hp1n).fl (w := 0) (p := p1) (by decide) (by omega)
          obtain ⟨S5, r5, b1, b2, b3, b4⟩ := m_rcf (G := G) (a := iN i) (b := iN p) hZ hx f2 (by omega)
          exact ⟨S5, r5, b1, Fk_t F2 (Fk_t (Fk_f (Ft_w (j := 28) (v := iN p1) (by decide) (by decide))) (Fk_t (Fk_f f3) b2)), b3, b4⟩
  · rw [decide_eq_false k, if_pos rfl] at hq
    cases hq
    rw [stW_f (j := 3) (by decide) k, if_neg (by decide), b189_15 hZ.k72, show (0 : Int32) = iN 0 from rfl, m_fails hZ]
    obtain ⟨f1, f2, f3⟩ := h.fl (w := 0) (p := p) (by decide) (by omega)
    exact ⟨_, _, b189_21, Fk_f f3, f2, by omega⟩
end MRL
