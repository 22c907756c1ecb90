/-! THE MODEL'S READER: a story's clause whole -/
section MC2
variable {S : aI} {G : aL} {Z : aZ} {u : Nat → Int32} {n s r c d e p i : Nat} {L : List Int32}
theorem MF.fin (h : MF S u n s e r) {a x : Nat} {v : Int32} (ha : 88 ≤ a) : MF (up2 S a x v) u n s e r := h.oth (by omega) (by omega)
theorem m_sc243 (hZ : Shp Z) {x : Nat} (hx : x < 280) {a b d : Int32} : run 10 187 243 [.ref 72, .int a, .int b, .int d, .int (iN x)] [] (S, G, Z) = some (none, (up2 S 93 x (S 72 31), G, Z)) := by
  refine Eq.trans (b187_243 hZ.k72 hZ.kr72_44 (hZ.ir72_44 (ib_iN (by omega) (by omega)))) ?_
  rw [hZ.r72_44, iN_clamp (by omega), mI_t, wI_t]
theorem stC_f {x p1 m : Nat} {k : Int32} : stC S x p1 k m 89 x = k ∧ stC S x p1 k m 92 x = iN m ∧ Fk s x S (stC S x p1 k m) := by
  unfold stC
  refine ⟨by rw [up2_a (by decide), up2_s], up2_s, Fk_t (Fk_f (Ft_w (j := 28) (v := iN p1) (by decide) (by decide))) (Fk_t (Fk_w (a := 89) (v := k) (by decide) (by decide)) (Fk_w (by decide) (by decide)))⟩
def lft (kd : Nat) (who num : Int32) : aQ → (Nat × Nat × aK) ⊕ Nat
  | .inr e => .inr e
  | .inl (p2, c2, l2) => .inl (p2, c2, (kd, who, num, l2))
theorem ifT_cl {kd p1 c : Nat} {who num : Int32} {q : (Nat × Nat × aK) ⊕ Nat} (h14 : kd ≠ 14) (h15 : kd ≠ 15) (hq : (if kd = 15 ∨ (kd ≠ 14 ∧ KK u n p1 = 19) then (match par u n 810 true false false 0 (if kd = 15 then p1 else nx u n p1) c [] with
        | none => none
        | some (.inr e) => some (.inr e)
        | some (.inl (p2, c2, l2)) => some (.inl (p2, c2, ((kd, who, num, l2) : aK)))) else some (.inl (p1, c, ((kd, who, num, []) : aK)))) = some q) : ∃ w, ifT u n p1 c = some w ∧ q = lft kd who num w := by
  unfold ifT
  by_cases k : KK u n p1 = 19
  · rw [if_pos (Or.inr ⟨h14, k⟩), if_neg h15] at hq
    rw [if_pos k]
    cases hp : par u n 810 true false false 0 (nx u n p1) c [] with
    | none => rw [hp] at hq; cases hq
    | some w =>
      rw [hp] at hq
      refine ⟨w, rfl, ?_⟩
      rcases w with ⟨p2, c2, l2⟩ | e
      · cases hq; rfl
      · cases hq; rfl
  · rw [if_neg (by rintro (z | z); exact h15 z; exact k z.2)] at hq
    rw [if_neg k]
    cases hq
    exact ⟨_, rfl, rfl⟩
theorem m_sc (hZ : Shp Z) (h : MP S u n s p c L) (hi : i ≤ 14) (hc : c ≤ 60) (hB : 3 * L.length ≤ 6 * c + p) {q : (Nat × Nat × aK) ⊕ Nat} (hq : cl u n false i (hpF S s i) p c = some q) {x0 : Nat} (hx0 : i < 14 → x0 = 14 * s + i) : OkK S G Z u n s x0 L (call 187 [.ref 72, .int (iN i)] (S, G, Z)) q := by
  obtain ⟨c1, c2, c3⟩ := m_sc1 (G := G) (i := i) hZ h hi
  have hn := h.t.1
  have hpn := h.r1
  have hs := h.s2
  unfold cl at hq
  have mbv : mb false (KK u n p) = decide (KK u n p = 14 ∨ KK u n p = 15 ∨ KK u n p = 16) := rfl
  rw [mbv] at hq
  by_cases k : KK u n p = 14 ∨ KK u n p = 15 ∨ KK u n p = 16
  · rw [decide_eq_true k, if_neg (by decide)] at hq
    by_cases hb : 14 ≤ i ∨ (KK u n p = 14 ∧ hpF S s i = true)
    · rw [if_pos hb] at hq
      cases hq
      rw [c2 k hb]
      obtain ⟨f1, f2, f3⟩ := h.fl (w := 4) (p := p) (by decide) (by omega)
      exact ⟨_, _, rfl, Fk_f f3, f2, by omega⟩
    · rw [if_neg hb] at hq
      rw [c3 k hb]
      have hi14 : i < 14 := by omega
      have ex := hx0 hi14
      subst ex
      have hx : 14 * s + i < 280 := by omega
      have hlt : p < n := K_lt (u := u) (by omega)
      have hg := nx_gt (u := u) hlt
      have tb := tE_b (u := u) hlt
      generalize hxx : 14 * s + i = x at hx ⊢
      obtain ⟨s1, s2, s3⟩ := stC_f (S := S) (s := s) (x := x) (p1 := tE u n p) (m := L.length) (k := iN (KK u n p - 14))
      have h1 : MP (stC S x (tE u n p) (iN (KK u n p - 14)) L.length) u n s (tE u n p) c L := ((h.at tb.2).oth (by decide)).oth (by decide)
      generalize hS1 : stC S x (tE u n p) (iN (KK u n p - 14)) L.length = S1 at s1 s2 s3 h1 ⊢
      have hsk : sk u n (tE u n p) = nx u n p := (nx_e hlt).symm
      have hib : ib (iN x) 280 := ib_iN (by omega) hx
      rcases k with k | k | k
      · rw [k] at hq s1 ⊢
        have hA := m_amount (G := G) hZ (a := 1) (b := 9999) (by decide) (by decide) h1 hsk
        have hd14 : hd u n 14 (nx u n p) = (match pN u n 1 9999 (nx u n p) with
          | .inl (p1, v) => .inl (p1, 0, v)
          | .inr e => .inr e) := rfl
        rw [hd14] at hq
        have st : run 10 187 135 [.ref 72, .int (iN i), .int (iN p), .int (iN (14 - 14)), .int (iN x)] [] (S1, G, Z) = (call 185 [.ref 72, .int (iN 1), .int (iN 9999)] (S1, G, Z)).bind (fun z => run 10 187 153 [.ref 72, .int (iN i), .int (iN p), .int (iN (14 - 14)), .int (iN x)] (z.1.toList ++ [.int (iN x), .ref 90]) z.2) := by
          refine Eq.trans b187_135 (Eq.trans (if_neg (fun z => z rfl)) (Eq.trans (b187_139 hZ.k72) ?_))
          rw [hZ.r72_41]
          rfl
        have f153 : ∀ (S2 : aI) (v : Int32), run 10 187 153 [.ref 72, .int (iN i), .int (iN p), .int (iN (14 - 14)), .int (iN x)] [.int v, .int (iN x), .ref 90] (S2, G, Z) = some (none, (up2 (up2 S2 90 x v) 93 x (S2 72 31), G, Z)) := by
          intro S2 v
          refine Eq.trans (b187_153 hZ.k90 (hZ.i90 hib)) ?_
          rw [iN_clamp (by omega), wI_t, m_sc243 hZ hx, up2_a (by decide)]
        rw [st]
        cases hpn' : pN u n 1 9999 (nx u n p) with
        | inl w =>
          obtain ⟨p1, v⟩ := w
          have hA : OkA S1 G Z u n s c L (call 185 [.ref 72, .int (iN 1), .int (iN 9999)] (S1, G, Z)) (pN u n 1 9999 (nx u n p)) := hA
          rw [hpn'] at hq hA
          obtain ⟨S2, r2, a1, a2, a3, a4⟩ := hA
          rw [a1]
          dsimp only at hq
          rw [if_neg (by rintro (z | z); exact absurd z (by decide); exact z.1 rfl)] at hq
          cases hq
          refine ⟨_, r2, f153 S2 v, Fk_t s3 (Fk_t (Fk_f a2) (Fk_t (Fk_w (a := 90) (v := v) (by decide) (by decide)) (Fk_w (by decide) (by decide)))), ?_, a4, ?_⟩
          · show MP _ u n s r2 c (L ++ [])
            rw [List.append_nil]
            exact (a3.oth (by decide)).oth (by decide)
          · refine ⟨by rw [up2_a (by decide), up2_a (by decide), a2.1 92 (by decide) (by decide) (by decide) (by decide)]; exact s2, by rw [up2_s]; exact a3.e.1, fun _ => ⟨by rw [up2_a (by decide), up2_a (by decide), a2.1 89 (by decide) (by decide) (by decide) (by decide)]; exact s1, by rw [up2_a (by decide), up2_s]⟩, fun z => (by simp at z), fun z => (by simp at z), fun z => (by simp at z)⟩
        | inr e =>
          have hA : OkA S1 G Z u n s c L (call 185 [.ref 72, .int (iN 1), .int (iN 9999)] (S1, G, Z)) (pN u n 1 9999 (nx u n p)) := hA
          rw [hpn'] at hq hA
          obtain ⟨S2, r2, v, a1, a2, a3, a4⟩ := hA
          rw [a1]
          cases hq
          exact ⟨_, r2, f153 S2 v, Fk_t s3 (Fk_t (Fk_f a2) (Fk_t (Fk_w (a := 90) (v := v) (by decide) (by decide)) (Fk_w (by decide) (by decide)))), (a3.fin (by decide)).fin (by decide), by omega⟩
      · rw [k] at hq s1 ⊢
        have hd15 : hd u n 15 (nx u n p) = .inl (nx u n p, 0, 0) := rfl
        rw [hd15] at hq
        dsimp only at hq
        rw [if_pos (Or.inl rfl), if_pos rfl] at hq
        have st : run 10 187 135 [.ref 72, .int (iN i), .int (iN p), .int (iN (15 - 14)), .int (iN x)] [] (S1, G, Z) = (call 184 [.ref 72] (S1, G, Z)).bind (fun z => run 10 187 166 [.ref 72, .int (iN i), .int (iN p), .int (iN (15 - 14)), .int (iN x)] (z.1.toList ++ []) z.2) := by
          refine Eq.trans b187_135 (Eq.trans (if_pos (by decide)) (Eq.trans b187_157 (Eq.trans (if_neg (fun z => z rfl)) (b187_162 hZ.k72))))
        rw [st]
        cases hpar : par u n 810 true false false 0 (nx u n p) c [] with
        | none => rw [hpar] at hq; cases hq
        | some w =>
          rw [hpar] at hq
          have hT := m_test (G := G) hZ h1 hsk hc (by omega) hpar
          rcases w with ⟨p2, c2', l2⟩ | e
          · obtain ⟨S2, r2, a1, a2, a3, a4⟩ := hT
            rw [a1]
            cases hq
            refine ⟨_, r2, Eq.trans b187_166 (m_sc243 hZ hx), Fk_t s3 (Fk_t (Fk_f a2) (Fk_w (by decide) (by decide))), a3.oth (by decide), a4, ?_⟩
            refine ⟨by rw [up2_a (by decide), a2.1 92 (by decide) (by decide) (by decide) (by decide)]; exact s2, by rw [up2_s, a3.e.1, List.length_append], fun z => (by simp at z), fun _ => by rw [up2_a (by decide), a2.1 89 (by decide) (by decide) (by decide) (by decide)]; exact s1, fun z => (by simp at z), fun z => (by simp at z)⟩
          · obtain ⟨S2, r2, a1, a2, a3, a4⟩ := hT
            rw [a1]
            cases hq
            exact ⟨_, r2, Eq.trans b187_166 (m_sc243 hZ hx), Fk_t s3 (Fk_t (Fk_f a2) (Fk_w (by decide) (by decide))), a3.fin (by decide), a4⟩
      · rw [k] at hq s1 ⊢
        generalize hp' : nx u n p = p' at hq hg hsk
        have h2 := h1.at hg.2
        have F2 : Fk s x S1 (up2 S1 72 28 (iN p')) := Fk_f (Ft_w (by decide) (by decide))
        have k3 := K3 (u := u) (n := n) (p := p')
        have sgp := m_sign (G := G) hZ h2.t (r := p') (by omega) up2_s
        have st : run 10 187 135 [.ref 72, .int (iN i), .int (iN p), .int (iN (16 - 14)), .int (iN x)] [] (S1, G, Z) = if inB (sg u n p') 65 80 = true then run 10 187 200 [.ref 72, .int (iN i), .int (iN p), .int (iN (16 - 14)), .int (iN x)] [] (up2 S1 72 28 (iN p'), G, Z) else run 10 187 190 [.ref 72, .int (iN i), .int (iN p), .int (iN (16 - 14)), .int (iN x)] [] (up2 S1 72 28 (iN p'), G, Z) := by
          refine Eq.trans b187_135 (Eq.trans (if_pos (by decide)) (Eq.trans b187_157 (Eq.trans (if_pos (by decide)) (Eq.trans (b187_169 hZ.k72) ?_))))
          rw [m_blanks hZ h1.t (by omega) h1.p, hsk]
          refine Eq.trans (b187_173 hZ.k72) ?_
          rw [sgp]
          refine Eq.trans b187_177 ?_
          rw [m_in]
          refine Eq.trans b187_187 ?_
          rw [bI_n]
          rfl
        rw [st]
        have hd16 : hd u n 16 p' = (if KK u n p' = 3 then (match pN u n 0 1000 (nx u n p') with
          | .inl (p1, v) => .inl (p1, VV u n p', v)
          | .inr e => .inr e) else .inr (ft p' 0)) := rfl
        rw [hd16] at hq
        by_cases kk : KK u n p' = 3
        · obtain ⟨t1, t2, t3⟩ := k3.2 kk
          rw [if_pos kk] at hq
          rw [if_pos (k3.1.mpr kk)]
          have esg : sg u n p' - 65 = VV u n p' := by rw [t3]; unfold sg; rw [if_pos t1]
          have h3 : MP (up2 (up2 (up2 S1 72 28 (iN p')) 90 x (VV u n p')) 72 28 (iN (p' + 1))) u n s (p' + 1) c L := (h2.oth (by decide)).at (by omega)
          have F3 : Fk s x S1 (up2 (up2 (up2 S1 72 28 (iN p')) 90 x (VV u n p')) 72 28 (iN (p' + 1))) := Fk_t F2 (Fk_t (Fk_w (a := 90) (v := VV u n p') (by decide) (by decide)) (Fk_f (Ft_w (by decide) (by decide))))
          have q90 : up2 (up2 (up2 S1 72 28 (iN p')) 90 x (VV u n p')) 72 28 (iN (p' + 1)) 90 x = VV u n p' := by rw [up2_a (by decide), up2_s]
          have q89 : up2 (up2 (up2 S1 72 28 (iN p')) 90 x (VV u n p')) 72 28 (iN (p' + 1)) 89 x = S1 89 x := by rw [up2_a (by decide), up2_a (by decide), up2_a (by decide)]
          have q92 : up2 (up2 (up2 S1 72 28 (iN p')) 90 x (VV u n p')) 72 28 (iN (p' + 1)) 92 x = S1 92 x := by rw [up2_a (by decide), up2_a (by decide), up2_a (by decide)]
          have st2 : run 10 187 200 [.ref 72, .int (iN i), .int (iN p), .int (iN (16 - 14)), .int (iN x)] [] (up2 S1 72 28 (iN p'), G, Z) = (call 185 [.ref 72, .int (iN 0), .int (iN 1000)] (up2 (up2 (up2 S1 72 28 (iN p')) 90 x (VV u n p')) 72 28 (iN (p' + 1)), G, Z)).bind (fun z => run 10 187 238 [.ref 72, .int (iN i), .int (iN p), .int (iN (16 - 14)), .int (iN x)] (z.1.toList ++ [.int (iN x), .ref 91]) z.2) := by
            refine Eq.trans (b187_200 hZ.k72) ?_
            rw [sgp, hZ.r72_41]
            show run 10 187 210 [.ref 72, .int (iN i), .int (iN p), .int (iN (16 - 14)), .int (iN x)] [.int (sg u n p'), .int (iN x), .ref 90] (up2 S1 72 28 (iN p'), G, Z) = _
            refine Eq.trans (b187_210 hZ.k90 (hZ.i90 hib) hZ.k72) ?_
            have w1 : wI (up2 S1 72 28 (iN p'), G, Z) 90 x (VV u n p') = (up2 (up2 S1 72 28 (iN p')) 90 x (VV u n p'), G, Z) := rfl
            have m28 : mI (up2 (up2 S1 72 28 (iN p')) 90 x (VV u n p'), G, Z) 72 28 + 1 = iN (p' + 1) := by rw [mI_t, up2_a (by decide), up2_s, iN_succ]
            rw [hZ.r72_42, iN_clamp (by omega), esg, w1, m28]
            rfl
          generalize up2 (up2 (up2 S1 72 28 (iN p')) 90 x (VV u n p')) 72 28 (iN (p' + 1)) = S3 at h3 F3 q90 q89 q92 st2
          rw [st2]
          have hA := m_amount (G := G) hZ (a := 0) (b := 1000) (by decide) (by decide) h3 (show sk u n (p' + 1) = nx u n p' by rw [nx_e t1, t2])
          have hA : OkA S3 G Z u n s c L (call 185 [.ref 72, .int (iN 0), .int (iN 1000)] (S3, G, Z)) (pN u n 0 1000 (nx u n p')) := hA
          have hg' := nx_gt (u := u) t1
          cases hpn' : pN u n 0 1000 (nx u n p') with
          | inl w =>
            obtain ⟨p1, v⟩ := w
            rw [hpn'] at hq hA
            obtain ⟨S4, r4, a1, a2, a3, a4⟩ := hA
            rw [a1]
            dsimp only at hq
            obtain ⟨w, hif, hq⟩ := ifT_cl (kd := 16) (by decide) (by decide) hq
            obtain ⟨z1, z2, z3⟩ := pN_b hpn'
            have hg3 := nx_gt (u := u) z1
            · have hI := m_ifTest (G := G) hZ (a3.oth (a := 91) (j := x) (v := v) (by decide)) a4 hc (by omega) hif
              have st3 : run 10 187 238 [.ref 72, .int (iN i), .int (iN p), .int (iN (16 - 14)), .int (iN x)] [.int v, .int (iN x), .ref 91] (S4, G, Z) = (call 188 [.ref 72] (up2 S4 91 x v, G, Z)).bind (fun z => run 10 187 243 [.ref 72, .int (iN i), .int (iN p), .int (iN (16 - 14)), .int (iN x)] (z.1.toList ++ []) z.2) := by
                refine Eq.trans (b187_238 hZ.k91 (hZ.i91 hib) hZ.k72) ?_
                rw [iN_clamp (by omega), wI_t]
              show OkK S G Z u n s x L (run 10 187 238 [.ref 72, .int (iN i), .int (iN p), .int (iN (16 - 14)), .int (iN x)] [.int v, .int (iN x), .ref 91] (S4, G, Z)) q
              rw [st3]
              have F4 : Fk s x S (up2 S4 91 x v) := Fk_t s3 (Fk_t F3 (Fk_t (Fk_f a2) (Fk_w (by decide) (by decide))))
              have e4 : ∀ a, a = 89 ∨ a = 90 ∨ a = 92 → up2 S4 91 x v a x = S3 a x := fun a ha => by rw [up2_a (by omega), a2.1 a (by omega) (by omega) (by omega) (by omega)]
              rcases w with ⟨p2, c2', l2⟩ | e
              · obtain ⟨S5, r5, b1, b2, b3, b4⟩ := hI
                rw [b1]
                subst hq
                have e5 : ∀ a, a = 89 ∨ a = 90 ∨ a = 91 ∨ a = 92 → up2 S5 93 x (S5 72 31) a x = up2 S4 91 x v a x := fun a ha => by rw [up2_a (by omega), b2.1 a (by omega) (by omega) (by omega) (by omega)]
                refine ⟨_, r5, m_sc243 hZ hx, Fk_t F4 (Fk_t (Fk_f b2) (Fk_w (by decide) (by decide))), b3.oth (by decide), b4, ?_⟩
                refine ⟨by rw [e5 92 (by omega), e4 92 (by omega), q92]; exact s2, by rw [up2_s, b3.e.1, List.length_append], fun z => (by simp at z), fun z => (by simp at z), fun _ => ⟨by rw [e5 89 (by omega), e4 89 (by omega), q89]; exact s1, by rw [e5 90 (by omega), e4 90 (by omega), q90], by rw [e5 91 (by omega), up2_s]⟩, fun z => (by simp at z)⟩
              · obtain ⟨S5, r5, b1, b2, b3, b4⟩ := hI
                rw [b1]
                subst hq
                exact ⟨_, r5, m_sc243 hZ hx, Fk_t F4 (Fk_t (Fk_f b2) (Fk_w (by decide) (by decide))), b3.fin (by decide), b4⟩
          | inr e =>
            rw [hpn'] at hq hA
            obtain ⟨S4, r4, v, a1, a2, a3, a4⟩ := hA
            rw [a1]
            cases hq
            refine ⟨up2 (up2 S4 91 x v) 93 x (up2 S4 91 x v 72 31), r4, ?_, Fk_t s3 (Fk_t F3 (Fk_t (Fk_f a2) (Fk_t (Fk_w (a := 91) (v := v) (by decide) (by decide)) (Fk_w (by decide) (by decide))))), (a3.fin (by decide)).fin (by decide), by omega⟩
            refine Eq.trans (b187_238 hZ.k91 (hZ.i91 hib) hZ.k72) ?_
            rw [iN_clamp (by omega), wI_t, m_ifTest_f hZ (a3.fin (by decide))]
            exact m_sc243 hZ hx
        · rw [if_neg kk] at hq
          cases hq
          rw [if_neg (fun z => kk (k3.1.mp z)), b187_190 hZ.k72, mI_t, up2_s, show (0 : Int32) = iN 0 from rfl, m_fails hZ]
          obtain ⟨f1, f2, f3⟩ := h2.fl (w := 0) (p := p') (by decide) (by omega)
          exact ⟨_, p', b187_199, Fk_t s3 (Fk_t F2 (Fk_f f3)), f2, by omega⟩
  · rw [decide_eq_false k, if_pos rfl] at hq
    cases hq
    rw [c1 k]
    obtain ⟨f1, f2, f3⟩ := h.fl (w := 0) (p := p) (by decide) (by omega)
    exact ⟨_, _, rfl, Fk_f f3, f2, by omega⟩
end MC2
