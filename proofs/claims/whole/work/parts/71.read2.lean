/-! THE CLASS'S READER: comparisons, facts, tests -/
section RD2
variable {J : aI} {G : aL} {Z : aZ} {u : Nat → Int32} {n T k c : Nat} {l : List Int32}
theorem c_passes (hZ : Shp Z) (hn : n ≤ 400) (h : RS J u n T k c l) {w : Nat} (hw : w < 100) : call 26 [.ref 63, .int (iN w)] (J, G, Z) = if KK u n (ps u n k) = w then some (some (.int 1), (up2 J 63 3 (iN k + 1), G, Z)) else some (some (.int 0), (J, G, Z)) := by
  have kb := K_b (u := u) (n := n) (p := ps u n k)
  refine Eq.trans e26 (Eq.trans (b26_0 hZ.k63) ?_)
  rw [c_kind hZ hn h]
  refine Eq.trans b26_4 ?_
  by_cases e : KK u n (ps u n k) = w
  · rw [if_pos e, if_pos (by rw [e])]
    refine Eq.trans (b26_10 hZ.k63) ?_
    rw [mI_t, h.2.2.1, wI_t]
  · rw [if_neg e, if_neg (fun q => e ((iN_inj (by omega) (by omega)).mp q))]
    exact b26_8
theorem c_expect (hZ : Shp Z) (hn : n ≤ 400) (h : RS J u n T k c l) {w : Nat} (hw : w < 100) : call 27 [.ref 63, .int (iN w)] (J, G, Z) = if KK u n (ps u n k) = w then some (some (.int 1), (up2 J 63 3 (iN k + 1), G, Z)) else some (some (.int 0), (up2 J 63 7 (iN (ft (ps u n k) 0)), G, Z)) := by
  have kb := K_b (u := u) (n := n) (p := ps u n k)
  refine Eq.trans e27 (Eq.trans (b27_0 hZ.k63) ?_)
  rw [c_kind hZ hn h]
  refine Eq.trans b27_4 ?_
  by_cases e : KK u n (ps u n k) = w
  · rw [if_pos e, if_pos (by rw [e])]
    refine Eq.trans (b27_14 hZ.k63) ?_
    rw [mI_t, h.2.2.1, wI_t]
  · rw [if_neg e, if_neg (fun q => e ((iN_inj (by omega) (by omega)).mp q))]
    refine Eq.trans (b27_8 hZ.k63) ?_
    rw [show (0 : Int32) = iN 0 from rfl, c_refuse hZ hn h (by omega)]
    exact b27_13 rfl
def jv (j : Nat) : Int32 := if j = 0 then -1 else iN j
/-- a sum, from the loop's head to where it is known what follows -/
theorem c_sum (hZ : Shp Z) (hn : n ≤ 400) {x1 : Int32} : ∀ (f k c j m : Nat) (l : List Int32) (J : aI) (q : aQ), pS u n f (ps u n k) c l j = some q → RS J u n T k c l → c ≤ 60 → j < 100 → m ≤ ps u n k → 3 * l.length ≤ 6 * c + ps u n k → (match q with
    | .inl (p1, c1, l1) => ∃ (J1 : aI) (k1 m1 : Nat), run 3 21 6 [.ref 63, .int x1, .int (jv j), .int (iN m)] [] (J, G, Z) = run 3 21 50 [.ref 63, .int x1, .int (iN (KK u n p1)), .int (iN m1)] [] (J1, G, Z) ∧ RdF J J1 ∧ RS J1 u n T k1 c1 l1 ∧ ps u n k1 = p1 ∧ m1 < p1
    | .inr e => ∃ J1 : aI, run 3 21 6 [.ref 63, .int x1, .int (jv j), .int (iN m)] [] (J, G, Z) = some (some (.int 0), (J1, G, Z)) ∧ RdF J J1 ∧ J1 63 7 = iN e) := by
  intro f
  induction f with
  | zero => intro k c j m l J q h; cases h
  | succ f ih =>
    intro k c j m l J q h hR hc hj hm hl
    have hple := ps_le (u := u) (n := n) k
    rw [pS] at h
    by_cases h400 : m < 400
    · have pre : run 3 21 6 [.ref 63, .int x1, .int (jv j), .int (iN m)] [] (J, G, Z) = (call 22 [.ref 63] (J, G, Z)).bind (fun r => run 3 21 17 [.ref 63, .int x1, .int (jv j), .int (iN m)] (r.1.toList ++ []) r.2) := Eq.trans b21_6 (Eq.trans (if_neg (fun z => z ((iN_lt (b := 400) (by omega) (by decide)).mpr h400))) (b21_13 hZ.k63))
      have hv := c_readValue (G := G) hZ hn hR hc (by omega)
      cases hq : pV u n (ps u n k) c l with
      | inr e =>
        rw [hq] at h hv
        cases h
        obtain ⟨J1, r1, r2, r3⟩ := hv
        refine ⟨J1, ?_, r2, r3⟩
        rw [pre, r1]
        exact Eq.trans b21_17 (Eq.trans (if_neg (fun z => z rfl)) b21_20)
      | inl w =>
        obtain ⟨p1, c1, l1⟩ := w
        rw [hq] at h hv
        obtain ⟨J1, k1, r1, r2, r3, r4⟩ := hv
        obtain ⟨v1, v2, v3, v4, v5⟩ := pV_ok hq
        have g := nx_gt (u := u) v1
        have kb := K_b (u := u) (n := n) (p := p1)
        -- the join
        have hjn : ∃ J2 : aI, run 3 21 6 [.ref 63, .int x1, .int (jv j), .int (iN m)] [] (J, G, Z) = run 3 21 37 [.ref 63, .int x1, .int (jv j), .int (iN m)] [.int (iN (KK u n p1))] (J2, G, Z) ∧ RdF J J2 ∧ RS J2 u n T k1 c1 (jn j l1) := by
          have e1 : run 3 21 6 [.ref 63, .int x1, .int (jv j), .int (iN m)] [] (J, G, Z) = run 3 21 22 [.ref 63, .int x1, .int (jv j), .int (iN m)] [] (J1, G, Z) := by
            rw [pre, r1]
            exact Eq.trans b21_17 (if_pos (by decide))
          have e33 : ∀ K : aI, RS K u n T k1 c1 (jn j l1) → run 3 21 33 [.ref 63, .int x1, .int (jv j), .int (iN m)] [] (K, G, Z) = run 3 21 37 [.ref 63, .int x1, .int (jv j), .int (iN m)] [.int (iN (KK u n p1))] (K, G, Z) := by
            intro K hK
            refine Eq.trans (b21_33 hZ.k63) ?_
            rw [c_kind hZ hn hK, r4]
            rfl
          by_cases j0 : j = 0
          · have ej : jn j l1 = l1 := if_pos j0
            refine ⟨J1, ?_, r2, by rw [ej]; exact r3⟩
            refine Eq.trans e1 (Eq.trans b21_22 (Eq.trans (if_pos (if_pos j0)) (e33 J1 (by rw [ej]; exact r3))))
          · have ej : jn j l1 = l1 ++ [-(iN j)] := if_neg j0
            have ev : jv j = iN j := if_neg j0
            obtain ⟨J2, s1, s2, s3⟩ := c_putStep (G := G) hZ r3 (show l1.length < 400 by omega) (s := -(iN j))
            refine ⟨J2, ?_, RdF_t r2 s2, by rw [ej]; exact s3⟩
            refine Eq.trans e1 (Eq.trans b21_22 (Eq.trans (if_neg (by rw [ev]; exact iN_ne1 (by omega))) (Eq.trans (b21_27 hZ.k63) ?_)))
            rw [show -(jv j) = -(iN j) by rw [ev], s1]
            exact e33 J2 (by rw [ej]; exact s3)
        obtain ⟨J2, s1, s2, s3⟩ := hjn
        have jl := jn_len (j := j) (l := l1)
        dsimp only at h
        by_cases hk : KK u n p1 = 7 ∨ KK u n p1 = 8
        · rw [if_pos hk] at h
          have hp1 : p1 < n := K_lt (u := u) (by omega)
          have g1 := nx_gt (u := u) hp1
          have hR2 := RS_at s3 (by rw [r4]; exact hp1)
          have en : ps u n (k1 + 1) = nx u n p1 := by rw [ps, r4]
          rw [← en] at h
          have go : run 3 21 37 [.ref 63, .int x1, .int (jv j), .int (iN m)] [.int (iN (KK u n p1))] (J2, G, Z) = run 3 21 6 [.ref 63, .int x1, .int (jv (KK u n p1)), .int (iN (m + 1))] [] (up2 J2 63 3 (iN k1 + 1), G, Z) := by
            have ev : jv (KK u n p1) = iN (KK u n p1) := if_neg (by omega)
            have e109 : run 3 21 109 [.ref 63, .int x1, .int (iN (KK u n p1)), .int (iN m)] [] (J2, G, Z) = run 3 21 6 [.ref 63, .int x1, .int (iN (KK u n p1)), .int (iN (m + 1))] [] (up2 J2 63 3 (iN k1 + 1), G, Z) := by
              refine Eq.trans (b21_109 hZ.k63) ?_
              rw [mI_t, s3.2.2.1, wI_t, iN_succ, iN_succ]
            rw [ev]
            refine Eq.trans b21_37 ?_
            rcases hk with hk | hk
            · rw [hk] at e109 ⊢
              exact Eq.trans (if_pos rfl) e109
            · rw [hk] at e109 ⊢
              exact Eq.trans (if_neg (by decide)) (Eq.trans b21_44 (Eq.trans (if_pos rfl) e109))
          have nxt := ih (k1 + 1) c1 (KK u n p1) (m + 1) (jn j l1) (up2 J2 63 3 (iN k1 + 1)) q h hR2 (by omega) (by omega) (by rw [en]; omega) (by rw [en]; omega)
          have f2 : RdF J (up2 J2 63 3 (iN k1 + 1)) := RdF_t s2 (RdF_w (by omega))
          rcases q with ⟨p2, c2, l2⟩ | e
          · obtain ⟨J3, k3, m3, t1, t2, t3, t4, t5⟩ := nxt
            exact ⟨J3, k3, m3, Eq.trans s1 (Eq.trans go t1), RdF_t f2 t2, t3, t4, t5⟩
          · obtain ⟨J3, t1, t2, t3⟩ := nxt
            exact ⟨J3, Eq.trans s1 (Eq.trans go t1), RdF_t f2 t2, t3⟩
        · rw [if_neg hk] at h
          cases h
          refine ⟨J2, k1, m, ?_, s2, s3, r4, by omega⟩
          refine Eq.trans s1 (Eq.trans b21_37 (Eq.trans (if_neg (fun z => hk (Or.inl ((iN_inj (b := 7) (by omega) (by omega)).mp z)))) (Eq.trans b21_44 (if_neg (fun z => hk (Or.inr ((iN_inj (b := 8) (by omega) (by omega)).mp z)))))))
    · -- 400 times round: nothing is left
      have hp : ps u n k = n := by omega
      have hK : KK u n (ps u n k) = 0 := by unfold KK; rw [if_neg (by omega)]
      have hq : pV u n (ps u n k) c l = .inr (ft (ps u n k) 0) := by
        unfold pV
        rw [hK, if_neg (by decide), if_neg (by decide)]
      rw [hq] at h
      cases h
      refine ⟨_, ?_, RdF_w (by omega), up2_s⟩
      refine Eq.trans b21_6 (Eq.trans (if_pos (fun z => h400 ((iN_lt (b := 400) (by omega) (by decide)).mp z))) (Eq.trans (b21_125 hZ.k63) ?_))
      rw [show (0 : Int32) = iN 0 from rfl, c_refuse hZ hn hR (by omega)]
      exact b21_130 rfl
theorem c_compare (hZ : Shp Z) (hn : n ≤ 400) (hR : RS J u n T k c l) (hc : c ≤ 60) (hl : 3 * l.length ≤ 6 * c + ps u n k) {q : aQ} (h : pC u n (ps u n k) c l = some q) : OkR J u n T G Z (call 21 [.ref 63] (J, G, Z)) q := by
  have hple := ps_le (u := u) (n := n) k
  have pre : call 21 [.ref 63] (J, G, Z) = run 3 21 6 [.ref 63, .int (-1), .int (jv 0), .int (iN 0)] [] (J, G, Z) := Eq.trans e21 b21_0
  rw [pre]
  unfold pC at h
  cases h1 : pS u n 70 (ps u n k) c l 0 with
  | none => rw [h1] at h; cases h
  | some q1 =>
    rw [h1] at h
    have s1 := c_sum (G := G) (x1 := -1) hZ hn _ _ _ _ 0 _ _ _ h1 hR hc (by omega) (by omega) hl
    rcases q1 with ⟨p1, c1, l1⟩ | e
    · obtain ⟨a1, a2, a3, a4, a5, a6⟩ := pS_b _ _ _ _ _ _ _ _ hple h1
      have a7 := a6 0 (by omega)
      rw [if_pos rfl] at a7
      obtain ⟨J1, k1, m1, r1, r2, r3, r4, r5⟩ := s1
      have kb := K_b (u := u) (n := n) (p := p1)
      have h63 : run 3 21 50 [.ref 63, .int (-1), .int (iN (KK u n p1)), .int (iN m1)] [] (J1, G, Z) = run 3 21 71 [.ref 63, .int (-1), .int (iN (KK u n p1)), .int (iN m1)] [.int (bI (inB (iN (KK u n p1)) 9 13))] (J1, G, Z) := by
        refine Eq.trans b21_50 (Eq.trans (if_pos rfl) (Eq.trans b21_63 ?_))
        rw [c_within, l32_9, show (13 : Int32).toInt = 13 by decide]
        rfl
      have h71 := Eq.trans h63 b21_71
      rw [bI_n] at h71
      rw [r1, h71]
      dsimp only at h
      by_cases hk : 9 ≤ KK u n p1 ∧ KK u n p1 ≤ 13
      · rw [if_pos hk] at h
        rw [if_pos (show inB (iN (KK u n p1)) 9 13 = true from inB_iff.mpr (by rw [iN_int (by omega)]; omega)), b21_80 hZ.k63, mI_t, r3.2.2.2.1]
        by_cases h60 : 60 ≤ c1
        · rw [if_pos h60] at h
          cases h
          rw [if_neg (show ¬ iN c1 < 60 from fun z => by have := (iN_lt (b := 60) (by omega) (by decide)).mp z; omega), b21_89 hZ.k63, show (3 : Int32) = iN 3 from rfl, c_refuse hZ hn r3 (by omega), r4]
          refine ⟨_, b21_94 rfl, RdF_t r2 (RdF_w (by omega)), up2_s⟩
        · rw [if_neg h60] at h
          rw [if_pos (show iN c1 < 60 from (iN_lt (b := 60) (by omega) (by decide)).mpr (by omega)), b21_95 hZ.k63, mI_t, r3.2.2.2.1, wI_t]
          have hp1 : p1 < n := K_lt (u := u) (by omega)
          have g1 := nx_gt (u := u) hp1
          have hR2 := RS_at (RS_c r3) (by rw [r4]; exact hp1)
          have en : ps u n (k1 + 1) = nx u n p1 := by rw [ps, r4]
          have f2 : RdF J (up2 (up2 J1 63 6 (iN c1 + 1)) 63 3 (iN k1 + 1)) := RdF_t r2 (RdF_t (RdF_w (by omega)) (RdF_w (by omega)))
          have e109 : run 3 21 109 [.ref 63, .int (iN (KK u n p1)), .int (-1), .int (iN m1)] [] (up2 J1 63 6 (iN c1 + 1), G, Z) = run 3 21 6 [.ref 63, .int (iN (KK u n p1)), .int (jv 0), .int (iN (m1 + 1))] [] (up2 (up2 J1 63 6 (iN c1 + 1)) 63 3 (iN k1 + 1), G, Z) := by
            refine Eq.trans (b21_109 hZ.k63) ?_
            rw [mI_t, up2_k (by decide), r3.2.2.1, wI_t, iN_succ, iN_succ]
            rfl
          rw [e109]
          rw [← en] at h
          cases h2 : pS u n 70 (ps u n (k1 + 1)) (c1 + 1) l1 0 with
          | none => rw [h2] at h; cases h
          | some q2 =>
            rw [h2] at h
            have s2 := c_sum (G := G) (x1 := iN (KK u n p1)) hZ hn _ _ _ _ (m1 + 1) _ _ _ h2 hR2 (by omega) (by omega) (by rw [en]; omega) (by rw [en]; omega)
            rcases q2 with ⟨p2, c2, l2⟩ | e
            · obtain ⟨b1, b2, b3, b4, b5, b6⟩ := pS_b _ _ _ _ _ _ _ _ (by rw [en]; omega) h2
              have b7 := b6 0 (by rw [en]; omega)
              obtain ⟨J3, k3, m3, t1, t2, t3, t4, t5⟩ := s2
              cases h
              obtain ⟨J4, w1, w2, w3⟩ := c_putStep (G := G) hZ t3 (show l2.length < 400 by omega) (s := -(iN (KK u n p1)))
              refine ⟨J4, k3, ?_, RdF_t f2 (RdF_t t2 w2), w3, t4⟩
              refine Eq.trans t1 (Eq.trans b21_50 (Eq.trans (if_neg (iN_ne1 (by omega))) (Eq.trans (b21_55 hZ.k63) ?_)))
              rw [w1]
              exact b21_61
            · obtain ⟨J3, t1, t2, t3⟩ := s2
              cases h
              exact ⟨J3, t1, RdF_t f2 t2, t3⟩
      · rw [if_neg hk] at h
        cases h
        rw [if_neg (show ¬ inB (iN (KK u n p1)) 9 13 = true from fun z => by have := inB_iff.mp z; rw [iN_int (by omega)] at this; omega), b21_74 hZ.k63, show (0 : Int32) = iN 0 from rfl, c_refuse hZ hn r3 (by omega), r4]
        refine ⟨_, b21_79 rfl, RdF_t r2 (RdF_w (by omega)), up2_s⟩
    · obtain ⟨J1, r1, r2, r3⟩ := s1
      cases h
      exact ⟨J1, r1, r2, r3⟩
theorem rk19 {d : Nat} (h : d < 100) : rk 19 [.ref 63, .int (iN d)] = 55 - 2 * d := by
  show 55 - 2 * (iN d).toNatClampNeg = _
  rw [iN_clamp (by omega)]
theorem rk20 {d : Nat} (h : d < 100) : rk 20 [.ref 63, .int (iN d)] = 54 - 2 * d := by
  show 54 - 2 * (iN d).toNatClampNeg = _
  rw [iN_clamp (by omega)]
theorem c_par (hZ : Shp Z) (hn : n ≤ 400) : ∀ (f : Nat) (t a o : Bool) (d k c m : Nat) (l : List Int32) (J : aI) (q : aQ), par u n f t a o d (ps u n k) c l = some q → RS J u n T k c l → c ≤ 60 → d ≤ 10 → m ≤ ps u n k → 3 * (l.length + (if t = true then (if a = true then 1 else 0) + (if o = true then 1 else 0) else 0)) ≤ 6 * c + ps u n k → OkR J u n T G Z (if t = true then run (55 - 2 * d) 19 7 [.ref 63, .int (iN d), .int (bI a), .int (bI o), .int (iN m)] [] (J, G, Z) else call 20 [.ref 63, .int (iN d)] (J, G, Z)) q := by
  intro f
  induction f with
  | zero => intro t a o d k c m l J q h; cases h
  | succ f ih =>
    intro t a o d k c m l J q h hR hc hd hm hl
    have hple := ps_le (u := u) (n := n) k
    have kb := K_b (u := u) (n := n) (p := ps u n k)
    cases t with
    | false =>
      rw [par] at h
      rw [if_neg (by decide)]
      simp only [Bool.false_eq_true, if_false, Nat.add_zero] at hl
      have pre : call 20 [.ref 63, .int (iN d)] (J, G, Z) = run (54 - 2 * d) 20 4 [.ref 63, .int (iN d), xU] [.int (iN (KK u n (ps u n k)))] (J, G, Z) := by
        refine Eq.trans e20 ?_
        rw [rk20 (by omega)]
        refine Eq.trans (b20_0 (by show 1 < _; omega) (by omega) hZ.k63) ?_
        rw [c_kind hZ hn hR]
        rfl
      by_cases hk : KK u n (ps u n k) = 5 ∨ KK u n (ps u n k) = 20
      · rw [if_pos hk] at h
        have hp : ps u n k < n := K_lt (u := u) (by omega)
        have g := nx_gt (u := u) hp
        have en : ps u n (k + 1) = nx u n (ps u n k) := rfl
        have pre2 : call 20 [.ref 63, .int (iN d)] (J, G, Z) = run (54 - 2 * d) 20 21 [.ref 63, .int (iN d), .int (iN (KK u n (ps u n k)))] [] (J, G, Z) := by
          refine Eq.trans pre (Eq.trans b20_4 ?_)
          rcases hk with hk | hk
          · rw [hk]; exact if_pos rfl
          · rw [hk]; exact Eq.trans (if_neg (by decide)) (Eq.trans b20_10 (if_pos rfl))
        rw [pre2, b20_21]
        by_cases h10 : 10 ≤ d
        · rw [if_pos h10] at h
          cases h
          rw [if_neg (show ¬ iN d < 10 from fun z => by have := (iN_lt (b := 10) (by omega) (by decide)).mp z; omega), b20_27 (by show 1 < _; omega) (by omega) hZ.k63, show (2 : Int32) = iN 2 from rfl, c_refuse hZ hn hR (by omega)]
          exact ⟨_, b20_32 rfl, RdF_w (by omega), up2_s⟩
        · rw [if_neg h10] at h
          rw [if_pos (show iN d < 10 from (iN_lt (b := 10) (by omega) (by decide)).mpr (by omega)), b20_33 hZ.k63, mI_t, hR.2.2.1, wI_t]
          have hR1 := RS_at hR hp
          have f1 : RdF J (up2 J 63 3 (iN k + 1)) := RdF_w (by omega)
          by_cases h5 : KK u n (ps u n k) = 5
          · rw [if_pos h5] at h
            rw [if_neg (show ¬ ¬ iN (KK u n (ps u n k)) = 5 from fun z => z (by rw [h5]; rfl)), b20_48 (by rw [iN_succ, rk19 (by omega)]; omega) hZ.k63, iN_succ]
            have e19' : call 19 [.ref 63, .int (iN (d + 1))] (up2 J 63 3 (iN k + 1), G, Z) = run (55 - 2 * (d + 1)) 19 7 [.ref 63, .int (iN (d + 1)), .int (bI false), .int (bI false), .int (iN 0)] [] (up2 J 63 3 (iN k + 1), G, Z) := by
              refine Eq.trans e19 ?_
              rw [rk19 (by omega)]
              exact b19_0
            rw [← en] at h
            cases h1 : par u n f true false false (d + 1) (ps u n (k + 1)) c l with
            | none => rw [h1] at h; cases h
            | some q1 =>
              rw [h1] at h
              have s1 := ih true false false (d + 1) (k + 1) c 0 l _ q1 h1 hR1 hc (by omega) (by omega) (by simp; rw [en]; omega)
              rw [if_pos rfl, ← e19'] at s1
              rcases q1 with ⟨p1, c1, l1⟩ | e
              · obtain ⟨J1, k1, r1, r2, r3, r4⟩ := s1
                rw [r1]
                have e55 : run (54 - 2 * d) 20 55 [.ref 63, .int (iN d), .int (iN (KK u n (ps u n k)))] [.int 1] (J1, G, Z) = (call 27 [.ref 63, .int 6] (J1, G, Z)).bind (fun r => run (54 - 2 * d) 20 64 [.ref 63, .int (iN d), .int (iN (KK u n (ps u n k)))] (r.1.toList ++ []) r.2) := Eq.trans b20_55 (Eq.trans (if_neg (by decide)) (b20_58 (by show 2 < _; omega) (by omega) hZ.k63))
                show OkR J u n T G Z (run (54 - 2 * d) 20 55 [.ref 63, .int (iN d), .int (iN (KK u n (ps u n k)))] [.int 1] (J1, G, Z)) q
                rw [e55, show (6 : Int32) = iN 6 from rfl, c_expect hZ hn r3 (by omega), r4]
                dsimp only at h
                by_cases h6 : KK u n p1 = 6
                · rw [if_pos h6] at h ⊢
                  cases h
                  have hp1 : p1 < n := K_lt (u := u) (by omega)
                  refine ⟨_, k1 + 1, Eq.trans b20_64 (Eq.trans (if_neg (by decide)) (Eq.trans b20_67 (b20_72 rfl))), RdF_t f1 (RdF_t r2 (RdF_w (by omega))), RS_at r3 (by rw [r4]; exact hp1), ?_⟩
                  rw [ps, r4]
                · rw [if_neg h6] at h ⊢
                  cases h
                  exact ⟨_, Eq.trans b20_64 (Eq.trans (if_pos rfl) (Eq.trans b20_71 (b20_72 rfl))), RdF_t f1 (RdF_t r2 (RdF_w (by omega))), up2_s⟩
              · obtain ⟨J1, r1, r2, r3⟩ := s1
                rw [r1]
                cases h
                exact ⟨J1, Eq.trans b20_55 (Eq.trans (if_pos rfl) (Eq.trans b20_71 (b20_72 rfl))), RdF_t f1 r2, r3⟩
          · rw [if_neg h5] at h
            have h20 : KK u n (ps u n k) = 20 := by omega
            have g3 := nx_not h20
            rw [if_pos (show ¬ iN (KK u n (ps u n k)) = 5 from fun z => h5 ((iN_inj (b := 5) (by omega) (by omega)).mp z)), b20_73 (by rw [iN_succ, rk20 (by omega)]; omega) hZ.k63, iN_succ]
            rw [← en] at h
            cases h1 : par u n f false false false (d + 1) (ps u n (k + 1)) c l with
            | none => rw [h1] at h; cases h
            | some q1 =>
              rw [h1] at h
              have s1 := ih false false false (d + 1) (k + 1) c 0 l _ q1 h1 hR1 hc (by omega) (by omega) (by simp; rw [en]; omega)
              rw [if_neg (by decide)] at s1
              rcases q1 with ⟨p1, c1, l1⟩ | e
              · obtain ⟨a1, a2, a3, a4, a5, a6⟩ := par_b _ _ _ _ _ _ _ _ _ _ _ (ps_le _) hc h1
                have a7 := a6 1 (by simp; rw [en]; omega)
                obtain ⟨J1, k1, r1, r2, r3, r4⟩ := s1
                rw [r1]
                cases h
                obtain ⟨J4, w1, w2, w3⟩ := c_putStep (G := G) hZ r3 (show l1.length < 400 by omega) (s := -(iN 20))
                refine ⟨J4, k1, ?_, RdF_t f1 (RdF_t r2 w2), w3, r4⟩
                refine Eq.trans b20_80 (Eq.trans (if_pos (by decide)) (Eq.trans (b20_85 (by show 1 < _; omega) (by omega) hZ.k63) ?_))
                rw [show (-20 : Int32) = -(iN 20) from rfl, w1]
                exact b20_91
              · obtain ⟨J1, r1, r2, r3⟩ := s1
                rw [r1]
                cases h
                exact ⟨J1, Eq.trans b20_80 (Eq.trans (if_neg (fun z => z rfl)) b20_83), RdF_t f1 r2, r3⟩
      · rw [if_neg hk] at h
        have pre2 : call 20 [.ref 63, .int (iN d)] (J, G, Z) = (call 21 [.ref 63] (J, G, Z)).bind (fun r => run (54 - 2 * d) 20 20 [.ref 63, .int (iN d), .int (iN (KK u n (ps u n k)))] (r.1.toList ++ []) r.2) := by
          refine Eq.trans pre (Eq.trans b20_4 (Eq.trans (if_neg (fun z => hk (Or.inl ((iN_inj (b := 5) (by omega) (by omega)).mp z)))) (Eq.trans b20_10 (Eq.trans (if_neg (fun z => hk (Or.inr ((iN_inj (b := 20) (by omega) (by omega)).mp z)))) (b20_16 (by show 3 < _; omega) (by omega) hZ.k63)))))
        have s1 := c_compare (G := G) hZ hn hR hc hl h
        rw [pre2]
        rcases q with ⟨p1, c1, l1⟩ | e
        · obtain ⟨J1, k1, r1, r2, r3, r4⟩ := s1
          rw [r1]
          exact ⟨J1, k1, b20_20 rfl, r2, r3, r4⟩
        · obtain ⟨J1, r1, r2, r3⟩ := s1
          rw [r1]
          exact ⟨J1, b20_20 rfl, r2, r3⟩
    | true =>
      rw [par] at h
      rw [if_pos rfl]
      rw [if_pos rfl] at hl
      by_cases h400 : m < 400
      · have pre : run (55 - 2 * d) 19 7 [.ref 63, .int (iN d), .int (bI a), .int (bI o), .int (iN m)] [] (J, G, Z) = (call 20 [.ref 63, .int (iN d)] (J, G, Z)).bind (fun r => run (55 - 2 * d) 19 20 [.ref 63, .int (iN d), .int (bI a), .int (bI o), .int (iN m)] (r.1.toList ++ []) r.2) := Eq.trans b19_7 (Eq.trans (if_neg (fun z => z ((iN_lt (b := 400) (by omega) (by decide)).mpr h400))) (b19_15 (by rw [rk20 (by omega)]; omega) hZ.k63))
        cases h1 : par u n f false false false d (ps u n k) c l with
        | none => rw [h1] at h; cases h
        | some q1 =>
          rw [h1] at h
          have s1 := ih false false false d k c 0 l J q1 h1 hR hc hd (by omega) (by simp; omega)
          rw [if_neg (by decide)] at s1
          rw [pre]
          rcases q1 with ⟨p1, c1, l1⟩ | e
          · obtain ⟨a1, a2, a3, a4, a5, a6⟩ := par_b _ _ _ _ _ _ _ _ _ _ _ hple hc h1
            have a7 := a6 ((if a = true then 1 else 0) + (if o = true then 1 else 0)) (by simp; omega)
            have kb1 := K_b (u := u) (n := n) (p := p1)
            obtain ⟨J1, k1, r1, r2, r3, r4⟩ := s1
            rw [r1]
            -- the and that waited
            have hA : ∃ J2 : aI, run (55 - 2 * d) 19 20 [.ref 63, .int (iN d), .int (bI a), .int (bI o), .int (iN m)] [.int 1] (J1, G, Z) = run (55 - 2 * d) 19 35 [.ref 63, .int (iN d), .int (bI a), .int (bI o), .int (iN m)] [] (J2, G, Z) ∧ RdF J J2 ∧ RS J2 u n T k1 c1 (jb a 21 l1) := by
              cases a with
              | false => exact ⟨J1, Eq.trans b19_20 (Eq.trans (if_pos (by decide)) (Eq.trans b19_25 (if_pos rfl))), r2, r3⟩
              | true =>
                obtain ⟨J4, w1, w2, w3⟩ := c_putStep (G := G) hZ r3 (show l1.length < 400 by simp at a7; omega) (s := -(iN 21))
                refine ⟨J4, ?_, RdF_t r2 w2, w3⟩
                refine Eq.trans b19_20 (Eq.trans (if_pos (by decide)) (Eq.trans b19_25 (Eq.trans (if_neg (by decide)) (Eq.trans (b19_29 (by show 1 < _; omega) (by omega) hZ.k63) ?_))))
                rw [show (-21 : Int32) = -(iN 21) from rfl, w1]
                rfl
            obtain ⟨J2, x1, x2, x3⟩ := hA
            have la := jb_len (b := a) (k := 21) (l := l1)
            have lo := jb_len (b := o) (k := 22) (l := jb a 21 l1)
            show OkR J u n T G Z (run (55 - 2 * d) 19 20 [.ref 63, .int (iN d), .int (bI a), .int (bI o), .int (iN m)] [.int 1] (J1, G, Z)) q
            rw [x1, b19_35 (by show 2 < _; omega) (by omega) hZ.k63, show (21 : Int32) = iN 21 from rfl, c_passes hZ hn x3 (by omega), r4]
            dsimp only at h
            by_cases hk : KK u n p1 = 21
            · rw [if_pos hk] at h ⊢
              have hp1 : p1 < n := K_lt (u := u) (by omega)
              have g1 := nx_gt (u := u) hp1
              have en : ps u n (k1 + 1) = nx u n p1 := by rw [ps, r4]
              rw [← en] at h
              have go : run (55 - 2 * d) 19 41 [.ref 63, .int (iN d), .int (bI a), .int (bI o), .int (iN m)] [.int 1] (up2 J2 63 3 (iN k1 + 1), G, Z) = run (55 - 2 * d) 19 7 [.ref 63, .int (iN d), .int (bI true), .int (bI o), .int (iN (m + 1))] [] (up2 J2 63 3 (iN k1 + 1), G, Z) := by
                refine Eq.trans b19_41 (Eq.trans (if_neg (by decide)) (Eq.trans b19_46 (Eq.trans b19_72 ?_)))
                rw [iN_succ]
                rfl
              have s2 := ih true true o d (k1 + 1) c1 (m + 1) _ _ q h (RS_at x3 (by rw [r4]; exact hp1)) (by omega) hd (by rw [en]; omega) (by simp; rw [en]; omega)
              rw [if_pos rfl, ← go] at s2
              have f2 : RdF J (up2 J2 63 3 (iN k1 + 1)) := RdF_t x2 (RdF_w (by omega))
              rcases q with ⟨p2, c2, l2⟩ | e
              · obtain ⟨J3, k3, t1, t2, t3, t4⟩ := s2
                exact ⟨J3, k3, t1, RdF_t f2 t2, t3, t4⟩
              · obtain ⟨J3, t1, t2, t3⟩ := s2
                exact ⟨J3, t1, RdF_t f2 t2, t3⟩
            · rw [if_neg hk] at h ⊢
              have hO : ∃ J3 : aI, run (55 - 2 * d) 19 41 [.ref 63, .int (iN d), .int (bI a), .int (bI o), .int (iN m)] [.int 0] (J2, G, Z) = run (55 - 2 * d) 19 59 [.ref 63, .int (iN d), .int 0, .int (bI o), .int (iN m)] [] (J3, G, Z) ∧ RdF J J3 ∧ RS J3 u n T k1 c1 (jb o 22 (jb a 21 l1)) := by
                cases o with
                | false => exact ⟨J2, Eq.trans b19_41 (Eq.trans (if_pos rfl) (Eq.trans b19_49 (if_pos rfl))), x2, x3⟩
                | true =>
                  obtain ⟨J4, w1, w2, w3⟩ := c_putStep (G := G) hZ x3 (show (jb a 21 l1).length < 400 by simp at a7; omega) (s := -(iN 22))
                  refine ⟨J4, ?_, RdF_t x2 w2, w3⟩
                  refine Eq.trans b19_41 (Eq.trans (if_pos rfl) (Eq.trans b19_49 (Eq.trans (if_neg (by decide)) (Eq.trans (b19_53 (by show 1 < _; omega) (by omega) hZ.k63) ?_))))
                  rw [show (-22 : Int32) = -(iN 22) from rfl, w1]
                  rfl
              obtain ⟨J3, y1, y2, y3⟩ := hO
              show OkR J u n T G Z (run (55 - 2 * d) 19 41 [.ref 63, .int (iN d), .int (bI a), .int (bI o), .int (iN m)] [.int 0] (J2, G, Z)) q
              rw [y1, b19_59 (by show 2 < _; omega) (by omega) hZ.k63, show (22 : Int32) = iN 22 from rfl, c_passes hZ hn y3 (by omega), r4]
              by_cases hk2 : KK u n p1 = 22
              · rw [if_pos hk2] at h ⊢
                have hp1 : p1 < n := K_lt (u := u) (by omega)
                have g1 := nx_gt (u := u) hp1
                have en : ps u n (k1 + 1) = nx u n p1 := by rw [ps, r4]
                rw [← en] at h
                have go : run (55 - 2 * d) 19 65 [.ref 63, .int (iN d), .int 0, .int (bI o), .int (iN m)] [.int 1] (up2 J3 63 3 (iN k1 + 1), G, Z) = run (55 - 2 * d) 19 7 [.ref 63, .int (iN d), .int (bI false), .int (bI true), .int (iN (m + 1))] [] (up2 J3 63 3 (iN k1 + 1), G, Z) := by
                  refine Eq.trans b19_65 (Eq.trans (if_pos (by decide)) (Eq.trans b19_72 ?_))
                  rw [iN_succ]
                  rfl
                have s2 := ih true false true d (k1 + 1) c1 (m + 1) _ _ q h (RS_at y3 (by rw [r4]; exact hp1)) (by omega) hd (by rw [en]; omega) (by simp; rw [en]; omega)
                rw [if_pos rfl, ← go] at s2
                have f2 : RdF J (up2 J3 63 3 (iN k1 + 1)) := RdF_t y2 (RdF_w (by omega))
                rcases q with ⟨p2, c2, l2⟩ | e
                · obtain ⟨J4, k3, t1, t2, t3, t4⟩ := s2
                  exact ⟨J4, k3, t1, RdF_t f2 t2, t3, t4⟩
                · obtain ⟨J4, t1, t2, t3⟩ := s2
                  exact ⟨J4, t1, RdF_t f2 t2, t3⟩
              · rw [if_neg hk2] at h ⊢
                cases h
                exact ⟨J3, k1, Eq.trans b19_65 (Eq.trans (if_neg (fun z => z rfl)) b19_70), y2, y3, r4⟩
          · obtain ⟨J1, r1, r2, r3⟩ := s1
            rw [r1]
            cases h
            exact ⟨J1, Eq.trans b19_20 (Eq.trans (if_neg (fun z => z rfl)) b19_23), r2, r3⟩
      · -- 400 times round: nothing is left
        have hp : ps u n k = n := by omega
        have hK : KK u n (ps u n k) = 0 := by unfold KK; rw [if_neg (by omega)]
        have h1 : ∀ q1, par u n f false false false d (ps u n k) c l = some q1 → q1 = .inr (ft (ps u n k) 0) := by
          intro q1 hq1
          cases f with
          | zero => cases hq1
          | succ f =>
            rw [par, hK, if_neg (by decide)] at hq1
            have hV : pV u n (ps u n k) c l = .inr (ft (ps u n k) 0) := by
              unfold pV
              rw [hK, if_neg (by decide), if_neg (by decide)]
            unfold pC at hq1
            rw [pS, hV] at hq1
            cases hq1
            rfl
        cases h2 : par u n f false false false d (ps u n k) c l with
        | none => rw [h2] at h; cases h
        | some q1 =>
          rw [h2, h1 q1 h2] at h
          cases h
          rw [b19_7, if_pos (show ¬ iN m < 400 from fun z => h400 ((iN_lt (b := 400) (by omega) (by decide)).mp z)), b19_78 (by show 1 < _; omega) (by omega) hZ.k63, show (0 : Int32) = iN 0 from rfl, c_refuse hZ hn hR (by omega)]
          exact ⟨_, b19_83 rfl, RdF_w (by omega), up2_s⟩
end RD2
