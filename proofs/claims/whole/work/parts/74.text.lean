/-! THE CLASS'S READER: a clause, a text -/
def RK (J : aI) (u : Nat → Int32) (n T k : Nat) : Prop := Tok J u n T ∧ k ≤ T ∧ J 63 3 = iN k
theorem RS.rk {J : aI} {u : Nat → Int32} {n T k c : Nat} {l : List Int32} (h : RS J u n T k c l) : RK J u n T k := ⟨h.1, h.2.1, h.2.2.1⟩
abbrev k0 : aK := (0, 0, 0, [])
def TxC (J : aI) (Z : aZ) (lo hi r : Nat) (ks : List aK) : Prop := lo ≤ r ∧ r < hi ∧ zK Z r = 8 ∧ lo ≤ zR Z r 0 ∧ zR Z r 0 < hi ∧ zK Z (zR Z r 0) = 16 ∧ zN Z (zR Z r 0) = ks.length ∧ ∀ i, i < ks.length → ClC J Z lo hi (zR Z (zR Z r 0) i) (ks.getD i k0)
theorem TxC_e {J J' : aI} {Z Z' : aZ} {lo hi lo' hi' r : Nat} {ks : List aK} (h : TxC J Z lo hi r ks) (hlo : lo' ≤ lo) (hhi : hi ≤ hi') (hk : ∀ b, lo ≤ b → b < hi → zK Z' b = zK Z b ∧ zN Z' b = zN Z b ∧ (∀ j, zR Z' b j = zR Z b j) ∧ J' b = J b) : TxC J' Z' lo' hi' r ks := by
  obtain ⟨h1, h2, h3, h4, h5, h6, h7, h8⟩ := h
  obtain ⟨q1, q2, q3, q4⟩ := hk r h1 h2
  obtain ⟨w1, w2, w3, w4⟩ := hk _ h4 h5
  refine ⟨by omega, by omega, by rw [q1]; exact h3, by rw [q3]; omega, by rw [q3]; omega, by rw [q3, w1]; exact h6, by rw [q3, w2]; exact h7, fun i hi => ?_⟩
  rw [q3, w3]
  exact ClC_e (h8 i hi) hlo hhi hk
section TX
variable {J : aI} {G : aL} {Z : aZ} {u : Nat → Int32} {n T k c : Nat}
theorem c_kind0 (hZ : Shp Z) (hn : n ≤ 400) (h : RK J u n T k) : call 24 [.ref 63] (J, G, Z) = some (some (.int (iN (KK u n (ps u n k)))), (J, G, Z)) := by
  obtain ⟨⟨t1, t2, t3, t4, t5⟩, h2, h3⟩ := h
  refine Eq.trans e24 (Eq.trans (b24_0 hZ.k63 hZ.kr63_2) ?_)
  rw [hZ.r63_2, mI_t, mI_t, h3, t4]
  refine Eq.trans (if_neg (fun q => q ((iN_lt (by omega) (by omega)).mpr (by omega)))) (Eq.trans (b24_14 hZ.k63 hZ.kr63_2 (by rw [hZ.r63_2]; exact hZ.kr58_1) (by rw [hZ.r63_2, mI_t, h3]; exact hZ.ir58_1 (ib_iN (by omega) (by omega)))) (Eq.trans b24_30 ?_))
  rw [hZ.r63_2, hZ.r58_1, mI_t, mI_t, h3, iN_clamp (by omega), (t5 k h2).1]
theorem c_refuse0 (hZ : Shp Z) (hn : n ≤ 400) (h : RK J u n T k) {w : Nat} (hw : w ≤ 7) : call 28 [.ref 63, .int (iN w)] (J, G, Z) = some (some (.int 0), (up2 J 63 7 (iN (ft (ps u n k) w)), G, Z)) := by
  have hp := ps_le (u := u) (n := n) k
  obtain ⟨⟨t1, t2, t3, t4, t5⟩, h2, h3⟩ := h
  refine Eq.trans e28 (Eq.trans (b28_0 hZ.k63 hZ.kr63_2) ?_)
  rw [hZ.r63_2, mI_t, mI_t, h3, t4]
  refine Eq.trans (if_neg (fun q => q ((iN_lt (by omega) (by omega)).mpr (by omega)))) (Eq.trans (b28_14 hZ.k63 hZ.kr63_2 (by rw [hZ.r63_2]; exact hZ.kr58_2) (by rw [hZ.r63_2, mI_t, h3]; exact hZ.ir58_2 (ib_iN (by omega) (by omega)))) (Eq.trans (b28_30 hZ.k63) ?_))
  rw [hZ.r63_2, hZ.r58_2, mI_t, mI_t, h3, iN_clamp (by omega), (t5 k h2).2.1, wI_t]
  have e : (1 : Int32) + 8 * iN (ps u n k) + iN w = iN (ft (ps u n k) w) := by
    rw [show (8 : Int32) = iN 8 from rfl, show (1 : Int32) = iN 1 from rfl, iN_mul (by omega) (by omega) (by omega), iN_add, iN_add]
    rfl
  rw [e]
theorem c_mayBegin {kd : Nat} {r : Bool} {M : aM} (hk : kd < 100) : call 15 [.int (iN kd), .int (bI r)] M = some (some (.int (bI (mb r kd))), M) := by
  refine Eq.trans e15 (Eq.trans b15_0 ?_)
  rw [bI_0]
  unfold mb
  cases r with
  | true =>
    rw [if_pos rfl, if_pos rfl]
    refine Eq.trans b15_4 ?_
    by_cases h : kd = 17
    · rw [decide_eq_true h]
      exact Eq.trans (if_neg (fun q => q (by rw [h]; rfl))) (Eq.trans b15_10 (b15_15 rfl))
    · rw [decide_eq_false h]
      exact Eq.trans (if_pos (fun q => h ((iN_inj (b := 17) (by omega) (by omega)).mp q))) (Eq.trans b15_14 (b15_15 rfl))
  | false =>
    rw [if_neg (by decide), if_neg (by decide)]
    refine Eq.trans b15_16 ?_
    by_cases h14 : kd = 14
    · rw [decide_eq_true (Or.inl h14 : kd = 14 ∨ kd = 15 ∨ kd = 16)]
      exact Eq.trans (if_pos (by rw [h14]; rfl)) (Eq.trans b15_34 (b15_39 rfl))
    refine Eq.trans (if_neg (fun q => h14 ((iN_inj (b := 14) (by omega) (by omega)).mp q))) (Eq.trans b15_22 ?_)
    by_cases h15 : kd = 15
    · rw [decide_eq_true (Or.inr (Or.inl h15) : kd = 14 ∨ kd = 15 ∨ kd = 16)]
      exact Eq.trans (if_pos (by rw [h15]; rfl)) (Eq.trans b15_34 (b15_39 rfl))
    refine Eq.trans (if_neg (fun q => h15 ((iN_inj (b := 15) (by omega) (by omega)).mp q))) (Eq.trans b15_28 ?_)
    by_cases h16 : kd = 16
    · rw [decide_eq_true (Or.inr (Or.inr h16) : kd = 14 ∨ kd = 15 ∨ kd = 16)]
      exact Eq.trans (if_neg (fun q => q (by rw [h16]; rfl))) (Eq.trans b15_34 (b15_39 rfl))
    · rw [decide_eq_false (show ¬ (kd = 14 ∨ kd = 15 ∨ kd = 16) by omega)]
      exact Eq.trans (if_pos (fun q => h16 ((iN_inj (b := 16) (by omega) (by omega)).mp q))) (Eq.trans b15_38 (b15_39 rfl))
theorem ExH {J J' : aI} {Z : aZ} (h : RdH J J') : Ex J J' Z Z := Ex_r (fun b _ _ _ _ h63 _ => h.1 b h63)
theorem ExF {J J' : aI} {Z : aZ} (h : RdF J J') : Ex J J' Z Z := Ex_r (fun b _ _ _ _ h63 h65 => h.1 b h63 h65)
theorem Exw {J : aI} {Z : aZ} {j : Nat} {v : Int32} : Ex J (up2 J 63 j v) Z Z := Ex_r (fun b _ _ _ _ h63 _ => funext fun q => up2_a h63)
def OkC (J : aI) (u : Nat → Int32) (n T i : Nat) (hp : Bool) (G : aL) (Z : aZ) (X : Option (Option Value × aM)) (q : (Nat × Nat × aK) ⊕ Nat) : Prop := match q with
  | .inl (p1, c1, w) => ∃ (J' : aI) (G' : aL) (Z' : aZ) (k' a : Nat) (l' : List Int32), X = some (some (.int 1), (J', G', Z')) ∧ Ex J J' Z Z' ∧ RS J' u n T k' c1 l' ∧ ps u n k' = p1 ∧ J' 63 4 = iN (i + 1) ∧ J' 63 10 = bI (hp || decide (w.1 = 14)) ∧ (∀ b, b < 112 → b ≠ 63 → b ≠ 65 → J' b = J b) ∧ zR Z' 64 i = a ∧ (∀ j, j ≠ i → zR Z' 64 j = zR Z 64 j) ∧ zX Z' ≤ zX Z + 2 ∧ zU Z' ≤ zU Z + 4 + w.2.2.2.length ∧ ClC J' Z' (zX Z + 32) (zX Z' + 32) a w
  | .inr e => ∃ J' : aI, X = some (some (.int 0), (J', G, Z)) ∧ Ex J J' Z Z ∧ (∀ b, b < 112 → b ≠ 63 → b ≠ 65 → J' b = J b) ∧ J' 63 7 = iN e
theorem RS_p {l : List Int32} {J' : aI} (h : RS J u n T k c l) (h1 : ∀ a, a < 112 → a ≠ 63 → J' a = J a) (h2 : ∀ j, j = 3 ∨ j = 5 ∨ j = 6 → J' 63 j = J 63 j) : RS J' u n T k c l := by
  obtain ⟨⟨t1, t2, t3, t4, t5⟩, r2, r3, r4, r5, r6⟩ := h
  refine ⟨⟨t1, t2, t3, ?_, fun j hj => ?_⟩, r2, ?_, ?_, ?_, fun i hi => ?_⟩
  · rw [h1 58 (by decide) (by decide)]; exact t4
  · rw [h1 60 (by decide) (by decide), h1 61 (by decide) (by decide), h1 62 (by decide) (by decide)]; exact t5 j hj
  · rw [h2 3 (by omega)]; exact r3
  · rw [h2 6 (by omega)]; exact r4
  · rw [h2 5 (by omega)]; exact r5
  · rw [h1 65 (by decide) (by decide)]; exact r6 i hi
theorem c_clause (hZ : Shp Z) (hn : n ≤ 400) (h : RK J u n T k) (h6 : J 63 6 = iN c) (hc : c ≤ 60) {i : Nat} (hi : i ≤ 14) (h4 : J 63 4 = iN i) {hp r : Bool} (h10 : J 63 10 = bI hp) {q : (Nat × Nat × aK) ⊕ Nat} (hq : cl u n r i hp (ps u n k) c = some q) : OkC J u n T i hp G Z (call 14 [.ref 63, .int (bI r)] (J, G, Z)) q := by
  have kb := K_b (u := u) (n := n) (p := ps u n k)
  have hple := ps_le (u := u) (n := n) k
  generalize hkd : KK u n (ps u n k) = kd at kb
  have pre : call 14 [.ref 63, .int (bI r)] (J, G, Z) = run 60 14 10 [.ref 63, .int (bI r), .int (iN kd), xU, xU] [.int (bI (mb r kd))] (J, G, Z) := by
    refine Eq.trans e14 (Eq.trans (b14_0 hZ.k63) ?_)
    rw [c_kind0 hZ hn h, hkd]
    refine Eq.trans b14_4 ?_
    rw [c_mayBegin (by omega)]
    rfl
  have bad : ∀ (w : Nat) (v3 : Value), w ≤ 7 → ∃ J' : aI, some (some (Value.int 0), (up2 J 63 7 (iN (ft (ps u n k) w)), G, Z)) = some (some (.int 0), (J', G, Z)) ∧ Ex J J' Z Z ∧ (∀ b, b < 112 → b ≠ 63 → b ≠ 65 → J' b = J b) ∧ J' 63 7 = iN (ft (ps u n k) w) := fun w v3 hw => ⟨_, rfl, Exw, fun b _ h63 _ => funext fun q => up2_a h63, up2_s⟩
  unfold cl at hq
  rw [hkd] at hq
  rw [pre, b14_10, bI_n]
  by_cases hm : mb r kd = false
  · rw [if_pos hm] at hq
    cases hq
    rw [if_neg (by rw [hm]; decide), b14_13 hZ.k63, show (0 : Int32) = iN 0 from rfl, c_refuse0 hZ hn h (by omega)]
    show OkC J u n T i hp G Z (run 60 14 18 [.ref 63, .int (bI r), .int (iN kd), xU, xU] [.int 0] (up2 J 63 7 (iN (ft (ps u n k) 0)), G, Z)) _
    rw [b14_18 rfl]
    exact bad 0 xU (by omega)
  rw [if_neg hm] at hq
  rw [if_pos (by simpa using hm)]
  have hkd4 : kd = 14 ∨ kd = 15 ∨ kd = 16 ∨ kd = 17 := by
    have hm' : mb r kd = true := by simpa using hm
    unfold mb at hm'
    cases r with
    | true => rw [if_pos rfl, decide_eq_true_eq] at hm'; omega
    | false => rw [if_neg (by decide), decide_eq_true_eq] at hm'; omega
  have hp1 : ps u n k < n := K_lt (u := u) (by omega)
  have s19 : run 60 14 19 [.ref 63, .int (bI r), .int (iN kd), xU, xU] [] (J, G, Z) = run 60 14 30 [.ref 63, .int (bI r), .int (iN kd), xU, xU] [.int (bI (decide (kd = 14)))] (J, G, Z) := by
    refine Eq.trans b14_19 ?_
    by_cases e : kd = 14
    · rw [decide_eq_true e]
      exact Eq.trans (if_neg (fun z => z (by rw [e]; rfl))) b14_25
    · rw [decide_eq_false e]
      exact Eq.trans (if_pos (fun z => e ((iN_inj (b := 14) (by omega) (by omega)).mp z))) b14_29
  rw [s19, b14_30 hZ.k63, mI_t, h4]
  have rf4 : ∀ J' : aI, J' = up2 J 63 7 (iN (ft (ps u n k) 4)) → run 60 14 51 [.ref 63, .int (bI r), .int (iN kd), .int (bI (decide (kd = 14))), xU] [] (J, G, Z) = some (some (.int 0), (J', G, Z)) := by
    intro J' hJ'
    refine Eq.trans (b14_51 hZ.k63) ?_
    rw [show (4 : Int32) = iN 4 from rfl, c_refuse0 hZ hn h (by omega), hJ']
    exact b14_56 rfl
  by_cases h14 : 14 ≤ i
  · rw [if_pos (Or.inl h14 : 14 ≤ i ∨ (kd = 14 ∧ hp = true))] at hq
    cases hq
    rw [if_pos (show ¬ iN i < 14 from fun z => by have := (iN_lt (b := 14) (by omega) (by decide)).mp z; omega), rf4 _ rfl]
    exact bad 4 xU (by omega)
  rw [if_neg (show ¬ ¬ iN i < 14 from fun z => z ((iN_lt (b := 14) (by omega) (by decide)).mpr (by omega))), b14_40, bI_0]
  -- is it a second prior?
  have go57 : ¬ (kd = 14 ∧ hp = true) → (if decide (kd = 14) = true then run 60 14 44 [.ref 63, .int (bI r), .int (iN kd), .int (bI (decide (kd = 14))), xU] [] (J, G, Z) else run 60 14 57 [.ref 63, .int (bI r), .int (iN kd), .int (bI (decide (kd = 14))), xU] [] (J, G, Z)) = run 60 14 57 [.ref 63, .int (bI r), .int (iN kd), .int (bI (decide (kd = 14))), xU] [] (J, G, Z) := by
    intro hne
    by_cases e : kd = 14
    · have hf : hp = false := by
        cases hp with
        | false => rfl
        | true => exact absurd ⟨e, rfl⟩ hne
      rw [if_pos (decide_eq_true e)]
      refine Eq.trans (b14_44 hZ.k63) ?_
      rw [mI_t, h10, hf]
      exact if_pos rfl
    · rw [if_neg (by simpa using e)]
  by_cases hsec : kd = 14 ∧ hp = true
  · rw [if_pos (Or.inr hsec : 14 ≤ i ∨ (kd = 14 ∧ hp = true))] at hq
    cases hq
    rw [if_pos (decide_eq_true hsec.1), b14_44 hZ.k63, mI_t, h10, if_neg (show ¬ bI hp = 0 by rw [hsec.2]; decide), rf4 _ rfl]
    exact bad 4 xU (by omega)
  rw [if_neg (show ¬ (14 ≤ i ∨ (kd = 14 ∧ hp = true)) from fun z => z.elim h14 hsec)] at hq
  rw [go57 hsec]
  have s57 : run 60 14 57 [.ref 63, .int (bI r), .int (iN kd), .int (bI (decide (kd = 14))), xU] [] (J, G, Z) = run 60 14 84 [.ref 63, .int (bI r), .int (iN kd), .int (bI (decide (kd = 14))), xU] [.int (bI (hp || decide (kd = 14))), .ref 63] (up2 J 63 3 (iN k + 1), G, Z) := by
    refine Eq.trans (b14_57 hZ.k63) ?_
    have m3 : mI (J, G, Z) 63 3 = iN k := h.2.2
    rw [m3, wI_t, mI_t, up2_k (by decide), h10]
    cases hp with
    | true => exact Eq.trans (if_pos (by decide)) b14_79
    | false =>
      refine Eq.trans (if_neg (fun z => z rfl)) (Eq.trans b14_75 ?_)
      rw [bI_0]
      by_cases e : kd = 14
      · rw [decide_eq_true e]
        exact b14_79
      · rw [decide_eq_false e]
        exact b14_83
  have hbt : bty 2 10 (bI (hp || decide (kd = 14))) = true := by cases (hp || decide (kd = 14)) <;> rfl
  rw [s57, b14_84 hZ.k63 hbt hZ.k63, wI_t, wI_t]
  generalize hJ1 : up2 (up2 (up2 J 63 3 (iN k + 1)) 63 10 (bI (hp || decide (kd = 14)))) 63 5 0 = J1
  have hR1 : RS J1 u n T (k + 1) c [] := by
    have hkT : k < T := by
      rcases Nat.lt_or_ge k T with z | z
      · exact z
      · exfalso
        have := h.2.1
        rw [show k = T by omega, h.1.2.1] at hp1
        omega
    have hf : ∀ a, a ≠ 63 → J1 a = J a := fun a ha => by rw [← hJ1]; funext z; rw [up2_a ha, up2_a ha, up2_a ha]
    obtain ⟨t1, t2, t3, t4, t5⟩ := h.1
    refine ⟨⟨t1, t2, t3, ?_, fun j hj => ?_⟩, by omega, ?_, ?_, ?_, fun i hi => absurd hi (Nat.not_lt_zero _)⟩
    · rw [hf 58 (by decide)]; exact t4
    · rw [hf 60 (by decide), hf 61 (by decide), hf 62 (by decide)]; exact t5 j hj
    · rw [← hJ1, up2_k (by decide), up2_k (by decide), up2_s, iN_succ]
    · rw [← hJ1, up2_k (by decide), up2_k (by decide), up2_k (by decide)]; exact h6
    · rw [← hJ1, up2_s]; rfl
  have x1 : Ex J J1 Z Z := by rw [← hJ1]; exact Ex_t Exw (Ex_t Exw Exw)
  have n1 : ∀ b, b < 112 → b ≠ 63 → b ≠ 65 → J1 b = J b := fun b _ hb _ => by rw [← hJ1]; funext z; rw [up2_a hb, up2_a hb, up2_a hb]
  have a4 : J1 63 4 = iN i := by rw [← hJ1, up2_k (by decide), up2_k (by decide), up2_k (by decide)]; exact h4
  have a10 : J1 63 10 = bI (hp || decide (kd = 14)) := by rw [← hJ1, up2_k (by decide), up2_s]
  have en : ps u n (k + 1) = nx u n (ps u n k) := rfl
  have hh := c_head (G := G) hZ hn hR1 hkd4
  rw [en] at hh
  cases hd1 : hd u n kd (nx u n (ps u n k)) with
  | inr e =>
    rw [hd1] at hq hh
    cases hq
    obtain ⟨J2, r1, r2, r3⟩ := hh
    rw [r1]
    exact ⟨J2, Eq.trans b14_97 (Eq.trans (if_neg (fun z => z rfl)) b14_100), Ex_t x1 (ExH r2), fun b hb h63 h65 => by rw [r2.1 b h63, n1 b hb h63 h65], r3⟩
  | inl w =>
    obtain ⟨p1, who, num⟩ := w
    rw [hd1] at hq hh
    have hb := hd_b (nx_le hple).2 hd1
    obtain ⟨J2, k2, r1, r2, r3, r4, r5, r6⟩ := hh
    rw [r1]
    have x2 : Ex J J2 Z Z := Ex_t x1 (ExH r2)
    have n2 : ∀ b, b < 112 → b ≠ 63 → b ≠ 65 → J2 b = J b := fun b hb h63 h65 => by rw [r2.1 b h63, n1 b hb h63 h65]
    have b4 : J2 63 4 = iN i := by rw [r2.2 4 (by omega)]; exact a4
    have b10 : J2 63 10 = bI (hp || decide (kd = 14)) := by rw [r2.2 10 (by omega)]; exact a10
    have kb2 := K_b (u := u) (n := n) (p := p1)
    -- the end: the clause is kept
    have keep : ∀ (J3 : aI) (k3 c3 : Nat) (l3 : List Int32) (x4 : Int32), RS J3 u n T k3 c3 l3 → l3.length < 400 → Ex J J3 Z Z → (∀ b, b < 112 → b ≠ 63 → b ≠ 65 → J3 b = J b) → J3 63 4 = iN i → J3 63 10 = bI (hp || decide (kd = 14)) → J3 63 8 = who → J3 63 9 = num → ∃ (J' : aI) (G' : aL) (Z' : aZ) (k' a : Nat) (l' : List Int32), run 60 14 143 [.ref 63, .int (bI r), .int (iN kd), .int (bI (decide (kd = 14))), .int x4] [] (J3, G, Z) = some (some (.int 1), (J', G', Z')) ∧ Ex J J' Z Z' ∧ RS J' u n T k' c3 l' ∧ ps u n k' = ps u n k3 ∧ J' 63 4 = iN (i + 1) ∧ J' 63 10 = bI (hp || decide (kd = 14)) ∧ (∀ b, b < 112 → b ≠ 63 → b ≠ 65 → J' b = J b) ∧ zR Z' 64 i = a ∧ (∀ j, j ≠ i → zR Z' 64 j = zR Z 64 j) ∧ zX Z' ≤ zX Z + 2 ∧ zU Z' ≤ zU Z + 4 + l3.length ∧ ClC J' Z' (zX Z + 32) (zX Z' + 32) a (kd, who, num, l3) := by
      intro J3 k3 c3 l3 x4 g1 g2 g3 g4 g5 g6 g7 g8
      obtain ⟨J', G', Z', a, y1, y2, y3, y4, y5, y6, y7, y8, y9, y10⟩ := c_keep (G := G) hZ g1 g2 (kd := kd) (by omega) g5
      rw [g7, g8] at y10
      refine ⟨J', G', Z', k3, a, l3, ?_, Ex_t g3 y2, RS_p g1 (fun b hb h63 => y5 b hb h63) (fun j hj => y3 j (by omega)), rfl, y4, by rw [y3 10 (by omega)]; exact g6, fun b hb h63 h65 => by rw [y5 b hb h63, g4 b hb h63 h65], y6, y7, y8, y9, y10⟩
      · refine Eq.trans (b14_143 hZ.k63) ?_
        rw [y1]
        exact b14_148
    have hl0 : ([] : List Int32).length < 400 := by decide
    have goA : run 60 14 97 [.ref 63, .int (bI r), .int (iN kd), .int (bI (decide (kd = 14))), xU] [.int 1] (J2, G, Z) = run 60 14 102 [.ref 63, .int (bI r), .int (iN kd), .int (bI (decide (kd = 14))), xU] [] (J2, G, Z) := Eq.trans b14_97 (if_pos (by decide))
    show OkC J u n T i hp G Z (run 60 14 97 [.ref 63, .int (bI r), .int (iN kd), .int (bI (decide (kd = 14))), xU] [.int 1] (J2, G, Z)) q
    rw [goA, b14_102]
    dsimp only at hq
    -- a test from the state J3 on
    have test : ∀ (J3 : aI) (k3 : Nat), RS J3 u n T k3 c [] → Ex J J3 Z Z → (∀ b, b < 112 → b ≠ 63 → b ≠ 65 → J3 b = J b) → J3 63 4 = iN i → J3 63 10 = bI (hp || decide (kd = 14)) → J3 63 8 = who → J3 63 9 = num → (match par u n 810 true false false 0 (ps u n k3) c [] with
        | none => none
        | some (.inr e) => some (.inr e)
        | some (.inl (p2, c2, l2)) => some (.inl (p2, c2, (kd, who, num, l2)))) = some q → OkC J u n T i hp G Z (run 60 14 121 [.ref 63, .int (bI r), .int (iN kd), .int (bI (decide (kd = 14))), xU] [] (J3, G, Z)) q := by
      intro J3 k3 g1 g3 g4 g5 g6 g7 g8 hq
      have hple3 := ps_le (u := u) (n := n) k3
      have e133 : run 60 14 121 [.ref 63, .int (bI r), .int (iN kd), .int (bI (decide (kd = 14))), xU] [] (J3, G, Z) = (call 19 [.ref 63, .int 0] (J3, G, Z)).bind (fun z => run 60 14 138 [.ref 63, .int (bI r), .int (iN kd), .int (bI (decide (kd = 14))), .int 1] (z.1.toList ++ []) z.2) := Eq.trans b14_121 (Eq.trans b14_126 (Eq.trans (if_neg (by decide)) (b14_133 (by decide) hZ.k63)))
      have e19' : call 19 [.ref 63, .int 0] (J3, G, Z) = run (55 - 2 * 0) 19 7 [.ref 63, .int (iN 0), .int (bI false), .int (bI false), .int (iN 0)] [] (J3, G, Z) := Eq.trans e19 b19_0
      cases ht : par u n 810 true false false 0 (ps u n k3) c [] with
      | none => rw [ht] at hq; cases hq
      | some z =>
        rw [ht] at hq
        have s1 := c_par (G := G) hZ hn 810 true false false 0 k3 c 0 [] J3 z ht g1 hc (by omega) (by omega) (by simp)
        rw [if_pos rfl, ← e19'] at s1
        rw [e133]
        rcases z with ⟨p2, c2, l2⟩ | e
        · obtain ⟨a1, a2, a3, a4, a5, a6⟩ := par_b _ _ _ _ _ _ _ _ _ _ _ hple3 hc ht
          have a7 := a6 0 (by simp)
          obtain ⟨J4, k4, v1, v2, v3, v4⟩ := s1
          rw [v1]
          cases hq
          show OkC J u n T i hp G Z (run 60 14 138 [.ref 63, .int (bI r), .int (iN kd), .int (bI (decide (kd = 14))), .int 1] [.int 1] (J4, G, Z)) _
          rw [b14_138, if_pos (show ¬ (1 : Int32) = 0 by decide)]
          have := keep J4 k4 c2 l2 1 v3 (by omega) (Ex_t g3 (ExF v2)) (fun b hb h63 h65 => by rw [v2.1 b h63 h65, g4 b hb h63 h65]) (by rw [v2.2 4 (by decide) (by decide) (by decide) (by decide)]; exact g5) (by rw [v2.2 10 (by decide) (by decide) (by decide) (by decide)]; exact g6) (by rw [v2.2 8 (by decide) (by decide) (by decide) (by decide)]; exact g7) (by rw [v2.2 9 (by decide) (by decide) (by decide) (by decide)]; exact g8)
          rw [v4] at this
          exact this
        · obtain ⟨J4, v1, v2, v3⟩ := s1
          rw [v1]
          cases hq
          exact ⟨J4, Eq.trans b14_138 (Eq.trans (if_neg (fun z => z rfl)) b14_141), Ex_t g3 (ExF v2), fun b hb h63 h65 => by rw [v2.1 b h63 h65, g4 b hb h63 h65], v3⟩
    have plain : run 60 14 125 [.ref 63, .int (bI r), .int (iN kd), .int (bI (decide (kd = 14))), xU] [] (J2, G, Z) = run 60 14 143 [.ref 63, .int (bI r), .int (iN kd), .int (bI (decide (kd = 14))), .int 0] [] (J2, G, Z) := Eq.trans b14_125 (Eq.trans b14_126 (if_pos rfl))
    have kp := keep J2 k2 c [] 0 r3 hl0 x2 n2 b4 b10 r5 r6
    rw [r4] at kp
    by_cases e15 : kd = 15
    · rw [if_pos (Or.inl e15 : kd = 15 ∨ kd ≠ 14 ∧ KK u n p1 = 19), if_pos e15, ← r4] at hq
      rw [if_pos (show iN kd = 15 by rw [e15]; rfl)]
      exact test J2 k2 r3 x2 n2 b4 b10 r5 r6 hq
    · rw [if_neg (show ¬ iN kd = 15 from fun z => e15 ((iN_inj (b := 15) (by omega) (by omega)).mp z)), b14_108, bI_n]
      by_cases e14 : kd = 14
      · rw [if_neg (show ¬ (kd = 15 ∨ kd ≠ 14 ∧ KK u n p1 = 19) from fun z => z.elim e15 (fun y => y.1 e14))] at hq
        cases hq
        rw [if_pos (decide_eq_true e14), plain]
        exact kp
      · rw [if_neg (by simpa using e14), b14_112 hZ.k63, show (19 : Int32) = iN 19 from rfl, c_passes hZ hn r3 (by omega), r4]
        by_cases e19 : KK u n p1 = 19
        · rw [if_pos (Or.inr ⟨e14, e19⟩ : kd = 15 ∨ kd ≠ 14 ∧ KK u n p1 = 19), if_neg e15] at hq
          rw [if_pos e19]
          have hpn : p1 < n := K_lt (u := u) (by omega)
          have en2 : ps u n (k2 + 1) = nx u n p1 := by rw [ps, r4]
          rw [← en2] at hq
          have go : run 60 14 118 [.ref 63, .int (bI r), .int (iN kd), .int (bI (decide (kd = 14))), xU] [.int 1] (up2 J2 63 3 (iN k2 + 1), G, Z) = run 60 14 121 [.ref 63, .int (bI r), .int (iN kd), .int (bI (decide (kd = 14))), xU] [] (up2 J2 63 3 (iN k2 + 1), G, Z) := Eq.trans b14_118 (if_neg (by decide))
          show OkC J u n T i hp G Z (run 60 14 118 [.ref 63, .int (bI r), .int (iN kd), .int (bI (decide (kd = 14))), xU] [.int 1] (up2 J2 63 3 (iN k2 + 1), G, Z)) q
          rw [go]
          exact test _ (k2 + 1) (RS_at r3 (by rw [r4]; exact hpn)) (Ex_t x2 Exw) (fun b hb h63 h65 => by rw [← n2 b hb h63 h65]; exact funext fun z => up2_a h63) (by rw [up2_k (by decide)]; exact b4) (by rw [up2_k (by decide)]; exact b10) (by rw [up2_k (by decide)]; exact r5) (by rw [up2_k (by decide)]; exact r6) hq
        · rw [if_neg (show ¬ (kd = 15 ∨ kd ≠ 14 ∧ KK u n p1 = 19) from fun z => z.elim e15 (fun y => e19 y.2))] at hq
          cases hq
          rw [if_neg e19]
          have go : run 60 14 118 [.ref 63, .int (bI r), .int (iN kd), .int (bI (decide (kd = 14))), xU] [.int 0] (J2, G, Z) = run 60 14 125 [.ref 63, .int (bI r), .int (iN kd), .int (bI (decide (kd = 14))), xU] [] (J2, G, Z) := Eq.trans b14_118 (if_pos rfl)
          show OkC J u n T i hp G Z (run 60 14 118 [.ref 63, .int (bI r), .int (iN kd), .int (bI (decide (kd = 14))), xU] [.int 0] (J2, G, Z)) _
          rw [go, plain]
          exact kp
end TX
