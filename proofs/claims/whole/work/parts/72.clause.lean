/-! CLAUSES AND TEXTS: how they are read; the class's heads -/
def pN (u : Nat → Int32) (n : Nat) (a b : Int) (p : Nat) : (Nat × Int32) ⊕ Nat := if KK u n p = 2 then (if inB (VV u n p) a b = true then .inl (nx u n p, VV u n p) else .inr (ft p 1)) else .inr (ft p 0)
def hd (u : Nat → Int32) (n kd p : Nat) : (Nat × Int32 × Int32) ⊕ Nat :=
  if kd = 14 then (match pN u n 1 9999 p with
    | .inl (p1, v) => .inl (p1, 0, v)
    | .inr e => .inr e)
  else if kd = 16 then (if KK u n p = 3 then (match pN u n 0 1000 (nx u n p) with
    | .inl (p1, v) => .inl (p1, VV u n p, v)
    | .inr e => .inr e) else .inr (ft p 0))
  else if kd = 17 then (match pN u n 0 9 p with
    | .inr e => .inr e
    | .inl (p1, m) => if KK u n p1 = 18 then (match pN u n 1 9999 (nx u n p1) with
      | .inl (p2, v) => .inl (p2, m, v)
      | .inr e => .inr e) else .inr (ft p1 0))
  else .inl (p, 0, 0)
/-- kind, who, number, steps of the test -/
abbrev aK : Type := Nat × Int32 × Int32 × List Int32
def mb (r : Bool) (kd : Nat) : Bool := if r = true then decide (kd = 17) else decide (kd = 14 ∨ kd = 15 ∨ kd = 16)
def cl (u : Nat → Int32) (n : Nat) (r : Bool) (i : Nat) (hp : Bool) (p c : Nat) : Option ((Nat × Nat × aK) ⊕ Nat) :=
  if mb r (KK u n p) = false then some (.inr (ft p 0)) else if 14 ≤ i ∨ (KK u n p = 14 ∧ hp = true) then some (.inr (ft p 4)) else match hd u n (KK u n p) (nx u n p) with
    | .inr e => some (.inr e)
    | .inl (p1, who, num) => if KK u n p = 15 ∨ (KK u n p ≠ 14 ∧ KK u n p1 = 19) then (match par u n 810 true false false 0 (if KK u n p = 15 then p1 else nx u n p1) c [] with
        | none => none
        | some (.inr e) => some (.inr e)
        | some (.inl (p2, c2, l2)) => some (.inl (p2, c2, (KK u n p, who, num, l2)))) else some (.inl (p1, c, (KK u n p, who, num, [])))
def txt (u : Nat → Int32) (n : Nat) (r : Bool) : Nat → Nat → Bool → Nat → Nat → List aK → Option (List aK ⊕ Nat)
  | 0, _, _, _, _, _ => none
  | f + 1, i, hp, p, c, acc => match cl u n r i hp p c with
    | none => none
    | some (.inr e) => some (.inr e)
    | some (.inl (p1, c1, k)) => if KK u n p1 = 0 then some (.inl (acc ++ [k])) else if KK u n p1 = 4 then txt u n r f (i + 1) (hp || decide (k.1 = 14)) (nx u n p1) c1 (acc ++ [k]) else some (.inr (ft p1 0))
section CLS
variable {J : aI} {G : aL} {Z : aZ} {u : Nat → Int32} {n T k c : Nat} {l : List Int32}
theorem pN_b {a b : Int} {p p1 : Nat} {v : Int32} (h : pN u n a b p = .inl (p1, v)) : p < n ∧ p1 = nx u n p ∧ inB v a b = true := by
  unfold pN at h
  split at h
  · rename_i h2
    split at h
    · rename_i hb
      cases h
      exact ⟨K_lt (u := u) (by omega), rfl, hb⟩
    · cases h
  · cases h
theorem hd_b {kd p p1 : Nat} {w v : Int32} (hp : p ≤ n) (h : hd u n kd p = .inl (p1, w, v)) : p ≤ p1 ∧ p1 ≤ n := by
  unfold hd at h
  split at h
  · cases hq : pN u n 1 9999 p with
    | inr e => rw [hq] at h; cases h
    | inl q =>
      obtain ⟨q1, q2⟩ := q
      rw [hq] at h
      cases h
      obtain ⟨a1, a2, -⟩ := pN_b hq
      have := nx_gt (u := u) a1
      omega
  · split at h
    · split at h
      · rename_i h3
        have hpn : p < n := K_lt (u := u) (by omega)
        have g := nx_gt (u := u) hpn
        cases hq : pN u n 0 1000 (nx u n p) with
        | inr e => rw [hq] at h; cases h
        | inl q =>
          obtain ⟨q1, q2⟩ := q
          rw [hq] at h
          cases h
          obtain ⟨a1, a2, -⟩ := pN_b hq
          have := nx_gt (u := u) a1
          omega
      · cases h
    · split at h
      · cases hq : pN u n 0 9 p with
        | inr e => rw [hq] at h; cases h
        | inl q =>
          obtain ⟨q1, q2⟩ := q
          rw [hq] at h
          obtain ⟨a1, a2, -⟩ := pN_b hq
          have g := nx_gt (u := u) a1
          dsimp only at h
          split at h
          · rename_i h18
            have hpn : q1 < n := K_lt (u := u) (by omega)
            have g1 := nx_gt (u := u) hpn
            cases hq2 : pN u n 1 9999 (nx u n q1) with
            | inr e => rw [hq2] at h; cases h
            | inl q =>
              obtain ⟨q3, q4⟩ := q
              rw [hq2] at h
              cases h
              obtain ⟨b1, b2, -⟩ := pN_b hq2
              have := nx_gt (u := u) b1
              omega
          · cases h
      · cases h
        omega
theorem cl_b {r : Bool} {i : Nat} {hp : Bool} {p c p1 c1 : Nat} {q : aK} (hpn : p ≤ n) (hc : c ≤ 60) (h : cl u n r i hp p c = some (.inl (p1, c1, q))) : p < p1 ∧ p1 ≤ n ∧ c ≤ c1 ∧ c1 ≤ 60 ∧ i < 14 ∧ q.1 = KK u n p ∧ ∀ e, 3 * e ≤ 6 * c + p → 3 * (e + q.2.2.2.length) ≤ 6 * c1 + p1 := by
  unfold cl at h
  split at h
  · cases h
  · rename_i hm
    have hp1 : p < n := by
      refine K_lt (u := u) (fun z => ?_)
      rw [z] at hm
      cases r <;> exact hm rfl
    have g := nx_gt (u := u) hp1
    split at h
    · cases h
    · rename_i hi
      cases hh : hd u n (KK u n p) (nx u n p) with
      | inr e => rw [hh] at h; cases h
      | inl w =>
        obtain ⟨w1, w2, w3⟩ := w
        rw [hh] at h
        have hb := hd_b (by omega) hh
        dsimp only at h
        split at h
        · have hq : (if KK u n p = 15 then w1 else nx u n w1) ≤ n ∧ w1 ≤ (if KK u n p = 15 then w1 else nx u n w1) := by
            have := nx_le (u := u) (n := n) (p := w1) hb.2
            split <;> omega
          cases ht : par u n 810 true false false 0 (if KK u n p = 15 then w1 else nx u n w1) c [] with
          | none => rw [ht] at h; cases h
          | some z =>
            rw [ht] at h
            rcases z with ⟨p2, c2, l2⟩ | e
            · obtain ⟨a1, a2, a3, a4, a5, a6⟩ := par_b _ _ _ _ _ _ _ _ _ _ _ hq.1 hc ht
              cases h
              refine ⟨by omega, a2, a3, a4, by omega, rfl, fun e he => ?_⟩
              have := a6 e (by simp; omega)
              dsimp only
              omega
            · cases h
        · cases h
          refine ⟨by omega, by omega, by omega, hc, by omega, rfl, fun e he => ?_⟩
          dsimp only
          rw [List.length_nil]
          omega
theorem RS_o {J' : aI} (h : RS J u n T k c l) (h1 : ∀ a, a ≠ 63 → J' a = J a) (h2 : ∀ j, j = 3 ∨ j = 5 ∨ j = 6 → J' 63 j = J 63 j) : RS J' u n T k c l := by
  obtain ⟨⟨t1, t2, t3, t4, t5⟩, r2, r3, r4, r5, r6⟩ := h
  refine ⟨⟨t1, t2, t3, ?_, fun j hj => ?_⟩, r2, ?_, ?_, ?_, fun i hi => ?_⟩
  · rw [h1 58 (by decide)]; exact t4
  · rw [h1 60 (by decide), h1 61 (by decide), h1 62 (by decide)]; exact t5 j hj
  · rw [h2 3 (by omega)]; exact r3
  · rw [h2 6 (by omega)]; exact r4
  · rw [h2 5 (by omega)]; exact r5
  · rw [h1 65 (by decide)]; exact r6 i hi
theorem RS_w {j : Nat} {v : Int32} (h : RS J u n T k c l) (hj : j ≠ 3 ∧ j ≠ 5 ∧ j ≠ 6) : RS (up2 J 63 j v) u n T k c l := RS_o h (fun a ha => funext fun q => up2_a ha) (fun q hq => up2_k (by omega))
theorem c_number (hZ : Shp Z) (hn : n ≤ 400) (h : RS J u n T k c l) {a b : Int32} : call 18 [.ref 63, .int a, .int b] (J, G, Z) = (match pN u n a.toInt b.toInt (ps u n k) with
    | .inl (_, v) => some (some (.int 1), (up2 (up2 J 63 9 v) 63 3 (iN k + 1), G, Z))
    | .inr e => some (some (.int 0), (up2 J 63 7 (iN e), G, Z))) := by
  have kb := K_b (u := u) (n := n) (p := ps u n k)
  refine Eq.trans e18 (Eq.trans (b18_0 hZ.k63) ?_)
  rw [c_kind hZ hn h]
  refine Eq.trans b18_4 ?_
  unfold pN
  by_cases h2 : KK u n (ps u n k) = 2
  · rw [if_pos h2, if_pos (by rw [h2]; rfl)]
    refine Eq.trans (b18_14 hZ.k63) ?_
    rw [c_value hZ hn h]
    refine Eq.trans b18_18 ?_
    rw [c_within]
    refine Eq.trans b18_23 ?_
    rw [bI_n]
    by_cases hv : inB (VV u n (ps u n k)) a.toInt b.toInt = true
    · rw [if_pos hv, if_pos hv]
      refine Eq.trans (b18_32 hZ.k63) ?_
      rw [c_value hZ hn h]
      refine Eq.trans (b18_37 hZ.k63 hZ.k63) ?_
      rw [wI_t, wI_t, mI_t, up2_k (by decide), h.2.2.1]
    · rw [if_neg hv, if_neg hv]
      refine Eq.trans (b18_26 hZ.k63) ?_
      rw [show (1 : Int32) = iN 1 from rfl, c_refuse hZ hn h (by omega)]
      exact b18_31 rfl
  · rw [if_neg h2, if_neg (show ¬ iN (KK u n (ps u n k)) = 2 from fun q => h2 ((iN_inj (b := 2) (by omega) (by omega)).mp q))]
    refine Eq.trans (b18_8 hZ.k63) ?_
    rw [show (0 : Int32) = iN 0 from rfl, c_refuse hZ hn h (by omega)]
    exact b18_13 rfl
/-- only the reader's own cell, and in it only j with P -/
def RdH (J J' : aI) : Prop := (∀ a, a ≠ 63 → J' a = J a) ∧ ∀ j, j = 4 ∨ j = 5 ∨ j = 6 ∨ j = 10 → J' 63 j = J 63 j
theorem RdH_t {J J1 J2 : aI} (h1 : RdH J J1) (h2 : RdH J1 J2) : RdH J J2 := ⟨fun a x => by rw [h2.1 a x, h1.1 a x], fun j a => by rw [h2.2 j a, h1.2 j a]⟩
theorem RdH_w {J : aI} {j : Nat} {v : Int32} (h : j = 3 ∨ j = 7 ∨ j = 8 ∨ j = 9) : RdH J (up2 J 63 j v) := ⟨fun a x => funext fun q => up2_a x, fun q a => up2_k (by omega)⟩
def OkH (J : aI) (u : Nat → Int32) (n T c : Nat) (l : List Int32) (G : aL) (Z : aZ) (X : Option (Option Value × aM)) (q : (Nat × Int32 × Int32) ⊕ Nat) : Prop := match q with
  | .inl (p', w, v) => ∃ (J' : aI) (k' : Nat), X = some (some (.int 1), (J', G, Z)) ∧ RdH J J' ∧ RS J' u n T k' c l ∧ ps u n k' = p' ∧ J' 63 8 = w ∧ J' 63 9 = v
  | .inr e => ∃ J' : aI, X = some (some (.int 0), (J', G, Z)) ∧ RdH J J' ∧ J' 63 7 = iN e
theorem c_head (hZ : Shp Z) (hn : n ≤ 400) (h : RS J u n T k c l) {kd : Nat} (hkd : kd = 14 ∨ kd = 15 ∨ kd = 16 ∨ kd = 17) : OkH J u n T c l G Z (call 16 [.ref 63, .int (iN kd)] (J, G, Z)) (hd u n kd (ps u n k)) := by
  have hR0 : RS (up2 (up2 J 63 8 0) 63 9 0) u n T k c l := RS_w (RS_w h (by decide)) (by decide)
  have f0 : RdH J (up2 (up2 J 63 8 0) 63 9 0) := RdH_t (RdH_w (by omega)) (RdH_w (by omega))
  have e1000 : (1000 : Int32).toInt = 1000 := by decide
  generalize hJ0 : up2 (up2 J 63 8 0) 63 9 0 = J0 at hR0 f0
  have w0 : J0 63 8 = 0 := by rw [← hJ0, up2_k (by decide), up2_s]
  have n0 : J0 63 9 = 0 := by rw [← hJ0, up2_s]
  unfold hd
  rcases hkd with rfl | rfl | rfl | rfl
  · rw [if_pos rfl, e16, b16_0_c14 (x1 := iN 14) hZ.k63 rfl, wI_t, wI_t, hJ0, b16_40 hZ.k63, c_number hZ hn hR0, l32_1, l32_9999]
    cases hq : pN u n 1 9999 (ps u n k) with
    | inl q =>
      obtain ⟨p1, v⟩ := q
      obtain ⟨a1, a2, -⟩ := pN_b hq
      refine ⟨_, k + 1, b16_48 rfl, RdH_t f0 (RdH_t (RdH_w (by omega)) (RdH_w (by omega))), RS_at (RS_w hR0 (by decide)) a1, by rw [a2]; rfl, ?_, ?_⟩
      · rw [up2_k (by decide), up2_k (by decide)]; exact w0
      · rw [up2_k (by decide), up2_s]
    | inr e => exact ⟨_, b16_48 rfl, RdH_t f0 (RdH_w (by omega)), up2_s⟩
  · rw [if_neg (by decide), if_neg (by decide), if_neg (by decide), e16, b16_0_c15 (x1 := iN 15) hZ.k63 rfl, wI_t, wI_t, hJ0, b16_128]
    exact ⟨J0, k, rfl, f0, hR0, rfl, w0, n0⟩
  · rw [if_neg (by decide), if_pos rfl, e16, b16_0_c16 (x1 := iN 16) hZ.k63 rfl, wI_t, wI_t, hJ0, b16_49 hZ.k63, c_value hZ hn hR0]
    show OkH J u n T c l G Z (run 3 16 54 [.ref 63, .int (iN 16)] [.int (VV u n (ps u n k)), .ref 63] (J0, G, Z)) _
    have hR1 : RS (up2 J0 63 8 (VV u n (ps u n k))) u n T k c l := RS_w hR0 (by decide)
    rw [b16_54 hZ.k63 hZ.k63, wI_t, show (3 : Int32) = iN 3 from rfl, c_expect hZ hn hR1 (by omega)]
    by_cases h3 : KK u n (ps u n k) = 3
    · rw [if_pos h3, if_pos h3]
      have hp : ps u n k < n := K_lt (u := u) (by omega)
      have hR2 := RS_at hR1 hp
      show OkH J u n T c l G Z (run 3 16 62 [.ref 63, .int (iN 16)] [.int 1] (up2 (up2 J0 63 8 (VV u n (ps u n k))) 63 3 (iN k + 1), G, Z)) _
      rw [b16_62, if_neg (show ¬ (1 : Int32) = 0 by decide), b16_65 hZ.k63, c_number hZ hn hR2, l32_0, e1000]
      have en : ps u n (k + 1) = nx u n (ps u n k) := rfl
      rw [en]
      cases hq : pN u n 0 1000 (nx u n (ps u n k)) with
      | inl q =>
        obtain ⟨p1, v⟩ := q
        obtain ⟨a1, a2, -⟩ := pN_b hq
        refine ⟨_, k + 1 + 1, Eq.trans b16_73 (Eq.trans (if_neg (by decide)) (Eq.trans b16_76 (b16_81 rfl))), RdH_t f0 (RdH_t (RdH_w (by omega)) (RdH_t (RdH_w (by omega)) (RdH_t (RdH_w (by omega)) (RdH_w (by omega))))), RS_at (RS_w hR2 (by decide)) a1, by rw [a2]; rfl, ?_, ?_⟩
        · rw [up2_k (by decide), up2_k (by decide), up2_k (by decide), up2_s]
        · rw [up2_k (by decide), up2_s]
      | inr e => exact ⟨_, Eq.trans b16_73 (Eq.trans (if_pos rfl) (Eq.trans b16_80 (b16_81 rfl))), RdH_t f0 (RdH_t (RdH_w (by omega)) (RdH_t (RdH_w (by omega)) (RdH_w (by omega)))), up2_s⟩
    · rw [if_neg h3, if_neg h3]
      exact ⟨_, Eq.trans b16_62 (Eq.trans (if_pos rfl) (Eq.trans b16_80 (b16_81 rfl))), RdH_t f0 (RdH_t (RdH_w (by omega)) (RdH_w (by omega))), up2_s⟩
  · rw [if_neg (by decide), if_neg (by decide), if_pos rfl, e16, b16_0_c17 (x1 := iN 17) hZ.k63 rfl, wI_t, wI_t, hJ0, b16_82 hZ.k63, c_number hZ hn hR0, l32_0, l32_9]
    cases hq : pN u n 0 9 (ps u n k) with
    | inr e => exact ⟨_, Eq.trans b16_89 (Eq.trans (if_neg (fun z => z rfl)) b16_92), RdH_t f0 (RdH_w (by omega)), up2_s⟩
    | inl q =>
      obtain ⟨p1, m⟩ := q
      obtain ⟨a1, a2, -⟩ := pN_b hq
      have hR1 : RS (up2 (up2 J0 63 9 m) 63 3 (iN k + 1)) u n T (k + 1) c l := RS_at (RS_w hR0 (by decide)) a1
      have en : ps u n (k + 1) = p1 := by rw [a2]; rfl
      show OkH J u n T c l G Z (run 3 16 89 [.ref 63, .int (iN 17)] [.int 1] (up2 (up2 J0 63 9 m) 63 3 (iN k + 1), G, Z)) _
      rw [b16_89, if_pos (show ¬ (1 : Int32) = 0 by decide), b16_94 hZ.k63, mI_t, wI_t, up2_k (by decide), up2_s]
      have hR2 : RS (up2 (up2 (up2 J0 63 9 m) 63 3 (iN k + 1)) 63 8 m) u n T (k + 1) c l := RS_w hR1 (by decide)
      rw [show (18 : Int32) = iN 18 from rfl, c_expect hZ hn hR2 (by omega), en]
      dsimp only
      by_cases h18 : KK u n p1 = 18
      · rw [if_pos h18, if_pos h18]
        have hp1 : p1 < n := K_lt (u := u) (by omega)
        have hR3 := RS_at hR2 (by rw [en]; exact hp1)
        show OkH J u n T c l G Z (run 3 16 108 [.ref 63, .int (iN 17)] [.int 1] (up2 (up2 (up2 (up2 J0 63 9 m) 63 3 (iN k + 1)) 63 8 m) 63 3 (iN (k + 1) + 1), G, Z)) _
        rw [b16_108, if_neg (show ¬ (1 : Int32) = 0 by decide), b16_111 hZ.k63, c_number hZ hn hR3, l32_1, l32_9999]
        have en2 : ps u n (k + 1 + 1) = nx u n p1 := by rw [ps, en]
        rw [en2]
        cases hq2 : pN u n 1 9999 (nx u n p1) with
        | inl q =>
          obtain ⟨p2, v⟩ := q
          obtain ⟨b1, b2, -⟩ := pN_b hq2
          refine ⟨_, k + 1 + 1 + 1, Eq.trans b16_119 (Eq.trans (if_neg (by decide)) (Eq.trans b16_122 (b16_127 rfl))), RdH_t f0 (RdH_t (RdH_w (by omega)) (RdH_t (RdH_w (by omega)) (RdH_t (RdH_w (by omega)) (RdH_t (RdH_w (by omega)) (RdH_t (RdH_w (by omega)) (RdH_w (by omega))))))), RS_at (RS_w hR3 (by decide)) (by rw [en2]; exact b1), by rw [b2, ps, en2], ?_, ?_⟩
          · rw [up2_k (by decide), up2_k (by decide), up2_k (by decide), up2_s]
          · rw [up2_k (by decide), up2_s]
        | inr e => exact ⟨_, Eq.trans b16_119 (Eq.trans (if_pos rfl) (Eq.trans b16_126 (b16_127 rfl))), RdH_t f0 (RdH_t (RdH_w (by omega)) (RdH_t (RdH_w (by omega)) (RdH_t (RdH_w (by omega)) (RdH_t (RdH_w (by omega)) (RdH_w (by omega)))))), up2_s⟩
      · rw [if_neg h18, if_neg h18]
        exact ⟨_, Eq.trans b16_108 (Eq.trans (if_pos rfl) (Eq.trans b16_126 (b16_127 rfl))), RdH_t f0 (RdH_t (RdH_w (by omega)) (RdH_t (RdH_w (by omega)) (RdH_t (RdH_w (by omega)) (RdH_w (by omega))))), up2_s⟩
end CLS
