/-! THE MODEL'S READER: digits, a value -/
section RN
variable {P : Int32 → Bool} {u : Nat → Int32} {n : Nat}
theorem rnE_all : ∀ d i q, i ≤ q → q < rnE P u d i → P (u q) = true := by
  intro d
  induction d with
  | zero => intro i q h1 h2; rw [rnE] at h2; omega
  | succ d ih =>
    intro i q h1 h2
    rw [rnE] at h2
    by_cases h : P (u i) = true
    · rw [if_pos h] at h2
      by_cases e : q = i
      · rw [e]; exact h
      · exact ih (i + 1) q (by omega) h2
    · rw [if_neg h] at h2; omega
theorem rnE_end : ∀ d i, rnE P u d i < i + d → P (u (rnE P u d i)) = false := by
  intro d
  induction d with
  | zero => intro i h; rw [rnE] at h; omega
  | succ d ih =>
    intro i h
    rw [rnE] at h ⊢
    by_cases hp : P (u i) = true
    · rw [if_pos hp] at h ⊢; exact ih (i + 1) (by omega)
    · rw [if_neg hp] at h ⊢
      cases hq : P (u i)
      · rfl
      · exact absurd hq hp
theorem rn_all {i q : Nat} (h1 : i ≤ q) (h2 : q < rn P u n i) : P (u q) = true := rnE_all (n - i) i q h1 h2
theorem rn_end {i : Nat} (hi : i ≤ n) (h : rn P u n i < n) : P (u (rn P u n i)) = false := rnE_end (n - i) i (by unfold rn at h; omega)
end RN
theorem dv_b {u : Nat → Int32} {p : Nat} : ∀ k, k ≤ 5 → (∀ i, i < k → dg (u (p + i)) = true) → 0 ≤ (dvF u p k).toInt ∧ (dvF u p k).toInt < 10 ^ k := by
  intro k
  induction k with
  | zero => intro _ _; rw [dvF]; decide
  | succ k ih =>
    intro hk hd
    obtain ⟨a, b⟩ := ih (by omega) (fun i hi => hd i (by omega))
    have c := hd k (by omega)
    unfold dg at c
    rw [inB_iff] at c
    rw [dvF, if_pos (by omega)]
    have hb : (10 : Int) ^ k ≤ 10000 := by
      have : k = 0 ∨ k = 1 ∨ k = 2 ∨ k = 3 ∨ k = 4 := by omega
      rcases this with q | q | q | q | q <;> subst q <;> decide
    have e : (dvF u p k * 10 + u (p + k) - 48).toInt = (dvF u p k).toInt * 10 + (u (p + k)).toInt - 48 := by
      rw [Int32.toInt_sub, Int32.toInt_add, Int32.toInt_mul, show (10 : Int32).toInt = 10 from rfl, show (48 : Int32).toInt = 48 from rfl]
      simp only [Int.bmod_def]
      omega
    rw [e, Int.pow_succ]
    omega
section MDG
variable {S : aI} {G : aL} {Z : aZ} {u : Nat → Int32} {n s r c d e p : Nat} {o : List Nat} {L : List Int32}
theorem m_digits_n (hZ : Shp Z) (hT : MT S u n) (hp : p ≤ 1000) (h28 : S 72 28 = iN p) (h2 : KK u n p ≠ 2) {x : Int32} : call 176 [.ref 72, .int x] (S, G, Z) = some (some (.int 0), (flt S 0 p, G, Z)) := by
  have hd : dg (sg u n p) = false := by
    cases q : dg (sg u n p)
    · rfl
    · exact absurd (K2.1.mp q) h2
  refine Eq.trans e176 (Eq.trans (b176_0 hZ.k72) ?_)
  rw [m_dig hZ hT hp h28, hd]
  refine Eq.trans b176_4 (Eq.trans (if_neg (fun z => z rfl)) (Eq.trans (b176_7 hZ.k72) ?_))
  rw [mI_t, h28, show (0 : Int32) = iN 0 from rfl, m_fails hZ]
  exact b176_16
theorem m_digits (hZ : Shp Z) (hT : MT S u n) (h28 : S 72 28 = iN p) (h2 : KK u n p = 2) {x : Int32} : call 176 [.ref 72, .int x] (S, G, Z) = some (some (.int (dvF u p (rn dg u n p - p))), (if 5 < rn dg u n p - p ∨ x < dvF u p (rn dg u n p - p) then flt (up2 S 72 28 (iN (rn dg u n p))) 1 p else up2 S 72 28 (iN (rn dg u n p)), G, Z)) := by
  have hd : dg (sg u n p) = true := K2.1.mpr h2
  obtain ⟨hp, _, _⟩ := K2.2 h2
  have hn := hT.1
  have hb := rn_b (P := dg) (u := u) (n := n) (i := p) (by omega)
  refine Eq.trans e176 (Eq.trans (b176_0 hZ.k72) ?_)
  rw [m_dig hZ hT (by omega) h28, hd]
  refine Eq.trans b176_4 (Eq.trans (if_pos (by decide)) (Eq.trans (b176_18 hZ.k72) ?_))
  rw [mI_t, h28]
  have hall : ∀ q, p ≤ q → q < rn dg u n p → dg (u q) = true := fun q a b => rn_all a b
  have hend : dg (sg u n (rn dg u n p)) = false := by
    unfold sg
    by_cases q : rn dg u n p < n
    · rw [if_pos q]; exact rn_end (by omega) q
    · rw [if_neg q]; rfl
  generalize hE : rn dg u n p = E at hb hall hend ⊢
  have key := loop_up (fun k => run 3 176 25 [.ref 72, .int x, .int (iN p), .int (dvF u p k)] [] (up2 S 72 28 (iN (p + k)), G, Z)) (E - p) (fun k hk => by
    have hTk : MT (up2 S 72 28 (iN (p + k))) u n := MT_u hT (by decide)
    refine Eq.trans (b176_25 hZ.k72) ?_
    rw [m_dig hZ hTk (by omega) up2_s]
    have sgk : sg u n (p + k) = u (p + k) := if_pos (by omega)
    rw [sgk, hall (p + k) (by omega) (by omega)]
    refine Eq.trans b176_29 (Eq.trans (if_neg (by decide)) (Eq.trans (b176_32 hZ.k72) ?_))
    rw [mI_t, up2_s, iN_sub (by omega) (by omega), show p + k - p = k by omega]
    show _ = run 3 176 25 [.ref 72, .int x, .int (iN p), .int (dvF u p (k + 1))] [] (up2 S 72 28 (iN (p + (k + 1))), G, Z)
    rw [dvF]
    by_cases h5 : k < 5
    · rw [if_pos h5]
      refine Eq.trans (if_neg (fun z => z ((iN_lt (b := 5) (by omega) (by omega)).mpr h5))) (Eq.trans (b176_42 hZ.k72) ?_)
      rw [m_sign hZ hTk (by omega) up2_s, sgk]
      refine Eq.trans b176_50 (Eq.trans (b176_58 hZ.k72) ?_)
      rw [mI_t, up2_s, wI_t, up2_2, iN_succ, Int32.mul_comm]
      rfl
    · rw [if_neg h5]
      refine Eq.trans (if_pos (fun z => h5 ((iN_lt (b := 5) (by omega) (by omega)).mp z))) (Eq.trans b176_57 (Eq.trans (b176_58 hZ.k72) ?_))
      rw [mI_t, up2_s, wI_t, up2_2, iN_succ]
      rfl) 0 (by omega)
  have k0 : run 3 176 25 [.ref 72, .int x, .int (iN p), .int 0] [] (S, G, Z) = run 3 176 25 [.ref 72, .int x, .int (iN p), .int (dvF u p 0)] [] (up2 S 72 28 (iN (p + 0)), G, Z) := by
    rw [Nat.add_zero, up_id h28]; rfl
  refine Eq.trans k0 (Eq.trans key ?_)
  have ep : p + (E - p) = E := by omega
  rw [ep]
  have hTE : MT (up2 S 72 28 (iN E)) u n := MT_u hT (by decide)
  refine Eq.trans (b176_25 hZ.k72) ?_
  rw [m_dig hZ hTE (by omega) up2_s, hend]
  refine Eq.trans b176_29 (Eq.trans (if_pos rfl) (Eq.trans (b176_72 hZ.k72) ?_))
  rw [mI_t, up2_s, iN_sub (by omega) (by omega)]
  have bad : run 3 176 87 [.ref 72, .int x, .int (iN p), .int (dvF u p (E - p))] [] (up2 S 72 28 (iN E), G, Z) = some (some (.int (dvF u p (E - p))), (flt (up2 S 72 28 (iN E)) 1 p, G, Z)) := by
    refine Eq.trans (b176_87 hZ.k72) ?_
    rw [show (1 : Int32) = iN 1 from rfl, m_fails hZ]
    exact b176_93
  by_cases h5 : 5 < E - p
  · rw [if_pos (show (5 : Int32) < iN (E - p) from (iN_lt (a := 5) (by omega) (by omega)).mpr h5), if_pos (Or.inl h5)]
    exact bad
  · rw [if_neg (show ¬ (5 : Int32) < iN (E - p) from fun z => h5 ((iN_lt (a := 5) (by omega) (by omega)).mp z))]
    refine Eq.trans b176_82 ?_
    by_cases hx : x < dvF u p (E - p)
    · rw [if_neg (fun z => z hx), if_pos (Or.inr hx)]
      exact bad
    · rw [if_pos hx, if_neg (by rintro (z | z); exact h5 z; exact hx z)]
      exact b176_93
theorem VV_b (h2 : KK u n p = 2) (h5 : ¬ 5 < rn dg u n p - p) : VV u n p = dvF u p (rn dg u n p - p) ∧ 0 ≤ (VV u n p).toInt ∧ (VV u n p).toInt ≤ 99999 := by
  obtain ⟨hp, _, h3⟩ := K2.2 h2
  rw [if_neg h5] at h3
  have hb := rn_b (P := dg) (u := u) (n := n) (i := p) (by omega)
  have := dv_b (u := u) (p := p) (rn dg u n p - p) (by omega) (fun i hi => rn_all (P := dg) (n := n) (i := p) (by omega) (by omega))
  have h10 : (10 : Int) ^ (rn dg u n p - p) ≤ 100000 := by
    generalize hk : rn dg u n p - p = k at h5 ⊢
    have : k = 0 ∨ k = 1 ∨ k = 2 ∨ k = 3 ∨ k = 4 ∨ k = 5 := by omega
    rcases this with q | q | q | q | q | q <;> subst q <;> decide
  rw [h3]
  exact ⟨rfl, this.1, by omega⟩
theorem VV_x (h2 : KK u n p = 2) : (VV u n p = -1 ↔ 5 < rn dg u n p - p) := by
  obtain ⟨hp, _, h3⟩ := K2.2 h2
  constructor
  · intro q
    by_cases h5 : 5 < rn dg u n p - p
    · exact h5
    · have := VV_b h2 h5
      rw [q] at this
      exact absurd this.2.1 (by decide)
  · intro q; rw [h3, if_pos q]
end MDG
