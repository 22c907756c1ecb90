/-! A TEST HELD: the model's, whole -/
section MH2
variable {S : aI} {G : aL} {Z : aZ} {w : Nat → Int}
theorem m_aloop (hZ : Shp Z) (hwb : ∀ k, k < 13 → -10000000 ≤ w k ∧ w k ≤ 10000000) {s m : Nat} (hs : s < 20) (hm : m < 300) {e0 : Int32} : ∀ (l : List Int32) (y : Nat) (T T' : List Nat) (V : List Int) (G : aL) (v6 v7 : Value), y + l.length = m → (∀ j, j < l.length → S 86 (300 * s + (y + j)) = (enc (l.getD j 0)).1 ∧ S 87 (300 * s + (y + j)) = (enc (l.getD j 0)).2) → (∀ k, k < 13 → (G 95 k).toInt = w k) → cks l T = some T' → ty T V → sM G V → T.length ≤ 40 → ∃ (G' : aL) (w6 w7 : Value), run 3 195 6 [.ref 72, .int (iN s), .int e0, .int (iN m), .int (iN V.length), .int (iN y), v6, v7] [] (S, G, Z) = run 3 195 153 [.ref 72, .int (iN s), .int e0, .int (iN m), .int (iN (evs w l V).length), .int (iN m), w6, w7] [] (S, G', Z) ∧ (∀ b, b ≠ 96 → G' b = G b) ∧ sM G' (evs w l V) := by
  intro l
  induction l with
  | nil =>
    intro y T T' V G v6 v7 hy _ _ _ _ hs' _
    have hy : y = m := hy
    subst hy
    exact ⟨G, v6, v7, Eq.trans b195_6 (if_pos (iN_nlt (by omega))), fun _ _ => rfl, hs'⟩
  | cons x l ih =>
    intro y T T' V G v6 v7 hy hl hw hc hV hm' hT
    rw [List.length_cons] at hy
    obtain ⟨T1, c1, c2⟩ := cks_cons hc
    have h0 := hl 0 (by rw [List.length_cons]; omega)
    obtain ⟨G1, x6, x7, g1, g2, g3⟩ := m_step (S := S) (e0 := e0) (e1 := iN m) (v6 := v6) (v7 := v7) hZ hw hs (y := y) (by omega) ((iN_lt (by omega) (by omega)).mpr (by omega)) h0.1 h0.2 c1 hV hm' hT
    obtain ⟨G', w6, w7, b1, b2, b3⟩ := ih (y + 1) T1 T' (stp1 w x V) G1 x6 x7 (by omega) (fun j hj => by
      have := hl (j + 1) (by rw [List.length_cons]; omega)
      rw [show y + 1 + j = y + (j + 1) by omega]
      exact this) (fun k hk => by rw [g2 95 (by decide)]; exact hw k hk) c2 (ty_st hwb c1 hV) g3 (ck_len c1 hT)
    exact ⟨G', w6, w7, Eq.trans g1 b1, fun b hb => by rw [b2 b hb, g2 b hb], b3⟩
theorem m_holds (hZ : Shp Z) (hwb : ∀ k, k < 13 → -10000000 ≤ w k ∧ w k ≤ 10000000) (hw : ∀ k, k < 13 → (G 95 k).toInt = w k) {s i e0 : Nat} (hs : s < 20) (hi : i < 14) {l : List Int32} (h92 : S 92 (14 * s + i) = iN e0) (h93 : S 93 (14 * s + i) = iN (e0 + l.length)) (hen : ∀ j, j < l.length → S 86 (300 * s + (e0 + j)) = (enc (l.getD j 0)).1 ∧ S 87 (300 * s + (e0 + j)) = (enc (l.getD j 0)).2) (hb : e0 + l.length < 300) (hck : l ≠ [] → cks l [] = some [0]) : ∃ G' : aL, call 197 [.ref 72, .int (iN (14 * s + i))] (S, G, Z) = some (some (.int (bI (tst w l))), (S, G', Z)) ∧ ∀ b, b ≠ 96 → G' b = G b := by
  have hib : ib (iN (14 * s + i)) 280 := ib_iN (by omega) (by omega)
  have hc : (iN (14 * s + i)).toNatClampNeg = 14 * s + i := iN_clamp (by omega)
  have e92 : mI (S, G, Z) 92 (14 * s + i) = iN e0 := h92
  have e93 : mI (S, G, Z) 93 (14 * s + i) = iN (e0 + l.length) := h93
  have st : call 197 [.ref 72, .int (iN (14 * s + i))] (S, G, Z) = if iN e0 = iN (e0 + l.length) then run 4 197 40 [.ref 72, .int (iN (14 * s + i))] [] (S, G, Z) else run 4 197 15 [.ref 72, .int (iN (14 * s + i))] [] (S, G, Z) := by
    refine Eq.trans e197 (Eq.trans (b197_0 hZ.k72 hZ.kr72_43 (hZ.ir72_43 hib) hZ.kr72_44 (hZ.ir72_44 hib)) ?_)
    rw [hZ.r72_43, hZ.r72_44, hc, e92, e93]
  have y40 : ∀ G1 : aL, run 4 197 40 [.ref 72, .int (iN (14 * s + i))] [] (S, G1, Z) = some (some (.int 1), (S, G1, Z)) := fun G1 => Eq.trans b197_40 (b197_45 rfl)
  rw [st]
  cases l with
  | nil =>
    rw [if_pos (show iN e0 = iN (e0 + ([] : List Int32).length) from rfl)]
    exact ⟨G, y40 G, fun _ _ => rfl⟩
  | cons x l =>
    have hck := hck (by simp)
    obtain ⟨v, v1, v2⟩ := one_v hwb hck
    rw [if_neg (fun z => by have := (iN_inj (by omega) (by omega)).mp z; rw [List.length_cons] at this; omega)]
    obtain ⟨G', w6, w7, b1, b2, b3⟩ := m_aloop (S := S) (w := w) (e0 := iN e0) hZ hwb hs (m := e0 + (x :: l).length) hb (x :: l) e0 [] [0] [] G xU xU rfl hen hw hck trivial trivial (by decide)
    rw [v1] at b1 b3
    have s1 : (G' 96 0).toInt = v := b3.1
    refine ⟨G', ?_, b2⟩
    have ed : iN (14 * s + i) / 14 = iN s := by
      rw [show (14 : Int32) = iN 14 from rfl, iN_div (by omega) (by omega) (by omega), show (14 * s + i) / 14 = s by omega]
    have ea : call 195 [.ref 72, .int (iN s), .int (iN e0), .int (iN (e0 + (x :: l).length))] (S, G, Z) = some (some (.long (G' 96 0)), (S, G', Z)) := by
      refine Eq.trans e195 (Eq.trans b195_0 (Eq.trans b1 (Eq.trans (b195_153 hZ.k72 hZ.kr72_47 (hZ.ir72_47 (ib_iN (a := 0) (by decide) (by decide)))) ?_)))
      rw [hZ.r72_47]
      rfl
    refine Eq.trans (b197_15 hZ.k72 hZ.kr72_43 (hZ.ir72_43 hib) hZ.kr72_44 (hZ.ir72_44 hib)) ?_
    rw [hZ.r72_43, hZ.r72_44, hc, e92, e93, ed, ea]
    refine Eq.trans b197_35 ?_
    rw [show tst w (x :: l) = decide (evs w (x :: l) [] = [1]) from rfl, v1]
    rcases v2 with q | q
    · subst q
      rw [if_pos (show ¬ lg_cmp (G' 96 0) 1 = 0 from fun z => by have := lgc_eq.mp z; rw [s1] at this; exact absurd this (by decide)), decide_eq_false (by decide)]
      exact Eq.trans b197_44 (b197_45 rfl)
    · subst q
      rw [if_neg (show ¬ ¬ lg_cmp (G' 96 0) 1 = 0 from fun z => z (lgc_eq.mpr (by rw [s1]; rfl))), decide_eq_true rfl]
      exact y40 G'
end MH2
