/-! A TEST HELD: the class's judge -/
def tst (w : Nat → Int) (l : List Int32) : Bool := match l with
  | [] => true
  | x :: l => decide (evs w (x :: l) [] = [1])
theorem one_v {w : Nat → Int} (hw : ∀ k, k < 13 → -10000000 ≤ w k ∧ w k ≤ 10000000) {l : List Int32} (h : cks l [] = some [0]) : ∃ v : Int, evs w l [] = [v] ∧ (v = 0 ∨ v = 1) := by
  have := ty_ev hw l [] [0] [] h trivial
  generalize evs w l [] = V at this
  cases V with
  | nil => exact this.elim
  | cons v V => cases V with
    | nil => exact ⟨v, rfl, tv_0.mp this.1⟩
    | cons z V => exact this.2.elim
section HLD
variable {J : aI} {G : aL} {Z : aZ} {w : Nat → Int}
theorem cks_cons {x : Int32} {l : List Int32} {T T' : List Nat} (h : cks (x :: l) T = some T') : ∃ T1, ck x T = some T1 ∧ cks l T1 = some T' := by
  have h : (ck x T).bind (fun T' => cks l T') = some T' := h
  cases hc : ck x T with
  | none => rw [hc] at h; cases h
  | some T1 => rw [hc] at h; exact ⟨T1, rfl, h⟩
theorem c_hloop (hZ : Shp Z) (hwb : ∀ k, k < 13 → -10000000 ≤ w k ∧ w k ≤ 10000000) {a r m : Nat} (ha : a ≠ 68) (hr : r ≠ 68) (hka : zK Z a = 0) (hra : zR Z a 3 = r) (hkr : zK Z r = 12) (hnr : zN Z r = m) (hm : m < 1000) : ∀ (l : List Int32) (i : Nat) (T T' : List Nat) (V : List Int) (J : aI), i + l.length = m → (∀ j, j < l.length → J r (i + j) = l.getD j 0) → (∀ k, k < 13 → (J 67 k).toInt = w k) → cks l T = some T' → ty T V → sC J V → T.length ≤ 40 → ∃ J' : aI, run 4 3 13 [.ref 66, .ref a, .int (iN V.length), .int (iN i)] [] (J, G, Z) = run 4 3 40 [.ref 66, .ref a, .int (iN (evs w l V).length), .int (iN m)] [] (J', G, Z) ∧ (∀ b, b ≠ 68 → J' b = J b) ∧ sC J' (evs w l V) := by
  intro l
  induction l with
  | nil =>
    intro i T T' V J hi _ _ _ _ hs _
    have hi : i = m := hi
    subst hi
    refine ⟨J, Eq.trans (b3_13 hka (by show zK Z (zR Z a 3) = 12; rw [hra]; exact hkr)) ?_, fun _ _ => rfl, hs⟩
    rw [show mR (J, G, Z) a 3 = r from hra, show mN (J, G, Z) r = i from hnr]
    exact if_pos (iN_nlt (by omega))
  | cons x l ih =>
    intro i T T' V J hi hl hw hc hV hs hT
    rw [List.length_cons] at hi
    obtain ⟨T1, c1, c2⟩ := cks_cons hc
    obtain ⟨J1, g1, g2, g3⟩ := c_go (G := G) hZ hw c1 hV hs hT
    have e0 := hl 0 (by rw [List.length_cons]; omega)
    have e0 : J r i = x := e0
    obtain ⟨J', b1, b2, b3⟩ := ih (i + 1) T1 T' (stp1 w x V) J1 (by omega) (fun j hj => by
      rw [g2 r hr]
      have := hl (j + 1) (by rw [List.length_cons]; omega)
      rw [show i + 1 + j = i + (j + 1) by omega, this]
      rfl) (fun k hk => by rw [g2 67 (by decide)]; exact hw k hk) c2 (ty_st hwb c1 hV) g3 (ck_len c1 hT)
    refine ⟨J', ?_, fun b hb => by rw [b2 b hb, g2 b hb], b3⟩
    refine Eq.trans (b3_13 hka (by show zK Z (zR Z a 3) = 12; rw [hra]; exact hkr)) ?_
    rw [show mR (J, G, Z) a 3 = r from hra, show mN (J, G, Z) r = m from hnr]
    refine Eq.trans (if_neg (fun q => q ((iN_lt (by omega) (by omega)).mpr (by omega)))) (Eq.trans (b3_22 hka (by show zK Z (zR Z a 3) = 12; rw [hra]; exact hkr) (by rw [show mR (J, G, Z) a 3 = r from hra, show mN (J, G, Z) r = m from hnr]; exact ib_iN (by omega) (by omega)) hZ.k66) ?_)
    rw [show mR (J, G, Z) a 3 = r from hra, iN_clamp (by omega), mI_t, e0, g1]
    refine Eq.trans b3_33 ?_
    rw [iN_succ]
    exact b1
theorem c_holds (hZ : Shp Z) (hwb : ∀ k, k < 13 → -10000000 ≤ w k ∧ w k ≤ 10000000) (hw : ∀ k, k < 13 → (J 67 k).toInt = w k) {lo hi a : Nat} {k : aK} (hc : ClC J Z lo hi a k) (hlo : 69 ≤ lo) (hck : k.2.2.2 ≠ [] → cks k.2.2.2 [] = some [0]) (hlen : k.2.2.2.length < 1000) : ∃ J' : aI, call 3 [.ref 66, .ref a] (J, G, Z) = some (some (.int (bI (tst w k.2.2.2))), (J', G, Z)) ∧ ∀ b, b ≠ 68 → J' b = J b := by
  obtain ⟨h1, h2, h3, h4, h5, h6, h7, h8⟩ := hc
  generalize k.2.2.2 = l at h7 h8 hck hlen ⊢
  cases l with
  | nil =>
    refine ⟨J, Eq.trans e3 (Eq.trans (b3_0 h3) (Eq.trans (if_pos (h7 rfl)) b3_7)), fun _ _ => rfl⟩
  | cons x l =>
    have hck := hck (by simp)
    obtain ⟨g1, g2, g3, g4, g5⟩ := h8 (by simp)
    obtain ⟨v, v1, v2⟩ := one_v hwb hck
    obtain ⟨J', b1, b2, b3⟩ := c_hloop (G := G) (w := w) hZ hwb (a := a) (r := zR Z a 3) (m := (x :: l).length) (by omega) (by omega) h3 rfl g3 g4 hlen (x :: l) 0 [] [0] [] J (by rw [Nat.zero_add]) (fun j hj => by rw [Nat.zero_add]; exact g5 j hj) hw hck trivial trivial (by decide)
    refine ⟨J', ?_, b2⟩
    rw [v1] at b1 b3
    obtain ⟨s1, _⟩ := b3
    have s1 : (J' 68 0).toInt = v := s1
    have e0 : call 3 [.ref 66, .ref a] (J, G, Z) = run 4 3 13 [.ref 66, .ref a, .int (iN ([] : List Int).length), .int (iN 0)] [] (J, G, Z) := Eq.trans e3 (Eq.trans (b3_0 h3) (Eq.trans (if_neg (show ¬ zR Z a 3 = 0 by omega)) b3_9))
    rw [e0, b1]
    have ez : iN ([v] : List Int).length - 1 = 0 := show iN 1 - 1 = 0 by decide
    refine Eq.trans b3_40 (Eq.trans (if_neg (fun q => q (by show (0 : Int32) < iN 1; decide))) (Eq.trans (b3_44 hZ.k66 hZ.kr66_1 (hZ.ir66_1 (by rw [ez]; exact ib_iN (a := 0) (by decide) (by decide)))) ?_))
    rw [hZ.r66_1, ez, show (0 : Int32).toNatClampNeg = 0 from rfl, mI_t]
    rw [show tst w (x :: l) = decide (evs w (x :: l) [] = [1]) from rfl, v1]
    rcases v2 with q | q
    · subst q
      rw [if_pos (show J' 68 0 = 0 from ti_eq.mpr s1), decide_eq_false (by decide)]
      exact Eq.trans b3_59 (b3_60 rfl)
    · subst q
      rw [if_neg (show ¬ J' 68 0 = 0 from fun z => by rw [z] at s1; exact absurd s1 (by decide)), decide_eq_true rfl]
      exact Eq.trans b3_55 (b3_60 rfl)
end HLD
