/-! THE STATE'S BOUNDS, KEPT BY EVERY CALL -/
def Wf8 (n : Nat) (S : aS) : Prop := (0 ≤ (S 0 0).toInt ∧ (S 0 0).toInt ≤ 99999) ∧ (-50 ≤ (S 0 10).toInt ∧ (S 0 10).toInt ≤ 99) ∧ (S 0 11).toInt ≤ n ∧ (dep S).toInt ≤ (low S (riN S)).toInt ∧ (∀ k, k < riN S → 1 ≤ (S 2 k).toInt ∧ (S 2 k).toInt ≤ 999) ∧ (∀ i, i < laN S → -50 ≤ (S 11 i).toInt ∧ (S 11 i).toInt ≤ 199) ∧ (S 0 12 = -1 ∨ (S 0 12).toNatClampNeg < 7) ∧ (¬ S 0 1 = 0 → (1 ≤ (S 0 2).toInt ∧ (S 0 2).toInt ≤ 99) ∧ 1 ≤ (S 0 3).toInt ∧ (S 0 3).toInt ≤ 99)
def Wn (n : Nat) (S : aS) : Prop := Wf0 S ∧ Wf1 S ∧ Wf2 S ∧ Wf3 S ∧ Wf4 S ∧ Wf5 S ∧ Wf6 S ∧ Wf7 S ∧ Wf8 n S
section WNE
variable {n n' : Nat} {S S' T : aS}
theorem Wn_e (h : Wn n S) (hn : n ≤ n') (h0 : ∀ j, j ≤ 14 → j ≠ 13 → S' 0 j = S 0 j) (h1 : ∀ c k, 1 ≤ c → c ≤ 8 → k < 7 → S' c k = S c k) (h2 : ∀ k, k < 30 → S' 10 k = S 10 k ∧ S' 11 k = S 11 k) (h6 : Wf6 S') (h7 : S' 0 15 = 0 ∨ S' 0 15 = 1) : Wn n' S' := by
  obtain ⟨w0, w1, w2, w3, w4, w5, w6, w7, w8⟩ := h
  have h7b := w0.1.2
  have h30 := w0.2.2
  have r : riN S' = riN S := by unfold riN; rw [h0 7 (by decide) (by decide)]
  have l : laN S' = laN S := by unfold laN; rw [h0 8 (by decide) (by decide)]
  have d : dep S' = dep S := by unfold dep; rw [l]; exact sumI_eq _ (fun i hi => (h2 i (by omega)).1)
  have lo : ∀ k, k ≤ 7 → low S' k = low S k := fun k hk => sumI_eq _ (fun i hi => h1 1 i (by decide) (by decide) (by omega))
  refine ⟨?_, ?_, ?_, ?_, ?_, ?_, h6, ?_, ?_⟩
  · unfold Wf0
    rw [r, l, h0 7 (by decide) (by decide), h0 8 (by decide) (by decide)]
    exact w0
  · unfold Wf1
    rw [r, h0 4 (by decide) (by decide), h0 11 (by decide) (by decide)]
    refine ⟨w1.1, w1.2.1, fun k hk => ?_⟩
    rw [h1 1 k (by decide) (by decide) (by omega), h1 3 k (by decide) (by decide) (by omega), h1 4 k (by decide) (by decide) (by omega), h1 6 k (by decide) (by decide) (by omega), h1 7 k (by decide) (by decide) (by omega), h1 8 k (by decide) (by decide) (by omega)]
    exact w1.2.2 k hk
  · unfold Wf2
    rw [h0 9 (by decide) (by decide), h0 5 (by decide) (by decide), h0 1 (by decide) (by decide), h0 7 (by decide) (by decide), h0 8 (by decide) (by decide), h0 12 (by decide) (by decide)]
    exact w2
  · unfold Wf3
    rw [h0 12 (by decide) (by decide), h0 14 (by decide) (by decide)]
    intro q
    rw [w3 q]
    unfold loadS
    rw [d, lo _ (by rcases w8.2.2.2.2.2.2.1 with z | z; exact absurd z q; omega), h0 3 (by decide) (by decide), h0 9 (by decide) (by decide), h0 2 (by decide) (by decide)]
  · unfold Wf4
    rw [r, h0 3 (by decide) (by decide), h0 2 (by decide) (by decide)]
    exact w4
  · unfold Wf5
    rw [l]
    intro i hi
    rw [(h2 i (by omega)).1]
    exact w5 i hi
  · exact ⟨by rw [h0 1 (by decide) (by decide)]; exact w7.1, h7⟩
  · unfold Wf8
    rw [r, l, d, lo _ h7b, h0 0 (by decide) (by decide), h0 10 (by decide) (by decide), h0 11 (by decide) (by decide), h0 12 (by decide) (by decide), h0 1 (by decide) (by decide), h0 2 (by decide) (by decide), h0 3 (by decide) (by decide)]
    refine ⟨w8.1, w8.2.1, by have := w8.2.2.1; omega, w8.2.2.2.1, fun k hk => ?_, fun i hi => ?_, w8.2.2.2.2.2.2⟩
    · rw [h1 2 k (by decide) (by decide) (by omega)]
      exact w8.2.2.2.2.1 k hk
    · rw [(h2 i (by omega)).2]
      exact w8.2.2.2.2.2.1 i hi
/-- only the far rows change -/
theorem Wn_c (h : Wn n S) (hn : n ≤ n') (h0 : ∀ c, c ≤ 8 → S' c = S c) (h1 : S' 10 = S 10) (h2 : S' 11 = S 11) : Wn n' S' := Wn_e h hn (fun j _ _ => by rw [h0 0 (by decide)]) (fun c k _ b _ => by rw [h0 c b]) (fun k _ => ⟨by rw [h1], by rw [h2]⟩) (by have := h.2.2.2.2.2.2.1; unfold Wf6 at this ⊢; rw [h0 0 (by decide)]; exact this) (by rw [h0 0 (by decide)]; exact h.2.2.2.2.2.2.2.1.2)
theorem Wn_n (h : Wn n S) (hn : n ≤ n') : Wn n' S := Wn_c h hn (fun _ _ => rfl) rfl rfl
theorem Wn_look {m h' : Int32} (h : Wn n S) : Wn (n + 1) (lookS S m h') := Wn_c h (by omega) (fun c hc => up_o (S := S) (by omega)) rfl rfl
theorem Wn_trace {t : Nat} {i : Int32} (h : Wn n S) : Wn (n + 1) (up2 S 12 t i) := Wn_c h (by omega) (fun c hc => up_o (S := S) (by omega)) rfl rfl
theorem Wn_ground {t : Nat} {i : Int32} (h : Wn n S) : Wn (n + 1) (up2 S 14 t i) := Wn_c h (by omega) (fun c hc => up_o (S := S) (by omega)) rfl rfl
theorem Wn_wit {x y z : Int32} (h : Wn n S) (hx : witOK S x y z = true) : Wn (n + 1) (witS S x y z) := by
  have h6 := h.2.2.2.2.2.2.1
  refine Wn_e h (by omega) (fun j hj hj2 => ?_) (fun c k h1 h2 h3 => ?_) (fun k hk => ⟨rfl, rfl⟩) ?_ h.2.2.2.2.2.2.2.1.2
  · show up2 _ 0 19 _ 0 j = _
    rw [up2_k (by omega)]
    rfl
  · unfold witS
    rw [up2_a (by omega), up2_a (by omega), up2_a (by omega), up2_a (by omega)]
  · have e : witS S x y z 0 19 = S 0 19 + 1 := up2_s
    unfold witOK at hx
    rw [Bool.and_eq_true] at hx
    have hne : ¬ S 0 19 = 300 := fun z => by have := hx.1; rw [decide_eq_true z] at this; cases this
    have hlt : (S 0 19).toNatClampNeg < 300 := by
      rcases Nat.lt_or_ge (S 0 19).toNatClampNeg 300 with q | q
      · exact q
      · exact absurd (by rw [h6.1, show (S 0 19).toNatClampNeg = 300 by have := h6.2; omega]; rfl) hne
    unfold Wf6
    rw [e, h6.1, iN_succ, iN_clamp (by omega)]
    exact ⟨rfl, by omega⟩
theorem stn1_k {k c : Nat} (h1 : c ≠ 16) (h2 : c ≠ 17) : stn1 T k c = T c := by
  unfold stn1
  split
  · funext i; rw [up2_a h2, up2_a h1]
  · rfl
theorem stF_k {c : Nat} (h1 : c ≠ 16) (h2 : c ≠ 17) : ∀ k, stF k S c = S c := by
  intro k
  induction k with
  | zero => rfl
  | succ k ih => show stn1 (stF k S) k c = _; rw [stn1_k h1 h2, ih]
theorem Wn_stF (h : Wn n S) : Wn n (stF 144 S) := Wn_c h (by omega) (fun c hc => stF_k (by omega) (by omega) _) (stF_k (by decide) (by decide) _) (stF_k (by decide) (by decide) _)
theorem Wn_wave {p : Nat} {m e s : Int32} (h : Wn n S) : Wn (n + 1) (stF 144 (waveS S p m e s)) := by
  refine Wn_stF (Wn_e h (by omega) (fun j hj hj2 => ?_) (fun c k h1 h2 h3 => ?_) (fun k hk => ⟨rfl, rfl⟩) h.2.2.2.2.2.2.1 (Or.inr rfl))
  · unfold waveS
    rw [if_pos rfl, if_neg (by omega), if_neg (by omega), if_neg (by omega), if_neg (by omega)]
  · unfold waveS
    rw [if_neg (by omega), if_neg (by omega), if_neg (by omega), if_neg (by omega)]
theorem adF_k {A : Nat → Int32} {c : Nat} (h1 : c ≠ 15) : ∀ k, adF A k S c = S c := by
  intro k
  induction k with
  | zero => rfl
  | succ k ih => funext i; show up2 (adF A k S) 15 k _ c i = _; rw [up2_a h1, ih]
theorem Wn_min (h : Wn n S) : Wn n (minS S) := by
  refine Wn_stF (Wn_e (S := S) h (by omega) (fun j hj hj2 => ?_) (fun c k h1 h2 h3 => ?_) (fun k hk => ?_) ?_ ?_)
  · rw [up2_k (by omega), adF_k (by decide)]
  · rw [up2_a (by omega), adF_k (by omega)]
  · rw [up2_a (by omega), adF_k (by omega), up2_a (by omega), adF_k (by omega)]; exact ⟨rfl, rfl⟩
  · have := h.2.2.2.2.2.2.1
    unfold Wf6 at this ⊢
    rw [up2_k (by omega), adF_k (by decide)]
    exact this
  · rw [up2_k (by omega), adF_k (by decide)]
    exact h.2.2.2.2.2.2.2.1.2
theorem Wn_minF : ∀ (m : Nat) {S : aS}, Wn n S → Wn n (minF m S) := by
  intro m
  induction m with
  | zero => exact fun h => h
  | succ m ih => exact fun h => ih (Wn_min h)
theorem Wn_mrg (h : Wn n T) : Wn n (mrg S T) := by
  have e0 : ∀ j, j < 20 → mrg S T 0 j = T 0 j := fun j hj => if_pos hj
  refine Wn_e h (by omega) (fun j hj hj2 => e0 j (by omega)) (fun c k h1 h2 h3 => ?_) (fun k hk => ⟨if_pos hk, if_pos hk⟩) ?_ ?_
  · have : c = 1 ∨ c = 2 ∨ c = 3 ∨ c = 4 ∨ c = 5 ∨ c = 6 ∨ c = 7 ∨ c = 8 := by omega
    rcases this with q | q | q | q | q | q | q | q <;> subst q <;> exact if_pos h3
  · have := h.2.2.2.2.2.2.1
    unfold Wf6 at this ⊢
    rw [e0 19 (by decide)]
    exact this
  · rw [e0 15 (by decide)]
    exact h.2.2.2.2.2.2.2.1.2
/-! begin, ring -/
theorem Wn_begin {x1 x2 x3 x4 x5 : Int32} (h : Wn n S) (hx : begOK x1 x2 x3 x4 x5 = true) : Wn (n + 1) (beginS S x1 x2 x3 x4 x5) := by
  obtain ⟨w0, w1, w2, w3, w4, w5, w6, w7, w8⟩ := h
  unfold begOK at hx
  simp only [Bool.and_eq_true, inB_iff] at hx
  have r : riN (beginS S x1 x2 x3 x4 x5) = 0 := rfl
  have l : laN (beginS S x1 x2 x3 x4 x5) = 0 := rfl
  refine ⟨⟨⟨by rw [r]; rfl, by rw [r]; omega⟩, by rw [l]; rfl, by rw [l]; omega⟩, ⟨hx.2.2.1, ⟨by show 0 ≤ (0 : Int32).toInt; decide, by show (0 : Int32).toInt ≤ 100000; decide⟩, fun k hk => by rw [r] at hk; omega⟩, ⟨⟨by show 0 ≤ (0 : Int32).toInt; decide, by show (0 : Int32).toInt ≤ 9999; decide⟩, hx.2.2.2.1, fun q => absurd (show (1 : Int32) = 0 from q) (by decide)⟩, fun q => absurd (show (-1 : Int32) = -1 from rfl) q, fun q => by rw [r] at q; omega, fun i hi => by rw [l] at hi; omega, w6, ⟨Or.inr rfl, w7.2⟩, ⟨w8.1, w8.2.1, by show (0 : Int32).toInt ≤ ((n + 1 : Nat) : Int); rw [l32_0]; omega, by show (0 : Int32).toInt ≤ (0 : Int32).toInt; omega, fun k hk => by rw [r] at hk; omega, fun i hi => by rw [l] at hi; omega, Or.inl rfl, fun _ => ⟨hx.1, hx.2.1⟩⟩⟩
theorem Wn_ring {x1 x2 x3 x4 x5 x6 x7 x8 : Int32} (h : Wn n S) (hx : ringOK S x1 x2 x3 x4 x5 x6 x7 x8 = true) : Wn (n + 1) (ringS S x1 x2 x3 x4 x5 x6 x7 x8) := by
  obtain ⟨w0, w1, w2, w3, w4, w5, w6, w7, w8⟩ := h
  unfold ringOK at hx
  simp only [Bool.and_eq_true, inB_iff, decide_eq_true_eq, Bool.not_eq_true', decide_eq_false_iff_not] at hx
  obtain ⟨g1, g2, g3, a1, a2, a3, a4, a5, a6, a7, a8⟩ := hx
  have h7 := w0.1.2
  have hr : riN S < 7 := by
    rcases Nat.lt_or_ge (riN S) 7 with q | q
    · exact q
    · exact absurd (by rw [w0.1.1, show riN S = 7 by omega]; rfl) g3
  have e7 : ringS S x1 x2 x3 x4 x5 x6 x7 x8 0 7 = S 0 7 + 1 := rfl
  have r : riN (ringS S x1 x2 x3 x4 x5 x6 x7 x8) = riN S + 1 := by
    unfold riN
    rw [e7, w0.1.1, iN_succ, iN_clamp (by omega), iN_clamp (by omega)]
  have l : laN (ringS S x1 x2 x3 x4 x5 x6 x7 x8) = laN S := rfl
  have d : dep (ringS S x1 x2 x3 x4 x5 x6 x7 x8) = dep S := rfl
  have c1 : ∀ k, ringS S x1 x2 x3 x4 x5 x6 x7 x8 1 k = if k = riN S then x1 else S 1 k := fun k => rfl
  have c2 : ∀ k, ringS S x1 x2 x3 x4 x5 x6 x7 x8 2 k = if k = riN S then x2 else S 2 k := fun k => rfl
  have c3 : ∀ k, ringS S x1 x2 x3 x4 x5 x6 x7 x8 3 k = if k = riN S then x3 else S 3 k := fun k => rfl
  have c4 : ∀ k, ringS S x1 x2 x3 x4 x5 x6 x7 x8 4 k = if k = riN S then x4 else S 4 k := fun k => rfl
  have c6 : ∀ k, ringS S x1 x2 x3 x4 x5 x6 x7 x8 6 k = if k = riN S then x6 else S 6 k := fun k => rfl
  have c7 : ∀ k, ringS S x1 x2 x3 x4 x5 x6 x7 x8 7 k = if k = riN S then x7 else S 7 k := fun k => rfl
  have c8 : ∀ k, ringS S x1 x2 x3 x4 x5 x6 x7 x8 8 k = if k = riN S then x8 else S 8 k := fun k => rfl
  have lo : low (ringS S x1 x2 x3 x4 x5 x6 x7 x8) (riN S + 1) = low S (riN S) + x1 := by
    show sumI _ (riN S) + ringS S x1 x2 x3 x4 x5 x6 x7 x8 1 (riN S) = _
    rw [c1, if_pos rfl]
    congr 1
    exact sumI_eq _ (fun i hi => by rw [c1, if_neg (by omega)])
  have lb := low_b w0 w1 (riN S) (Nat.le_refl _)
  refine ⟨⟨⟨by rw [r, e7, w0.1.1, iN_succ], by omega⟩, w0.2⟩, ⟨w1.1, w1.2.1, fun k hk => ?_⟩, ⟨w2.1, w2.2.1, fun q => absurd q g1⟩, fun q => absurd g2 q, fun _ => ?_, w5, w6, w7, ⟨w8.1, w8.2.1, by have := w8.2.2.1; exact Int.le_trans this (by omega), ?_, fun k hk => ?_, w8.2.2.2.2.2.1, Or.inl g2, w8.2.2.2.2.2.2.2⟩⟩
  · rw [r] at hk
    rw [c1, c3, c4, c6, c7, c8]
    by_cases q : k = riN S
    · simp only [if_pos q]
      exact ⟨a1, a3, a4, a6, a7, a8⟩
    · simp only [if_neg q]
      exact w1.2.2 k (by omega)
  · exact w8.2.2.2.2.2.2.2 g1
  · rw [d, r, lo, ti_add (by omega) (by omega)]
    have := w8.2.2.2.1
    omega
  · rw [r] at hk
    rw [c2]
    by_cases q : k = riN S
    · rw [if_pos q]; exact a2
    · rw [if_neg q]; exact w8.2.2.2.2.1 k (by omega)
end WNE
