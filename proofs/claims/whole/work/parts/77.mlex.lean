/-! THE MODEL'S SIGNS: sign, blanks, digit, words -/
theorem sb_f {x : Int32} (h : inB x 0 255 = true) : sb x &&& 255 = x ∧ ((¬ sb x < 97 ∧ ¬ 122 < sb x) ↔ sm x = true) := by
  have all : ∀ k, k < 256 → sb (iN k) &&& 255 = iN k ∧ ((¬ sb (iN k) < 97 ∧ ¬ 122 < sb (iN k)) ↔ sm (iN k) = true) := by decide +kernel
  rw [inB_iff] at h
  have e : x = iN x.toInt.toNat := by
    rw [ti_eq, iN_int (by omega)]; omega
  rw [e]
  exact all _ (by omega)
theorem sb_c {x c : Int32} (h : inB x 0 255 = true) (hc : inB c 0 127 = true) : sb x = c ↔ x = c := by
  have all : ∀ k, k < 128 → sb (iN k) = iN k ∧ iN k &&& 255 = iN k := by decide +kernel
  rw [inB_iff] at hc
  have e : c = iN c.toInt.toNat := by
    rw [ti_eq, iN_int (by omega)]; omega
  obtain ⟨a1, a2⟩ := all c.toInt.toNat (by omega)
  rw [← e] at a1 a2
  constructor
  · intro q
    have := (sb_f h).1
    rw [q, a2] at this
    exact this.symm
  · intro q; rw [q, a1]
def MT (S : aI) (u : Nat → Int32) (n : Nat) : Prop := n ≤ 400 ∧ S 72 27 = iN n ∧ ∀ i, i < n → inB (u i) 0 255 = true ∧ S 84 i = sb (u i)
def sg (u : Nat → Int32) (n p : Nat) : Int32 := if p < n then u p else -1
/-- the word j stands at p -/
def stW (u : Nat → Int32) (n p j : Nat) : Bool := spl u p (rn sm u n p) j
section MLX
variable {S : aI} {G : aL} {Z : aZ} {u : Nat → Int32} {n : Nat}
theorem m_sign (hZ : Shp Z) (hT : MT S u n) {r : Nat} (hr : r ≤ 1000) (h28 : S 72 28 = iN r) : call 169 [.ref 72] (S, G, Z) = some (some (.int (sg u n r)), (S, G, Z)) := by
  obtain ⟨hn, h27, ht⟩ := hT
  refine Eq.trans e169 (Eq.trans (b169_0 hZ.k72) ?_)
  rw [mI_t, mI_t, h27, h28]
  unfold sg
  by_cases h : r < n
  · rw [if_pos h]
    refine Eq.trans (if_neg (fun q => q ((iN_lt (by omega) (by omega)).mpr h))) (Eq.trans (b169_11 hZ.k72 hZ.kr72_35 (hZ.ir72_35 (by rw [mI_t, h28]; exact ib_iN (by omega) (by omega)))) ?_)
    rw [hZ.r72_35, mI_t, mI_t, h28, iN_clamp (by omega), (ht r h).2, (sb_f (ht r h).1).1]
    exact b169_28
  · rw [if_neg h]
    exact Eq.trans (if_pos (fun q => h ((iN_lt (by omega) (by omega)).mp q))) (Eq.trans b169_27 b169_28)
theorem MT_u (hT : MT S u n) {j : Nat} {v : Int32} (hj : j ≠ 27) : MT (up2 S 72 j v) u n := ⟨hT.1, by rw [up2_k (Ne.symm hj)]; exact hT.2.1, fun i hi => by rw [up2_a (by decide)]; exact hT.2.2 i hi⟩
theorem up_id {a k : Nat} {v : Int32} (h : S a k = v) : up2 S a k v = S := by rw [← h]; exact up2_id
theorem m_blanks (hZ : Shp Z) (hT : MT S u n) {r : Nat} (hr : r ≤ 1000) (h28 : S 72 28 = iN r) : call 170 [.ref 72] (S, G, Z) = some (none, (up2 S 72 28 (iN (sk u n r)), G, Z)) := by
  refine Eq.trans e170 ?_
  have key : ∀ d q, n - q = d → q ≤ 1000 → run 2 170 0 [.ref 72] [] (up2 S 72 28 (iN q), G, Z) = some (none, (up2 S 72 28 (iN (skE u d q)), G, Z)) := by
    intro d
    induction d with
    | zero =>
      intro q hd hq
      refine Eq.trans (b170_0 hZ.k72) ?_
      rw [m_sign hZ (MT_u hT (by decide)) hq up2_s]
      refine Eq.trans b170_4 (Eq.trans (if_pos ?_) b170_22)
      unfold sg
      rw [if_neg (by omega)]
      decide
    | succ d ih =>
      intro q hd hq
      have hqn : q < n := by omega
      have := hT.1
      refine Eq.trans (b170_0 hZ.k72) ?_
      rw [m_sign hZ (MT_u hT (by decide)) hq up2_s]
      refine Eq.trans b170_4 ?_
      rw [show sg u n q = u q from if_pos hqn, skE]
      by_cases hb : u q = 32
      · rw [if_pos hb, if_neg (fun z => z hb)]
        refine Eq.trans (b170_9 hZ.k72) ?_
        rw [mI_t, up2_s, wI_t, up2_2, iN_succ]
        exact ih (q + 1) (by omega) (by omega)
      · rw [if_neg hb, if_pos hb]
        exact b170_22
  have := key (n - r) r rfl hr
  rw [up_id h28] at this
  exact this
theorem m_dig (hZ : Shp Z) (hT : MT S u n) {r : Nat} (hr : r ≤ 1000) (h28 : S 72 28 = iN r) : call 171 [.ref 72] (S, G, Z) = some (some (.int (bI (dg (sg u n r)))), (S, G, Z)) := by
  refine Eq.trans e171 (Eq.trans (b171_0 hZ.k72) ?_)
  rw [m_sign hZ hT hr h28]
  refine Eq.trans b171_4 ?_
  rw [m_in]
  exact b171_14 rt_b
theorem ltr : ∀ j, j < 22 → ∀ m, m < slen.getD j 0 → inB ((sbyt.getD j []).getD m 0) 0 127 = true := by decide +kernel
theorem m_stands (hZ : Shp Z) (hT : MT S u n) {r j : Nat} (hr : r ≤ 1000) (h28 : S 72 28 = iN r) (hj : j < 22) : call 172 [.ref 72, .ref (j + 2)] (S, G, Z) = some (some (.int (bI (stW u n r j))), (S, G, Z)) := by
  obtain ⟨hn, h27, ht⟩ := hT
  obtain ⟨l6, ll⟩ := slen_b hj
  have ej : j + 2 - 2 = j := by omega
  refine Eq.trans e172 (Eq.trans (b172_0 hZ.k72) ?_)
  rw [mI_t, h28]
  have run1 : ∀ d q, n - q = d → q ≤ 1000 → run 1 172 5 [.ref 72, .ref (j + 2), .int (iN q), xU, xU] [] (S, G, Z) = run 1 172 41 [.ref 72, .ref (j + 2), .int (iN (rnE sm u d q)), xU, xU] [] (S, G, Z) := by
    intro d
    induction d with
    | zero =>
      intro q hd hq
      refine Eq.trans (b172_5 hZ.k72) ?_
      rw [mI_t, h27]
      exact if_pos (fun z => by have := (iN_lt (by omega) (by omega)).mp z; omega)
    | succ d ih =>
      intro q hd hq
      have hqn : q < n := by omega
      refine Eq.trans (b172_5 hZ.k72) ?_
      rw [mI_t, h27]
      have hib : ib (iN q) 400 := ib_iN (by omega) (by omega)
      refine Eq.trans (if_neg (fun z => z ((iN_lt (by omega) (by omega)).mpr hqn))) (Eq.trans (b172_13 hZ.k72 hZ.kr72_35 (hZ.ir72_35 hib)) ?_)
      have hs := (sb_f (ht q hqn).1).2
      rw [hZ.r72_35, mI_t, iN_clamp (by omega), (ht q hqn).2, rnE]
      by_cases h1 : sb (u q) < 97
      · rw [if_pos h1, if_neg (fun z => (hs.mpr z).1 h1)]
      · rw [if_neg h1]
        refine Eq.trans (b172_24 hZ.k72 hZ.kr72_35 (hZ.ir72_35 hib)) ?_
        rw [hZ.r72_35, mI_t, iN_clamp (by omega), (ht q hqn).2]
        by_cases h2 : 122 < sb (u q)
        · rw [if_pos h2, if_neg (fun z => (hs.mpr z).2 h2)]
        · rw [if_neg h2, if_pos (hs.mp ⟨h1, h2⟩)]
          refine Eq.trans b172_35 ?_
          rw [iN_succ]
          exact ih (q + 1) (by omega) (by omega)
  refine Eq.trans (run1 (n - r) r rfl hr) ?_
  unfold stW
  have hb := rnE_b (P := sm) (u := u) (n - r) r
  rw [show rnE sm u (n - r) r = rn sm u n r from rfl] at hb ⊢
  generalize rn sm u n r = E at hb ⊢
  have hE : E ≤ 1000 := by omega
  refine Eq.trans (b172_41 hZ.k72 (by omega) (by omega)) ?_
  rw [mI_t, h28, ej, iN_sub (by omega) hb.1]
  unfold spl
  have eL : Int32.ofNat (slen.getD j 0) = iN (slen.getD j 0) := rfl
  rw [eL]
  have stop : ∀ k, run 1 172 63 [.ref 72, .ref (j + 2), .int (iN E), .int 0, .int (iN k)] [] (S, G, Z) = some (some (.int 0), (S, G, Z)) := by
    intro k
    refine Eq.trans (b172_63 (by omega) (by omega)) ?_
    split
    · exact b172_109 rfl
    · exact Eq.trans b172_72 (Eq.trans (if_pos rfl) (b172_109 rfl))
  by_cases h : E - r = slen.getD j 0
  · rw [decide_eq_true h, Bool.true_and]
    refine Eq.trans (if_neg (fun z => z (by rw [h]))) (Eq.trans b172_54 (Eq.trans b172_59 ?_))
    have key : ∀ (w : List Int32) (k : Nat), k + w.length = slen.getD j 0 → (∀ m, m < w.length → (sbyt.getD j []).getD (k + m) 0 = w.getD m 0) → run 1 172 63 [.ref 72, .ref (j + 2), .int (iN E), .int 1, .int (iN k)] [] (S, G, Z) = some (some (.int (bI (spF u (r + k) w))), (S, G, Z)) := by
      intro w
      induction w with
      | nil =>
        intro k hk _
        refine Eq.trans (b172_63 (by omega) (by omega)) ?_
        rw [ej, eL, ← hk]
        exact Eq.trans (if_pos (iN_nlt (by show k + 0 < _; rw [List.length_nil] at hk; omega))) (b172_109 rfl)
      | cons c w ih =>
        intro k hk hw
        rw [List.length_cons] at hk
        refine Eq.trans (b172_63 (by omega) (by omega)) ?_
        rw [ej, eL]
        refine Eq.trans (if_neg (fun q => q ((iN_lt (by omega) (by omega)).mpr (by omega)))) (Eq.trans b172_72 (Eq.trans (if_neg (by decide)) ?_))
        have hrk : r + k < n := by omega
        have hib : ib (iN (r + k)) 400 := ib_iN (by omega) (by omega)
        refine Eq.trans (b172_76 hZ.k72 hZ.kr72_35 (hZ.ir72_35 (by rw [mI_t, h28, iN_add]; exact hib)) (by omega) (by omega) (by rw [ej]; exact ib_iN (by omega) (by omega))) ?_
        rw [ej, hZ.r72_35, mI_t, mI_t, h28, iN_add, iN_clamp (by omega), iN_clamp (by omega)]
        have e0 := hw 0 (by rw [List.length_cons]; omega)
        rw [Nat.add_zero] at e0
        have hl := ltr j hj k (by omega)
        rw [e0] at hl ⊢
        have hc := sb_c (c := c) (ht (r + k) hrk).1 hl
        rw [(ht (r + k) hrk).2]
        show (if ¬ sb (u (r + k)) = c then _ else _) = _
        rw [spF]
        by_cases hq : u (r + k) = c
        · rw [if_neg (fun z => z (hc.mpr hq)), decide_eq_true hq, Bool.true_and]
          refine Eq.trans b172_97 (Eq.trans b172_102 ?_)
          rw [iN_succ]
          refine ih (k + 1) (by omega) (fun m hm => ?_)
          have := hw (m + 1) (by rw [List.length_cons]; omega)
          rw [show k + 1 + m = k + (m + 1) by omega, this]
          rfl
        · rw [if_pos (fun z => hq (hc.mp z)), decide_eq_false hq]
          refine Eq.trans b172_101 (Eq.trans b172_102 ?_)
          rw [iN_succ]
          exact stop (k + 1)
    have := key (sbyt.getD j []) 0 (by omega) (fun m _ => by rw [Nat.zero_add])
    rw [Nat.add_zero] at this
    exact this
  · rw [decide_eq_false h]
    refine Eq.trans (if_pos (fun q => h ((iN_inj (by omega) (by omega)).mp q))) (Eq.trans b172_58 (Eq.trans b172_59 ?_))
    exact stop 0
end MLX
