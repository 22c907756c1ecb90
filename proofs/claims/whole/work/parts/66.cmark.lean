/-! THE CLASS'S mark -/
theorem shp_ext {Z Z' : aZ} (h : Shp Z) (hx : zX Z ≤ zX Z') (hk : ∀ a, a < 112 → zK Z' a = zK Z a ∧ zN Z' a = zN Z a) (hr : ∀ a k, a < 112 → a ≠ 57 → a ≠ 64 → a ≠ 69 → a ≠ 70 → zR Z' a k = zR Z a k) : Shp Z' := by
  refine ⟨fun a ha => ?_, fun e he => ?_, by have := h.2.2; omega⟩
  · rw [(hk (a + 32) (by omega)).1, (hk (a + 32) (by omega)).2]
    exact h.1 a ha
  · have q : ∀ e ∈ srl, e.1 < 112 ∧ e.1 ≠ 57 ∧ e.1 ≠ 64 ∧ e.1 ≠ 69 ∧ e.1 ≠ 70 := by decide
    obtain ⟨q1, q2, q3, q4, q5⟩ := q e he
    rw [hr _ _ q1 q2 q3 q4 q5]
    exact h.2.1 e he
theorem shB_ext {Z Z' : aZ} {b : Nat} (h : ShB Z b) (hb : 112 ≤ b) (hk : ∀ a, b ≤ a → a < b + 24 → zK Z' a = zK Z a ∧ zN Z' a = zN Z a) (hr : ∀ a k, b ≤ a → a < b + 24 → zR Z' a k = zR Z a k) : ShB Z' b := by
  refine ⟨fun o ho => ?_, fun e he => ?_⟩
  · rw [(hk (b + o) (by omega) (by omega)).1, (hk (b + o) (by omega) (by omega)).2]
    exact h.1 o ho
  · have q : ∀ e ∈ brl, e.1 < 24 := by decide
    have := q e he
    rw [hr _ _ (by omega) (by omega)]
    exact h.2 e he
def mkZ (Z : aZ) (n : Nat) : aZ := wrZ (stZ (nwZ Z 4 0 5) (zX Z + 32)) 57 n (zX Z + 32)
theorem mkZ_X {Z : aZ} {n : Nat} : zX (mkZ Z n) = zX Z + 24 := by unfold mkZ; rw [zX_w, st_X, zX_n]
theorem mkZ_U {Z : aZ} {n : Nat} : zU (mkZ Z n) = zU Z + 1820 := by unfold mkZ; rw [zU_w, st_U, zU_n]
theorem mkZ_K {Z : aZ} {n a : Nat} (h : a < zX Z + 32) : zK (mkZ Z n) a = zK Z a ∧ zN (mkZ Z n) a = zN Z a := by
  have hk := nw_k (Z := Z) (ty := 4) (n := 0) (sz := 5)
  have := (st_K (Z := nwZ Z 4 0 5) (b := zX Z + 32) (by rw [zX_n]) hk.1 hk.2).2 a h
  unfold mkZ
  rw [(wr_f).1, (wr_f).2, this.1, this.2, (nw_f h).1, (nw_f h).2.1]
  exact ⟨rfl, rfl⟩
theorem mkZ_R {Z : aZ} {n a k : Nat} (h : a < zX Z + 32) (hne : a ≠ 57 ∨ k ≠ n) : zR (mkZ Z n) a k = zR Z a k := by
  unfold mkZ
  rw [wr_r hne, (st_R (Z := nwZ Z 4 0 5) (b := zX Z + 32) (by rw [zX_n])).2 a k h, (nw_f h).2.2 k]
theorem mkZ_n {Z : aZ} {n : Nat} : zR (mkZ Z n) 57 n = zX Z + 32 := by unfold mkZ; rw [wr_s]
theorem mkZ_B {Z : aZ} {n : Nat} (h : 80 ≤ zX Z) : ShB (mkZ Z n) (zX Z + 32) := by
  have hk := nw_k (Z := Z) (ty := 4) (n := 0) (sz := 5)
  have hB := st_B (Z := nwZ Z 4 0 5) (b := zX Z + 32) (by rw [zX_n]) hk.1 hk.2
  refine shB_ext hB (by omega) (fun a _ _ => ?_) (fun a k h1 _ => ?_)
  · unfold mkZ; exact wr_f
  · unfold mkZ
    exact wr_r (Or.inl (by omega))
theorem mkZ_S {Z : aZ} {n : Nat} (h : Shp Z) : Shp (mkZ Z n) := by
  have := h.2.2
  refine shp_ext h (by rw [mkZ_X]; omega) (fun a ha => mkZ_K (by omega)) (fun a k ha h57 _ _ _ => mkZ_R (by omega) (Or.inl h57))
section CMK
variable {I : aI} {G : aL} {Z : aZ} {S : aS}
theorem f_mark_bad {k : Int32} (h : inB k 0 3 = false) : call 132 [.ref 32, .int k] (I, G, Z) = some (some (.int (-1)), (I, G, Z)) := by
  refine Eq.trans e132 (Eq.trans b132_0 ?_)
  rw [c_within, l32_0, l32_3, h]
  exact Eq.trans b132_6 (Eq.trans (if_neg (by decide)) b132_9)
/-- where mark n is, or will be -/
def mkB (Z : aZ) (n : Nat) : Nat := if zR Z 57 n = 0 then zX Z + 32 else zR Z 57 n
theorem f_mark (hZ : Shp Z) (h7 : Wf7 S) {n : Nat} (hn : n < 4) (hB : ¬ zR Z 57 n = 0 → 57 ≤ zR Z 57 n ∧ ShB Z (zR Z 57 n)) : ∃ (X : aI) (G' : aL), call 132 [.ref 32, .int (iN n)] (embB 33 I S, G, Z) = some (some (.int (S 0 0)), (X, G', if zR Z 57 n = 0 then mkZ Z n else Z)) ∧ embB 33 X S = X ∧ MkC X (mkB Z n) S ∧ (∀ a k, a < zX Z + 32 → ¬ (mkB Z n ≤ a ∧ a < mkB Z n + 24) → X a k = embB 33 I S a k) ∧ (¬ zR Z 57 n = 0 → ∀ a k, ¬ (mkB Z n ≤ a ∧ a < mkB Z n + 24) → X a k = embB 33 I S a k) := by
  have hb4 : ib (iN n) 4 := ib_iN (by omega) hn
  have hc : (iN n).toNatClampNeg = n := iN_clamp (by omega)
  have e3 : inB (iN n) 0 3 = true := inB_iff.mpr (by rw [iN_int (by omega)]; omega)
  have hpre : call 132 [.ref 32, .int (iN n)] (embB 33 I S, G, Z) = if zR Z 57 n = 0 then run 5 132 20 [.ref 32, .int (iN n)] [] (embB 33 I S, G, Z) else run 5 132 33 [.ref 32, .int (iN n)] [] (embB 33 I S, G, Z) := by
    refine Eq.trans e132 (Eq.trans b132_0 ?_)
    rw [c_within, l32_0, l32_3, e3]
    refine Eq.trans b132_6 (Eq.trans (if_pos (by decide)) (Eq.trans (b132_11 hZ.k32 hZ.kr32_1 (hZ.ir32_1 hb4)) ?_))
    rw [hZ.r32_1, hc, mR_t]
  have h80 := hZ.2.2
  by_cases h0 : zR Z 57 n = 0
  · have hk := nw_k (Z := Z) (ty := 4) (n := 0) (sz := 5)
    have eb : mkB Z n = zX Z + 32 := if_pos h0
    obtain ⟨I1, G1, hrun, hI1⟩ := new_state (I := cl2 (embB 33 I S) (zX Z + 32) 0) (G := cl2 G (zX Z + 32) 0) (Z := nwZ Z 4 0 5) (b := zX Z + 32) (by rw [zX_n]) hk.1 hk.2
    have keep : ∀ a k, a < zX Z + 32 → I1 a k = embB 33 I S a k := by
      intro a k ha
      rw [hI1]
      unfold stI
      rw [if_pos ha, cl2_e, if_neg (by omega)]
    have eS : embB 33 I1 S = I1 := emb_keep (I := I) (fun o k ho => by rw [keep _ _ (by omega), embB_at ho])
    have hm := f_mark_old (I := I1) (G := G1) (Z := mkZ Z n) (S := S) (mkZ_S hZ) h7 hn (b := zX Z + 32) (by omega) mkZ_n (mkZ_B h80)
    rw [eS] at hm
    refine ⟨cpB I1 (zX Z + 32) 33 0 24, G1, ?_, hm.2.1, by rw [eb]; exact hm.2.2, ?_, fun q => absurd h0 q⟩
    · rw [hpre, if_pos h0, if_pos h0]
      refine Eq.trans (b132_20 hZ.k32 hk.1) ?_
      rw [mX_t, wN_t, hrun, hZ.r32_1]
      have f57 : ∀ (K : aI) (H : aL), mK (K, H, stZ (nwZ Z 4 0 5) (zX Z + 32)) 57 = 18 ∧ mN (K, H, stZ (nwZ Z 4 0 5) (zX Z + 32)) 57 = 4 := by
        intro K H
        have q := mkZ_K (Z := Z) (n := n) (a := 57) (by omega)
        exact ⟨q.1.trans (hZ.k57 (I := K) (G := H)), q.2.trans (hZ.n57 (I := K) (G := H))⟩
      have kb : mK (I1, G1, stZ (nwZ Z 4 0 5) (zX Z + 32)) (zX Z + 32) = 4 := (mkZ_B (n := n) h80).k0 (I := I1) (G := G1)
      refine Eq.trans (b132_32 (f57 _ _).1 (by rw [(f57 _ _).2]; exact hb4) kb) ?_
      rw [hc, wR_t]
      exact hm.1
    · intro a k ha hna
      rw [eb] at hna
      unfold cpB
      rw [if_neg (by omega), keep a k ha]
  · have eb : mkB Z n = zR Z 57 n := if_neg h0
    obtain ⟨p1, p2⟩ := hB h0
    have hm := f_mark_old (I := I) (G := G) (Z := Z) (S := S) hZ h7 hn (b := zR Z 57 n) p1 rfl p2
    refine ⟨cpB (embB 33 I S) (zR Z 57 n) 33 0 24, G, ?_, hm.2.1, by rw [eb]; exact hm.2.2, ?_, ?_⟩
    · rw [hpre, if_neg h0, if_neg h0]
      exact hm.1
    · intro a k _ hna
      rw [eb] at hna
      unfold cpB
      rw [if_neg (by omega)]
    · intro _ a k hna
      rw [eb] at hna
      unfold cpB
      rw [if_neg (by omega)]
end CMK
