/-! THE CLASS'S READER: clauses kept, texts made -/
def Ex (J J' : aI) (Z Z' : aZ) : Prop := zX Z ≤ zX Z' ∧ zU Z ≤ zU Z' ∧ (∀ b, b < zX Z + 32 → zK Z' b = zK Z b ∧ zN Z' b = zN Z b) ∧ (∀ b j, b < zX Z + 32 → b ≠ 64 → zR Z' b j = zR Z b j) ∧ ∀ b, b < zX Z + 32 → b ≠ 58 → b ≠ 60 → b ≠ 61 → b ≠ 62 → b ≠ 63 → b ≠ 65 → J' b = J b
theorem Ex_t {J J1 J2 : aI} {Z Z1 Z2 : aZ} (h1 : Ex J J1 Z Z1) (h2 : Ex J1 J2 Z1 Z2) : Ex J J2 Z Z2 := by
  obtain ⟨a1, a2, a3, a4, a5⟩ := h1
  obtain ⟨b1, b2, b3, b4, b5⟩ := h2
  refine ⟨by omega, by omega, fun b hb => ?_, fun b j hb h => ?_, fun b hb x1 x2 x3 x4 x5 x6 => ?_⟩
  · rw [(b3 b (by omega)).1, (b3 b (by omega)).2]; exact a3 b hb
  · rw [b4 b j (by omega) h]; exact a4 b j hb h
  · rw [b5 b (by omega) x1 x2 x3 x4 x5 x6]; exact a5 b hb x1 x2 x3 x4 x5 x6
theorem Ex_r {J J' : aI} {Z : aZ} (h : ∀ b, b ≠ 58 → b ≠ 60 → b ≠ 61 → b ≠ 62 → b ≠ 63 → b ≠ 65 → J' b = J b) : Ex J J' Z Z := ⟨Nat.le_refl _, Nat.le_refl _, fun _ _ => ⟨rfl, rfl⟩, fun _ _ _ _ => rfl, fun b _ x1 x2 x3 x4 x5 x6 => h b x1 x2 x3 x4 x5 x6⟩
theorem Ex_S {J J' : aI} {Z Z' : aZ} (hZ : Shp Z) (h : Ex J J' Z Z') : Shp Z' := by
  have := hZ.2.2
  exact shp_ext hZ h.1 (fun a ha => h.2.2.1 a (by omega)) (fun a k ha _ h64 _ _ => h.2.2.2.1 a k (by omega) h64)
def ClC (J : aI) (Z : aZ) (lo hi a : Nat) (k : aK) : Prop := lo ≤ a ∧ a < hi ∧ zK Z a = 0 ∧ J a 0 = iN k.1 ∧ J a 1 = k.2.1 ∧ J a 2 = k.2.2.1 ∧ (k.2.2.2 = [] → zR Z a 3 = 0) ∧ (k.2.2.2 ≠ [] → lo ≤ zR Z a 3 ∧ zR Z a 3 < hi ∧ zK Z (zR Z a 3) = 12 ∧ zN Z (zR Z a 3) = k.2.2.2.length ∧ ∀ i, i < k.2.2.2.length → J (zR Z a 3) i = k.2.2.2.getD i 0)
theorem ClC_e {J J' : aI} {Z Z' : aZ} {lo hi lo' hi' a : Nat} {k : aK} (h : ClC J Z lo hi a k) (hlo : lo' ≤ lo) (hhi : hi ≤ hi') (hk : ∀ b, lo ≤ b → b < hi → zK Z' b = zK Z b ∧ zN Z' b = zN Z b ∧ (∀ j, zR Z' b j = zR Z b j) ∧ J' b = J b) : ClC J' Z' lo' hi' a k := by
  obtain ⟨h1, h2, h3, h4, h5, h6, h7, h8⟩ := h
  obtain ⟨q1, q2, q3, q4⟩ := hk a h1 h2
  refine ⟨by omega, by omega, by rw [q1]; exact h3, by rw [q4]; exact h4, by rw [q4]; exact h5, by rw [q4]; exact h6, fun z => by rw [q3]; exact h7 z, fun z => ?_⟩
  obtain ⟨g1, g2, g3, g4, g5⟩ := h8 z
  obtain ⟨w1, w2, w3, w4⟩ := hk _ g1 g2
  rw [q3, w1, w2, w4]
  exact ⟨by omega, by omega, g3, g4, g5⟩
section KP
variable {J : aI} {G : aL} {Z : aZ} {u : Nat → Int32} {n T k c : Nat} {l : List Int32}
/-- the clause itself, where its test stands at t -/
def kpJ (J1 : aI) (a i kd : Nat) (w v : Int32) : aI := up2 (up2 (up2 (up2 (cl2 J1 a 0) a 0 (iN kd)) a 1 w) a 2 v) 63 4 (iN (i + 1))
def kpZ (Z1 : aZ) (a t i : Nat) : aZ := wrZ (wrZ (nwZ Z1 0 0 4) a 3 t) 64 i a
theorem c_keep1 {J1 : aI} {G1 : aL} {Z1 : aZ} (hZ : Shp Z1) {i kd t : Nat} (hi : i < 14) (h4 : J1 63 4 = iN i) : run 2 17 30 [.ref 63, .int (iN kd), .ref t] [] (J1, G1, Z1) = some (none, (kpJ J1 (zX Z1 + 32) i kd (J1 63 8) (J1 63 9), cl2 G1 (zX Z1 + 32) 0, kpZ Z1 (zX Z1 + 32) t i)) := by
  have h80 := hZ.2.2
  have ha : 63 ≠ zX Z1 + 32 := by omega
  have hk63 : zK (nwZ Z1 0 0 4) 63 = 2 := by rw [zK_n, if_neg ha]; exact hZ.k63 (I := J1) (G := G1)
  have hk64 : zK (nwZ Z1 0 0 4) 64 = 16 := by rw [zK_n, if_neg (by omega)]; exact hZ.k64 (I := J1) (G := G1)
  have hn64 : zN (nwZ Z1 0 0 4) 64 = 14 := by rw [zN_n, if_neg (by omega)]; exact hZ.n64 (I := J1) (G := G1)
  have hka : zK (nwZ Z1 0 0 4) (zX Z1 + 32) = 0 := nw_k.1
  refine Eq.trans (b17_30 hZ.k63) ?_
  rw [mI_t, h4]
  refine Eq.trans (if_neg (fun q => q ((iN_lt (b := 14) (by omega) (by decide)).mpr hi))) (Eq.trans (b17_39 hZ.k63 hk63 hka) ?_)
  rw [wN_t, mX_t, hZ.r63_0]
  simp only [mI_t, cl2_e, if_neg ha]
  have kam : ∀ (K : aI) (H : aL), mK (K, H, nwZ Z1 0 0 4) (zX Z1 + 32) = 0 := fun K H => hka
  rw [e0, b0_0 (kam _ _), wI_t, wI_t, wI_t, b0_19 (kam _ _), wR_t]
  refine Eq.trans (b17_64 hk64 (by rw [mN_t]; show ib _ (zN (nwZ Z1 0 0 4) 64); rw [hn64, h4]; exact ib_iN (by omega) hi) hka hk63) (Eq.trans b17_75 ?_)
  rw [wR_t, wI_t, mI_t, h4, iN_clamp (by omega)]
  have e : up2 (up2 (up2 (cl2 J1 (zX Z1 + 32) 0) (zX Z1 + 32) 0 (iN kd)) (zX Z1 + 32) 1 (J1 63 8)) (zX Z1 + 32) 2 (J1 63 9) 63 4 = iN i := by
    rw [up2_a ha, up2_a ha, up2_a ha, cl2_e, if_neg ha, h4]
  rw [e, iN_succ]
  rfl
theorem c_keep (hZ : Shp Z) (h : RS J u n T k c l) (hl : l.length < 400) {i kd : Nat} (hi : i < 14) (h4 : J 63 4 = iN i) : ∃ (J' : aI) (G' : aL) (Z' : aZ) (a : Nat), call 17 [.ref 63, .int (iN kd)] (J, G, Z) = some (none, (J', G', Z')) ∧ Ex J J' Z Z' ∧ (∀ j, j ≠ 4 → J' 63 j = J 63 j) ∧ J' 63 4 = iN (i + 1) ∧ (∀ b, b < 112 → b ≠ 63 → J' b = J b) ∧ zR Z' 64 i = a ∧ (∀ j, j ≠ i → zR Z' 64 j = zR Z 64 j) ∧ zX Z' ≤ zX Z + 2 ∧ zU Z' ≤ zU Z + 4 + l.length ∧ ClC J' Z' (zX Z + 32) (zX Z' + 32) a (kd, J 63 8, J 63 9, l) := by
  have h80 := hZ.2.2
  have h5 := h.2.2.2.2.1
  -- facts of the tail, for any test
  have tail : ∀ (J1 : aI) (Z1 : aZ) (t : Nat), 80 ≤ zX Z1 → (∀ b j, b < zX Z1 + 32 → b ≠ 63 → kpJ J1 (zX Z1 + 32) i kd (J 63 8) (J 63 9) b j = J1 b j) ∧ (∀ j, j ≠ 4 → kpJ J1 (zX Z1 + 32) i kd (J 63 8) (J 63 9) 63 j = J1 63 j) ∧ kpJ J1 (zX Z1 + 32) i kd (J 63 8) (J 63 9) 63 4 = iN (i + 1) ∧ (∀ b, b < zX Z1 + 32 → zK (kpZ Z1 (zX Z1 + 32) t i) b = zK Z1 b ∧ zN (kpZ Z1 (zX Z1 + 32) t i) b = zN Z1 b) ∧ (∀ b j, b < zX Z1 + 32 → (b ≠ 64 ∨ j ≠ i) → zR (kpZ Z1 (zX Z1 + 32) t i) b j = zR Z1 b j) ∧ zR (kpZ Z1 (zX Z1 + 32) t i) 64 i = zX Z1 + 32 ∧ zX (kpZ Z1 (zX Z1 + 32) t i) = zX Z1 + 1 ∧ zU (kpZ Z1 (zX Z1 + 32) t i) = zU Z1 + 4 ∧ zK (kpZ Z1 (zX Z1 + 32) t i) (zX Z1 + 32) = 0 ∧ zR (kpZ Z1 (zX Z1 + 32) t i) (zX Z1 + 32) 3 = t ∧ kpJ J1 (zX Z1 + 32) i kd (J 63 8) (J 63 9) (zX Z1 + 32) 0 = iN kd ∧ kpJ J1 (zX Z1 + 32) i kd (J 63 8) (J 63 9) (zX Z1 + 32) 1 = J 63 8 ∧ kpJ J1 (zX Z1 + 32) i kd (J 63 8) (J 63 9) (zX Z1 + 32) 2 = J 63 9 := by
    intro J1 Z1 t hx
    have hne : zX Z1 + 32 ≠ 63 := by omega
    refine ⟨fun b j hb hb63 => ?_, fun j hj => ?_, ?_, fun b hb => ?_, fun b j hb hbj => ?_, ?_, rfl, rfl, ?_, ?_, ?_, ?_, ?_⟩
    · unfold kpJ
      rw [up2_a hb63, up2_a (by omega), up2_a (by omega), up2_a (by omega), cl2_e, if_neg (by omega)]
    · unfold kpJ
      rw [up2_k hj, up2_a (by omega), up2_a (by omega), up2_a (by omega), cl2_e, if_neg (by omega)]
    · unfold kpJ; rw [up2_s]
    · unfold kpZ
      rw [wr_f.1, wr_f.2, wr_f.1, wr_f.2, (nw_f hb).1, (nw_f hb).2.1]
      exact ⟨rfl, rfl⟩
    · unfold kpZ
      rw [wr_r hbj, wr_r (Or.inl (by omega)), (nw_f hb).2.2]
    · unfold kpZ; rw [wr_s]
    · unfold kpZ
      rw [wr_f.1, wr_f.1, nw_k.1]
    · unfold kpZ
      rw [wr_r (Or.inl (by omega)), wr_s]
    · unfold kpJ
      rw [up2_a hne, up2_k (by decide), up2_k (by decide), up2_s]
    · unfold kpJ
      rw [up2_a hne, up2_k (by decide), up2_s]
    · unfold kpJ
      rw [up2_a hne, up2_s]
  by_cases hnil : l = []
  · subst hnil
    obtain ⟨t1, t2, t3, t4, t5, t6, t7, t8, t9, t10, t11, t12, t13⟩ := tail J Z 0 h80
    refine ⟨_, cl2 G (zX Z + 32) 0, _, zX Z + 32, ?_, ?_, t2, t3, ?_, t6, fun j hj => t5 64 j (by omega) (Or.inr hj), by rw [t7]; omega, by rw [t8]; omega, ?_⟩
    · refine Eq.trans e17 (Eq.trans (b17_0 hZ.k63) ?_)
      rw [mI_t, h5]
      exact Eq.trans (if_pos (by decide)) (c_keep1 hZ hi h4)
    · refine ⟨by rw [t7]; omega, by rw [t8]; omega, t4, fun b j hb h64 => t5 b j hb (Or.inl h64), fun b hb _ _ _ _ h63 _ => funext fun j => t1 b j hb h63⟩
    · intro b hb h63
      exact funext fun j => t1 b j (by omega) h63
    · refine ⟨by omega, by rw [t7]; omega, t9, t11, t12, t13, fun _ => t10, fun z => absurd rfl z⟩
  · have hlen : 0 < l.length := List.length_pos_iff.mpr hnil
    have hX1 : zX (nwZ Z 12 l.length l.length) = zX Z + 1 := zX_n
    have hZ1 : Shp (nwZ Z 12 l.length l.length) := shp_ext hZ (by omega) (fun a ha => ⟨(nw_f (by omega)).1, (nw_f (by omega)).2.1⟩) (fun a k ha _ _ _ _ => (nw_f (by omega)).2.2 k)
    generalize hJ1 : cpR (cl2 J (zX Z + 32) 0) (zX Z + 32) 65 l.length = J1
    have j63 : ∀ b j, b < zX Z + 32 → J1 b j = J b j := by
      intro b j hb
      rw [← hJ1]
      unfold cpR
      rw [if_neg (by omega), cl2_e, if_neg (by omega)]
    have jt : ∀ j, j < l.length → J1 (zX Z + 32) j = l.getD j 0 := by
      intro j hj
      rw [← hJ1]
      unfold cpR
      rw [if_pos ⟨rfl, hj⟩, cl2_e, if_neg (by omega)]
      exact h.2.2.2.2.2 j hj
    obtain ⟨t1, t2, t3, t4, t5, t6, t7, t8, t9, t10, t11, t12, t13⟩ := tail J1 (nwZ Z 12 l.length l.length) (zX Z + 32) (by omega)
    rw [hX1] at t1 t2 t3 t4 t5 t6 t7 t8 t9 t10 t11 t12 t13
    refine ⟨kpJ J1 (zX Z + 1 + 32) i kd (J 63 8) (J 63 9), cl2 (cl2 G (zX Z + 32) 0) (zX Z + 1 + 32) 0, kpZ (nwZ Z 12 l.length l.length) (zX Z + 1 + 32) (zX Z + 32) i, zX Z + 1 + 32, ?_, ?_, fun j hj => by rw [t2 j hj, j63 63 j (by omega)], t3, ?_, t6, fun j hj => by rw [t5 64 j (by omega) (Or.inr hj), (nw_f (by omega)).2.2], by rw [t7]; omega, by rw [t8, zU_n]; omega, ?_⟩
    · refine Eq.trans e17 (Eq.trans (b17_0 hZ.k63) ?_)
      rw [mI_t, h5]
      refine Eq.trans (if_neg (fun q => q ((iN_lt (a := 0) (by omega) (by omega)).mpr hlen))) ?_
      have hc5 : (iN l.length).toNatClampNeg = l.length := iN_clamp (by omega)
      have w5 : ∀ H : aL, mI (cl2 J (zX Z + 32) 0, H, nwZ Z 12 l.length l.length) 63 5 = iN l.length := fun H => by
        rw [mI_t, cl2_e, if_neg (by omega), h5]
      have r1 : mR (cl2 J (zX Z + 32) 0, cl2 G (zX Z + 32) 0, nwZ Z 12 l.length l.length) 63 1 = 65 := hZ1.r63_1
      have m5 : mI (J, G, Z) 63 5 = iN l.length := h5
      refine Eq.trans (b17_9 hZ.k63 (by rw [m5]; exact iN_nneg (by omega)) (by rw [m5, hc5]; omega) (by rw [m5, hc5, wN_t]; exact hZ1.k63) (by rw [m5, hc5, wN_t, r1]; exact hZ1.k65) (by rw [m5, hc5, wN_t, mX_t, mK_t]; exact nw_k.1) (by rw [m5, hc5, wN_t, w5]; exact iN_nneg (by omega)) (by rw [m5, hc5, wN_t, w5, r1, hZ1.n65, hc5, show (0 : Int32).toNatClampNeg = 0 from rfl]; omega) (by rw [m5, hc5, wN_t, w5, mX_t, mN_t, nw_k.2, hc5, show (0 : Int32).toNatClampNeg = 0 from rfl]; omega)) ?_
      rw [m5, hc5, wN_t, w5, r1, mX_t, hc5, show (0 : Int32).toNatClampNeg = 0 from rfl, wC_t, cpR_w, hJ1]
      have := c_keep1 (J1 := J1) (G1 := cl2 G (zX Z + 32) 0) hZ1 (i := i) (kd := kd) (t := zX Z + 32) hi (by rw [j63 63 4 (by omega)]; exact h4)
      rw [j63 63 8 (by omega), j63 63 9 (by omega)] at this
      exact this
    · refine ⟨by rw [t7]; omega, by rw [t8, zU_n]; omega, fun b hb => ?_, fun b j hb h64 => ?_, fun b hb _ _ _ _ h63 _ => funext fun j => ?_⟩
      · rw [(t4 b (by omega)).1, (t4 b (by omega)).2, (nw_f hb).1, (nw_f hb).2.1]; exact ⟨rfl, rfl⟩
      · rw [t5 b j (by omega) (Or.inl h64), (nw_f hb).2.2]
      · rw [t1 b j (by omega) h63, j63 b j hb]
    · intro b hb h63
      exact funext fun j => by rw [t1 b j (by omega) h63, j63 b j (by omega)]
    · refine ⟨by omega, by rw [t7]; omega, t9, t11, t12, t13, fun z => absurd z hnil, fun _ => ?_⟩
      show zX Z + 32 ≤ zR (kpZ (nwZ Z 12 l.length l.length) (zX Z + 1 + 32) (zX Z + 32) i) (zX Z + 1 + 32) 3 ∧ _
      rw [t10, t7]
      refine ⟨by omega, by omega, ?_, ?_, fun j hj => ?_⟩
      · rw [(t4 (zX Z + 32) (by omega)).1, nw_k.1]
      · rw [(t4 (zX Z + 32) (by omega)).2, nw_k.2]
      · rw [t1 (zX Z + 32) j (by omega) (by omega), jt j hj]
end KP
