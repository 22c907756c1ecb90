/-! THE CONSTRUCTORS -/
theorem cl2_z {I : aI} {x a : Nat} (h : ∀ a k, x ≤ a → I a k = 0) (ha : x ≤ a) : cl2 I a 0 = I := by
  funext b k
  rw [cl2_e]
  by_cases q : b = a
  · rw [if_pos q, h b k (by omega)]
  · rw [if_neg q]
theorem alI_z {I : aI} {x y n : Nat} (h : ∀ a k, x ≤ a → I a k = 0) (hy : x ≤ y + 32) : alI I y n = I := by
  funext b k
  rw [alI_e]
  by_cases q : y + 32 ≤ b ∧ b < y + 32 + n
  · rw [if_pos q, h b k (by omega)]
  · rw [if_neg q]
def lTp : List aA := [(0, 12, 400, 400), (1, 12, 401, 401), (2, 12, 401, 401), (3, 12, 401, 401)]
def lRd : List aA := [(0, 16, 14, 14), (1, 12, 400, 400)]
def lJd : List aA := [(0, 12, 13, 13), (1, 12, 40, 40)]
section CNS
variable {I : aI} {G : aL} {Z : aZ}
theorem new_tape {t : Nat} (ht : t < zX Z + 32) (hk : zK Z t = 7) : call 77 [.ref t] (I, G, Z) = some (none, al (I, G, Z) t lTp) := by
  refine Eq.trans e77 (Eq.trans (b77_0 hk (by rw [mK_old ht]; exact hk)) ?_)
  refine Eq.trans (b77_19 (M := wN (al (I, G, Z) t [(0, 12, 400, 400)]) 12 401 401) (by rw [mK_al _ ht]; exact hk) (mK_al (ty := 12) (n := 401) (sz := 401) (t := t) [(0, 12, 400, 400), (1, 12, 401, 401)] ht ▸ hk)) ?_
  exact b77_31 (M := al (I, G, Z) t [(0, 12, 400, 400), (1, 12, 401, 401), (2, 12, 401, 401)]) (by rw [mK_al _ ht]; exact hk)
theorem new_read {t p : Nat} (ht : t < zX Z + 32) (hk : zK Z t = 2) : call 11 [.ref t, .ref p] (I, G, Z) = some (none, wR (al (I, G, Z) t lRd) t 2 p) := by
  refine Eq.trans e11 (Eq.trans (b11_0 hk (by rw [mK_old ht]; exact hk)) ?_)
  exact b11_19 (M := wN (al (I, G, Z) t [(0, 16, 14, 14)]) 12 400 400) (by rw [mK_al _ ht]; exact hk) (by rw [mK_al _ ht]; exact hk)
theorem new_judge {t : Nat} (ht : t < zX Z + 32) (hk : zK Z t = 1) : call 1 [.ref t] (I, G, Z) = some (none, al (I, G, Z) t lJd) := by
  refine Eq.trans e1 (Eq.trans (b1_0 hk (by rw [mK_old ht]; exact hk)) ?_)
  exact b1_17 (M := wN (al (I, G, Z) t [(0, 12, 13, 13)]) 12 40 40) (by rw [mK_al _ ht]; exact hk)
def clA (Z : aZ) : aZ := wrZ (nwZ (wrZ (stZ (nwZ Z 4 0 5) 33) 32 0 33) 18 4 4) 32 1 57
def clB (Z : aZ) : aZ := alZ (nwZ Z 7 0 6) 58 lTp
def clC (Z : aZ) : aZ := wrZ (alZ (nwZ (wrZ Z 32 2 58) 2 0 11) 63 lRd) 63 2 58
def clD (Z : aZ) : aZ := alZ (nwZ (wrZ Z 32 3 63) 1 0 2) 66 lJd
def clE (Z : aZ) : aZ := wrZ (nwZ (wrZ (nwZ (wrZ (nwZ (wrZ Z 32 4 66) 19 10 10) 32 5 69) 19 10 10) 32 6 70) 12 16 16) 32 7 71
theorem cls_a (hx : zX Z = 1) (hk : zK Z 32 = 10) (hI : ∀ a k, 32 ≤ a → I a k = 0) : (∃ G1, call 98 [.ref 32] (I, G, Z) = run 4 98 23 [.ref 32] [] (stI I 33, G1, clA Z)) ∧ zX (clA Z) = 26 ∧ zK (clA Z) 32 = 10 := by
  have e : zX Z + 32 = 33 := by omega
  have n1 : zK (nwZ Z 4 0 5) 33 = 4 := by rw [← e]; exact nw_k.1
  have n2 : zN (nwZ Z 4 0 5) 33 = 0 := by rw [← e]; exact nw_k.2
  have hb : 33 + 1 = zX (nwZ Z 4 0 5) + 32 := by rw [zX_n]; omega
  obtain ⟨I1, G1, h1, h2⟩ := new_state (I := cl2 I 33 0) (G := cl2 G 33 0) (Z := nwZ Z 4 0 5) (b := 33) hb n1 n2
  have zst : ∀ a k, 57 ≤ a → stI I 33 a k = 0 := by
    intro a k ha
    unfold stI
    rw [if_neg (by omega), if_neg (by omega), if_neg (by omega)]
    exact hI a k (by omega)
  have eI : I1 = stI I 33 := by
    rw [cl2_z hI (by omega)] at h2
    funext a k
    exact h2 a k
  have k3 : zK (stZ (nwZ Z 4 0 5) 33) 32 = 10 := by rw [((st_K hb n1 n2).2 32 (by omega)).1, (nw_f (by omega)).1]; exact hk
  have x3 : zX (stZ (nwZ Z 4 0 5) 33) + 32 = 57 := by rw [st_X, zX_n]; omega
  have kA : zK (clA Z) 32 = 10 := by
    unfold clA
    rw [zK_w, (nw_f (by rw [zX_w]; omega)).1, zK_w]
    exact k3
  refine ⟨⟨cl2 G1 57 0, Eq.trans e98 (Eq.trans (b98_0 hk nw_k.1) ?_)⟩, ?_, kA⟩
  · rw [mX_t, wN_t, e, h1, eI]
    refine Eq.trans (b98_12 (M := (stI I 33, G1, stZ (nwZ Z 4 0 5) 33)) k3 (by rw [wR_t, mK_old (by rw [zX_w]; omega)]; exact k3)) ?_
    rw [wR_t, wN_t, wR_t, mX_t, zX_w, x3, cl2_z zst (by omega)]
    rfl
  · unfold clA
    rw [zX_w, zX_n, zX_w]
    omega
theorem cls_b (hx : zX Z = 26) (hk : zK Z 32 = 10) (hI : ∀ a k, 57 ≤ a → I a k = 0) : (∃ G1, run 4 98 23 [.ref 32] [] (I, G, Z) = run 4 98 31 [.ref 32] [.ref 58, .ref 32] (I, G1, clB Z)) ∧ zX (clB Z) = 31 ∧ zK (clB Z) 32 = 10 := by
  have e : zX Z + 32 = 58 := by omega
  have n1 : zK (nwZ Z 7 0 6) 58 = 7 := by rw [← e]; exact nw_k.1
  refine ⟨⟨alG (cl2 G 58 0) 27 4, Eq.trans (b98_23 nw_k.1) ?_⟩, ?_, ?_⟩
  · rw [mX_t, wN_t, e, cl2_z hI (by omega), new_tape (by rw [zX_n]; omega) n1, al_t, zX_n, hx, alI_z hI (by omega)]
    rfl
  · unfold clB
    rw [alZ_X, zX_n, hx]
    rfl
  · unfold clB
    rw [(al_f lTp (by rw [zX_n]; omega)).1, (nw_f (by omega)).1]
    exact hk
theorem cls_c (hx : zX Z = 31) (hk : zK Z 32 = 10) (hI : ∀ a k, 57 ≤ a → I a k = 0) : (∃ G1, run 4 98 31 [.ref 32] [.ref 58, .ref 32] (I, G, Z) = run 4 98 46 [.ref 32] [.ref 63, .ref 32] (I, G1, clC Z)) ∧ zX (clC Z) = 34 ∧ zK (clC Z) 32 = 10 := by
  have e : zX Z + 32 = 63 := by omega
  have n1 : zK (nwZ (wrZ Z 32 2 58) 2 0 11) 63 = 2 := by rw [← e]; exact nw_k.1
  have kk : zK (nwZ (wrZ Z 32 2 58) 2 0 11) 32 = 10 := by rw [(nw_f (by rw [zX_w]; omega)).1, zK_w]; exact hk
  have rr : zR (nwZ (wrZ Z 32 2 58) 2 0 11) 32 2 = 58 := by rw [(nw_f (by rw [zX_w]; omega)).2.2, wr_s]
  refine ⟨⟨alG (cl2 G 63 0) 32 2, Eq.trans (b98_31 hk (by rw [wR_t, wN_t, mK_t]; exact kk) (by rw [wR_t]; exact nw_k.1)) ?_⟩, ?_, ?_⟩
  · rw [mX_t, wR_t, wN_t, mR_t, rr, zX_w, e, cl2_z hI (by omega), new_read (by rw [zX_n, zX_w]; omega) n1, al_t, zX_n, zX_w, hx, alI_z hI (by omega)]
    rfl
  · unfold clC
    rw [zX_w, alZ_X, zX_n, zX_w, hx]
    rfl
  · unfold clC
    rw [zK_w, (al_f lRd (by rw [zX_n, zX_w]; omega)).1]
    exact kk
theorem cls_d (hx : zX Z = 34) (hk : zK Z 32 = 10) (hI : ∀ a k, 57 ≤ a → I a k = 0) : (∃ G1, run 4 98 46 [.ref 32] [.ref 63, .ref 32] (I, G, Z) = run 4 98 57 [.ref 32] [.ref 66, .ref 32] (I, G1, clD Z)) ∧ zX (clD Z) = 37 ∧ zK (clD Z) 32 = 10 := by
  have e : zX Z + 32 = 66 := by omega
  have n1 : zK (nwZ (wrZ Z 32 3 63) 1 0 2) 66 = 1 := by rw [← e]; exact nw_k.1
  have kk : zK (nwZ (wrZ Z 32 3 63) 1 0 2) 32 = 10 := by rw [(nw_f (by rw [zX_w]; omega)).1, zK_w]; exact hk
  refine ⟨⟨alG (cl2 G 66 0) 35 2, Eq.trans (b98_46 hk (by rw [wR_t]; exact nw_k.1)) ?_⟩, ?_, ?_⟩
  · rw [mX_t, wR_t, wN_t, zX_w, e, cl2_z hI (by omega), new_judge (by rw [zX_n, zX_w]; omega) n1, al_t, zX_n, zX_w, hx, alI_z hI (by omega)]
    rfl
  · unfold clD
    rw [alZ_X, zX_n, zX_w, hx]
    rfl
  · unfold clD
    rw [(al_f lJd (by rw [zX_n, zX_w]; omega)).1]
    exact kk
theorem cls_e (hx : zX Z = 37) (hk : zK Z 32 = 10) (hI : ∀ a k, 57 ≤ a → I a k = 0) : (∃ G1, run 4 98 57 [.ref 32] [.ref 66, .ref 32] (I, G, Z) = some (none, (I, G1, clE Z))) ∧ zX (clE Z) = 40 := by
  have e : zX Z + 32 = 69 := by omega
  obtain ⟨Za, ea⟩ : ∃ z, z = wrZ (nwZ (wrZ Z 32 4 66) 19 10 10) 32 5 69 := ⟨_, rfl⟩
  obtain ⟨Zb, eb⟩ : ∃ z, z = nwZ (wrZ (nwZ Za 19 10 10) 32 6 70) 12 16 16 := ⟨_, rfl⟩
  have xa : zX Za + 32 = 70 := by rw [ea, zX_w, zX_n, zX_w]; omega
  have ka : zK Za 32 = 10 := by rw [ea, zK_w, (nw_f (by rw [zX_w]; omega)).1, zK_w]; exact hk
  have xb : zX Zb + 32 = 72 := by rw [eb, zX_n, zX_w, zX_n]; omega
  have kb : zK Zb 32 = 10 := by rw [eb, (nw_f (by rw [zX_w, zX_n]; omega)).1, zK_w, (nw_f (by omega)).1]; exact ka
  have eE : clE Z = wrZ Zb 32 7 71 := by unfold clE; rw [eb, ea]
  refine ⟨⟨cl2 (cl2 (cl2 G 69 0) 70 0) 71 0, Eq.trans (b98_57 hk (by rw [wR_t, mK_old (by rw [zX_w]; omega)]; exact hk)) ?_⟩, ?_⟩
  · rw [wR_t, wN_t, wR_t, mX_t, zX_w, e, cl2_z hI (by omega), ← ea]
    refine Eq.trans (b98_69 (by rw [mK_old (by omega)]; exact ka)) ?_
    rw [mX_t, wN_t, wR_t, wN_t, mX_t, zX_n, zX_w, zX_n, show zX Za + 1 + 32 = 71 by omega, xa, cl2_z hI (by omega), cl2_z hI (by omega), ← eb]
    rw [eE]
    exact b98_83 kb
  · rw [eE, zX_w]
    omega
theorem new_class (hx : zX Z = 1) (hk : zK Z 32 = 10) (hI : ∀ a k, 32 ≤ a → I a k = 0) : (∃ G1, call 98 [.ref 32] (I, G, Z) = some (none, (stI I 33, G1, clE (clD (clC (clB (clA Z))))))) ∧ zX (clE (clD (clC (clB (clA Z))))) = 40 := by
  have zst : ∀ a k, 57 ≤ a → stI I 33 a k = 0 := by
    intro a k ha
    unfold stI
    rw [if_neg (by omega), if_neg (by omega), if_neg (by omega)]
    exact hI a k (by omega)
  obtain ⟨⟨G1, a1⟩, a2, a3⟩ := cls_a (G := G) hx hk hI
  obtain ⟨⟨G2, b1⟩, b2, b3⟩ := cls_b (G := G1) a2 a3 zst
  obtain ⟨⟨G3, c1⟩, c2, c3⟩ := cls_c (G := G2) b2 b3 zst
  obtain ⟨⟨G4, d1⟩, d2, d3⟩ := cls_d (G := G3) c2 c3 zst
  obtain ⟨⟨G5, f1⟩, f2⟩ := cls_e (G := G4) d2 d3 zst
  exact ⟨⟨G5, Eq.trans a1 (Eq.trans b1 (Eq.trans c1 (Eq.trans d1 f1)))⟩, f2⟩
end CNS
