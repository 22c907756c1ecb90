/-! A STATE of the class at any base: its shape; copyFrom -/
def bkl : List Nat := [4, 6, 17, 12, 12, 3, 3, 3, 3, 3, 3, 3, 5, 12, 12, 12, 12, 12, 9, 12, 12, 12, 12, 12]
def bnl : List Nat := [0, 0, 7, 30, 30, 0, 0, 0, 0, 0, 0, 0, 0, 144, 144, 144, 144, 144, 0, 300, 300, 300, 16, 10]
def brl : List (Nat × Nat × Nat) := [(0, 0, 1), (0, 1, 12), (0, 2, 18), (0, 3, 22), (0, 4, 23), (1, 0, 2), (1, 1, 3), (1, 2, 4), (2, 0, 5), (2, 1, 6), (2, 2, 7), (2, 3, 8), (2, 4, 9), (2, 5, 10), (2, 6, 11), (12, 0, 13), (12, 1, 14), (12, 2, 15), (12, 3, 16), (12, 4, 17), (18, 0, 19), (18, 1, 20), (18, 2, 21)]
/-- the cells of a State at b -/
def ShB (Z : aZ) (b : Nat) : Prop := (∀ o, o < 24 → zK Z (b + o) = bkl.getD o 0 ∧ zN Z (b + o) = bnl.getD o 0) ∧ ∀ e ∈ brl, zR Z (b + e.1) e.2.1 = b + e.2.2
theorem ShB.k0 {Z : aZ} {b : Nat} (h : ShB Z b) {I : aI} {G : aL} : mK (I, G, Z) b = 4 := (h.1 0 (by decide)).1
theorem ShB.k1 {Z : aZ} {b : Nat} (h : ShB Z b) {I : aI} {G : aL} : mK (I, G, Z) (b + 1) = 6 := (h.1 1 (by decide)).1
theorem ShB.k2 {Z : aZ} {b : Nat} (h : ShB Z b) {I : aI} {G : aL} : mK (I, G, Z) (b + 2) = 17 := (h.1 2 (by decide)).1
theorem ShB.n2 {Z : aZ} {b : Nat} (h : ShB Z b) {I : aI} {G : aL} : mN (I, G, Z) (b + 2) = 7 := (h.1 2 (by decide)).2
theorem ShB.k3 {Z : aZ} {b : Nat} (h : ShB Z b) {I : aI} {G : aL} : mK (I, G, Z) (b + 3) = 12 := (h.1 3 (by decide)).1
theorem ShB.n3 {Z : aZ} {b : Nat} (h : ShB Z b) {I : aI} {G : aL} : mN (I, G, Z) (b + 3) = 30 := (h.1 3 (by decide)).2
theorem ShB.k4 {Z : aZ} {b : Nat} (h : ShB Z b) {I : aI} {G : aL} : mK (I, G, Z) (b + 4) = 12 := (h.1 4 (by decide)).1
theorem ShB.n4 {Z : aZ} {b : Nat} (h : ShB Z b) {I : aI} {G : aL} : mN (I, G, Z) (b + 4) = 30 := (h.1 4 (by decide)).2
theorem ShB.k5 {Z : aZ} {b : Nat} (h : ShB Z b) {I : aI} {G : aL} : mK (I, G, Z) (b + 5) = 3 := (h.1 5 (by decide)).1
theorem ShB.k6 {Z : aZ} {b : Nat} (h : ShB Z b) {I : aI} {G : aL} : mK (I, G, Z) (b + 6) = 3 := (h.1 6 (by decide)).1
theorem ShB.k7 {Z : aZ} {b : Nat} (h : ShB Z b) {I : aI} {G : aL} : mK (I, G, Z) (b + 7) = 3 := (h.1 7 (by decide)).1
theorem ShB.k8 {Z : aZ} {b : Nat} (h : ShB Z b) {I : aI} {G : aL} : mK (I, G, Z) (b + 8) = 3 := (h.1 8 (by decide)).1
theorem ShB.k9 {Z : aZ} {b : Nat} (h : ShB Z b) {I : aI} {G : aL} : mK (I, G, Z) (b + 9) = 3 := (h.1 9 (by decide)).1
theorem ShB.k10 {Z : aZ} {b : Nat} (h : ShB Z b) {I : aI} {G : aL} : mK (I, G, Z) (b + 10) = 3 := (h.1 10 (by decide)).1
theorem ShB.k11 {Z : aZ} {b : Nat} (h : ShB Z b) {I : aI} {G : aL} : mK (I, G, Z) (b + 11) = 3 := (h.1 11 (by decide)).1
theorem ShB.k12 {Z : aZ} {b : Nat} (h : ShB Z b) {I : aI} {G : aL} : mK (I, G, Z) (b + 12) = 5 := (h.1 12 (by decide)).1
theorem ShB.k13 {Z : aZ} {b : Nat} (h : ShB Z b) {I : aI} {G : aL} : mK (I, G, Z) (b + 13) = 12 := (h.1 13 (by decide)).1
theorem ShB.n13 {Z : aZ} {b : Nat} (h : ShB Z b) {I : aI} {G : aL} : mN (I, G, Z) (b + 13) = 144 := (h.1 13 (by decide)).2
theorem ShB.k14 {Z : aZ} {b : Nat} (h : ShB Z b) {I : aI} {G : aL} : mK (I, G, Z) (b + 14) = 12 := (h.1 14 (by decide)).1
theorem ShB.n14 {Z : aZ} {b : Nat} (h : ShB Z b) {I : aI} {G : aL} : mN (I, G, Z) (b + 14) = 144 := (h.1 14 (by decide)).2
theorem ShB.k15 {Z : aZ} {b : Nat} (h : ShB Z b) {I : aI} {G : aL} : mK (I, G, Z) (b + 15) = 12 := (h.1 15 (by decide)).1
theorem ShB.n15 {Z : aZ} {b : Nat} (h : ShB Z b) {I : aI} {G : aL} : mN (I, G, Z) (b + 15) = 144 := (h.1 15 (by decide)).2
theorem ShB.k16 {Z : aZ} {b : Nat} (h : ShB Z b) {I : aI} {G : aL} : mK (I, G, Z) (b + 16) = 12 := (h.1 16 (by decide)).1
theorem ShB.n16 {Z : aZ} {b : Nat} (h : ShB Z b) {I : aI} {G : aL} : mN (I, G, Z) (b + 16) = 144 := (h.1 16 (by decide)).2
theorem ShB.k17 {Z : aZ} {b : Nat} (h : ShB Z b) {I : aI} {G : aL} : mK (I, G, Z) (b + 17) = 12 := (h.1 17 (by decide)).1
theorem ShB.n17 {Z : aZ} {b : Nat} (h : ShB Z b) {I : aI} {G : aL} : mN (I, G, Z) (b + 17) = 144 := (h.1 17 (by decide)).2
theorem ShB.k18 {Z : aZ} {b : Nat} (h : ShB Z b) {I : aI} {G : aL} : mK (I, G, Z) (b + 18) = 9 := (h.1 18 (by decide)).1
theorem ShB.k19 {Z : aZ} {b : Nat} (h : ShB Z b) {I : aI} {G : aL} : mK (I, G, Z) (b + 19) = 12 := (h.1 19 (by decide)).1
theorem ShB.n19 {Z : aZ} {b : Nat} (h : ShB Z b) {I : aI} {G : aL} : mN (I, G, Z) (b + 19) = 300 := (h.1 19 (by decide)).2
theorem ShB.k20 {Z : aZ} {b : Nat} (h : ShB Z b) {I : aI} {G : aL} : mK (I, G, Z) (b + 20) = 12 := (h.1 20 (by decide)).1
theorem ShB.n20 {Z : aZ} {b : Nat} (h : ShB Z b) {I : aI} {G : aL} : mN (I, G, Z) (b + 20) = 300 := (h.1 20 (by decide)).2
theorem ShB.k21 {Z : aZ} {b : Nat} (h : ShB Z b) {I : aI} {G : aL} : mK (I, G, Z) (b + 21) = 12 := (h.1 21 (by decide)).1
theorem ShB.n21 {Z : aZ} {b : Nat} (h : ShB Z b) {I : aI} {G : aL} : mN (I, G, Z) (b + 21) = 300 := (h.1 21 (by decide)).2
theorem ShB.k22 {Z : aZ} {b : Nat} (h : ShB Z b) {I : aI} {G : aL} : mK (I, G, Z) (b + 22) = 12 := (h.1 22 (by decide)).1
theorem ShB.n22 {Z : aZ} {b : Nat} (h : ShB Z b) {I : aI} {G : aL} : mN (I, G, Z) (b + 22) = 16 := (h.1 22 (by decide)).2
theorem ShB.k23 {Z : aZ} {b : Nat} (h : ShB Z b) {I : aI} {G : aL} : mK (I, G, Z) (b + 23) = 12 := (h.1 23 (by decide)).1
theorem ShB.n23 {Z : aZ} {b : Nat} (h : ShB Z b) {I : aI} {G : aL} : mN (I, G, Z) (b + 23) = 10 := (h.1 23 (by decide)).2
theorem ShB.r0_0 {Z : aZ} {b : Nat} (h : ShB Z b) {I : aI} {G : aL} : mR (I, G, Z) b 0 = b + 1 := h.2 (0, 0, 1) (by decide)
theorem ShB.r0_1 {Z : aZ} {b : Nat} (h : ShB Z b) {I : aI} {G : aL} : mR (I, G, Z) b 1 = b + 12 := h.2 (0, 1, 12) (by decide)
theorem ShB.r0_2 {Z : aZ} {b : Nat} (h : ShB Z b) {I : aI} {G : aL} : mR (I, G, Z) b 2 = b + 18 := h.2 (0, 2, 18) (by decide)
theorem ShB.r0_3 {Z : aZ} {b : Nat} (h : ShB Z b) {I : aI} {G : aL} : mR (I, G, Z) b 3 = b + 22 := h.2 (0, 3, 22) (by decide)
theorem ShB.r0_4 {Z : aZ} {b : Nat} (h : ShB Z b) {I : aI} {G : aL} : mR (I, G, Z) b 4 = b + 23 := h.2 (0, 4, 23) (by decide)
theorem ShB.r1_0 {Z : aZ} {b : Nat} (h : ShB Z b) {I : aI} {G : aL} : mR (I, G, Z) (b + 1) 0 = b + 2 := h.2 (1, 0, 2) (by decide)
theorem ShB.r1_1 {Z : aZ} {b : Nat} (h : ShB Z b) {I : aI} {G : aL} : mR (I, G, Z) (b + 1) 1 = b + 3 := h.2 (1, 1, 3) (by decide)
theorem ShB.r1_2 {Z : aZ} {b : Nat} (h : ShB Z b) {I : aI} {G : aL} : mR (I, G, Z) (b + 1) 2 = b + 4 := h.2 (1, 2, 4) (by decide)
theorem ShB.r2_0 {Z : aZ} {b : Nat} (h : ShB Z b) {I : aI} {G : aL} : mR (I, G, Z) (b + 2) 0 = b + 5 := h.2 (2, 0, 5) (by decide)
theorem ShB.r2_1 {Z : aZ} {b : Nat} (h : ShB Z b) {I : aI} {G : aL} : mR (I, G, Z) (b + 2) 1 = b + 6 := h.2 (2, 1, 6) (by decide)
theorem ShB.r2_2 {Z : aZ} {b : Nat} (h : ShB Z b) {I : aI} {G : aL} : mR (I, G, Z) (b + 2) 2 = b + 7 := h.2 (2, 2, 7) (by decide)
theorem ShB.r2_3 {Z : aZ} {b : Nat} (h : ShB Z b) {I : aI} {G : aL} : mR (I, G, Z) (b + 2) 3 = b + 8 := h.2 (2, 3, 8) (by decide)
theorem ShB.r2_4 {Z : aZ} {b : Nat} (h : ShB Z b) {I : aI} {G : aL} : mR (I, G, Z) (b + 2) 4 = b + 9 := h.2 (2, 4, 9) (by decide)
theorem ShB.r2_5 {Z : aZ} {b : Nat} (h : ShB Z b) {I : aI} {G : aL} : mR (I, G, Z) (b + 2) 5 = b + 10 := h.2 (2, 5, 10) (by decide)
theorem ShB.r2_6 {Z : aZ} {b : Nat} (h : ShB Z b) {I : aI} {G : aL} : mR (I, G, Z) (b + 2) 6 = b + 11 := h.2 (2, 6, 11) (by decide)
theorem ShB.r12_0 {Z : aZ} {b : Nat} (h : ShB Z b) {I : aI} {G : aL} : mR (I, G, Z) (b + 12) 0 = b + 13 := h.2 (12, 0, 13) (by decide)
theorem ShB.r12_1 {Z : aZ} {b : Nat} (h : ShB Z b) {I : aI} {G : aL} : mR (I, G, Z) (b + 12) 1 = b + 14 := h.2 (12, 1, 14) (by decide)
theorem ShB.r12_2 {Z : aZ} {b : Nat} (h : ShB Z b) {I : aI} {G : aL} : mR (I, G, Z) (b + 12) 2 = b + 15 := h.2 (12, 2, 15) (by decide)
theorem ShB.r12_3 {Z : aZ} {b : Nat} (h : ShB Z b) {I : aI} {G : aL} : mR (I, G, Z) (b + 12) 3 = b + 16 := h.2 (12, 3, 16) (by decide)
theorem ShB.r12_4 {Z : aZ} {b : Nat} (h : ShB Z b) {I : aI} {G : aL} : mR (I, G, Z) (b + 12) 4 = b + 17 := h.2 (12, 4, 17) (by decide)
theorem ShB.r18_0 {Z : aZ} {b : Nat} (h : ShB Z b) {I : aI} {G : aL} : mR (I, G, Z) (b + 18) 0 = b + 19 := h.2 (18, 0, 19) (by decide)
theorem ShB.r18_1 {Z : aZ} {b : Nat} (h : ShB Z b) {I : aI} {G : aL} : mR (I, G, Z) (b + 18) 1 = b + 20 := h.2 (18, 1, 20) (by decide)
theorem ShB.r18_2 {Z : aZ} {b : Nat} (h : ShB Z b) {I : aI} {G : aL} : mR (I, G, Z) (b + 18) 2 = b + 21 := h.2 (18, 2, 21) (by decide)
theorem ShB.ring {Z : aZ} {b : Nat} (h : ShB Z b) {I : aI} {G : aL} {k : Nat} (hk : k < 7) : mR (I, G, Z) (b + 2) k = b + (5 + k) := by
  rcases (by omega : k = 0 ∨ k = 1 ∨ k = 2 ∨ k = 3 ∨ k = 4 ∨ k = 5 ∨ k = 6) with rfl | rfl | rfl | rfl | rfl | rfl | rfl
  · exact h.r2_0
  · exact h.r2_1
  · exact h.r2_2
  · exact h.r2_3
  · exact h.r2_4
  · exact h.r2_5
  · exact h.r2_6
theorem ShB.kring {Z : aZ} {b : Nat} (h : ShB Z b) {I : aI} {G : aL} {k : Nat} (hk : k < 7) : mK (I, G, Z) (b + (5 + k)) = 3 := by
  rcases (by omega : k = 0 ∨ k = 1 ∨ k = 2 ∨ k = 3 ∨ k = 4 ∨ k = 5 ∨ k = 6) with rfl | rfl | rfl | rfl | rfl | rfl | rfl
  · exact h.k5
  · exact h.k6
  · exact h.k7
  · exact h.k8
  · exact h.k9
  · exact h.k10
  · exact h.k11
theorem shp_B {Z : aZ} (h : Shp Z) : ShB Z 33 := by
  refine ⟨fun o ho => ?_, fun e he => ?_⟩
  · have := h.1 (o + 1) (by omega)
    rw [show o + 1 + 32 = 33 + o by omega] at this
    rw [this.1, this.2]
    have k1 : ∀ o, o < 24 → skl.getD (o + 1) 0 = bkl.getD o 0 ∧ snl.getD (o + 1) 0 = bnl.getD o 0 := by decide
    exact k1 o ho
  · have k2 : ∀ e ∈ brl, (33 + e.1, e.2.1, 33 + e.2.2) ∈ srl := by decide
    exact h.2.1 _ (k2 e he)
theorem wC_t {I : aI} {G : aL} {Z : aZ} {a0 sp a1 dp n : Nat} : wC (I, G, Z) a0 sp a1 dp n = ((fun a k => if a = a1 then va_cpy (I a0) (I a1) sp dp n k else I a k), G, Z) := rfl
/-- a row's first n cells copied -/
def cpR (J : aI) (a1 a0 n : Nat) : aI := fun a k => if a = a1 ∧ k < n then J a0 k else J a k
theorem cpR_w {J : aI} {a0 a1 n : Nat} : (fun a k => if a = a1 then va_cpy (J a0) (J a1) 0 0 n k else J a k) = cpR J a1 a0 n := by
  funext a k
  unfold cpR va_cpy
  by_cases h : a = a1
  · subst h
    rw [if_pos rfl]
    by_cases hk : k < n
    · rw [if_pos (by omega), if_pos ⟨rfl, hk⟩]
      congr 1
      omega
    · rw [if_neg (by omega), if_neg (fun q => hk q.2)]
  · rw [if_neg h, if_neg (fun q => h q.1)]
/-- which cells copyFrom copies, by the offset in the block -/
def cpy (o k : Nat) : Bool := if o = 1 then decide (3 ≤ k ∧ k ≤ 18) else if o = 3 ∨ o = 4 then decide (k < 30) else if 5 ≤ o ∧ o < 12 then decide (k < 10) else if o = 12 then decide (5 ≤ k ∧ k ≤ 8) else if 13 ≤ o ∧ o < 17 then decide (k < 144) else if o = 18 then decide (k = 3) else if 19 ≤ o ∧ o < 22 then decide (k < 300) else if o = 22 then decide (k < 16) else if o = 23 then decide (k < 10) else false
/-- offsets from lo on, below hi, copied -/
def cpB (J : aI) (d s lo hi : Nat) : aI := fun a k => if d + lo ≤ a ∧ a < d + hi ∧ cpy (a - d) k = true then J (s + (a - d)) k else J a k
theorem cpB_0 {J : aI} {d s lo : Nat} : cpB J d s lo lo = J := by
  funext a k
  unfold cpB
  rw [if_neg (by omega)]
theorem cpB_j {J : aI} {d s lo mi hi : Nat} (h1 : lo ≤ mi) (h2 : mi ≤ hi) (hi24 : hi ≤ 24) (hd : d + 24 ≤ s ∨ s + 24 ≤ d) : cpB (cpB J d s lo mi) d s mi hi = cpB J d s lo hi := by
  funext a k
  unfold cpB
  by_cases ha : d + mi ≤ a ∧ a < d + hi ∧ cpy (a - d) k = true
  · rw [if_pos ha, if_neg (show ¬ (d + lo ≤ s + (a - d) ∧ s + (a - d) < d + mi ∧ cpy (s + (a - d) - d) k = true) by omega), if_pos (show d + lo ≤ a ∧ a < d + hi ∧ cpy (a - d) k = true from ⟨by omega, ha.2.1, ha.2.2⟩)]
  · rw [if_neg ha]
    by_cases hb : d + lo ≤ a ∧ a < d + mi ∧ cpy (a - d) k = true
    · rw [if_pos hb, if_pos ⟨hb.1, by omega, hb.2.2⟩]
    · rw [if_neg hb, if_neg]
      rintro ⟨q1, q2, q3⟩
      rcases Nat.lt_or_ge a (d + mi) with z | z
      · exact hb ⟨q1, z, q3⟩
      · exact ha ⟨z, q2, q3⟩
theorem cpB_row {J : aI} {d s o n : Nat} (h : ∀ k, cpy o k = decide (k < n)) : cpR J (d + o) (s + o) n = cpB J d s o (o + 1) := by
  funext a k
  unfold cpR cpB
  by_cases ha : a = d + o
  · subst ha
    rw [Nat.add_sub_cancel_left, h]
    by_cases hk : k < n
    · rw [if_pos ⟨rfl, hk⟩, if_pos ⟨by omega, by omega, decide_eq_true hk⟩]
    · rw [if_neg (fun q => hk q.2), if_neg (fun q => hk (of_decide_eq_true q.2.2))]
  · rw [if_neg (fun q => ha q.1), if_neg (by omega)]
theorem cpB_skip {J : aI} {d s o : Nat} (h : ∀ k, cpy o k = false) : cpB J d s o (o + 1) = J := by
  funext a k
  unfold cpB
  rw [if_neg]
  rintro ⟨q1, q2, q3⟩
  rw [show a - d = o by omega, h] at q3
  cases q3
section CCP
variable {G : aL} {Z : aZ}
/-- a ring -/
theorem t_cpRing {J : aI} {d s k : Nat} (hd : d + 24 ≤ s ∨ s + 24 ≤ d) (hD : ShB Z d) (hS : ShB Z s) (hk : k < 7) : call 33 [.ref (d + (5 + k)), .ref (s + (5 + k))] (J, G, Z) = some (none, (cpB J d s (5 + k) (6 + k), G, Z)) := by
  have n1 : s + (5 + k) ≠ d + (5 + k) := by omega
  refine Eq.trans e33 (Eq.trans (b33_0 (hS.kring hk) (hD.kring hk)) ?_)
  simp only [mI_t, wI_t, up2_a n1]
  rw [e30, b30_0 (hD.kring hk), b30_15]
  simp only [wI_t]
  refine Eq.trans (b33_24 (hS.kring hk) (hD.kring hk)) ?_
  simp only [mI_t, up2_a n1]
  rw [e31, b31_0 (hD.kring hk), b31_15]
  simp only [wI_t]
  refine Eq.trans (b33_40 (hS.kring hk) (hD.kring hk)) ?_
  simp only [mI_t, up2_a n1]
  rw [e32, b32_0 (hD.kring hk)]
  simp only [wI_t]
  refine Eq.trans (b33_52 (hS.kring hk) (hD.kring hk)) ?_
  simp only [mI_t, wI_t, up2_a n1]
  have e : up2 (up2 (up2 (up2 (up2 (up2 (up2 (up2 (up2 (up2 J (d + (5 + k)) 0 (J (s + (5 + k)) 0)) (d + (5 + k)) 1 (J (s + (5 + k)) 1)) (d + (5 + k)) 2 (J (s + (5 + k)) 2)) (d + (5 + k)) 3 (J (s + (5 + k)) 3)) (d + (5 + k)) 4 (J (s + (5 + k)) 4)) (d + (5 + k)) 5 (J (s + (5 + k)) 5)) (d + (5 + k)) 6 (J (s + (5 + k)) 6)) (d + (5 + k)) 7 (J (s + (5 + k)) 7)) (d + (5 + k)) 8 (J (s + (5 + k)) 8)) (d + (5 + k)) 9 (J (s + (5 + k)) 9) = cpB J d s (5 + k) (6 + k) := by
    funext a q
    unfold cpB
    by_cases ha : a = d + (5 + k)
    · subst ha
      rw [Nat.add_sub_cancel_left]
      have hc : cpy (5 + k) q = decide (q < 10) := by
        unfold cpy
        rw [if_neg (by omega), if_neg (by omega), if_pos (by omega)]
      rw [hc]
      by_cases hq : q < 10
      · rw [if_pos ⟨by omega, by omega, decide_eq_true hq⟩]
        rcases (by omega : q = 0 ∨ q = 1 ∨ q = 2 ∨ q = 3 ∨ q = 4 ∨ q = 5 ∨ q = 6 ∨ q = 7 ∨ q = 8 ∨ q = 9) with rfl | rfl | rfl | rfl | rfl | rfl | rfl | rfl | rfl | rfl <;> simp [up2_e]
      · rw [if_neg (fun z => hq (of_decide_eq_true z.2.2))]
        simp only [up2_e, if_true]
        rw [if_neg (by omega), if_neg (by omega), if_neg (by omega), if_neg (by omega), if_neg (by omega), if_neg (by omega), if_neg (by omega), if_neg (by omega), if_neg (by omega), if_neg (by omega)]
    · rw [if_neg (by omega)]
      simp only [up2_a ha]
  rw [e]

theorem t_cpTank {J : aI} {d s : Nat} (hd : d + 24 ≤ s ∨ s + 24 ≤ d) (hD : ShB Z d) (hS : ShB Z s) (h3 : J (s + 1) 3 = 0 ∨ J (s + 1) 3 = 1) : call 47 [.ref (d + 1), .ref (s + 1)] (J, G, Z) = some (none, (cpB J d s 0 12, G, Z)) := by
  have n1 : s + 1 ≠ d + 1 := by omega
  have b3 : bty 6 3 (J (s + 1) 3) = true := by
    rcases h3 with h | h
    · rw [h]; rfl
    · rw [h]; rfl
  refine Eq.trans e47 (Eq.trans (b47_0 hS.k1 hD.k1) ?_)
  simp only [mI_t]
  simp only [e46, b46_0 hD.k1, b46_15 hD.k1, b46_32 hD.k1, b46_47 hD.k1, b46_62 hD.k1, wI_t, bsome, tol0]
  refine Eq.trans (b47_24 hS.k1 hD.k1 (by simp only [mI_t, up2_a n1]; exact b3)) ?_
  simp only [mI_t, wI_t, up2_a n1]
  refine Eq.trans (b47_48 hS.k1 hD.k1) ?_
  simp only [mI_t, wI_t, up2_a n1]
  refine Eq.trans (b47_72 hS.k1 hD.k1) ?_
  simp only [mI_t, wI_t, up2_a n1]
  refine Eq.trans (b47_96 hS.k1 hD.k1 (by rw [hS.r1_1]; exact hS.k3) (by rw [hD.r1_1]; exact hD.k3) (by rw [hS.r1_1, hS.n3]; decide) (by rw [hD.r1_1, hD.n3]; decide)) ?_
  rw [hS.r1_1, hD.r1_1]
  simp only [mI_t, wI_t, wC_t, up2_a n1, show (0 : Int32).toNatClampNeg = 0 from rfl, show (30 : Int32).toNatClampNeg = 30 from rfl, cpR_w]
  refine Eq.trans (b47_127 hS.k1 hD.k1 (by rw [hS.r1_2]; exact hS.k4) (by rw [hD.r1_2]; exact hD.k4) (by rw [hS.r1_2, hS.n4]; decide) (by rw [hD.r1_2, hD.n4]; decide)) ?_
  rw [hS.r1_2, hD.r1_2]
  simp only [wC_t, show (0 : Int32).toNatClampNeg = 0 from rfl, show (30 : Int32).toNatClampNeg = 30 from rfl, cpR_w]
  generalize hA : (fun q => if 3 ≤ q ∧ q ≤ 18 then J (s + 1) q else J (d + 1) q) = A
  have e0 : up2 (up2 (up2 (up2 (up2 (up2 (up2 (up2 (up2 (up2 (up2 (up2 (up2 (up2 (up2 (up2 (up2 (up2 (up2 (up2 (up2 (up2 (up2 (up2 (up2 J (d + 1) 3 (1)) (d + 1) 6 (J (s + 1) 6)) (d + 1) 7 (J (s + 1) 7)) (d + 1) 8 (J (s + 1) 8)) (d + 1) 9 (J (s + 1) 9)) (d + 1) 10 (J (s + 1) 10)) (d + 1) 11 (0)) (d + 1) 12 (0)) (d + 1) 13 (0)) (d + 1) 14 (0)) (d + 1) 15 (0)) (d + 1) 16 (0)) (d + 1) 17 (-1)) (d + 1) 18 (-1)) (d + 1) 3 (J (s + 1) 3)) (d + 1) 4 (J (s + 1) 4)) (d + 1) 5 (J (s + 1) 5)) (d + 1) 11 (J (s + 1) 11)) (d + 1) 12 (J (s + 1) 12)) (d + 1) 13 (J (s + 1) 13)) (d + 1) 14 (J (s + 1) 14)) (d + 1) 15 (J (s + 1) 15)) (d + 1) 16 (J (s + 1) 16)) (d + 1) 17 (J (s + 1) 17)) (d + 1) 18 (J (s + 1) 18) = upR J (d + 1) A := by
    rw [← hA]
    funext a q
    unfold upR
    by_cases ha : a = d + 1
    · rw [if_pos ha, ha]
      by_cases hq : 3 ≤ q ∧ q ≤ 18
      · rw [if_pos hq]
        rcases (by omega : q = 3 ∨ q = 4 ∨ q = 5 ∨ q = 6 ∨ q = 7 ∨ q = 8 ∨ q = 9 ∨ q = 10 ∨ q = 11 ∨ q = 12 ∨ q = 13 ∨ q = 14 ∨ q = 15 ∨ q = 16 ∨ q = 17 ∨ q = 18) with rfl | rfl | rfl | rfl | rfl | rfl | rfl | rfl | rfl | rfl | rfl | rfl | rfl | rfl | rfl | rfl <;> simp [up2_e]
      · rw [if_neg hq]
        simp only [up2_e, if_true]
        rw [if_neg (by omega), if_neg (by omega), if_neg (by omega), if_neg (by omega), if_neg (by omega), if_neg (by omega), if_neg (by omega), if_neg (by omega), if_neg (by omega), if_neg (by omega), if_neg (by omega), if_neg (by omega), if_neg (by omega), if_neg (by omega), if_neg (by omega), if_neg (by omega), if_neg (by omega), if_neg (by omega), if_neg (by omega), if_neg (by omega), if_neg (by omega), if_neg (by omega), if_neg (by omega), if_neg (by omega), if_neg (by omega)]
    · rw [if_neg ha]
      simp only [up2_a ha]
  rw [e0]
  have e1 : upR J (d + 1) A = cpB J d s 0 2 := by
    rw [← hA]
    funext a q
    unfold upR cpB
    by_cases ha : a = d + 1
    · subst ha
      rw [if_pos rfl, Nat.add_sub_cancel_left]
      have hc : cpy 1 q = decide (3 ≤ q ∧ q ≤ 18) := by unfold cpy; rw [if_pos rfl]
      rw [hc]
      by_cases hq : 3 ≤ q ∧ q ≤ 18
      · rw [if_pos hq, if_pos ⟨by omega, by omega, decide_eq_true hq⟩]
      · rw [if_neg hq, if_neg (fun z => hq (of_decide_eq_true z.2.2))]
    · rw [if_neg ha, if_neg]
      rintro ⟨q1, q2, q3⟩
      rw [show a - d = 0 by omega] at q3
      simp [cpy] at q3
  have c2 : ∀ k, cpy 2 k = false := fun k => by simp [cpy]
  have c3 : ∀ k, cpy 3 k = decide (k < 30) := fun k => by simp [cpy]
  have c4 : ∀ k, cpy 4 k = decide (k < 30) := fun k => by simp [cpy]
  have e2 : cpR (cpR (upR J (d + 1) A) (d + 3) (s + 3) 30) (d + 4) (s + 4) 30 = cpB J d s 0 5 := by
    rw [e1, ← cpB_skip (J := cpB J d s 0 2) (d := d) (s := s) (o := 2) c2, cpB_j (by omega) (by omega) (by omega) hd, cpB_row (d := d) (s := s) c3, cpB_j (by omega) (by omega) (by omega) hd, cpB_row (d := d) (s := s) c4, cpB_j (by omega) (by omega) (by omega) hd]
  rw [e2]
  have key := loop_up (fun i => run 3 47 144 [.ref (d + 1), .ref (s + 1), .int (iN i)] [] (cpB J d s 0 (5 + i), G, Z)) 7 (fun i hi => by
    have hlt : iN i < iN 7 := (iN_lt (by omega) (by omega)).mpr hi
    have hb : ib (iN i) 7 := ib_iN (by omega) hi
    have hc : (iN i).toNatClampNeg = i := iN_clamp (by omega)
    refine Eq.trans b47_144 ?_
    refine Eq.trans (if_neg (fun q => q hlt)) (Eq.trans (b47_150 hD.k1 (by rw [hD.r1_0]; exact hD.k2) (by rw [hD.r1_0, hD.n2]; exact hb) hS.k1 (by rw [hS.r1_0]; exact hS.k2) (by rw [hS.r1_0, hS.n2]; exact hb) (by rw [hD.r1_0, hc, hD.ring hi]; exact hD.kring hi)) ?_)
    rw [hD.r1_0, hS.r1_0, hc, hD.ring hi, hS.ring hi, t_cpRing hd hD hS hi]
    refine Eq.trans b47_165 ?_
    rw [iN_succ, show 6 + i = 5 + i + 1 by omega, cpB_j (by omega) (by omega) (by omega) hd, show 5 + i + 1 = 5 + (i + 1) by omega]) 0 (by omega)
  refine Eq.trans key (Eq.trans b47_144 (Eq.trans (if_pos (iN_nlt (n := 7) (by omega))) b47_171))

theorem t_cpStreets {J : aI} {d s : Nat} (hd : d + 24 ≤ s ∨ s + 24 ≤ d) (hD : ShB Z d) (hS : ShB Z s) (h5 : J (s + 12) 5 = 0 ∨ J (s + 12) 5 = 1) : call 37 [.ref (d + 12), .ref (s + 12)] (J, G, Z) = some (none, (cpB J d s 12 17, G, Z)) := by
  have n1 : s + 12 ≠ d + 12 := by omega
  have b5 : bty 5 5 (J (s + 12) 5) = true := by
    rcases h5 with h | h
    · rw [h]; rfl
    · rw [h]; rfl
  have c0 : (0 : Int32).toNatClampNeg = 0 := rfl
  have c144 : (144 : Int32).toNatClampNeg = 144 := rfl
  refine Eq.trans e37 (Eq.trans (b37_0 hS.k12 hD.k12 (by rw [hS.r12_0]; exact hS.k13) (by rw [hD.r12_0]; exact hD.k13) (by rw [hS.r12_0, hS.n13]; decide) (by rw [hD.r12_0, hD.n13]; decide) (by rw [hS.r12_1]; exact hS.k14) (by rw [hD.r12_1]; exact hD.k14) (by rw [hS.r12_1, hS.n14]; decide) (by rw [hD.r12_1, hD.n14]; decide) (by rw [hS.r12_2]; exact hS.k15) (by rw [hD.r12_2]; exact hD.k15) (by rw [hS.r12_2, hS.n15]; decide) (by rw [hD.r12_2, hD.n15]; decide)) ?_)
  rw [hS.r12_0, hD.r12_0, hS.r12_1, hD.r12_1, hS.r12_2, hD.r12_2]
  simp only [wC_t, c0, c144, cpR_w]
  have q1 : ∀ K : aI, ∀ o n, o ≠ 12 ∧ o < 24 → cpR K (d + o) (s + o) n (s + 12) = K (s + 12) := by
    intro K o n ho
    funext q
    unfold cpR
    rw [if_neg (by omega)]
  refine Eq.trans (b37_48 hS.k12 hD.k12 (by rw [hS.r12_3]; exact hS.k16) (by rw [hD.r12_3]; exact hD.k16) (by rw [hS.r12_3, hS.n16]; decide) (by rw [hD.r12_3, hD.n16]; decide) (by rw [hS.r12_3, hD.r12_3]; simp only [wC_t, c0, c144, cpR_w, mI_t]; rw [q1 _ 16 _ (by decide), q1 _ 15 _ (by decide), q1 _ 14 _ (by decide), q1 _ 13 _ (by decide)]; exact b5)) ?_
  rw [hS.r12_3, hD.r12_3]
  simp only [wC_t, c0, c144, cpR_w, mI_t, wI_t, up2_a n1]
  refine Eq.trans (b37_80 hS.k12 hD.k12) ?_
  simp only [mI_t, wI_t, up2_a n1]
  rw [q1 _ 16 _ (by decide), q1 _ 15 _ (by decide), q1 _ 14 _ (by decide), q1 _ 13 _ (by decide)]
  have c13 : ∀ o, 13 ≤ o → o < 17 → ∀ k, cpy o k = decide (k < 144) := fun o a b k => by
    unfold cpy
    rw [if_neg (by omega), if_neg (by omega), if_neg (by omega), if_neg (by omega), if_pos (by omega)]
  rw [cpB_row (d := d) (s := s) (c13 13 (by decide) (by decide)), cpB_row (d := d) (s := s) (c13 14 (by decide) (by decide)), cpB_j (by omega) (by omega) (by omega) hd, cpB_row (d := d) (s := s) (c13 15 (by decide) (by decide)), cpB_j (by omega) (by omega) (by omega) hd, cpB_row (d := d) (s := s) (c13 16 (by decide) (by decide)), cpB_j (by omega) (by omega) (by omega) hd]
  have e : up2 (up2 (up2 (up2 (cpB J d s 13 (16 + 1)) (d + 12) 5 (J (s + 12) 5)) (d + 12) 6 (J (s + 12) 6)) (d + 12) 7 (J (s + 12) 7)) (d + 12) 8 (J (s + 12) 8) = cpB J d s 12 17 := by
    funext a q
    by_cases ha : a = d + 12
    · subst ha
      have hc : cpy 12 q = decide (5 ≤ q ∧ q ≤ 8) := by simp [cpy]
      unfold cpB
      rw [Nat.add_sub_cancel_left, hc]
      by_cases hq : 5 ≤ q ∧ q ≤ 8
      · rw [if_pos ⟨by omega, by omega, decide_eq_true hq⟩]
        rcases (by omega : q = 5 ∨ q = 6 ∨ q = 7 ∨ q = 8) with rfl | rfl | rfl | rfl <;> simp [up2_e]
      · rw [if_neg (fun z => hq (of_decide_eq_true z.2.2))]
        simp only [up2_e, if_true]
        rw [if_neg (by omega), if_neg (by omega), if_neg (by omega), if_neg (by omega), if_neg (by omega)]
    · rw [up2_a ha, up2_a ha, up2_a ha, up2_a ha]
      unfold cpB
      by_cases h : d + 13 ≤ a ∧ a < d + (16 + 1) ∧ cpy (a - d) q = true
      · rw [if_pos h, if_pos ⟨by omega, by omega, h.2.2⟩]
      · rw [if_neg h, if_neg]
        rintro ⟨z1, z2, z3⟩
        exact h ⟨by omega, by omega, z3⟩
  rw [e]
theorem t_cpWit {J : aI} {d s : Nat} (hd : d + 24 ≤ s ∨ s + 24 ≤ d) (hD : ShB Z d) (hS : ShB Z s) : call 94 [.ref (d + 18), .ref (s + 18)] (J, G, Z) = some (none, (cpB J d s 18 22, G, Z)) := by
  have n1 : s + 18 ≠ d + 18 := by omega
  have c0 : (0 : Int32).toNatClampNeg = 0 := rfl
  have c300 : (300 : Int32).toNatClampNeg = 300 := rfl
  refine Eq.trans e94 (Eq.trans (b94_0 hS.k18 hD.k18 (by rw [hS.r18_0]; exact hS.k19) (by rw [hD.r18_0]; exact hD.k19) (by rw [hS.r18_0, hS.n19]; decide) (by rw [hD.r18_0, hD.n19]; decide) (by rw [hS.r18_1]; exact hS.k20) (by rw [hD.r18_1]; exact hD.k20) (by rw [hS.r18_1, hS.n20]; decide) (by rw [hD.r18_1, hD.n20]; decide) (by rw [hS.r18_2]; exact hS.k21) (by rw [hD.r18_2]; exact hD.k21) (by rw [hS.r18_2, hS.n21]; decide) (by rw [hD.r18_2, hD.n21]; decide)) ?_)
  rw [hS.r18_0, hD.r18_0, hS.r18_1, hD.r18_1, hS.r18_2, hD.r18_2]
  simp only [wC_t, c0, c300, cpR_w]
  have q1 : ∀ K : aI, ∀ o n, o ≠ 18 ∧ o < 24 → cpR K (d + o) (s + o) n (s + 18) = K (s + 18) := by
    intro K o n ho
    funext q
    unfold cpR
    rw [if_neg (by omega)]
  refine Eq.trans (b94_48 hS.k18 hD.k18) ?_
  simp only [mI_t, wI_t]
  rw [q1 _ 21 _ (by decide), q1 _ 20 _ (by decide), q1 _ 19 _ (by decide)]
  have c19 : ∀ o, 19 ≤ o → o < 22 → ∀ k, cpy o k = decide (k < 300) := fun o a b k => by
    unfold cpy
    rw [if_neg (by omega), if_neg (by omega), if_neg (by omega), if_neg (by omega), if_neg (by omega), if_neg (by omega), if_pos (by omega)]
  rw [cpB_row (d := d) (s := s) (c19 19 (by decide) (by decide)), cpB_row (d := d) (s := s) (c19 20 (by decide) (by decide)), cpB_j (by omega) (by omega) (by omega) hd, cpB_row (d := d) (s := s) (c19 21 (by decide) (by decide)), cpB_j (by omega) (by omega) (by omega) hd]
  have e : up2 (cpB J d s 19 (21 + 1)) (d + 18) 3 (J (s + 18) 3) = cpB J d s 18 22 := by
    funext a q
    by_cases ha : a = d + 18
    · subst ha
      have hc : cpy 18 q = decide (q = 3) := by simp [cpy]
      unfold cpB
      rw [Nat.add_sub_cancel_left, hc]
      by_cases hq : q = 3
      · subst hq
        rw [up2_s, if_pos ⟨by omega, by omega, by decide⟩]
      · rw [up2_k hq, if_neg (by omega), if_neg (fun z => hq (of_decide_eq_true z.2.2))]
    · rw [up2_a ha]
      unfold cpB
      by_cases h : d + 19 ≤ a ∧ a < d + (21 + 1) ∧ cpy (a - d) q = true
      · rw [if_pos h, if_pos ⟨by omega, by omega, h.2.2⟩]
      · rw [if_neg h, if_neg]
        rintro ⟨z1, z2, z3⟩
        exact h ⟨by omega, by omega, z3⟩
  rw [e]
theorem t_copy {J : aI} {d s : Nat} (hd : d + 24 ≤ s ∨ s + 24 ≤ d) (hD : ShB Z d) (hS : ShB Z s) (h3 : J (s + 1) 3 = 0 ∨ J (s + 1) 3 = 1) (h5 : J (s + 12) 5 = 0 ∨ J (s + 12) 5 = 1) : call 35 [.ref d, .ref s] (J, G, Z) = some (none, (cpB J d s 0 24, G, Z)) := by
  have c0 : (0 : Int32).toNatClampNeg = 0 := rfl
  have c16 : (16 : Int32).toNatClampNeg = 16 := rfl
  have c10 : (10 : Int32).toNatClampNeg = 10 := rfl
  refine Eq.trans e35 (Eq.trans (b35_0 hD.k0 hS.k0 (by rw [hD.r0_0]; exact hD.k1)) ?_)
  rw [hD.r0_0, hS.r0_0, t_cpTank hd hD hS h3]
  refine Eq.trans (b35_11 hD.k0 hS.k0 (by rw [hD.r0_1]; exact hD.k12)) ?_
  have f12 : cpB J d s 0 12 (s + 12) 5 = J (s + 12) 5 := by
    unfold cpB
    rw [if_neg (by omega)]
  rw [hD.r0_1, hS.r0_1, t_cpStreets hd hD hS (by rw [f12]; exact h5), cpB_j (by omega) (by omega) (by omega) hd]
  refine Eq.trans (b35_22 hD.k0 hS.k0 (by rw [hD.r0_2]; exact hD.k18)) ?_
  have c17 : ∀ k, cpy 17 k = false := fun k => by simp [cpy]
  rw [hD.r0_2, hS.r0_2, t_cpWit hd hD hS, ← cpB_skip (J := cpB J d s 0 17) (d := d) (s := s) (o := 17) c17, cpB_j (by omega) (by omega) (by omega) hd, cpB_j (by omega) (by omega) (by omega) hd]
  refine Eq.trans (b35_33 hS.k0 hD.k0 (by rw [hS.r0_3]; exact hS.k22) (by rw [hD.r0_3]; exact hD.k22) (by rw [hS.r0_3, hS.n22]; decide) (by rw [hD.r0_3, hD.n22]; decide) (by rw [hS.r0_4]; exact hS.k23) (by rw [hD.r0_4]; exact hD.k23) (by rw [hS.r0_4, hS.n23]; decide) (by rw [hD.r0_4, hD.n23]; decide)) ?_
  rw [hS.r0_3, hD.r0_3, hS.r0_4, hD.r0_4]
  simp only [wC_t, c0, c16, c10, cpR_w]
  have c22 : ∀ k, cpy 22 k = decide (k < 16) := fun k => by simp [cpy]
  have c23 : ∀ k, cpy 23 k = decide (k < 10) := fun k => by simp [cpy]
  rw [cpB_row (d := d) (s := s) c22, cpB_j (by omega) (by omega) (by omega) hd, cpB_row (d := d) (s := s) c23, cpB_j (by omega) (by omega) (by omega) hd]
end CCP
