/-! story and rule, both sides -/
section OP4
variable {sc : Nat → Int32} {L n : Nat} {X W Y : aI} {G : aL} {Z Z1 : aZ} {S : aS} {t c d b s : Nat} {kt kr : Nat → List aK} {ow : Nat → Nat} {tm : Nat → aS} {rb : Bool} {ks : List aK}
theorem MX_88 {S' : aI} {s0 : Nat} {v w : Int32} (h : MX S' s0 ks) (hne : s0 ≠ s) : MX (up2 (up2 S' 88 s v) 85 b w) s0 ks := by
  obtain ⟨h1, h2, h3, h4, h5⟩ := h
  refine ⟨by rw [up2_a (by decide), up2_k hne]; exact h1, h2, h3, fun j hj => CM_e (h4 j hj) (fun a a1 a2 => by rw [up2_a (by omega), up2_a (by omega)]), fun i hi => ?_⟩
  rw [up2_a (by decide), up2_a (by decide), up2_a (by decide), up2_a (by decide)]
  exact h5 i hi
/-- the cells of the new text belong to nobody else -/
def owN (Z : aZ) (ow : Nat → Nat) (a : Nat) : Nat := if a < zX Z + 32 then ow a else 0
/-- what a text's reading leaves as it was -/
def Kp (X W : aI) (Z Z1 : aZ) : Prop := (∀ a, a < 112 → a ≠ 32 → a ≠ 58 → a < 60 ∨ 65 < a → a ≠ 72 → a < 85 ∨ 94 < a → W a = X a) ∧ (∀ a, 112 ≤ a → a < zX Z + 32 → W a = X a) ∧ (∀ a, a < zX Z + 32 → zK Z1 a = zK Z a ∧ zN Z1 a = zN Z a) ∧ (∀ a j, 112 ≤ a ∨ a = 57 → a < zX Z + 32 → zR Z1 a j = zR Z a j) ∧ (∀ j, j < 27 ∨ 34 < j → W 72 j = X 72 j) ∧ zX Z ≤ zX Z1 ∧ zX Z1 ≤ zX Z + 30 ∧ zU Z1 ≤ zU Z + 400
theorem KX_k {c' : Nat} {kt' : Nat → List aK} (h : KX b rb X Z ow c kt) (hk : Kp X W Z Z1) (hc : c' ≤ 10) (h32 : W 32 (8 + b) = iN c') (h85 : W 85 b = iN c') (hs : ∀ i, i < c' → (i < c ∧ kt' i = kt i ∧ zR Z1 (69 + b) i = zR Z (69 + b) i ∧ MX W (i + 10 * b) (kt i)) ∨ (TKc W Z1 (owN Z ow) (zR Z1 (69 + b) i) rb (kt' i) ∧ MX W (i + 10 * b) (kt' i) ∧ cn14 (kt' i) ≤ 1)) : KX b rb W Z1 (owN Z ow) c' kt' := by
  refine ⟨hc, h32, h85, fun i hi => ?_⟩
  rcases hs i hi with ⟨g1, g2, g3, g4⟩ | q
  · obtain ⟨a1, a2, a3⟩ := h.2.2.2 i g1
    rw [g2, g3]
    refine ⟨TKc_x a1 hk.2.2.2.2.2.1 (fun a q1 q2 q3 => ?_), g4, a3⟩
    exact ⟨(hk.2.2.1 a q2).1, (hk.2.2.1 a q2).2, fun j => hk.2.2.2.1 a j (Or.inl q1) q2, hk.2.1 a q1 q2, by unfold owN; rw [if_pos q2]; exact q3⟩
  · exact q
theorem tx_fin {G' : aL} {c' d' : Nat} {kt' kr' : Nat → List aK} (hC : embB 33 X S = X) (hM : emb X S = X) (hW : Wn n S) (hK : Ky sc L n X Z t c d kt kr ow tm) (hk : Kp X W Z Z1) (hZ1 : Shp Z1) (h58 : W 58 4 = 0) (h27 : W 72 27 = 0) (k0 : KX 0 false W Z1 (owN Z ow) c' kt') (k1 : KX 1 true W Z1 (owN Z ow) d' kr') : Iv sc L (n + 1) (W, G', Z1) := by
  have h80 := hK.2.1.2.2
  obtain ⟨p1, p2, p3, p4, p5, p6, p7, p8⟩ := hk
  have hxx : zX Z1 ≤ 80 + 30 * (n + 1) := by
    have := hK.2.2.2.2.2.2.1
    omega
  have huu : zU Z1 ≤ 40000 + 1820 * (n + 1) := Nat.le_trans p8 (Nat.le_trans (Nat.add_le_add hK.2.2.2.2.2.2.2 (show 400 ≤ 1820 by decide)) (Nat.le_of_eq (by rw [Nat.mul_succ, Nat.add_assoc])))
  refine ⟨W, G', Z1, S, 0, c', d', kt', kr', owN Z ow, tm, rfl, ?_, ?_, Wn_n hW (by omega), ⟨?_, ?_, ?_⟩, hZ1, ⟨by omega, h58, h27, fun i hi => absurd hi (Nat.not_lt_zero _)⟩, k0, k1, fun j hj => ?_, hxx, huu⟩
  · exact embB_mv hC (fun a q1 q2 => p1 a (by omega) (by omega) (by omega) (by omega) (by omega) (by omega))
  · refine emb_mv2 hM (fun k j hm => p5 k (msc_27 hm)) (fun a q1 q2 q3 => p1 a (by omega) (by omega) (by omega) (by omega) (by omega) (by omega))
  · rw [p1 1 (by omega) (by omega) (by omega) (by omega) (by omega) (by omega)]; exact hK.1.1
  · rw [(p3 1 (by omega)).1]; exact hK.1.2.1
  · rw [(p3 1 (by omega)).2]; exact hK.1.2.2
  · refine MKc_x (hK.2.2.2.2.2.1 j hj) (by omega) ?_ (p4 57 j (Or.inr rfl) (by omega)) p6 (fun a q1 q2 q3 => ?_) (fun i hi => ?_)
    · rw [p1 111 (by omega) (by omega) (by omega) (by omega) (by omega) (by omega)]
    · exact ⟨(p3 a q2).1, (p3 a q2).2, fun k => p4 a k (Or.inl q1) q2, p2 a q1 q2, by unfold owN; rw [if_pos q2]; exact q3⟩
    · rw [p1 109 (by omega) (by omega) (by omega) (by omega) (by omega) (by omega)]
/-- one text read by both -/
theorem op_txt {J1 J2 c0 c1 b' : Nat} {kc ko : Nat → List aK} {rb' : Bool} (hC : embB 33 X S = X) (hM : emb X S = X) (hW : Wn n S) (hK : Ky sc L n X Z t c d kt kr ow tm) (hb : b = (if rb = true then 1 else 0)) (hb' : b' = (if rb = true then 0 else 1)) (h0 : KX b rb X Z ow c0 kc) (h1 : KX b' rb' X Z ow c1 ko) (hc0 : c0 < 10)
    (hf : ∀ q : List aK ⊕ Nat, txt (X 59) t rb 16 0 false (ps (X 59) t 0) 0 [] = some q → OkS X Z (8 + b) (69 + b) c0 (call J1 [.ref 32] (X, G, Z)) q)
    (hs : ∀ {Y : aI} {G' : aL} {Z1 : aZ} {v : Int32} {M' : aM}, Shp Z1 → call 190 [.ref 72, .int (bI rb)] (Y, G', Z1) = some (some (.int v), M') → call J2 [.ref 72] (Y, G', Z1) = some (some (.int v), M'))
    (hfin : ∀ {W : aI} {G' : aL} {Z1 : aZ} {c' : Nat} {kc' : Nat → List aK}, Kp X W Z Z1 → Shp Z1 → W 58 4 = 0 → W 72 27 = 0 → KX b rb W Z1 (owN Z ow) c' kc' → KX b' rb' W Z1 (owN Z ow) c1 ko → Iv sc L (n + 1) (W, G', Z1)) : ∃ w : Int32, Sty sc L n (.int w) J1 J2 [.ref 32] [.ref 72] (X, G, Z) := by
  have hT := hK.2.2.1
  have hZ := hK.2.1
  have h80 := hZ.2.2
  have b2 : b < 2 := by rw [hb]; split <;> omega
  have hbb : b' = 1 - b := by rw [hb, hb']; cases rb <;> rfl
  obtain ⟨q, hq⟩ := txt_some (u := X 59) (r := rb) hT.1 16 0 (ps (X 59) t 0) 0 false [] (by omega) (by omega) (ps_le 0) (by omega)
  obtain ⟨J', G', Z', hE, hX30, hU4, h584, hm⟩ := hf q hq
  have eJ : ∀ a, a < zX Z + 32 → a ≠ 58 → a < 60 ∨ 65 < a → J' a = X a := fun a q1 q2 q3 => hE.2.2.2.2 a q1 q2 (by omega) (by omega) (by omega) (by omega) (by omega)
  have hZ' : Shp Z' := Ex_S hZ hE
  have s20 : c0 + 10 * b = (if rb = true then 10 else 0) + c0 := by rw [hb]; cases rb <;> simp <;> omega
  -- the model's reading, in a memory that is X but for the class's own
  have go : ∀ (Y : aI) (Z1 : aZ), Shp Z1 → (∀ a, a < 112 → a ≠ 32 → a ≠ 58 → a < 60 ∨ 65 < a → Y a = X a) → OkX Y G' Z1 (c0 + 10 * b) (if rb = true then 1 else 0) c0 (call 190 [.ref 72, .int (bI rb)] (Y, G', Z1)) q := by
    intro Y Z1 hZ1 hY
    refine m_text (u := X 59) (n := t) hZ1 ⟨hT.1, ?_, fun i hi => ?_⟩ hc0 ?_ s20 hq
    · rw [hY 72 (by omega) (by omega) (by omega) (by omega)]; exact hT.2.2.1
    · rw [hY 84 (by omega) (by omega) (by omega) (by omega)]; exact hT.2.2.2 i hi
    · rw [← hb, hY 85 (by omega) (by omega) (by omega) (by omega)]; exact h0.2.2.1
  have slot : ∀ (Y S' : aI) (s0 : Nat) (ks : List aK), (∀ a, a < 112 → a ≠ 32 → a ≠ 58 → a < 60 ∨ 65 < a → Y a = X a) → Fs (c0 + 10 * b) Y S' → s0 ≠ c0 + 10 * b → MX X s0 ks → MX S' s0 ks := by
    intro Y S' s0 ks hY hF hne h
    exact MX_keep (MX_e h (fun a q1 q2 => hY a (by omega) (by omega) (by omega) (by omega))) hF hne (by rw [hF.1 88 (by decide) (by decide) (by decide) (by decide) (Or.inl (by decide))])
  cases q with
  | inr e =>
    have hm : call J1 [.ref 32] (X, G, Z) = some (some (.int (-2 - iN e)), (J', G', Z')) := hm
    have yX : ∀ a, a < 112 → a ≠ 32 → a ≠ 58 → a < 60 ∨ 65 < a → J' a = X a := fun a q1 _ q2 q3 => eJ a (by omega) q2 q3
    obtain ⟨S', hF, h27, hx⟩ := go J' Z' hZ' yX
    have kp : Kp X S' Z Z' := ⟨fun a q1 q2 q3 q4 q5 q6 => by rw [hF.1 a q5 (by omega) (by omega) (by omega) (by omega), yX a q1 q2 q3 q4], fun a q1 q2 => by rw [hF.1 a (by omega) (by omega) (by omega) (by omega) (by omega), eJ a q2 (by omega) (by omega)], hE.2.2.1, fun a j q1 q2 => hE.2.2.2.1 a j q2 (by omega), fun j hj => by rw [hF.2.1 j hj, yX 72 (by omega) (by omega) (by omega) (by omega)], hE.1, hX30, hU4⟩
    have w32 : S' 32 = X 32 := by rw [hF.1 32 (by decide) (by decide) (by decide) (by decide) (Or.inl (by decide)), eJ 32 (by omega) (by decide) (by omega)]
    have w85 : S' 85 = X 85 := by rw [hF.1 85 (by decide) (by decide) (by decide) (by decide) (Or.inl (by decide)), eJ 85 (by omega) (by decide) (by omega)]
    have keep : ∀ i k, zR Z' (69 + k) i = zR Z (69 + k) i ∨ 2 ≤ k := fun i k => by
      by_cases k2 : 2 ≤ k
      · exact Or.inr k2
      · exact Or.inl (hE.2.2.2.1 (69 + k) i (by omega) (by omega))
    refine ⟨-2 - iN e, (J', G', Z'), (S', G', Z'), hm, ⟨by rw [← hK.1.2.1]; exact (hE.2.2.1 1 (by omega)).1, by rw [← hK.1.2.2]; exact (hE.2.2.1 1 (by omega)).2, by rw [← hK.1.1]; exact eJ 1 (by omega) (by decide) (by omega), hZ'.k32, hZ'.k72⟩, hs hZ' hx, hfin (c' := c0) (kc' := kc) kp hZ' ?_ h27 ?_ ?_⟩
    · rw [hF.1 58 (by decide) (by decide) (by decide) (by decide) (Or.inl (by decide))]; exact h584
    · refine KX_k h0 kp h0.1 (by rw [w32]; exact h0.2.1) (by rw [w85]; exact h0.2.2.1) (fun i hi => Or.inl ⟨hi, rfl, ?_, slot J' S' _ _ yX hF (by omega) (h0.2.2.2 i hi).2.1⟩)
      rcases keep i b with z | z
      · exact z
      · omega
    · refine KX_k h1 kp h1.1 (by rw [w32]; exact h1.2.1) (by rw [w85]; exact h1.2.2.1) (fun i hi => Or.inl ⟨hi, rfl, ?_, slot J' S' _ _ yX hF (by have := h1.1; omega) (h1.2.2.2 i hi).2.1⟩)
      rcases keep i b' with z | z
      · exact z
      · omega
  | inl ks =>
    obtain ⟨rr, hTx, hm⟩ := hm
    have yX : ∀ a, a < 112 → a ≠ 32 → a ≠ 58 → a < 60 ∨ 65 < a → up2 J' 32 (8 + b) (iN (c0 + 1)) a = X a := fun a q1 q0 q2 q3 => by rw [up_o q0]; exact eJ a (by omega) q2 q3
    have hZ1 : Shp (wrZ Z' (69 + b) c0 rr) := shp_ext hZ' (Nat.le_refl _) (fun a _ => ⟨rfl, rfl⟩) (fun a k _ _ _ q1 q2 => by rw [zR_w, if_neg (by omega)])
    obtain ⟨S', hF, h27, hx, hl, hEN, hfl, hCM⟩ := go (up2 J' 32 (8 + b) (iN (c0 + 1))) (wrZ Z' (69 + b) c0 rr) hZ1 yX
    rw [← hb] at hx
    have eW : ∀ a, a ≠ 85 → a ≠ 88 → up2 (up2 S' 88 (c0 + 10 * b) (iN ks.length)) 85 b (iN (c0 + 1)) a = S' a := fun a q1 q2 => by rw [up_o q1, up_o q2]
    have kp : Kp X (up2 (up2 S' 88 (c0 + 10 * b) (iN ks.length)) 85 b (iN (c0 + 1))) Z (wrZ Z' (69 + b) c0 rr) := by
      refine ⟨fun a q1 q2 q3 q4 q5 q6 => ?_, fun a q1 q2 => ?_, fun a q => ?_, fun a j q1 q2 => ?_, fun j hj => ?_, hE.1, hX30, hU4⟩
      · rw [eW a (by omega) (by omega), hF.1 a q5 (by omega) (by omega) (by omega) (by omega), yX a q1 q2 q3 q4]
      · rw [eW a (by omega) (by omega), hF.1 a (by omega) (by omega) (by omega) (by omega) (by omega), up_o (by omega), eJ a q2 (by omega) (by omega)]
      · exact hE.2.2.1 a q
      · rw [zR_w, if_neg (by omega)]; exact hE.2.2.2.1 a j q2 (by omega)
      · rw [eW 72 (by omega) (by omega), hF.2.1 j hj, yX 72 (by omega) (by omega) (by omega) (by omega)]
    have w32 : up2 (up2 S' 88 (c0 + 10 * b) (iN ks.length)) 85 b (iN (c0 + 1)) 32 = up2 J' 32 (8 + b) (iN (c0 + 1)) 32 := by rw [eW 32 (by omega) (by omega), hF.1 32 (by decide) (by decide) (by decide) (by decide) (Or.inl (by decide))]
    have w85 : S' 85 = X 85 := by rw [hF.1 85 (by decide) (by decide) (by decide) (by decide) (Or.inl (by decide)), yX 85 (by omega) (by omega) (by omega) (by omega)]
    have zk : ∀ i k, k < 2 → (k ≠ b ∨ i ≠ c0) → zR (wrZ Z' (69 + b) c0 rr) (69 + k) i = zR Z (69 + k) i := fun i k k2 hne => by
      rw [wr_r (by omega)]
      exact hE.2.2.2.1 (69 + k) i (by omega) (by omega)
    refine ⟨iN c0, (up2 J' 32 (8 + b) (iN (c0 + 1)), G', wrZ Z' (69 + b) c0 rr), _, hm, ⟨by rw [← hK.1.2.1]; exact (hE.2.2.1 1 (by omega)).1, by rw [← hK.1.2.2]; exact (hE.2.2.1 1 (by omega)).2, by rw [← hK.1.1]; exact yX 1 (by omega) (by omega) (by omega) (by omega), hZ1.k32, hZ1.k72⟩, hs hZ1 hx, hfin (c' := c0 + 1) (kc' := fun i => if i = c0 then ks else kc i) kp hZ1 ?_ ?_ ?_ ?_⟩
    · rw [eW 58 (by omega) (by omega), hF.1 58 (by decide) (by decide) (by decide) (by decide) (Or.inl (by decide)), up_o (by decide)]; exact h584
    · rw [eW 72 (by omega) (by omega)]; exact h27
    · refine KX_k h0 kp (by omega) (by rw [w32, up2_s]) (by rw [up2_s]) (fun i hi => ?_)
      by_cases e : i = c0
      · subst e
        refine Or.inr ⟨?_, ?_, ?_⟩
        · rw [wr_s]
          show TKc _ _ _ rr rb (if i = i then ks else kc i)
          rw [if_pos (show i = i from rfl)]
          refine ⟨zX Z + 32, zX Z' + 32, by omega, by rw [zX_w]; omega, TxC_e hTx (Nat.le_refl _) (Nat.le_refl _) (fun a q1 q2 => ⟨rfl, rfl, fun j => by rw [zR_w, if_neg (by omega)], ?_⟩), fun a q1 q2 => by unfold owN; rw [if_neg (by omega)], ?_, hl⟩
          · rw [eW a (by omega) (by omega), hF.1 a (by omega) (by omega) (by omega) (by omega) (by omega), up_o (by omega)]
          · exact txt_kg hT.1 _ _ _ _ _ _ _ hq (ps_le 0) (by omega) (fun k hk => by cases hk)
        · show MX _ (i + 10 * b) (if i = i then ks else kc i)
          rw [if_pos (show i = i from rfl)]
          exact MX_new hl hEN hfl hCM
        · show cn14 (if i = i then ks else kc i) ≤ 1
          rw [if_pos (show i = i from rfl)]
          exact txt_p _ _ _ _ _ _ _ hq (ps_le 0) (by omega) rfl
      · refine Or.inl ⟨by omega, if_neg e, zk i b b2 (Or.inr e), MX_88 (slot _ S' _ _ yX hF (by omega) (h0.2.2.2 i (by omega)).2.1) (by omega)⟩
    · refine KX_k h1 kp h1.1 (by rw [w32, up2_k (by omega), eJ 32 (by omega) (by decide) (by omega)]; exact h1.2.1) (by rw [up2_k (by omega), up2_a (by decide), w85]; exact h1.2.2.1) (fun i hi => Or.inl ⟨hi, rfl, zk i b' (by omega) (Or.inl (by omega)), MX_88 (slot _ S' _ _ yX hF (by have := h1.1; omega) (h1.2.2.2 i hi).2.1) (by have := h1.1; omega)⟩)
theorem op_story (hC : embB 33 X S = X) (hM : emb X S = X) (hW : Wn n S) (hK : Ky sc L n X Z t c d kt kr ow tm) : ∃ w : Int32, Sty sc L n (.int w) 111 191 [.ref 32] [.ref 72] (X, G, Z) := by
  have hT := hK.2.2.1
  have h0 := hK.2.2.2.1
  have h1 := hK.2.2.2.2.1
  have h8 : X 32 8 = iN c := h0.2.1
  have h85 : X 85 0 = iN c := h0.2.2.1
  rcases Nat.lt_or_ge c 10 with hc | hc
  · exact op_txt (rb := false) (b := 0) (b' := 1) hC hM hW hK rfl rfl h0 h1 hc (fun q hq => c_story hK.2.1 hT.1 hT.2.1 hc h8 hq) (fun hZ1 h => m_story hZ1 h) (fun kp hZ1 a1 a2 k0 k1 => tx_fin hC hM hW hK kp hZ1 a1 a2 k0 k1)
  · have c10 : c = 10 := by have := h0.1; omega
    refine ⟨-1, op_ask hC hM hW hK ?_ (fun Y hY => m_story hK.2.1 (m_text_x (ru := false) hK.2.1 ?_))⟩
    · rw [hC]; exact c_story_x hK.2.1 hc (by omega) h8
    · rw [emb_86 hY (by decide) (by decide), ← c10]; exact h85
theorem op_rule (hC : embB 33 X S = X) (hM : emb X S = X) (hW : Wn n S) (hK : Ky sc L n X Z t c d kt kr ow tm) : ∃ w : Int32, Sty sc L n (.int w) 112 192 [.ref 32] [.ref 72] (X, G, Z) := by
  have hT := hK.2.2.1
  have h0 := hK.2.2.2.1
  have h1 := hK.2.2.2.2.1
  have h8 : X 32 9 = iN d := h1.2.1
  have h85 : X 85 1 = iN d := h1.2.2.1
  rcases Nat.lt_or_ge d 10 with hc | hc
  · exact op_txt (rb := true) (b := 1) (b' := 0) hC hM hW hK rfl rfl h1 h0 hc (fun q hq => c_rule hK.2.1 hT.1 hT.2.1 hc h8 hq) (fun hZ1 h => m_rule hZ1 h) (fun kp hZ1 a1 a2 k0 k1 => tx_fin hC hM hW hK kp hZ1 a1 a2 k1 k0)
  · have c10 : d = 10 := by have := h1.1; omega
    refine ⟨-1, op_ask hC hM hW hK ?_ (fun Y hY => m_rule hK.2.1 (m_text_x (ru := true) hK.2.1 ?_))⟩
    · rw [hC]; exact c_rule_x hK.2.1 hc (by omega) h8
    · rw [show (if true = true then 1 else 0) = 1 from rfl, emb_86 hY (by decide) (by decide), ← c10]; exact h85
end OP4
