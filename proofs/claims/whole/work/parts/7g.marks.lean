/-! mark, both sides -/
section OP3
variable {sc : Nat → Int32} {L n n' : Nat} {X W : aI} {G : aL} {Z Z1 : aZ} {S T : aS} {t c d m j r : Nat} {kt kr : Nat → List aK} {ow ow' : Nat → Nat} {tm : Nat → aS} {x1 : Int32} {rb : Bool} {ks : List aK}
theorem TKc_x (h : TKc X Z ow r rb ks) (hx : zX Z ≤ zX Z1) (hk : ∀ b, 112 ≤ b → b < zX Z + 32 → ow b = 0 → zK Z1 b = zK Z b ∧ zN Z1 b = zN Z b ∧ (∀ j, zR Z1 b j = zR Z b j) ∧ W b = X b ∧ ow' b = 0) : TKc W Z1 ow' r rb ks := by
  obtain ⟨lo, hi, h1, h2, h3, h4, h5, h6⟩ := h
  refine ⟨lo, hi, h1, by omega, TxC_e h3 (Nat.le_refl _) (Nat.le_refl _) (fun b q1 q2 => ?_), fun b q1 q2 => (hk b (by omega) (by omega) (h4 b q1 q2)).2.2.2.2, h5, h6⟩
  obtain ⟨g1, g2, g3, g4, _⟩ := hk b (by omega) (by omega) (h4 b q1 q2)
  exact ⟨g1, g2, g3, g4⟩
theorem MKc_x (h : MKc n X Z ow j T) (hn : n ≤ n') (h111 : W 111 j = X 111 j) (hr : zR Z1 57 j = zR Z 57 j) (hx : zX Z ≤ zX Z1) (hk : ∀ b, 112 ≤ b → b < zX Z + 32 → ow b = j + 1 → zK Z1 b = zK Z b ∧ zN Z1 b = zN Z b ∧ (∀ k, zR Z1 b k = zR Z b k) ∧ W b = X b ∧ ow' b = j + 1) (h109 : ∀ i, i < 1660 → W 109 (1660 * j + i) = X 109 (1660 * j + i)) : MKc n' W Z1 ow' j T := by
  unfold MKc
  rw [h111, hr]
  rcases h with q | ⟨a1, a2, a3, a4, a5, a6, a7, a8⟩
  · exact Or.inl q
  · refine Or.inr ⟨a1, a2, by omega, fun b q1 q2 => (hk b (by omega) (by omega) (a4 b q1 q2)).2.2.2.2, ?_, Wn_n a6 hn, fun c i hi => ?_, ?_⟩
    · refine shB_ext a5 a2 (fun a q1 q2 => ?_) (fun a k q1 q2 => ?_)
      · obtain ⟨g1, g2, g3, g4, _⟩ := hk a (by omega) (by omega) (a4 a q1 q2)
        exact ⟨g1, g2⟩
      · exact (hk a (by omega) (by omega) (a4 a q1 q2)).2.2.1 k
    · have := mof_b hi
      rw [Nat.add_assoc, h109 _ this, ← Nat.add_assoc]
      exact a7 c i hi
    · exact MkC_e a8 (fun a q1 q2 => (hk a (by omega) (by omega) (a4 a q1 q2)).2.2.2.1)
theorem mk_Z (hZ : Shp Z) (h : zR Z 57 m = 0 ∨ (112 ≤ zR Z 57 m ∧ zR Z 57 m + 24 ≤ zX Z + 32 ∧ ShB Z (zR Z 57 m))) (e : Z1 = (if zR Z 57 m = 0 then mkZ Z m else Z)) : Shp Z1 ∧ zX Z ≤ zX Z1 ∧ zX Z1 ≤ zX Z + 24 ∧ zU Z1 ≤ zU Z + 1820 ∧ (∀ a, a < zX Z + 32 → zK Z1 a = zK Z a ∧ zN Z1 a = zN Z a) ∧ (∀ a k, a < zX Z + 32 → (a ≠ 57 ∨ k ≠ m) → zR Z1 a k = zR Z a k) ∧ zR Z1 57 m = mkB Z m ∧ ShB Z1 (mkB Z m) ∧ 112 ≤ mkB Z m ∧ mkB Z m + 24 ≤ zX Z1 + 32 := by
  have h80 := hZ.2.2
  by_cases h0 : zR Z 57 m = 0
  · have eb : mkB Z m = zX Z + 32 := if_pos h0
    rw [if_pos h0] at e
    rw [e, eb, mkZ_X, mkZ_U]
    exact ⟨mkZ_S hZ, by omega, by omega, by omega, fun a ha => mkZ_K ha, fun a k ha hne => mkZ_R ha hne, mkZ_n, mkZ_B h80, by omega, by omega⟩
  · have eb : mkB Z m = zR Z 57 m := if_neg h0
    rw [if_neg h0] at e
    rw [e, eb]
    rcases h with q | ⟨q1, q2, q3⟩
    · exact absurd q h0
    · exact ⟨hZ, by omega, by omega, by omega, fun a ha => ⟨rfl, rfl⟩, fun a k ha hne => rfl, rfl, q3, q1, q2⟩
theorem op_mark (hC : embB 33 X S = X) (hM : emb X S = X) (hW : Wn n S) (hK : Ky sc L n X Z t c d kt kr ow tm) : ∃ w : Int32, Sty sc L n (.int w) 132 230 [.ref 32, .int x1] [.ref 72, .int x1] (X, G, Z) := by
  have hZ := hK.2.1
  have h7 := hW.2.2.2.2.2.2.2.1
  cases h3 : inB x1 0 3 with
  | false => exact ⟨_, op_ask hC hM hW hK (f_mark_bad h3) (fun Y hY => s_mark_bad h3)⟩
  | true =>
    obtain ⟨m, hm, rfl⟩ := in4 h3
    have h80 := hZ.2.2
    have hmk := hK.2.2.2.2.2.1 m hm
    have hz : zR Z 57 m = 0 ∨ (112 ≤ zR Z 57 m ∧ zR Z 57 m + 24 ≤ zX Z + 32 ∧ ShB Z (zR Z 57 m)) := by
      rcases hmk with z | ⟨a1, a2, a3, a4, a5, a6, a7, a8⟩
      · exact Or.inl z.1
      · exact Or.inr ⟨a2, a3, a5⟩
    obtain ⟨X1, G1, f1, f2, f3, f4, f5⟩ := f_mark (I := X) (G := G) (S := S) hZ h7 hm (fun q => by rcases hz with z | ⟨z1, z2, z3⟩; exact absurd z q; exact ⟨by omega, z3⟩)
    rw [hC] at f1 f4 f5
    obtain ⟨Z1, eZ⟩ : ∃ Z1, Z1 = (if zR Z 57 m = 0 then mkZ Z m else Z) := ⟨_, rfl⟩
    rw [← eZ] at f1
    obtain ⟨z1, z2, z3, z4, z5, z6, z7, z8, z9, z10⟩ := mk_Z hZ hz eZ
    have sep : ∀ a, a < zX Z + 32 → ow a ≠ m + 1 → ¬ (mkB Z m ≤ a ∧ a < mkB Z m + 24) := by
      intro a ha hne q
      rcases hmk with z | ⟨a1, a2, a3, a4, a5, a6, a7, a8⟩
      · have : mkB Z m = zX Z + 32 := if_pos z.1
        omega
      · have : mkB Z m = zR Z 57 m := if_neg (by omega)
        rw [this] at q
        exact hne (a4 a q.1 q.2)
    have lowX : ∀ a, a < 112 → X1 a = X a := fun a ha => funext fun k => f4 a k (by omega) (by omega)
    have eM : emb X1 S = X1 := emb_mv hM (fun a q1 q2 _ => lowX a (by omega))
    obtain ⟨W, s1, s2, s3, s4, s5, s6, s7, s8⟩ := s_mark (I := X1) (G := G1) (S := S) z1 h7 hm
    rw [eM] at s1 s3 s4
    have fW : ∀ a, a < 112 → a ≠ 72 → a ≠ 109 → a ≠ 110 → a ≠ 111 → W a = X a := fun a q1 q2 q3 q4 q5 => by rw [s3 a q2 q3 q4 q5, lowX a q1]
    have fT : ∀ b, 112 ≤ b → b < zX Z + 32 → ow b ≠ m + 1 → zK Z1 b = zK Z b ∧ zN Z1 b = zN Z b ∧ (∀ j, zR Z1 b j = zR Z b j) ∧ W b = X b ∧ (if mkB Z m ≤ b ∧ b < mkB Z m + 24 then m + 1 else ow b) = ow b := by
      intro b q1 q2 q3
      have hs := sep b q2 q3
      refine ⟨(z5 b q2).1, (z5 b q2).2, fun j => z6 b j q2 (Or.inl (by omega)), ?_, if_neg hs⟩
      rw [s3 b (by omega) (by omega) (by omega) (by omega)]
      exact funext fun k => f4 b k q2 hs
    have kx : ∀ (b : Nat) (rb : Bool) (c : Nat) (kt : Nat → List aK), b < 2 → KX b rb X Z ow c kt → KX b rb W Z1 (fun a => if mkB Z m ≤ a ∧ a < mkB Z m + 24 then m + 1 else ow a) c kt := by
      intro b rb c kt hb h
      unfold KX
      rw [fW 32 (by decide) (by decide) (by decide) (by decide) (by decide), fW 85 (by decide) (by decide) (by decide) (by decide) (by decide)]
      refine ⟨h.1, h.2.1, h.2.2.1, fun i hi => ?_⟩
      obtain ⟨g1, g2, g3⟩ := h.2.2.2 i hi
      rw [z6 (69 + b) i (by omega) (Or.inl (by omega))]
      refine ⟨TKc_x g1 z2 (fun b q1 q2 q3 => ?_), MX_e g2 (fun a q1 q2 => fW a (by omega) (by omega) (by omega) (by omega) (by omega)), g3⟩
      obtain ⟨p1, p2, p3, p4, p5⟩ := fT b q1 q2 (by omega)
      exact ⟨p1, p2, p3, p4, by rw [← q3]; exact p5⟩
    have hxx : zX Z1 ≤ 80 + 30 * (n + 1) := by
      have := hK.2.2.2.2.2.2.1
      omega
    have huu : zU Z1 ≤ 40000 + 1820 * (n + 1) := Nat.le_trans z4 (Nat.le_trans (Nat.add_le_add_right hK.2.2.2.2.2.2.2 1820) (Nat.le_of_eq (by rw [Nat.mul_succ, Nat.add_assoc])))
    have md : Md sc L (X1, G1, Z1) := ⟨by rw [← hK.1.2.1]; exact (z5 1 (by omega)).1, by rw [← hK.1.2.2]; exact (z5 1 (by omega)).2, by rw [← hK.1.1]; exact lowX 1 (by omega), z1.k32, z1.k72⟩
    refine ⟨_, _, _, f1, md, s1, W, G1, Z1, S, t, c, d, kt, kr, (fun a => if mkB Z m ≤ a ∧ a < mkB Z m + 24 then m + 1 else ow a), (fun j => if j = m then S else tm j), rfl, ?_, s2, Wn_n hW (by omega), ?_⟩
    · exact embB_mv hC (fun a q1 q2 => fW a (by omega) (by omega) (by omega) (by omega) (by omega))
    · refine ⟨⟨by rw [fW 1 (by decide) (by decide) (by decide) (by decide) (by decide)]; exact hK.1.1, by rw [(z5 1 (by omega)).1]; exact hK.1.2.1, by rw [(z5 1 (by omega)).2]; exact hK.1.2.2⟩, z1, ?_, kx 0 false c kt (by decide) hK.2.2.2.1, kx 1 true d kr (by decide) hK.2.2.2.2.1, fun j hj => ?_, hxx, huu⟩
      · have hT := hK.2.2.1
        unfold Tp
        rw [fW 58 (by decide) (by decide) (by decide) (by decide) (by decide), fW 59 (by decide) (by decide) (by decide) (by decide) (by decide), fW 84 (by decide) (by decide) (by decide) (by decide) (by decide), s4 27 (by decide) (by decide), lowX 72 (by decide)]
        exact hT
      · by_cases e : j = m
        · subst e
          show MKc (n + 1) W Z1 _ j (if j = j then S else tm j)
          rw [if_pos (show j = j from rfl)]
          refine Or.inr ⟨by rw [s6]; decide, by rw [z7]; exact z9, by rw [z7]; exact z10, fun b q1 q2 => ?_, by rw [z7]; exact z8, Wn_n hW (by omega), s8, ?_⟩
          · rw [z7] at q1 q2
            exact if_pos ⟨q1, q2⟩
          · rw [z7]
            exact MkC_e f3 (fun a q1 q2 => s3 a (by omega) (by omega) (by omega) (by omega))
        · show MKc (n + 1) W Z1 _ j (if j = m then S else tm j)
          rw [if_neg e]
          refine MKc_x (hK.2.2.2.2.2.1 j hj) (by omega) ?_ (z6 57 j (by omega) (Or.inr e)) z2 (fun b q1 q2 q3 => ?_) (fun i hi => ?_)
          · rw [s7 j e, lowX 111 (by decide)]
          · obtain ⟨p1, p2, p3, p4, p5⟩ := fT b q1 q2 (by omega)
            exact ⟨p1, p2, p3, p4, by rw [← q3]; exact p5⟩
          · rw [s5 _ (by omega), lowX 109 (by decide)]
end OP3
