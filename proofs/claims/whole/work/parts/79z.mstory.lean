/-! THE MODEL'S STORY AND RULE -/
section MSR
variable {S : aI} {G : aL} {Z : aZ}
theorem m_story {v : Int32} {M' : aM} (hZ : Shp Z) (h : call 190 [.ref 72, .int (bI false)] (S, G, Z) = some (some (.int v), M')) : call 191 [.ref 72] (S, G, Z) = some (some (.int v), M') := by
  refine Eq.trans e191 (Eq.trans (b191_0 hZ.k72) ?_)
  rw [show (0 : Int32) = bI false from rfl, h]
  exact b191_5
theorem m_rule {v : Int32} {M' : aM} (hZ : Shp Z) (h : call 190 [.ref 72, .int (bI true)] (S, G, Z) = some (some (.int v), M')) : call 192 [.ref 72] (S, G, Z) = some (some (.int v), M') := by
  refine Eq.trans e192 (Eq.trans (b192_0 hZ.k72) ?_)
  rw [show (1 : Int32) = bI true from rfl, h]
  exact b192_5
/-- a slot that a text's reading leaves alone -/
theorem MX_keep {S S' : aI} {s s' : Nat} {ks : List aK} (h : MX S s ks) (hF : Fs s' S S') (hne : s ≠ s') (h88 : S' 88 s = S 88 s) : MX S' s ks := by
  obtain ⟨h1, h2, h3, h4, h5⟩ := h
  refine ⟨by rw [h88]; exact h1, h2, h3, fun j hj => CM_e (h4 j hj) (fun a a1 a2 => hF.2.2.2 a _ a1 a2 (by omega)), fun i hi => ?_⟩
  have e := hF.2.2.1 (300 * s + i) (by omega)
  rw [e.1, e.2]
  exact h5 i hi
/-- the slot that a text has filled -/
theorem MX_new {S : aI} {s b cnt : Nat} {ks : List aK} (hl : ks.length ≤ 14) (hE : EN S s (fla ks)) (hf : (fla ks).length < 300) (hC : CMs S s ks) : MX (up2 (up2 S 88 s (iN ks.length)) 85 b (iN (cnt + 1))) s ks := by
  refine ⟨by rw [up2_a (by decide), up2_s], hl, hf, fun j hj => CM_e (hC j hj) (fun a a1 a2 => by rw [up2_a (by omega), up2_a (by omega)]), fun i hi => by rw [up2_a (by decide), up2_a (by decide), up2_a (by decide), up2_a (by decide)]; exact hE.2 i hi⟩
end MSR
