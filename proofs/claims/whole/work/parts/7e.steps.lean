/-! EACH CALL ON BOTH SIDES: those that change the state alone, and the questions -/
section OPS
variable {sc : Nat → Int32} {L n : Nat} {X : aI} {G : aL} {Z : aZ} {S : aS} {t c d : Nat} {kt kr : Nat → List aK} {ow : Nat → Nat} {tm : Nat → aS} {x1 x2 x3 x4 x5 x6 x7 x8 : Int32}
theorem cBegin_o {I : aI} {a : Nat} (h : a ≠ 34) : cBegin I x1 x2 x3 x4 x5 a = I a := by
  funext k
  unfold cBegin
  simp only [up2_a h]
theorem op_begin (hC : embB 33 X S = X) (hM : emb X S = X) (hW : Wn n S) (hK : Ky sc L n X Z t c d kt kr ow tm) : ∃ w : Int32, Sty sc L n (.int w) 99 142 [.ref 32, .int x1, .int x2, .int x3, .int x4, .int x5] [.ref 72, .int x1, .int x2, .int x3, .int x4, .int x5] (X, G, Z) := by
  refine bth_if (ok := begOK x1 x2 x3 x4 x5) hC hM hK hW (fun h => Wn_begin hW h) ⟨cBegin (embB 33 X S) x1 x2 x3 x4 x5, fun a h _ _ _ => by rw [cBegin_o (by omega), embB_out (by omega)], ?_⟩ (fun Y _ => ⟨Y, G, fun _ _ _ _ => rfl, s_begin hK.2.1⟩)
  rw [beg_emb]
  exact c_begin hK.2.1
theorem op_ring (hC : embB 33 X S = X) (hM : emb X S = X) (hW : Wn n S) (hK : Ky sc L n X Z t c d kt kr ow tm) : ∃ w : Int32, Sty sc L n (.int w) 100 153 [.ref 32, .int x1, .int x2, .int x3, .int x4, .int x5, .int x6, .int x7, .int x8] [.ref 72, .int x1, .int x2, .int x3, .int x4, .int x5, .int x6, .int x7, .int x8] (X, G, Z) := bth_if hC hM hK hW (fun h => Wn_ring hW h) ⟨X, fun _ _ _ _ _ => rfl, f_ring hK.2.1 hW.1⟩ (fun Y _ => ⟨Y, G, fun _ _ _ _ => rfl, s_ring hK.2.1 hW.1⟩)
theorem op_pour (hC : embB 33 X S = X) (hM : emb X S = X) (hW : Wn n S) (hK : Ky sc L n X Z t c d kt kr ow tm) (hn : n < 600) : ∃ w : Int32, Sty sc L n (.int w) 101 154 [.ref 32, .int x1, .int x2] [.ref 72, .int x1, .int x2] (X, G, Z) := bth_if hC hM hK hW (fun h => Wn_pour hW hn h) ⟨X, fun _ _ _ _ _ => rfl, f_pour hK.2.1 hW.1 hW.2.1 hW.2.2.1 (by have := hW.2.2.2.2.2.2.2.2.2.2.1; omega)⟩ (fun Y _ => ⟨Y, G, fun _ _ _ _ => rfl, s_pour hK.2.1 hW.1⟩)
theorem op_draw (hC : embB 33 X S = X) (hM : emb X S = X) (hW : Wn n S) (hK : Ky sc L n X Z t c d kt kr ow tm) : ∃ w : Int32, Sty sc L n (.int w) 102 155 [.ref 32, .int x1] [.ref 72, .int x1] (X, G, Z) := by
  obtain ⟨I', o, e⟩ := f_draw (I := X) (G := G) (x := x1) hK.2.1 hW.1 hW.2.2.1 hW.2.2.2.2.2.1
  exact bth_if hC hM hK hW (fun h => Wn_draw hW h) ⟨I', fun a h _ _ _ => o a h, e⟩ (fun Y _ => ⟨Y, G, fun _ _ _ _ => rfl, s_draw hK.2.1 hW.1 hW.2.2.2.2.2.1⟩)
theorem op_air (hC : embB 33 X S = X) (hM : emb X S = X) (hW : Wn n S) (hK : Ky sc L n X Z t c d kt kr ow tm) : ∃ w : Int32, Sty sc L n (.int w) 103 156 [.ref 32, .int x1] [.ref 72, .int x1] (X, G, Z) := bth_if hC hM hK hW (fun h => Wn_air hW h) ⟨X, fun _ _ _ _ _ => rfl, f_air hK.2.1 hW.1 hW.2.1⟩ (fun Y _ => ⟨Y, G, fun _ _ _ _ => rfl, s_air hK.2.1 hW.1⟩)
theorem op_hours (hC : embB 33 X S = X) (hM : emb X S = X) (hW : Wn n S) (hK : Ky sc L n X Z t c d kt kr ow tm) : ∃ w : Int32, Sty sc L n (.int w) 104 158 [.ref 32, .int x1] [.ref 72, .int x1] (X, G, Z) := by
  refine bth_if hC hM hK hW (fun h => ?_) ⟨X, fun _ _ _ _ _ => rfl, f_hours hK.2.1 hW.1 hW.2.1 hW.2.2.1⟩ (fun Y _ => ⟨Y, G, fun _ _ _ _ => rfl, s_hours hK.2.1 hW.1⟩)
  rw [Bool.and_eq_true, inB_iff] at h
  have h0 := hW.2.2.2.2.2.2.2.2.1
  have h2 : ¬ (99999 : Int32) < S 0 0 + x1 := fun z => by have := h.2; rw [decide_eq_true z] at this; cases this
  rw [ti_lt, l32_99999, ti_add (by omega) (by omega)] at h2
  have e : (x1.toNatClampNeg : Int) = x1.toInt := by
    show ((x1.toInt.toNat : Nat) : Int) = x1.toInt
    omega
  exact Wn_n (Wn_hours hW x1.toNatClampNeg (by omega)).1 (by omega)
theorem op_look (hC : embB 33 X S = X) (hM : emb X S = X) (hW : Wn n S) (hK : Ky sc L n X Z t c d kt kr ow tm) : ∃ w : Int32, Sty sc L n (.int w) 124 215 [.ref 32, .int x1, .int x2] [.ref 72, .int x1, .int x2] (X, G, Z) := bth_if hC hM hK hW (fun _ => Wn_look hW) ⟨X, fun _ _ _ _ _ => rfl, f_look hK.2.1⟩ (fun Y _ => ⟨Y, G, fun _ _ _ _ => rfl, s_look hK.2.1⟩)
theorem op_trace (hC : embB 33 X S = X) (hM : emb X S = X) (hW : Wn n S) (hK : Ky sc L n X Z t c d kt kr ow tm) : ∃ w : Int32, Sty sc L n (.int w) 114 201 [.ref 32, .int x1, .int x2] [.ref 72, .int x1, .int x2] (X, G, Z) := bth_if hC hM hK hW (fun _ => Wn_trace hW) ⟨X, fun _ _ _ _ _ => rfl, f_trace hK.2.1⟩ (fun Y _ => ⟨Y, G, fun _ _ _ _ => rfl, s_trace hK.2.1⟩)
theorem op_ground (hC : embB 33 X S = X) (hM : emb X S = X) (hW : Wn n S) (hK : Ky sc L n X Z t c d kt kr ow tm) : ∃ w : Int32, Sty sc L n (.int w) 126 219 [.ref 32, .int x1, .int x2, .int x3] [.ref 72, .int x1, .int x2, .int x3] (X, G, Z) := bth_if hC hM hK hW (fun _ => Wn_ground hW) ⟨X, fun _ _ _ _ _ => rfl, f_ground hK.2.1⟩ (fun Y _ => ⟨Y, G, fun _ _ _ _ => rfl, s_ground hK.2.1⟩)
theorem op_witness (hC : embB 33 X S = X) (hM : emb X S = X) (hW : Wn n S) (hK : Ky sc L n X Z t c d kt kr ow tm) : ∃ w : Int32, Sty sc L n (.int w) 130 226 [.ref 32, .int x1, .int x2, .int x3] [.ref 72, .int x1, .int x2, .int x3] (X, G, Z) := bth_if hC hM hK hW (fun h => Wn_wit hW h) ⟨X, fun _ _ _ _ _ => rfl, f_witness hK.2.1 hW.2.2.2.2.2.2.1⟩ (fun Y _ => ⟨Y, G, fun _ _ _ _ => rfl, s_witness hK.2.1 hW.2.2.2.2.2.2.1⟩)
theorem op_wave (hC : embB 33 X S = X) (hM : emb X S = X) (hW : Wn n S) (hK : Ky sc L n X Z t c d kt kr ow tm) : ∃ w : Int32, Sty sc L n (.int w) 127 221 [.ref 32, .int x1, .int x2, .int x3, .int x4, .int x5] [.ref 72, .int x1, .int x2, .int x3, .int x4, .int x5] (X, G, Z) := bth_if hC hM hK hW (fun _ => Wn_wave hW) ⟨X, fun _ _ _ _ _ => rfl, f_wave hK.2.1⟩ (fun Y _ => ⟨Y, G, fun _ _ _ _ => rfl, s_wave hK.2.1⟩)
theorem op_minutes (hC : embB 33 X S = X) (hM : emb X S = X) (hW : Wn n S) (hK : Ky sc L n X Z t c d kt kr ow tm) : ∃ w : Int32, Sty sc L n (.int w) 128 224 [.ref 32, .int x1] [.ref 72, .int x1] (X, G, Z) := by
  obtain ⟨I', o, e⟩ := f_minutes (I := X) (G := G) (S := S) (n := x1) hK.2.1
  refine bth_if hC hM hK hW (fun h => Wn_n (Wn_minF _ hW) (by omega)) ⟨I', fun a h _ _ _ => o a h, e⟩ (fun Y _ => ?_)
  obtain ⟨Y1, o1, e1⟩ := s_minutes (I := Y) (G := G) (S := S) (n := x1) hK.2.1
  exact ⟨Y1, G, fun a _ q1 q2 => o1 a q1 q2, e1⟩
/-! questions -/
theorem op_ask {v : Value} {J1 J2 : Nat} {a1 a2 : List Value} (hC : embB 33 X S = X) (hM : emb X S = X) (hW : Wn n S) (hK : Ky sc L n X Z t c d kt kr ow tm) (hf : call J1 a1 (embB 33 X S, G, Z) = some (some v, (embB 33 X S, G, Z))) (hs : ∀ Y : aI, (∀ a, a < 33 ∨ 57 ≤ a → a ≠ 67 → a ≠ 68 → a ≠ 71 → Y a = X a) → call J2 a2 (emb Y S, G, Z) = some (some v, (emb Y S, G, Z))) : Sty sc L n v J1 J2 a1 a2 (X, G, Z) := bth hC hM hK (Wn_n hW (by omega)) ⟨X, fun _ _ _ _ _ => rfl, hf⟩ (fun Y hY => ⟨Y, G, fun _ _ _ _ => rfl, hs Y hY⟩)
theorem op_count (hC : embB 33 X S = X) (hM : emb X S = X) (hW : Wn n S) (hK : Ky sc L n X Z t c d kt kr ow tm) : ∃ w : Int32, Sty sc L n (.int w) 105 159 [.ref 32, .int x1] [.ref 72, .int x1] (X, G, Z) := by
  refine ⟨_, op_ask hC hM hW hK (f_count hK.2.1) (fun Y hY => ?_)⟩
  have c1 : X 32 8 = iN c := hK.2.2.2.1.2.1
  have c2 : X 85 0 = iN c := hK.2.2.2.1.2.2.1
  have c3 : X 32 9 = iN d := hK.2.2.2.2.1.2.1
  have c4 : X 85 1 = iN d := hK.2.2.2.2.1.2.2.1
  have c5 : X 58 4 = iN t := hK.2.2.1.2.1
  have c6 : X 72 27 = iN t := hK.2.2.1.2.2.1
  rw [s_count2 hK.2.1 hW.1, hY 85 (by omega) (by decide) (by decide) (by decide), hY 72 (by omega) (by decide) (by decide) (by decide), c1, c2, c3, c4, c5, c6]
theorem op_layer (hC : embB 33 X S = X) (hM : emb X S = X) (hW : Wn n S) (hK : Ky sc L n X Z t c d kt kr ow tm) : ∃ w : Int32, Sty sc L n (.int w) 106 160 [.ref 32, .int x1, .int x2] [.ref 72, .int x1, .int x2] (X, G, Z) := ⟨_, op_ask hC hM hW hK (f_layer hK.2.1 hW.1) (fun Y hY => s_layer hK.2.1 hW.1)⟩
theorem op_told (hC : embB 33 X S = X) (hM : emb X S = X) (hW : Wn n S) (hK : Ky sc L n X Z t c d kt kr ow tm) : ∃ w : Int32, Sty sc L n (.int w) 107 161 [.ref 32, .int x1, .int x2] [.ref 72, .int x1, .int x2] (X, G, Z) := ⟨_, op_ask hC hM hW hK (f_told hK.2.1 hW.1 hW.2.1 hW.2.2.2.1) (fun Y hY => s_told hK.2.1 hW.1)⟩
theorem op_nearest (hC : embB 33 X S = X) (hM : emb X S = X) (hW : Wn n S) (hK : Ky sc L n X Z t c d kt kr ow tm) : ∃ w : Int32, Sty sc L n (.int w) 108 163 [.ref 32] [.ref 72] (X, G, Z) := ⟨_, op_ask hC hM hW hK (f_nearest hK.2.1 hW.1 hW.2.1) (fun Y hY => s_nearest hK.2.1 hW.1)⟩
theorem op_span (hC : embB 33 X S = X) (hM : emb X S = X) (hW : Wn n S) (hK : Ky sc L n X Z t c d kt kr ow tm) : ∃ w : Int32, Sty sc L n (.int w) 119 208 [.ref 32, .int x1, .int x2] [.ref 72, .int x1, .int x2] (X, G, Z) := ⟨_, op_ask hC hM hW hK (f_span hK.2.1 hW.1 hW.2.1 hW.2.2.2.1) (fun Y hY => s_span hK.2.1 hW.1)⟩
theorem op_trial (hC : embB 33 X S = X) (hM : emb X S = X) (hW : Wn n S) (hK : Ky sc L n X Z t c d kt kr ow tm) : ∃ w : Int32, Sty sc L n (.int w) 120 209 [.ref 32, .int x1, .int x2] [.ref 72, .int x1, .int x2] (X, G, Z) := ⟨_, op_ask hC hM hW hK (f_trial hK.2.1 hW.1 hW.2.1) (fun Y hY => s_trial hK.2.1 hW.1)⟩
theorem op_needed (hC : embB 33 X S = X) (hM : emb X S = X) (hW : Wn n S) (hK : Ky sc L n X Z t c d kt kr ow tm) : ∃ w : Int32, Sty sc L n (.int w) 121 211 [.ref 32, .int x1, .int x2] [.ref 72, .int x1, .int x2] (X, G, Z) := by
  obtain ⟨m, m1, m2⟩ := Wn_low hW
  exact ⟨_, op_ask hC hM hW hK (f_needed hK.2.1 hW.1 hW.2.1 hW.2.2.2.2.1 m2 m1) (fun Y hY => s_needed hK.2.1 hW.1 m2 (by omega))⟩
theorem op_more (hC : embB 33 X S = X) (hM : emb X S = X) (hW : Wn n S) (hK : Ky sc L n X Z t c d kt kr ow tm) : ∃ w : Int32, Sty sc L n (.int w) 122 213 [.ref 32] [.ref 72] (X, G, Z) := ⟨_, op_ask hC hM hW hK (f_more hK.2.1 hW.1 hW.2.1) (fun Y hY => s_more hK.2.1 hW.1 (Wn_Bu hW))⟩
theorem op_thicker (hC : embB 33 X S = X) (hM : emb X S = X) (hW : Wn n S) (hK : Ky sc L n X Z t c d kt kr ow tm) : ∃ w : Int32, Sty sc L n (.int w) 123 214 [.ref 32, .int x1] [.ref 72, .int x1] (X, G, Z) := ⟨_, op_ask hC hM hW hK (f_thicker hK.2.1 hW.1 hW.2.1) (fun Y hY => s_thicker hK.2.1 hW.1 (Wn_Bu hW))⟩
theorem op_place (hC : embB 33 X S = X) (hM : emb X S = X) (hW : Wn n S) (hK : Ky sc L n X Z t c d kt kr ow tm) : ∃ w : Int32, Sty sc L n (.int w) 129 225 [.ref 32, .int x1, .int x2, .int x3] [.ref 72, .int x1, .int x2, .int x3] (X, G, Z) := ⟨_, op_ask hC hM hW hK (f_place hK.2.1) (fun Y hY => s_place hK.2.1)⟩
theorem op_lean (hC : embB 33 X S = X) (hM : emb X S = X) (hW : Wn n S) (hK : Ky sc L n X Z t c d kt kr ow tm) : ∃ w : Int32, Sty sc L n (.int w) 131 227 [.ref 32, .int x1, .int x2, .int x3, .int x4, .int x5] [.ref 72, .int x1, .int x2, .int x3, .int x4, .int x5] (X, G, Z) := ⟨_, op_ask hC hM hW hK (f_lean hK.2.1 hW.2.2.2.2.2.2.1) (fun Y hY => s_lean hK.2.1 hW.2.2.2.2.2.2.1)⟩
/-! questions about texts -/
theorem KT_TX (h : KX 0 false X Z ow c kt) : TXs X Z 69 c false kt := by
  intro i hi
  obtain ⟨⟨lo, hi', a1, a2, a3, a4, a5, a6⟩, _⟩ := h.2.2.2 i hi
  exact ⟨lo, hi', a1, a3, a5, a6⟩
theorem KR_TX (h : KX 1 true X Z ow d kr) : TXs X Z 70 d true kr := by
  intro i hi
  obtain ⟨⟨lo, hi', a1, a2, a3, a4, a5, a6⟩, _⟩ := h.2.2.2 i hi
  exact ⟨lo, hi', a1, a3, a5, a6⟩
theorem emb_86 {Y : aI} (hY : ∀ a, a < 33 ∨ 57 ≤ a → a ≠ 67 → a ≠ 68 → a ≠ 71 → Y a = X a) {a : Nat} (h1 : 84 ≤ a) (h2 : a ≤ 93) : emb Y S a = X a := by rw [emb_off (by omega) (mar_none (by omega))]; exact hY a (by omega) (by omega) (by omega) (by omega)
theorem KT_MX {Y : aI} (h : KX 0 false X Z ow c kt) (hY : ∀ a, a < 33 ∨ 57 ≤ a → a ≠ 67 → a ≠ 68 → a ≠ 71 → Y a = X a) : MXs Y S c kt := by
  intro i hi
  obtain ⟨⟨lo, hi', a1, a2, a3, a4, a5, a6⟩, b, e⟩ := h.2.2.2 i hi
  exact ⟨MX_e b (fun a q1 q2 => emb_86 hY (by omega) q2), a5, e⟩
theorem op_fits (hC : embB 33 X S = X) (hM : emb X S = X) (hW : Wn n S) (hK : Ky sc L n X Z t c d kt kr ow tm) : ∃ w : Int32, Sty sc L n (.int w) 113 200 [.ref 32, .int x1, .int x2] [.ref 72, .int x1, .int x2] (X, G, Z) := by
  have hT := hK.2.2.2.1
  obtain ⟨I', e, o⟩ := f_fits (G := G) (x := x1) (y := x2) hK.2.1 hW.1 hW.2.1 (Wn_Wb hW) hT.2.1 hT.1 (KT_TX hT)
  refine ⟨_, bth hC hM hK (Wn_n hW (by omega)) ⟨I', fun a _ b1 b2 _ => o a b1 b2, e⟩ (fun Y hY => ?_)⟩
  obtain ⟨G', e1, o1⟩ := s_fits (I := Y) (G := G) (x := x1) (y := x2) hK.2.1 hW.1 (Wn_Wb hW) (by rw [hY 85 (by omega) (by decide) (by decide) (by decide)]; exact hT.2.2.1) hT.1 (KT_MX hT hY)
  exact ⟨Y, G', fun _ _ _ _ => rfl, e1⟩
theorem op_chance (hC : embB 33 X S = X) (hM : emb X S = X) (hW : Wn n S) (hK : Ky sc L n X Z t c d kt kr ow tm) : ∃ w : Int32, Sty sc L n (.int w) 115 203 [.ref 32, .int x1, .int x2, .int x3] [.ref 72, .int x1, .int x2, .int x3] (X, G, Z) := by
  have hT := hK.2.2.2.1
  obtain ⟨I', e, o⟩ := f_chance (G := G) (x := x1) (y := x2) (z := x3) hK.2.1 hW.1 hW.2.1 (Wn_Wb hW) hT.2.1 hT.1 (KT_TX hT)
  refine ⟨_, bth hC hM hK (Wn_n hW (by omega)) ⟨I', fun a _ b1 b2 _ => o a b1 b2, e⟩ (fun Y hY => ?_)⟩
  obtain ⟨G', e1, o1⟩ := s_chance (I := Y) (G := G) (x := x1) (y := x2) (z := x3) hK.2.1 hW.1 (Wn_Wb hW) (by rw [hY 85 (by omega) (by decide) (by decide) (by decide)]; exact hT.2.2.1) hT.1 (KT_MX hT hY)
  exact ⟨Y, G', fun _ _ _ _ => rfl, e1⟩
theorem op_weight (hC : embB 33 X S = X) (hM : emb X S = X) (hW : Wn n S) (hK : Ky sc L n X Z t c d kt kr ow tm) : ∃ w : Int64, Sty sc L n (.long w) 116 205 [.ref 32, .int x1, .int x2] [.ref 72, .int x1, .int x2] (X, G, Z) := by
  have hT := hK.2.2.2.1
  obtain ⟨I', e, o⟩ := f_weight (G := G) (x := x1) (y := x2) hK.2.1 hW.1 hW.2.1 (Wn_Wb hW) hT.2.1 hT.1 (KT_TX hT)
  refine ⟨_, bth hC hM hK (Wn_n hW (by omega)) ⟨I', fun a _ b1 b2 _ => o a b1 b2, e⟩ (fun Y hY => ?_)⟩
  obtain ⟨G', e1, o1⟩ := s_weight (I := Y) (G := G) (x := x1) (y := x2) hK.2.1 hW.1 (Wn_Wb hW) (by rw [hY 85 (by omega) (by decide) (by decide) (by decide)]; exact hT.2.2.1) hT.1 (KT_MX hT hY)
  exact ⟨Y, G', fun _ _ _ _ => rfl, e1⟩
theorem op_odds (hC : embB 33 X S = X) (hM : emb X S = X) (hW : Wn n S) (hK : Ky sc L n X Z t c d kt kr ow tm) : ∃ w : Int32, Sty sc L n (.int w) 117 206 [.ref 32, .int x1, .int x2] [.ref 72, .int x1, .int x2] (X, G, Z) := by
  have hT := hK.2.2.2.1
  obtain ⟨I', e, o⟩ := f_odds (G := G) (x := x1) (y := x2) hK.2.1 hW.1 hW.2.1 (Wn_Wb hW) hT.2.1 hT.1 (KT_TX hT)
  refine ⟨_, bth hC hM hK (Wn_n hW (by omega)) ⟨I', fun a _ b1 b2 _ => o a b1 b2, e⟩ (fun Y hY => ?_)⟩
  obtain ⟨G', e1, o1⟩ := s_odds (I := Y) (G := G) (x := x1) (y := x2) hK.2.1 hW.1 (Wn_Wb hW) (by rw [hY 85 (by omega) (by decide) (by decide) (by decide)]; exact hT.2.2.1) hT.1 (KT_MX hT hY)
  exact ⟨Y, G', fun _ _ _ _ => rfl, e1⟩
theorem op_made (hC : embB 33 X S = X) (hM : emb X S = X) (hW : Wn n S) (hK : Ky sc L n X Z t c d kt kr ow tm) : ∃ w : Int32, Sty sc L n (.int w) 118 207 [.ref 32, .int x1, .int x2, .int x3, .int x4] [.ref 72, .int x1, .int x2, .int x3, .int x4] (X, G, Z) := by
  have hT := hK.2.2.2.1
  obtain ⟨I', e, o⟩ := f_made (G := G) (x := x1) (y := x2) (z := x3) (v := x4) hK.2.1 hW.1 hW.2.1 (Wn_Wb hW) hT.2.1 hT.1 (KT_TX hT)
  refine ⟨_, bth hC hM hK (Wn_n hW (by omega)) ⟨I', fun a _ b1 b2 b3 => o a b1 b2 b3, e⟩ (fun Y hY => ?_)⟩
  obtain ⟨Y1, G', e1, o1, _⟩ := s_made (I := Y) (G := G) (x := x1) (y := x2) (z := x3) (v := x4) hK.2.1 hW.1 (Wn_Wb hW) (by rw [hY 85 (by omega) (by decide) (by decide) (by decide)]; exact hT.2.2.1) hT.1 (KT_MX hT hY)
  exact ⟨Y1, G', fun a q _ _ => o1 a q, e1⟩
theorem op_owed (hC : embB 33 X S = X) (hM : emb X S = X) (hW : Wn n S) (hK : Ky sc L n X Z t c d kt kr ow tm) : ∃ w : Int32, Sty sc L n (.int w) 125 217 [.ref 32] [.ref 72] (X, G, Z) := by
  have hT := hK.2.2.2.2.1
  obtain ⟨I', e, o⟩ := f_owed (G := G) hK.2.1 hW.1 hW.2.1 (Wn_Wb hW) hT.2.1 hT.1 (KR_TX hT)
  refine ⟨_, bth hC hM hK (Wn_n hW (by omega)) ⟨I', fun a _ b1 b2 _ => o a b1 b2, e⟩ (fun Y hY => ?_)⟩
  obtain ⟨G', e1, o1⟩ := s_owed (I := Y) (G := G) hK.2.1 hW.1 (Wn_Wb hW) (by rw [hY 85 (by omega) (by decide) (by decide) (by decide)]; exact hT.2.2.1) hT.1 (fun i hi => by
    obtain ⟨⟨lo, hi', a1, a2, a3, a4, a5, a6⟩, b, _⟩ := hT.2.2.2 i hi
    rw [Nat.add_comm 10 i]
    exact ⟨MX_e b (fun a q1 q2 => emb_86 hY (by omega) q2), a5⟩)
  rw [← owed_eq] at e1
  exact ⟨Y, G', fun _ _ _ _ => rfl, e1⟩
end OPS
