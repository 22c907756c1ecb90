/-! BOTH SIDES IN ONE MEMORY -/
theorem mar_some {a c : Nat} (h : mar a = some c) : (73 ≤ a ∧ a ≤ 83) ∨ a = 97 ∨ (99 ≤ a ∧ a ≤ 103) ∨ (106 ≤ a ∧ a ≤ 108) := by
  unfold mar at h
  split at h <;> first | omega | (cases h; done)
theorem mar_none {a : Nat} (h : ¬ ((73 ≤ a ∧ a ≤ 83) ∨ a = 97 ∨ (99 ≤ a ∧ a ≤ 103) ∨ (106 ≤ a ∧ a ≤ 108))) : mar a = none := by
  cases q : mar a with
  | none => rfl
  | some c => exact absurd (mar_some q) h
theorem emb_off {I : aI} {S : aS} {a : Nat} (h : a ≠ 72) (hm : mar a = none) : emb I S a = I a := by
  funext k
  unfold emb
  rw [if_neg h, hm]
theorem emb_mv2 {X Y : aI} {S : aS} (h : emb X S = X) (h72 : ∀ k j, msc k = some j → Y 72 k = X 72 k) (hY : ∀ a, 73 ≤ a → a ≤ 108 → (a ≤ 83 ∨ a = 97 ∨ (99 ≤ a ∧ a ≤ 103) ∨ 106 ≤ a) → Y a = X a) : emb Y S = Y := by
  refine emb_self (fun k j hm => ?_) (fun a c hm => ?_)
  · rw [h72 k j hm, ← h]
    unfold emb
    rw [if_pos rfl, hm]
  · have := mar_some hm
    rw [hY a (by omega) (by omega) (by omega), ← h]
    funext k
    unfold emb
    rw [if_neg (by omega), hm]
theorem emb_mv {X Y : aI} {S : aS} (h : emb X S = X) (hY : ∀ a, 72 ≤ a → a ≤ 108 → (a ≤ 83 ∨ a = 97 ∨ (99 ≤ a ∧ a ≤ 103) ∨ 106 ≤ a) → Y a = X a) : emb Y S = Y := emb_mv2 h (fun k j _ => by rw [hY 72 (by decide) (by decide) (Or.inl (by decide))]) (fun a q1 q2 q3 => hY a (by omega) q2 q3)
theorem emb_id {Y : aI} {S : aS} : emb (emb Y S) S = emb Y S := by
  refine emb_self (fun k j hm => ?_) (fun a c hm => ?_)
  · unfold emb
    rw [if_pos rfl, hm]
  · have := mar_some hm
    funext k
    unfold emb
    rw [if_neg (by omega), hm]
theorem embB_mv {X Y : aI} {S : aS} (h : embB 33 X S = X) (hY : ∀ a, 33 ≤ a → a < 57 → Y a = X a) : embB 33 Y S = Y := by
  refine embB_self (fun o k ho => ?_)
  have e : Y (33 + o) = X (33 + o) := hY _ (by omega) (by omega)
  rw [cof_I e, e]
  have := congrFun (congrFun h (33 + o)) k
  rw [embB_at ho] at this
  exact this
theorem embB_id {X : aI} {S : aS} : embB 33 (embB 33 X S) S = embB 33 X S := by
  refine embB_self (fun o k ho => ?_)
  rcases cof_dich S o k with q | q
  · rw [embB_at ho]
    exact q _ _ _ _
  · exact q _ _
/-- a text of the class: where it lies, whose those cells are -/
def TKc (I : aI) (Z : aZ) (ow : Nat → Nat) (r : Nat) (rb : Bool) (ks : List aK) : Prop := ∃ lo hi, 112 ≤ lo ∧ hi ≤ zX Z + 32 ∧ TxC I Z lo hi r ks ∧ (∀ b, lo ≤ b → b < hi → ow b = 0) ∧ (∀ k, k ∈ ks → kg rb k) ∧ ks.length ≤ 14
/-- a mark of bth sides -/
def MKc (n : Nat) (I : aI) (Z : aZ) (ow : Nat → Nat) (m : Nat) (T : aS) : Prop := (zR Z 57 m = 0 ∧ I 111 m = 0) ∨ (¬ I 111 m = 0 ∧ 112 ≤ zR Z 57 m ∧ zR Z 57 m + 24 ≤ zX Z + 32 ∧ (∀ b, zR Z 57 m ≤ b → b < zR Z 57 m + 24 → ow b = m + 1) ∧ ShB Z (zR Z 57 m) ∧ Wn n T ∧ MkM I m T ∧ MkC I (zR Z 57 m) T)
def KX (b : Nat) (rb : Bool) (I : aI) (Z : aZ) (ow : Nat → Nat) (c : Nat) (kt : Nat → List aK) : Prop := c ≤ 10 ∧ I 32 (8 + b) = iN c ∧ I 85 b = iN c ∧ ∀ i, i < c → TKc I Z ow (zR Z (69 + b) i) rb (kt i) ∧ MX I (i + 10 * b) (kt i) ∧ cn14 (kt i) ≤ 1
/-- what stays in memory besides the state -/
def Ky (sc : Nat → Int32) (L n : Nat) (I : aI) (Z : aZ) (t c d : Nat) (kt kr : Nat → List aK) (ow : Nat → Nat) (tm : Nat → aS) : Prop := (I 1 = sc ∧ zK Z 1 = 20 ∧ zN Z 1 = L) ∧ Shp Z ∧ Tp I t ∧ KX 0 false I Z ow c kt ∧ KX 1 true I Z ow d kr ∧ (∀ m, m < 4 → MKc n I Z ow m (tm m)) ∧ zX Z ≤ 80 + 30 * n ∧ zU Z ≤ 40000 + 1820 * n
def Iv (sc : Nat → Int32) (L n : Nat) (M : aM) : Prop := ∃ (X : aI) (G : aL) (Z : aZ) (S : aS) (t c d : Nat) (kt kr : Nat → List aK) (ow : Nat → Nat) (tm : Nat → aS), M = (X, G, Z) ∧ embB 33 X S = X ∧ emb X S = X ∧ Wn n S ∧ Ky sc L n X Z t c d kt kr ow tm
section BTH
variable {sc : Nat → Int32} {L n : Nat} {I I' X : aI} {G : aL} {Z : aZ} {S S' : aS} {t c d : Nat} {kt kr : Nat → List aK} {ow : Nat → Nat} {tm : Nat → aS}
theorem TKc_e {r : Nat} {rb : Bool} {ks : List aK} (h : TKc I Z ow r rb ks) (hI : ∀ a, 112 ≤ a → I' a = I a) : TKc I' Z ow r rb ks := by
  obtain ⟨lo, hi, h1, h2, h3, h4, h5, h6⟩ := h
  exact ⟨lo, hi, h1, h2, TxC_e h3 (Nat.le_refl _) (Nat.le_refl _) (fun b q _ => ⟨rfl, rfl, fun _ => rfl, hI b (by omega)⟩), h4, h5, h6⟩
theorem MkC_e {J J' : aI} {b : Nat} {T : aS} (h : MkC J b T) (hI : ∀ a, b ≤ a → a < b + 24 → J' a = J a) : MkC J' b T := by
  intro o k ho hc
  have e : J' (b + o) = J (b + o) := hI _ (by omega) (by omega)
  rw [cof_I e, e]
  exact h o k ho hc
theorem KX_e {b : Nat} {rb : Bool} (h4 : KX b rb I Z ow c kt) (hI : ∀ a, a = 32 ∨ (85 ≤ a ∧ a ≤ 93) ∨ 112 ≤ a → I' a = I a) : KX b rb I' Z ow c kt := by
  unfold KX
  rw [hI 32 (by omega), hI 85 (by omega)]
  refine ⟨h4.1, h4.2.1, h4.2.2.1, fun i hi => ?_⟩
  obtain ⟨a, b, e⟩ := h4.2.2.2 i hi
  exact ⟨TKc_e a (fun a q => hI a (by omega)), MX_e b (fun a q1 q2 => hI a (by omega)), e⟩
theorem Ky_t {t' : Nat} (h : Ky sc L n I Z t c d kt kr ow tm) (hT : Tp I' t') (hI : ∀ a, a = 1 ∨ a = 32 ∨ (85 ≤ a ∧ a ≤ 93) ∨ a = 109 ∨ a = 111 ∨ 112 ≤ a → I' a = I a) : Ky sc L (n + 1) I' Z t' c d kt kr ow tm := by
  obtain ⟨h1, h2, h3, h4, h5, h6, h7, h8⟩ := h
  refine ⟨⟨by rw [hI 1 (by omega)]; exact h1.1, h1.2⟩, h2, hT, KX_e h4 (fun a q => hI a (by omega)), KX_e h5 (fun a q => hI a (by omega)), fun m hm => ?_, by omega, by omega⟩
  unfold MKc
  rw [hI 111 (by omega)]
  rcases h6 m hm with q | ⟨a1, a2, a3, a4, a5, a6, a7, a8⟩
  · exact Or.inl q
  · refine Or.inr ⟨a1, a2, a3, a4, a5, Wn_n a6 (by omega), ?_, MkC_e a8 (fun a q _ => hI a (by omega))⟩
    unfold MkM
    rw [hI 109 (by omega)]
    exact a7
theorem Ky_e (h : Ky sc L n I Z t c d kt kr ow tm) (hI : ∀ a, a = 1 ∨ a = 32 ∨ a = 58 ∨ a = 59 ∨ (84 ≤ a ∧ a ≤ 93) ∨ a = 109 ∨ a = 111 ∨ 112 ≤ a → I' a = I a) (h27 : I' 72 27 = I 72 27) : Ky sc L (n + 1) I' Z t c d kt kr ow tm := by
  refine Ky_t h ?_ (fun a q => hI a (by omega))
  have h3 := h.2.2.1
  unfold Tp
  rw [hI 58 (by omega), hI 59 (by omega), hI 84 (by omega), h27]
  exact h3
def Md (sc : Nat → Int32) (L : Nat) (M : aM) : Prop := mK M 1 = 20 ∧ mN M 1 = L ∧ mI M 1 = sc ∧ mK M 32 = 10 ∧ mK M 72 = 11
def Sty (sc : Nat → Int32) (L n : Nat) (v : Value) (J1 J2 : Nat) (a1 a2 : List Value) (M : aM) : Prop := ∃ M1 M2, call J1 a1 M = some (some v, M1) ∧ Md sc L M1 ∧ call J2 a2 M1 = some (some v, M2) ∧ Iv sc L (n + 1) M2
theorem Ky_md {I' : aI} {G' : aL} (h : Ky sc L n I Z t c d kt kr ow tm) (hI : I' 1 = I 1) : Md sc L (I', G', Z) := ⟨h.1.2.1, h.1.2.2, by show I' 1 = sc; rw [hI]; exact h.1.1, h.2.1.k32, h.2.1.k72⟩
theorem Iv_md {M : aM} (h : Iv sc L n M) : Md sc L M := by
  obtain ⟨X, G, Z, S, t, c, d, kt, kr, ow, tm, rfl, h1, h2, h3, h4⟩ := h
  exact Ky_md h4 rfl
/-- one call on bth sides that changes the state from S to S' -/
theorem bth {v : Value} {J1 J2 : Nat} {a1 a2 : List Value} (hC : embB 33 X S = X) (hM : emb X S = X) (hK : Ky sc L n X Z t c d kt kr ow tm) (hW : Wn (n + 1) S')
    (hf : ∃ X1 : aI, (∀ a, a < 33 ∨ 57 ≤ a → a ≠ 67 → a ≠ 68 → a ≠ 71 → X1 a = X a) ∧ call J1 a1 (embB 33 X S, G, Z) = some (some v, (embB 33 X1 S', G, Z)))
    (hs : ∀ Y : aI, (∀ a, a < 33 ∨ 57 ≤ a → a ≠ 67 → a ≠ 68 → a ≠ 71 → Y a = X a) → ∃ (Y1 : aI) (G' : aL), (∀ a, a ≠ 98 → a ≠ 104 → a ≠ 105 → Y1 a = Y a) ∧ call J2 a2 (emb Y S, G, Z) = some (some v, (emb Y1 S', G', Z))) : Sty sc L n v J1 J2 a1 a2 (X, G, Z) := by
  obtain ⟨X1, f1, f2⟩ := hf
  have eo : ∀ a, a < 33 ∨ 57 ≤ a → embB 33 X1 S' a = X1 a := fun a h => embB_out (by omega)
  have hY : ∀ a, a < 33 ∨ 57 ≤ a → a ≠ 67 → a ≠ 68 → a ≠ 71 → embB 33 X1 S' a = X a := fun a h b1 b2 b3 => by rw [eo a h]; exact f1 a h b1 b2 b3
  obtain ⟨Y1, G', s1, s2⟩ := hs (embB 33 X1 S') hY
  have hYM : emb (embB 33 X1 S') S = embB 33 X1 S' := emb_mv hM (fun a q1 q2 _ => hY a (by omega) (by omega) (by omega) (by omega))
  rw [hC] at f2
  rw [hYM] at s2
  have eW : ∀ a, a ≠ 72 → a ≠ 98 → a ≠ 104 → a ≠ 105 → mar a = none → emb Y1 S' a = embB 33 X1 S' a := fun a q1 q2 q3 q4 q5 => by rw [emb_off q1 q5, s1 a q2 q3 q4]
  refine ⟨_, _, f2, Ky_md hK (hY 1 (by omega) (by decide) (by decide) (by decide)), s2, emb Y1 S', G', Z, S', t, c, d, kt, kr, ow, tm, rfl, ?_, emb_id, hW, Ky_e hK (fun a q => ?_) ?_⟩
  · exact embB_mv embB_id (fun a q1 q2 => eW a (by omega) (by omega) (by omega) (by omega) (mar_none (by omega)))
  · rw [eW a (by omega) (by omega) (by omega) (by omega) (mar_none (by omega))]
    exact hY a (by omega) (by omega) (by omega) (by omega)
  · have e : emb Y1 S' 72 27 = Y1 72 27 := rfl
    rw [e, s1 72 (by decide) (by decide) (by decide), hY 72 (by omega) (by decide) (by decide) (by decide)]
theorem bth_if {v v0 : Int32} {J1 J2 : Nat} {a1 a2 : List Value} {ok : Bool} (hC : embB 33 X S = X) (hM : emb X S = X) (hK : Ky sc L n X Z t c d kt kr ow tm) (hW0 : Wn n S) (hW : ok = true → Wn (n + 1) S')
    (hf : ∃ X1 : aI, (∀ a, a < 33 ∨ 57 ≤ a → a ≠ 67 → a ≠ 68 → a ≠ 71 → X1 a = X a) ∧ call J1 a1 (embB 33 X S, G, Z) = if ok = true then some (some (.int v), (embB 33 X1 S', G, Z)) else some (some (.int v0), (embB 33 X S, G, Z)))
    (hs : ∀ Y : aI, (∀ a, a < 33 ∨ 57 ≤ a → a ≠ 67 → a ≠ 68 → a ≠ 71 → Y a = X a) → ∃ (Y1 : aI) (G' : aL), (∀ a, a ≠ 98 → a ≠ 104 → a ≠ 105 → Y1 a = Y a) ∧ call J2 a2 (emb Y S, G, Z) = if ok = true then some (some (.int v), (emb Y1 S', G', Z)) else some (some (.int v0), (emb Y S, G, Z))) : ∃ w : Int32, Sty sc L n (.int w) J1 J2 a1 a2 (X, G, Z) := by
  cases ok with
  | true =>
    obtain ⟨X1, f1, f2⟩ := hf
    exact ⟨v, bth hC hM hK (hW rfl) ⟨X1, f1, f2⟩ (fun Y hY => hs Y hY)⟩
  | false =>
    obtain ⟨X1, f1, f2⟩ := hf
    refine ⟨v0, bth hC hM hK (Wn_n hW0 (by omega)) ⟨X, fun _ _ _ _ _ => rfl, f2⟩ (fun Y hY => ?_)⟩
    obtain ⟨Y1, G', s1, s2⟩ := hs Y hY
    exact ⟨Y, G, fun _ _ _ _ => rfl, s2⟩
end BTH
