/-! THE MODEL'S READER: a text -/
def fla : List aK → List Int32
  | [] => []
  | k :: ks => k.2.2.2 ++ fla ks
theorem fla_app : ∀ (a b : List aK), fla (a ++ b) = fla a ++ fla b := by
  intro a
  induction a with
  | nil => intro b; rfl
  | cons k a ih => intro b; show k.2.2.2 ++ fla (a ++ b) = k.2.2.2 ++ fla a ++ fla b; rw [ih, List.append_assoc]
def CMs (S : aI) (s : Nat) (ks : List aK) : Prop := ∀ j, j < ks.length → CM S (14 * s + j) (ks.getD j k0) (fla (ks.take j)).length
def Fs (s : Nat) (S S' : aI) : Prop := (∀ a, a ≠ 72 → a ≠ 86 → a ≠ 87 → a ≠ 94 → a < 89 ∨ 93 < a → S' a = S a) ∧ (∀ j, j < 27 ∨ 34 < j → S' 72 j = S 72 j) ∧ (∀ j, j / 300 ≠ s → S' 86 j = S 86 j ∧ S' 87 j = S 87 j) ∧ ∀ a j, 89 ≤ a → a ≤ 93 → j / 14 ≠ s → S' a j = S a j
theorem Fs_t {s : Nat} {S S1 S2 : aI} (h1 : Fs s S S1) (h2 : Fs s S1 S2) : Fs s S S2 := ⟨fun a x y z w v => by rw [h2.1 a x y z w v, h1.1 a x y z w v], fun j hj => by rw [h2.2.1 j hj, h1.2.1 j hj], fun j hj => by rw [(h2.2.2.1 j hj).1, (h2.2.2.1 j hj).2, (h1.2.2.1 j hj).1, (h1.2.2.1 j hj).2]; exact ⟨rfl, rfl⟩, fun a j p q w => by rw [h2.2.2.2 a j p q w, h1.2.2.2 a j p q w]⟩
theorem Fs_k {s i : Nat} {S S' : aI} (hi : i < 14) (h : Fk s (14 * s + i) S S') : Fs s S S' := ⟨h.1, fun j hj => h.2.1 j (by omega), h.2.2.1, fun a j h1 h2 hj => h.2.2.2 a j h1 h2 (by omega)⟩
theorem Fs_w {s j : Nat} {S : aI} {v : Int32} (h1 : 27 ≤ j) (h2 : j ≤ 34) : Fs s S (up2 S 72 j v) := ⟨fun a h _ _ _ _ => up_o h, fun i hi => up2_k (by omega), fun i _ => ⟨up2_a (by decide), up2_a (by decide)⟩, fun a i h1 h2 _ => up2_a (by omega)⟩
theorem Fs_f {s : Nat} {S S' : aI} (h : Ft s S S') : Fs s S S' := Fs_k (i := 0) (by decide) (Fk_f h)
section MTX
variable {G : aL} {Z : aZ} {u : Nat → Int32} {n s : Nat}
theorem CM_e {S S' : aI} {x e0 : Nat} {k : aK} (h : CM S x k e0) (hk : ∀ a, 89 ≤ a → a ≤ 93 → S' a x = S a x) : CM S' x k e0 := by
  unfold CM at h ⊢
  rw [hk 89 (by decide) (by decide), hk 90 (by decide) (by decide), hk 91 (by decide) (by decide), hk 92 (by decide) (by decide), hk 93 (by decide) (by decide)]
  exact h
theorem hpF_e {S S' : aI} : ∀ i, (∀ j, j < i → S' 89 (14 * s + j) = S 89 (14 * s + j)) → hpF S' s i = hpF S s i := by
  intro i
  induction i with
  | zero => intro _; rfl
  | succ i ih => intro h; rw [hpF, hpF, ih (fun j hj => h j (by omega)), h i (by omega)]
theorem cl_kd {r : Bool} {i : Nat} {hp : Bool} {p c p1 c1 : Nat} {q : aK} (hpn : p ≤ n) (hc : c ≤ 60) (h : cl u n r i hp p c = some (.inl (p1, c1, q))) : mb r q.1 = true := by
  rw [(cl_b hpn hc h).2.2.2.2.2.1]
  unfold cl at h
  cases hm : mb r (KK u n p)
  · rw [hm, if_pos rfl] at h; cases h
  · rfl
def OkL (S : aI) (G : aL) (Z : aZ) (u : Nat → Int32) (n s : Nat) (ru : Bool) (X : Option (Option Value × aM)) (q : List aK ⊕ Nat) : Prop := ∃ (S' : aI) (i' : Nat), X = run 11 190 162 [.ref 72, .int (bI ru), .int (iN i'), .int 0] [] (S', G, Z) ∧ Fs s S S' ∧ S' 72 30 = iN s ∧ (match q with
  | .inl ks => i' = ks.length ∧ i' ≤ 14 ∧ S' 72 29 = 0 ∧ EN S' s (fla ks) ∧ (fla ks).length < 300 ∧ CMs S' s ks
  | .inr e => S' 72 29 = iN e ∧ 1 ≤ e ∧ e < 100000)
theorem m_tail (hZ : Shp Z) {S : aI} {ru : Bool} {i p : Nat} {v : Int32} (hT : MT S u n) (h28 : S 72 28 = iN p) (hp : p ≤ 1000) (h29 : S 72 29 = 0) : run 11 190 89 [.ref 72, .int (bI ru), .int (iN i), .int v] [] (S, G, Z) = if KK u n p = 0 then run 11 190 162 [.ref 72, .int (bI ru), .int (iN i), .int 0] [] (up2 S 72 28 (iN (p + 1)), G, Z) else if KK u n p = 4 then run 11 190 61 [.ref 72, .int (bI ru), .int (iN i), .int 1] [] (up2 S 72 28 (iN (p + 1)), G, Z) else run 11 190 162 [.ref 72, .int (bI ru), .int (iN i), .int 0] [] (up2 (flt S 0 p) 72 28 (iN (p + 1)), G, Z) := by
  have hn := hT.1
  refine Eq.trans (b190_89 hZ.k72) ?_
  rw [mI_t]
  refine Eq.trans (if_neg (fun z => z h29)) (Eq.trans (b190_96 hZ.k72) ?_)
  rw [mI_t, mI_t, h28, hT.2.1]
  have kb := (K_b (u := u) (n := n) (p := p)).2
  have no : ∀ S1 : aI, S1 72 28 = iN p → run 11 190 147 [.ref 72, .int (bI ru), .int (iN i), .int v] [] (S1, G, Z) = run 11 190 162 [.ref 72, .int (bI ru), .int (iN i), .int 0] [] (up2 S1 72 28 (iN (p + 1)), G, Z) := by
    intro S1 h1
    refine Eq.trans b190_147 (Eq.trans (b190_148 hZ.k72) ?_)
    rw [mI_t, h1, wI_t, iN_succ]
    exact Eq.trans b190_57 (if_pos rfl)
  by_cases hlt : p < n
  · have k0 : KK u n p ≠ 0 := fun z => by have := kb z; omega
    rw [if_neg k0]
    refine Eq.trans (if_neg (fun z => z ((iN_lt (by omega) (by omega)).mpr hlt))) (Eq.trans (b190_107 hZ.k72) ?_)
    rw [m_sign hZ hT hp h28]
    refine Eq.trans b190_111 ?_
    by_cases k4 : KK u n p = 4
    · rw [if_pos (K4.1.mpr k4), if_pos k4]
      refine Eq.trans (b190_125 hZ.k72) ?_
      rw [mI_t]
      refine Eq.trans (if_neg (fun z => z h29)) (Eq.trans (b190_132 hZ.k72) ?_)
      rw [mI_t, mI_t, h28, hT.2.1]
      refine Eq.trans (if_neg (fun z => z ((iN_lt (by omega) (by omega)).mpr hlt))) (Eq.trans b190_143 (Eq.trans (b190_148 hZ.k72) ?_))
      rw [mI_t, h28, wI_t, iN_succ]
      exact Eq.trans b190_57 (if_neg (by decide))
    · rw [if_neg (fun z => k4 (K4.1.mp z)), if_neg k4]
      refine Eq.trans (b190_116 hZ.k72) ?_
      rw [mI_t, h28, show (0 : Int32) = iN 0 from rfl, m_fails hZ]
      have ef : flt S 0 p = up2 S 72 29 (iN (ft p 0)) := if_pos h29
      have e29 : ¬ flt S 0 p 72 29 = 0 := by
        rw [ef, up2_s]
        exact iN_ne0 (by unfold ft; omega) (by unfold ft; omega)
      refine Eq.trans (b190_125 hZ.k72) (Eq.trans (if_pos e29) (no _ (by rw [ef, up2_k (by decide)]; exact h28)))
  · have k0 : KK u n p = 0 := (K_end hlt).1
    rw [if_pos k0]
    refine Eq.trans (if_pos (fun z => hlt ((iN_lt (by omega) (by omega)).mp z))) (Eq.trans (b190_125 hZ.k72) ?_)
    rw [mI_t]
    refine Eq.trans (if_neg (fun z => z h29)) (Eq.trans (b190_132 hZ.k72) ?_)
    rw [mI_t, mI_t, h28, hT.2.1]
    exact Eq.trans (if_pos (fun z => hlt ((iN_lt (by omega) (by omega)).mp z))) (no S h28)
theorem m_tail_f (hZ : Shp Z) {S : aI} {ru : Bool} {i p e : Nat} {v : Int32} (h : MF S u n s e p) : run 11 190 89 [.ref 72, .int (bI ru), .int (iN i), .int v] [] (S, G, Z) = run 11 190 162 [.ref 72, .int (bI ru), .int (iN i), .int 0] [] (up2 S 72 28 (iN (p + 1)), G, Z) := by
  refine Eq.trans (b190_89 hZ.k72) ?_
  rw [mI_t]
  refine Eq.trans (if_pos h.ne) (Eq.trans (b190_125 hZ.k72) ?_)
  rw [mI_t]
  refine Eq.trans (if_pos h.ne) (Eq.trans b190_147 (Eq.trans (b190_148 hZ.k72) ?_))
  rw [mI_t, h.p, wI_t, iN_succ]
  exact Eq.trans b190_57 (if_pos rfl)
theorem m_loop (hZ : Shp Z) {ru : Bool} : ∀ (f i p c r : Nat) (hp : Bool) (acc : List aK) (S : aI) (q : List aK ⊕ Nat), txt u n ru f i hp p c acc = some q → MP S u n s r c (fla acc) → sk u n r = p → c ≤ 60 → i ≤ 14 → acc.length = i → (ru = false → hpF S s i = hp) → CMs S s acc → 3 * (fla acc).length ≤ 6 * c + p → OkL S G Z u n s ru (run 11 190 61 [.ref 72, .int (bI ru), .int (iN i), .int 1] [] (S, G, Z)) q := by
  intro f
  induction f with
  | zero => intro i p c r hp acc S q h; cases h
  | succ f ih =>
    intro i p c r hp acc S q hq h hsk hc hi hac hhp hcm hB
    have hn := h.t.1
    have hrn := h.r1
    have hpn : p ≤ n := by rw [← hsk]; exact (sk_b hrn).2.1
    have h1 := h.at hpn
    have F1 : Fs s S (up2 S 72 28 (iN p)) := Fs_w (by decide) (by decide)
    rw [txt] at hq
    cases hcl : cl u n ru i hp p c with
    | none => rw [hcl] at hq; cases hq
    | some w =>
      rw [hcl] at hq
      have hhp1 : ru = false → hpF (up2 S 72 28 (iN p)) s i = hp := fun z => by rw [hpF_e i (fun j _ => up2_a (by decide))]; exact hhp z
      have hK : ∃ X, OkK (up2 S 72 28 (iN p)) G Z u n s (if i < 14 then 14 * s + i else 14 * s) (fla acc) X w ∧ run 11 190 61 [.ref 72, .int (bI ru), .int (iN i), .int 1] [] (S, G, Z) = X.bind (fun z => run 11 190 (if ru = true then 82 else 74) [.ref 72, .int (bI ru), .int (iN i), .int 1] (z.1.toList ++ []) z.2) := by
        have st : run 11 190 61 [.ref 72, .int (bI ru), .int (iN i), .int 1] [] (S, G, Z) = run 11 190 65 [.ref 72, .int (bI ru), .int (iN i), .int 1] [] (up2 S 72 28 (iN p), G, Z) := by
          refine Eq.trans (b190_61 hZ.k72) ?_
          rw [m_blanks hZ h.t (by omega) h.p, hsk]
          rfl
        rw [st]
        cases ru with
        | false =>
          rw [← hhp1 rfl] at hcl
          refine ⟨_, m_sc (G := G) hZ h1 hi hc hB hcl (fun z => if_pos z), ?_⟩
          refine Eq.trans b190_65 (Eq.trans (if_neg (fun z => z rfl)) (b190_69 hZ.k72))
        | true =>
          refine ⟨_, m_rc (G := G) hZ h1 hi hc hB hcl (fun z => if_pos z), ?_⟩
          exact Eq.trans b190_65 (Eq.trans (if_pos (by decide)) (b190_77 hZ.k72))
      obtain ⟨X, hK, hX⟩ := hK
      rw [hX]
      have nxt : ∀ M : aM, run 11 190 (if ru = true then 82 else 74) [.ref 72, .int (bI ru), .int (iN i), .int 1] [] M = run 11 190 82 [.ref 72, .int (bI ru), .int (iN i), .int 1] [] M := by
        intro M
        cases ru with
        | false => exact b190_74
        | true => rfl
      have s82 : ∀ (S2 : aI) (r2 : Nat), MT S2 u n → S2 72 28 = iN r2 → r2 ≤ 1000 → run 11 190 82 [.ref 72, .int (bI ru), .int (iN i), .int 1] [] (S2, G, Z) = run 11 190 89 [.ref 72, .int (bI ru), .int (iN (i + 1)), .int 1] [] (up2 S2 72 28 (iN (sk u n r2)), G, Z) := by
        intro S2 r2 ht hr2 hb
        refine Eq.trans (b190_82 hZ.k72) ?_
        rw [m_blanks hZ ht hb hr2, iN_succ]
        rfl
      rcases w with ⟨p1, c1, k⟩ | e
      · obtain ⟨g1, g2, g3, g4, g5, g6, g7⟩ := cl_b hpn hc hcl
        have hmb := cl_kd hpn hc hcl
        have g8 := g7 (fla acc).length hB
        rw [if_pos g5] at hK
        obtain ⟨S2, r2, a1, a2, a3, a4, a5⟩ := hK
        rw [a1]
        dsimp only at hq
        show OkL S G Z u n s ru (run 11 190 (if ru = true then 82 else 74) [.ref 72, .int (bI ru), .int (iN i), .int 1] [] (S2, G, Z)) q
        have hr2 := a3.r1
        rw [nxt, s82 S2 r2 a3.t a3.p (by omega), a4]
        have h3 := a3.at g2
        have hs1 : 14 * s + i < 14 * s + i + 1 := by omega
        have hcm3 : CMs (up2 S2 72 28 (iN p1)) s (acc ++ [k]) := by
          intro j hj
          rw [List.length_append, hac] at hj
          have hj' : j < i + 1 := hj
          by_cases e : j = i
          · subst e
            have eg : (acc ++ [k]).getD j k0 = k := by rw [← hac]; simp
            have et : (acc ++ [k]).take j = acc := by rw [← hac]; simp
            rw [eg, et]
            exact CM_e a5 (fun a h1 h2 => up2_a (by omega))
          · have hlt : j < acc.length := by omega
            have eg : (acc ++ [k]).getD j k0 = acc.getD j k0 := by simp [List.getD_eq_getElem?_getD, List.getElem?_append_left hlt]
            have et : (acc ++ [k]).take j = acc.take j := List.take_append_of_le_length (by omega)
            rw [eg, et]
            refine CM_e (hcm j (by omega)) (fun a h1 h2 => ?_)
            rw [up2_a (by omega), a2.2.2.2 a _ h1 h2 (by omega), up2_a (by omega)]
        have hfla : fla (acc ++ [k]) = fla acc ++ k.2.2.2 := by rw [fla_app]; show fla acc ++ (k.2.2.2 ++ []) = _; rw [List.append_nil]
        have hac3 : (acc ++ [k]).length = i + 1 := by rw [List.length_append, hac]; rfl
        have F3 : Fs s S (up2 S2 72 28 (iN p1)) := Fs_t F1 (Fs_t (Fs_k g5 a2) (Fs_w (by decide) (by decide)))
        have hhp3 : ru = false → hpF (up2 S2 72 28 (iN p1)) s (i + 1) = (hp || decide (k.1 = 14)) := by
          intro z
          have hm : k.1 = 14 ∨ k.1 = 15 ∨ k.1 = 16 := by
            rw [z] at hmb
            exact of_decide_eq_true hmb
          have e1 : hpF (up2 S2 72 28 (iN p1)) s i = hp := by
            rw [← hhp z]
            refine hpF_e i (fun j hj => ?_)
            rw [up2_a (by decide), a2.2.2.2 89 _ (by decide) (by decide) (by omega), up2_a (by decide)]
          rw [hpF, e1]
          have e2 : up2 S2 72 28 (iN p1) 89 (14 * s + i) = S2 89 (14 * s + i) := up2_a (by decide)
          rw [e2]
          rcases hm with y | y | y
          · rw [decide_eq_true y, decide_eq_true (a5.2.2.1 y).1]
          · rw [decide_eq_false (show ¬ k.1 = 14 by omega), a5.2.2.2.1 y]; rfl
          · rw [decide_eq_false (show ¬ k.1 = 14 by omega), (a5.2.2.2.2.1 y).1]; rfl
        generalize hS3 : up2 S2 72 28 (iN p1) = S3 at h3 hcm3 F3 hhp3 ⊢
        have ls : (fla (acc ++ [k])).length = (fla acc).length + k.2.2.2.length := by rw [hfla, List.length_append]
        rw [m_tail hZ h3.t h3.p (by omega) h3.f]
        by_cases k0' : KK u n p1 = 0
        · rw [if_pos k0'] at hq ⊢
          cases hq
          refine ⟨_, i + 1, rfl, Fs_t F3 (Fs_w (by decide) (by decide)), by rw [up2_k (by decide)]; exact h3.s1, hac3.symm, by omega, by rw [up2_k (by decide)]; exact h3.f, ⟨by rw [up2_k (by decide), hfla]; exact h3.e.1, fun j hj => by rw [up2_a (by decide), up2_a (by decide), hfla]; rw [hfla] at hj; exact h3.e.2 j hj⟩, by omega, fun j hj => CM_e (hcm3 j hj) (fun a h1 h2 => up2_a (by omega))⟩
        · rw [if_neg k0'] at hq ⊢
          by_cases k4 : KK u n p1 = 4
          · rw [if_pos k4] at hq ⊢
            obtain ⟨t1, t2⟩ := K4.2 k4
            have hg := nx_gt (u := u) t1
            have h4 := h3.at (r' := p1 + 1) (by omega)
            have := ih (i + 1) (nx u n p1) c1 (p1 + 1) _ (acc ++ [k]) (up2 S3 72 28 (iN (p1 + 1))) q hq (by rw [hfla]; exact h4) (by rw [nx_e t1, t2]) g4 (by omega) hac3 (fun z => by rw [hpF_e (i + 1) (fun j _ => up2_a (by decide))]; exact hhp3 z) (fun j hj => CM_e (hcm3 j hj) (fun a h1 h2 => up2_a (by omega))) (by omega)
            obtain ⟨S', i', b1, b2, b3, b4⟩ := this
            exact ⟨S', i', b1, Fs_t F3 (Fs_t (Fs_w (by decide) (by decide)) b2), b3, b4⟩
          · rw [if_neg k4] at hq ⊢
            cases hq
            obtain ⟨f1, f2, f3⟩ := h3.fl (w := 0) (p := p1) (by decide) (by omega)
            exact ⟨_, i + 1, rfl, Fs_t F3 (Fs_t (Fs_f f3) (Fs_w (by decide) (by decide))), by rw [up2_k (by decide)]; exact f2.s1, by rw [up2_k (by decide)]; exact f2.f, f2.e1, f2.e2⟩
      · cases hq
        obtain ⟨S2, r2, a1, a2, a3, a4⟩ := hK
        rw [a1]
        show OkL S G Z u n s ru (run 11 190 (if ru = true then 82 else 74) [.ref 72, .int (bI ru), .int (iN i), .int 1] [] (S2, G, Z)) (.inr e)
        have a5 := a3.at (r' := sk u n r2)
        rw [nxt, s82 S2 r2 a3.t a3.p a4, m_tail_f hZ a5]
        have a6 := a5.at (r' := sk u n r2 + 1)
        refine ⟨_, i + 1, rfl, Fs_t F1 (Fs_t ?_ (Fs_t (Fs_w (j := 28) (v := iN (sk u n r2)) (by decide) (by decide)) (Fs_w (by decide) (by decide)))), a6.s1, a6.f, a6.e1, a6.e2⟩
        by_cases hi14 : i < 14
        · rw [if_pos hi14] at a2
          exact Fs_k hi14 a2
        · rw [if_neg hi14] at a2
          exact Fs_k (i := 0) (by decide) a2
end MTX
