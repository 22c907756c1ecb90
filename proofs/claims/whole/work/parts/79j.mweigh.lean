/-! WEIGHTS: the model's; one prior at most -/
def cn14 : List aK → Nat
  | [] => 0
  | k :: ks => (if k.1 = 14 then 1 else 0) + cn14 ks
theorem cn14_app : ∀ (a b : List aK), cn14 (a ++ b) = cn14 a + cn14 b := by
  intro a
  induction a with
  | nil => intro b; show cn14 b = 0 + cn14 b; omega
  | cons k a ih => intro b; show (if k.1 = 14 then 1 else 0) + cn14 (a ++ b) = (if k.1 = 14 then 1 else 0) + cn14 a + cn14 b; rw [ih]; omega
theorem txt_p {u : Nat → Int32} {n : Nat} {r : Bool} : ∀ (f i p c : Nat) (hp : Bool) (acc ks : List aK), txt u n r f i hp p c acc = some (.inl ks) → p ≤ n → c ≤ 60 → (cn14 acc = if hp = true then 1 else 0) → cn14 ks ≤ 1 := by
  intro f
  induction f with
  | zero => intro i p c hp acc ks h; cases h
  | succ f ih =>
    intro i p c hp acc ks h hpn hc ha
    rw [txt] at h
    cases hcl : cl u n r i hp p c with
    | none => rw [hcl] at h; cases h
    | some w =>
      rw [hcl] at h
      rcases w with ⟨p1, c1, k⟩ | e
      · obtain ⟨g1, g2, g3, g4, g5, g6, g7⟩ := cl_b hpn hc hcl
        have hno : k.1 = 14 → hp = false := by
          intro q
          rw [g6] at q
          unfold cl at hcl
          split at hcl
          · cases hcl
          · split at hcl
            · cases hcl
            · rename_i z
              cases hh : hp
              · rfl
              · exact absurd (Or.inr ⟨q, hh⟩) z
        have ha' : cn14 (acc ++ [k]) = if (hp || decide (k.1 = 14)) = true then 1 else 0 := by
          rw [cn14_app, ha]
          show _ + ((if k.1 = 14 then 1 else 0) + 0) = _
          by_cases q : k.1 = 14
          · rw [hno q, if_pos q, decide_eq_true q]; rfl
          · rw [if_neg q, decide_eq_false q, Bool.or_false]; rfl
        dsimp only at h
        split at h
        · cases h
          rw [ha']
          split <;> omega
        · split at h
          · exact ih (i + 1) _ c1 _ _ ks h (nx_le (u := u) g2).2 g4 ha'
          · cases h
      · cases h
def prM (v : Int64) : List aK → Int64
  | [] => v
  | k :: l => prM (if k.1 = 14 then 1000000 * k.2.2.1.toInt64 else v) l
theorem prM_0 : ∀ (l : List aK) (v : Int64), cn14 l = 0 → prM v l = v := by
  intro l
  induction l with
  | nil => intro v _; rfl
  | cons k l ih =>
    intro v h
    have h : (if k.1 = 14 then 1 else 0) + cn14 l = 0 := h
    rw [prM]
    by_cases q : k.1 = 14
    · rw [if_pos q] at h; omega
    · rw [if_neg q]; exact ih v (by omega)
theorem prM_1 : ∀ (l : List aK), cn14 l ≤ 1 → prM 1000000 l = (pr l).toInt64 * 1000000 := by
  intro l
  induction l with
  | nil => intro _; decide
  | cons k l ih =>
    intro h
    have h : (if k.1 = 14 then 1 else 0) + cn14 l ≤ 1 := h
    rw [prM, pr]
    by_cases q : k.1 = 14
    · rw [if_pos q] at h
      rw [if_pos q, if_pos q, prM_0 l _ (by omega), Int64.mul_comm]
    · rw [if_neg q, if_neg q]
      exact ih (by omega)
section MWG
variable {S : aI} {G : aL} {Z : aZ} {w : Nat → Int}
theorem m_prl (hZ : Shp Z) {s : Nat} {x : Int32} (hs : s < 20) {ks : List aK} (hM : MX S s ks) (hg : ∀ k, k ∈ ks → kg false k) : ∀ (l : List aK) (i : Nat) (v : Int64), ks = ks.take i ++ l → i + l.length = ks.length → run 7 204 10 [.ref 72, .int (iN s), .int x, .long v, xU, .int (iN (14 * s + i)), xU] [] (S, G, Z) = run 7 204 59 [.ref 72, .int (iN s), .int x, .long (prM v l), xU, .int (iN (14 * s + ks.length)), xU] [] (S, G, Z) := by
  have hlen := hM.2.1
  have e14 : (14 : Int32) * iN s = iN (14 * s) := by rw [show (14 : Int32) = iN 14 from rfl, iN_mul (by omega) (by omega) (by omega)]
  have e88 : mI (S, G, Z) 88 s = iN ks.length := hM.1
  have hcs : (iN s).toNatClampNeg = s := iN_clamp (by omega)
  have ib88 : ib (iN s) (mN (S, G, Z) (mR (S, G, Z) 72 39)) := hZ.ir72_39 (ib_iN (by omega) hs)
  intro l
  induction l with
  | nil =>
    intro i v _ hi
    have hi : i = ks.length := hi
    refine Eq.trans (b204_10 hZ.k72 hZ.kr72_39 ib88) ?_
    rw [hZ.r72_39, hcs, e88, e14, iN_add, ← hi]
    exact if_pos (iN_nlt (by omega))
  | cons k l ih =>
    intro i v hks hi
    rw [List.length_cons] at hi
    obtain ⟨hik, hmem, hks'⟩ := tk_s hks (by omega)
    have hkg := hg k hmem
    have hC := hM.2.2.2.1 i (by omega)
    rw [hik] at hC
    have k89 := kd_89 hC hkg
    have hib : ib (iN (14 * s + i)) 280 := ib_iN (by omega) (by omega)
    have hcx : (iN (14 * s + i)).toNatClampNeg = 14 * s + i := iN_clamp (by omega)
    refine Eq.trans (b204_10 hZ.k72 hZ.kr72_39 ib88) ?_
    rw [hZ.r72_39, hcs, e88, e14, iN_add]
    refine Eq.trans (if_neg (fun z => z ((iN_lt (by omega) (by omega)).mpr (by omega)))) (Eq.trans (b204_26 hZ.k72 hZ.kr72_40 (hZ.ir72_40 hib)) ?_)
    rw [hZ.r72_40, hcx, mI_t, prM]
    by_cases q : k.1 = 14
    · rw [if_neg (fun z => z (k89.1.mpr q)), if_pos q]
      refine Eq.trans (b204_36 hZ.k72 hZ.kr72_41 (hZ.ir72_41 hib)) (Eq.trans b204_52 ?_)
      rw [hZ.r72_41, hcx, mI_t, (hC.2.2.1 q).2, iN_succ]
      exact ih (i + 1) _ hks' (by omega)
    · rw [if_pos (fun z => q (k89.1.mp z)), if_neg q]
      refine Eq.trans b204_51 (Eq.trans b204_52 ?_)
      rw [iN_succ]
      exact ih (i + 1) _ hks' (by omega)
/-- as wgF, from any weight -/
def wgM (v : Int64) (w : Nat → Int) (ks : List aK) (tl : Nat → Int32) : Nat → Int64
  | 0 => v
  | i + 1 => if tl i = -1 then wgM v w ks tl i else wgM v w ks tl i * (if tl i = 1 then ch w (iN i) ks else 1000 - ch w (iN i) ks).toInt64 / 1000
theorem wgM_0 {ks : List aK} {tl : Nat → Int32} : ∀ i, wgM 0 w ks tl i = 0 := by
  intro i
  induction i with
  | zero => rfl
  | succ i ih =>
    rw [wgM, ih, Int64.zero_mul]
    split <;> rfl
theorem wgM_F {ks : List aK} {tl : Nat → Int32} : ∀ i, wgM ((pr ks).toInt64 * 1000000) w ks tl i = wgF w ks tl i := by
  intro i
  induction i with
  | zero => rfl
  | succ i ih => rw [wgM, wgF, ih]
theorem m_weighs (hZ : Shp Z) (hwb : ∀ k, k < 13 → -10000000 ≤ w k ∧ w k ≤ 10000000) {s : Nat} {x : Int32} (hs : s < 20) {ks : List aK} (hM : MX S s ks) (hg : ∀ k, k ∈ ks → kg false k) (hc : cn14 ks ≤ 1) (hL : Lk S Z w x) : ∃ G' : aL, call 204 [.ref 72, .int (iN s), .int x] (S, G, Z) = some (some (.long (wg w ks (S 97) 16)), (S, G', Z)) ∧ ∀ c, c ≠ 95 → c ≠ 96 → G' c = G c := by
  have hlen := hM.2.1
  obtain ⟨G1, f1, f2⟩ := m_isFit (G := G) (x := x) hZ hwb hs hM hg hL
  have st : call 204 [.ref 72, .int (iN s), .int x] (S, G, Z) = run 7 204 77 [.ref 72, .int (iN s), .int x, .long (if aw w ks = true then (pr ks).toInt64 * 1000000 else 0), xU, .int (iN 0), xU] [] (S, G1, Z) := by
    refine Eq.trans e204 (Eq.trans b204_0 ?_)
    rw [show (14 : Int32) * iN s = iN (14 * s + 0) by rw [show (14 : Int32) = iN 14 from rfl, iN_mul (by omega) (by omega) (by omega)]; rfl, m_prl hZ hs hM hg ks 0 1000000 rfl (by omega), prM_1 ks hc]
    refine Eq.trans (b204_59 hZ.k72) ?_
    rw [f1]
    refine Eq.trans b204_65 ?_
    rw [bI_0]
    cases aw w ks
    · exact Eq.trans b204_72 b204_73
    · exact Eq.trans b204_68 b204_73
  generalize hv : (if aw w ks = true then (pr ks).toInt64 * 1000000 else 0) = v at st
  have fin : wg w ks (S 97) 16 = wgM v w ks (S 97) 16 := by
    unfold wg
    rw [← hv]
    cases aw w ks
    · rw [if_neg (by decide), if_neg (by decide), wgM_0]
    · rw [if_pos rfl, if_pos rfl, wgM_F]
  rw [fin, st]
  have key : ∀ i, i ≤ 16 → ∃ (Gi : aL) (z : Value), (∀ c, c ≠ 95 → c ≠ 96 → Gi c = G c) ∧ run 7 204 77 [.ref 72, .int (iN s), .int x, .long v, xU, .int (iN 0), xU] [] (S, G1, Z) = run 7 204 77 [.ref 72, .int (iN s), .int x, .long (wgM v w ks (S 97) i), xU, .int (iN i), z] [] (S, Gi, Z) := by
    intro i
    induction i with
    | zero => exact fun _ => ⟨G1, xU, f2, rfl⟩
    | succ i ih =>
      intro hi
      obtain ⟨Gi, z, g1, g2⟩ := ih (by omega)
      have hci : (iN i).toNatClampNeg = i := iN_clamp (by omega)
      have hib : ∀ G2 : aL, ib (iN i) (mN (S, G2, Z) (mR (S, G2, Z) 72 48)) := fun G2 => hZ.ir72_48 (ib_iN (by omega) (by omega))
      have s1 : run 7 204 77 [.ref 72, .int (iN s), .int x, .long (wgM v w ks (S 97) i), xU, .int (iN i), z] [] (S, Gi, Z) = if S 97 i = -1 then run 7 204 135 [.ref 72, .int (iN s), .int x, .long (wgM v w ks (S 97) i), xU, .int (iN i), z] [] (S, Gi, Z) else run 7 204 95 [.ref 72, .int (iN s), .int x, .long (wgM v w ks (S 97) i), xU, .int (iN i), z] [] (S, Gi, Z) := by
        refine Eq.trans b204_77 (Eq.trans (if_neg (fun q => q ((iN_lt (b := 16) (by omega) (by omega)).mpr (by omega)))) (Eq.trans (b204_84 hZ.k72 hZ.kr72_48 (hib Gi)) ?_))
        rw [hZ.r72_48, hci, mI_t]
      by_cases hn : S 97 i = -1
      · refine ⟨Gi, z, g1, Eq.trans g2 (Eq.trans s1 (Eq.trans (if_pos hn) (Eq.trans b204_135 ?_)))⟩
        rw [iN_succ, wgM, if_pos hn]
      · obtain ⟨G2, q1, q2⟩ := m_ch (G := Gi) (x := x) (y := iN i) hZ hwb hs hM hg hL
        refine ⟨G2, .int (ch w (iN i) ks), fun c h1 h2 => by rw [q2 c h1 h2, g1 c h1 h2], Eq.trans g2 (Eq.trans s1 (Eq.trans (if_neg hn) (Eq.trans (b204_95 hZ.k72) ?_)))⟩
        rw [q1]
        refine Eq.trans (b204_103 hZ.k72 hZ.kr72_48 (hib G2)) ?_
        rw [hZ.r72_48, hci, mI_t, wgM, if_neg hn]
        by_cases h1' : S 97 i = 1
        · rw [if_neg (fun q => q h1'), if_pos h1']
          refine Eq.trans b204_117 (Eq.trans b204_128 (Eq.trans b204_135 ?_))
          rw [iN_succ]
        · rw [if_pos h1', if_neg h1']
          refine Eq.trans b204_122 (Eq.trans b204_128 (Eq.trans b204_135 ?_))
          rw [iN_succ]
  obtain ⟨Gm, z, g1, g2⟩ := key 16 (Nat.le_refl _)
  exact ⟨Gm, Eq.trans g2 (Eq.trans b204_77 (Eq.trans (if_pos (by decide)) b204_141)), g1⟩
end MWG
