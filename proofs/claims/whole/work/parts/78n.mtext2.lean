/-! A TEXT WHOLE: the model's; it always ends -/
section TXW
variable {G : aL} {Z : aZ} {u : Nat → Int32} {n s : Nat}
theorem cl_some {r : Bool} {i p c : Nat} {hp : Bool} (hn : n ≤ 400) (hpn : p ≤ n) (hc : c ≤ 60) : cl u n r i hp p c ≠ none := by
  unfold cl
  split
  · exact fun z => by cases z
  · split
    · exact fun z => by cases z
    · have hnl := nx_le (u := u) hpn
      cases hh : hd u n (KK u n p) (nx u n p) with
      | inr e => exact fun z => by cases z
      | inl w =>
        obtain ⟨p1, who, num⟩ := w
        have hb := hd_b hnl.2 hh
        dsimp only
        split
        · have hp2 : (if KK u n p = 15 then p1 else nx u n p1) ≤ n := by
            split
            · exact hb.2
            · exact (nx_le (u := u) hb.2).2
          have := par_n (u := u) (n := n) 810 true false false 0 (if KK u n p = 15 then p1 else nx u n p1) c [] hp2 hc (by rw [if_pos rfl]; omega)
          cases hpar : par u n 810 true false false 0 (if KK u n p = 15 then p1 else nx u n p1) c [] with
          | none => exact absurd hpar this
          | some w =>
            rcases w with ⟨p2, c2, l2⟩ | e
            · exact fun z => by cases z
            · exact fun z => by cases z
        · exact fun z => by cases z
theorem txt_some {r : Bool} (hn : n ≤ 400) : ∀ (f i p c : Nat) (hp : Bool) (acc : List aK), 15 ≤ f + i → i ≤ 14 → p ≤ n → c ≤ 60 → ∃ q, txt u n r f i hp p c acc = some q := by
  intro f
  induction f with
  | zero => intro i p c hp acc h1 h2; omega
  | succ f ih =>
    intro i p c hp acc h1 h2 hpn hc
    rw [txt]
    cases hcl : cl u n r i hp p c with
    | none => exact absurd hcl (cl_some hn hpn hc)
    | some w =>
      rcases w with ⟨p1, c1, k⟩ | e
      · obtain ⟨g1, g2, g3, g4, g5, g6, g7⟩ := cl_b hpn hc hcl
        dsimp only
        split
        · exact ⟨_, rfl⟩
        · split
          · exact ih (i + 1) _ c1 _ _ (by omega) (by omega) (nx_le (u := u) g2).2 g4
          · exact ⟨_, rfl⟩
      · exact ⟨_, rfl⟩
def OkX (S : aI) (G : aL) (Z : aZ) (s b cnt : Nat) (X : Option (Option Value × aM)) (q : List aK ⊕ Nat) : Prop := ∃ S' : aI, Fs s S S' ∧ S' 72 27 = 0 ∧ (match q with
  | .inl ks => X = some (some (.int (iN cnt)), (up2 (up2 S' 88 s (iN ks.length)) 85 b (iN (cnt + 1)), G, Z)) ∧ ks.length ≤ 14 ∧ EN S' s (fla ks) ∧ (fla ks).length < 300 ∧ CMs S' s ks
  | .inr e => X = some (some (.int (-2 - iN e)), (S', G, Z)))
theorem m_text (hZ : Shp Z) {S : aI} {ru : Bool} {cnt : Nat} (hT : MT S u n) (hcnt : cnt < 10) (h85 : S 85 (if ru = true then 1 else 0) = iN cnt) (hs : s = (if ru = true then 10 else 0) + cnt) {q : List aK ⊕ Nat} (hq : txt u n ru 16 0 false (ps u n 0) 0 [] = some q) : OkX S G Z s (if ru = true then 1 else 0) cnt (call 190 [.ref 72, .int (bI ru)] (S, G, Z)) q := by
  have hn := hT.1
  have hs20 : s < 20 := by rw [hs]; split <;> omega
  have cb : (bI ru).toNatClampNeg = (if ru = true then 1 else 0) := by cases ru <;> rfl
  have ibb : ib (bI ru) 2 := by
    cases ru
    · exact ib_iN (a := 0) (by decide) (by decide)
    · exact ib_iN (a := 1) (by decide) (by decide)
  have m85 : mI (S, G, Z) 85 (if ru = true then 1 else 0) = iN cnt := h85
  have es : 10 * bI ru + iN cnt = iN s := by
    rw [hs]
    cases ru
    · show 10 * 0 + iN cnt = iN (0 + cnt)
      rw [Nat.zero_add, Int32.mul_zero, Int32.zero_add]
    · show 10 * 1 + iN cnt = iN (10 + cnt)
      rw [Int32.mul_one, show (10 : Int32) = iN 10 from rfl, iN_add]
  have st : call 190 [.ref 72, .int (bI ru)] (S, G, Z) = run 11 190 61 [.ref 72, .int (bI ru), .int (iN 0), .int 1] [] (up2 (up2 (up2 (up2 (up2 (up2 S 72 30 (iN s)) 72 28 0) 72 29 0) 72 31 0) 72 32 0) 72 33 0, G, Z) := by
    refine Eq.trans e190 (Eq.trans (b190_0 hZ.k72 hZ.kr72_36 (hZ.ir72_36 ibb)) ?_)
    rw [hZ.r72_36, cb, m85]
    refine Eq.trans (if_pos (fun z => by have := (iN_inj (b := 10) (by omega) (by omega)).mp z; omega)) (Eq.trans (b190_13 hZ.k72 hZ.kr72_36 (hZ.ir72_36 ibb)) ?_)
    rw [hZ.r72_36, cb, m85, es]
    exact Eq.trans (b190_38 hZ.k72) (Eq.trans b190_53 (Eq.trans b190_57 (if_neg (by decide))))
  rw [st]
  have F1 : Fs s S (up2 (up2 (up2 (up2 (up2 (up2 S 72 30 (iN s)) 72 28 0) 72 29 0) 72 31 0) 72 32 0) 72 33 0) := Fs_t (Fs_w (j := 30) (v := iN s) (by decide) (by decide)) (Fs_t (Fs_w (j := 28) (v := 0) (by decide) (by decide)) (Fs_t (Fs_w (j := 29) (v := 0) (by decide) (by decide)) (Fs_t (Fs_w (j := 31) (v := 0) (by decide) (by decide)) (Fs_t (Fs_w (j := 32) (v := 0) (by decide) (by decide)) (Fs_w (j := 33) (v := 0) (by decide) (by decide))))))
  have h1 : MP (up2 (up2 (up2 (up2 (up2 (up2 S 72 30 (iN s)) 72 28 0) 72 29 0) 72 31 0) 72 32 0) 72 33 0) u n s 0 0 [] := by
    refine ⟨MT_u (MT_u (MT_u (MT_u (MT_u (MT_u hT (by decide)) (by decide)) (by decide)) (by decide)) (by decide)) (by decide), by omega, ?_, ?_, ?_, hs20, ?_, ?_, ?_, fun i hi => absurd hi (Nat.not_lt_zero _)⟩
    · rw [up2_k (by decide), up2_k (by decide), up2_k (by decide), up2_k (by decide), up2_s]; rfl
    · rw [up2_k (by decide), up2_k (by decide), up2_k (by decide), up2_s]
    · rw [up2_k (by decide), up2_k (by decide), up2_k (by decide), up2_k (by decide), up2_k (by decide), up2_s]
    · rw [up2_s]; rfl
    · rw [up2_k (by decide), up2_s]; rfl
    · rw [up2_k (by decide), up2_k (by decide), up2_s]; rfl
  generalize up2 (up2 (up2 (up2 (up2 (up2 S 72 30 (iN s)) 72 28 0) 72 29 0) 72 31 0) 72 32 0) 72 33 0 = S1 at F1 h1 ⊢
  obtain ⟨S2, i2, a1, a2, a3, a4⟩ := m_loop (G := G) hZ (ru := ru) 16 0 (ps u n 0) 0 0 false [] S1 q hq h1 rfl (by omega) (by omega) rfl (fun _ => rfl) (fun j hj => absurd hj (Nat.not_lt_zero _)) (by show 3 * 0 ≤ _; omega)
  rw [a1, b190_162 hZ.k72, wI_t, mI_t, up2_k (by decide)]
  have F2 : Fs s S (up2 S2 72 27 0) := Fs_t F1 (Fs_t a2 (Fs_w (by decide) (by decide)))
  refine ⟨up2 S2 72 27 0, F2, up2_s, ?_⟩
  rcases q with ks | e
  · obtain ⟨b1, b2, b3, b4, b5, b6⟩ := a4
    refine ⟨?_, by omega, ⟨by rw [up2_k (by decide)]; exact b4.1, fun j hj => by rw [up2_a (by decide), up2_a (by decide)]; exact b4.2 j hj⟩, b5, fun j hj => CM_e (b6 j hj) (fun a h1 h2 => up2_a (by omega))⟩
    rw [b3, if_pos (show ¬ (0 : Int32) < 0 by decide)]
    have m30 : mI (up2 S2 72 27 0, G, Z) 72 30 = iN s := by rw [mI_t, up2_k (by decide)]; exact a3
    have q85 : S2 85 (if ru = true then 1 else 0) = iN cnt := by
      rw [a2.1 85 (by decide) (by decide) (by decide) (by decide) (by decide), F1.1 85 (by decide) (by decide) (by decide) (by decide) (by decide)]; exact h85
    refine Eq.trans (b190_182 hZ.k72 hZ.kr72_39 (hZ.ir72_39 (by rw [m30]; exact ib_iN (by omega) hs20)) hZ.kr72_36 (hZ.ir72_36 ibb)) ?_
    have m85' : mI (wI (up2 S2 72 27 0, G, Z) 88 s (iN i2)) 85 (if ru = true then 1 else 0) + 1 = iN (cnt + 1) := by
      rw [wI_t, mI_t, up2_a (by decide), up2_a (by decide), q85, iN_succ]
    rw [m30, hZ.r72_39, hZ.r72_36, iN_clamp (by omega), cb, m85']
    rw [b1, wI_t, wI_t, mI_t, up2_s, iN_pred]
  · obtain ⟨b1, b2, b3⟩ := a4
    have pos : ¬ ¬ (0 : Int32) < S2 72 29 := by
      rw [b1]
      exact fun z => z ((iN_lt (a := 0) (by omega) (by omega)).mpr (by omega))
    rw [if_neg pos, b190_174 hZ.k72, mI_t, up2_k (by decide), b1]
theorem m_text_x (hZ : Shp Z) {S : aI} {ru : Bool} (h85 : S 85 (if ru = true then 1 else 0) = iN 10) : call 190 [.ref 72, .int (bI ru)] (S, G, Z) = some (some (.int (-1)), (S, G, Z)) := by
  have cb : (bI ru).toNatClampNeg = (if ru = true then 1 else 0) := by cases ru <;> rfl
  have ibb : ib (bI ru) 2 := by
    cases ru
    · exact ib_iN (a := 0) (by decide) (by decide)
    · exact ib_iN (a := 1) (by decide) (by decide)
  refine Eq.trans e190 (Eq.trans (b190_0 hZ.k72 hZ.kr72_36 (hZ.ir72_36 ibb)) ?_)
  rw [hZ.r72_36, cb, mI_t, h85]
  exact Eq.trans (if_neg (fun z => z rfl)) b190_11
end TXW
