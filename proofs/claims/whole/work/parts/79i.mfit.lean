/-! WHAT TEXTS SAY: the model's side -/
def MX (S : aI) (s : Nat) (ks : List aK) : Prop := S 88 s = iN ks.length ∧ ks.length ≤ 14 ∧ (fla ks).length < 300 ∧ CMs S s ks ∧ ∀ i, i < (fla ks).length → S 86 (300 * s + i) = (enc ((fla ks).getD i 0)).1 ∧ S 87 (300 * s + i) = (enc ((fla ks).getD i 0)).2
/-- the man looked at: the words are laid out -/
def Lk (S : aI) (Z : aZ) (w : Nat → Int) (x : Int32) : Prop := ∀ G : aL, ∃ G' : aL, call 196 [.ref 72, .int x] (S, G, Z) = some (none, (S, G', Z)) ∧ (∀ k, k < 13 → (G' 95 k).toInt = w k) ∧ ∀ b, b ≠ 95 → G' b = G b
section MFT
variable {S : aI} {G : aL} {Z : aZ} {w : Nat → Int}
theorem m_hold_at (hZ : Shp Z) (hwb : ∀ k, k < 13 → -10000000 ≤ w k ∧ w k ≤ 10000000) (hw : ∀ k, k < 13 → (G 95 k).toInt = w k) {rb : Bool} {s i : Nat} (hs : s < 20) {ks l : List aK} {k : aK} (hM : MX S s ks) (hg : ∀ k, k ∈ ks → kg rb k) (hks : ks = ks.take i ++ k :: l) (hi : i + (l.length + 1) = ks.length) : ∃ G' : aL, call 197 [.ref 72, .int (iN (14 * s + i))] (S, G, Z) = some (some (.int (bI (tst w k.2.2.2))), (S, G', Z)) ∧ ∀ b, b ≠ 96 → G' b = G b := by
  obtain ⟨m1, m2, m3, m4, m5⟩ := hM
  obtain ⟨hik, hmem, _⟩ := tk_s hks hi
  have hC := m4 i (by omega)
  rw [hik] at hC
  have hfl : fla ks = fla (ks.take i) ++ (k.2.2.2 ++ fla l) := by
    have := congrArg fla hks
    rw [fla_app] at this
    exact this
  have hlen : (fla ks).length = (fla (ks.take i)).length + (k.2.2.2.length + (fla l).length) := by rw [hfl, List.length_append, List.length_append]
  refine m_holds hZ hwb hw hs (by omega) hC.1 hC.2.1 (fun j hj => ?_) (by omega) (hg k hmem).1
  have := m5 ((fla (ks.take i)).length + j) (by omega)
  have eg : (fla ks).getD ((fla (ks.take i)).length + j) 0 = k.2.2.2.getD j 0 := by
    rw [hfl]
    simp [List.getD_eq_getElem?_getD, List.getElem?_append_right, List.getElem?_append_left hj]
  rw [eg] at this
  exact this
theorem kd_89 {s i : Nat} {ks : List aK} {k : aK} (hC : CM S (14 * s + i) k (fla (ks.take i)).length) (hg : kg false k) : (S 89 (14 * s + i) = 0 ↔ k.1 = 14) ∧ (S 89 (14 * s + i) = 1 ↔ k.1 = 15) ∧ (S 89 (14 * s + i) = 2 ↔ k.1 = 16) := by
  have hm : k.1 = 14 ∨ k.1 = 15 ∨ k.1 = 16 := of_decide_eq_true hg.2.2.1
  obtain ⟨c1, c2, c3, c4, c5, c6⟩ := hC
  rcases hm with q | q | q
  · rw [(c3 q).1, q]; decide
  · rw [c4 q, q]; decide
  · rw [(c5 q).1, q]; decide
theorem m_fitl (hZ : Shp Z) (hwb : ∀ k, k < 13 → -10000000 ≤ w k ∧ w k ≤ 10000000) {s : Nat} {x : Int32} (hs : s < 20) {ks : List aK} (hM : MX S s ks) (hg : ∀ k, k ∈ ks → kg false k) : ∀ (l : List aK) (i : Nat) (b : Bool) (G : aL), ks = ks.take i ++ l → i + l.length = ks.length → (∀ k, k < 13 → (G 95 k).toInt = w k) → ∃ G' : aL, run 6 199 13 [.ref 72, .int (iN s), .int x, .int (bI b), .int (iN (14 * s + i))] [] (S, G, Z) = some (some (.int (bI (b && aw w l))), (S, G', Z)) ∧ ∀ c, c ≠ 96 → G' c = G c := by
  have hlen := hM.2.1
  have e14 : (14 : Int32) * iN s = iN (14 * s) := by rw [show (14 : Int32) = iN 14 from rfl, iN_mul (by omega) (by omega) (by omega)]
  have e88 : ∀ G : aL, mI (S, G, Z) 88 s = iN ks.length := fun _ => hM.1
  have hcs : (iN s).toNatClampNeg = s := iN_clamp (by omega)
  have ib88 : ∀ G : aL, ib (iN s) (mN (S, G, Z) (mR (S, G, Z) 72 39)) := fun G => hZ.ir72_39 (ib_iN (by omega) hs)
  intro l
  induction l with
  | nil =>
    intro i b G _ hi _
    have hi : i = ks.length := hi
    refine ⟨G, Eq.trans (b199_13 hZ.k72 hZ.kr72_39 (ib88 G)) ?_, fun _ _ => rfl⟩
    rw [hZ.r72_39, hcs, e88, e14, iN_add, ← hi]
    refine Eq.trans (if_pos (iN_nlt (by omega))) (Eq.trans (b199_65 rt_b) ?_)
    rw [aw, Bool.and_true]
  | cons k l ih =>
    intro i b G hks hi hw
    rw [List.length_cons] at hi
    obtain ⟨hik, hmem, hks'⟩ := tk_s hks (by omega)
    have hkg := hg k hmem
    have hC := hM.2.2.2.1 i (by omega)
    rw [hik] at hC
    have k89 := kd_89 hC hkg
    have st : run 6 199 13 [.ref 72, .int (iN s), .int x, .int (bI b), .int (iN (14 * s + i))] [] (S, G, Z) = run 6 199 29 [.ref 72, .int (iN s), .int x, .int (bI b), .int (iN (14 * s + i))] [] (S, G, Z) := by
      refine Eq.trans (b199_13 hZ.k72 hZ.kr72_39 (ib88 G)) ?_
      rw [hZ.r72_39, hcs, e88, e14, iN_add]
      exact if_neg (fun z => z ((iN_lt (by omega) (by omega)).mpr (by omega)))
    have s58 : ∀ (b' : Bool) (G1 : aL), run 6 199 58 [.ref 72, .int (iN s), .int x, .int (bI b), .int (iN (14 * s + i))] [.int (bI b')] (S, G1, Z) = run 6 199 13 [.ref 72, .int (iN s), .int x, .int (bI b'), .int (iN (14 * s + (i + 1)))] [] (S, G1, Z) := by
      intro b' G1
      refine Eq.trans b199_58 ?_
      rw [iN_succ]; rfl
    rw [st, b199_29, bI_0, aw]
    have go : ∀ (b' : Bool) (G1 : aL), (∀ c, c ≠ 96 → G1 c = G c) → (b && (if k.1 = 15 ∧ tst w k.2.2.2 = false then false else aw w l)) = (b' && aw w l) → ∃ G' : aL, run 6 199 58 [.ref 72, .int (iN s), .int x, .int (bI b), .int (iN (14 * s + i))] [.int (bI b')] (S, G1, Z) = some (some (.int (bI (b && (if k.1 = 15 ∧ tst w k.2.2.2 = false then false else aw w l)))), (S, G', Z)) ∧ ∀ c, c ≠ 96 → G' c = G c := by
      intro b' G1 h1 h2
      rw [s58, h2]
      obtain ⟨G', q1, q2⟩ := ih (i + 1) b' G1 hks' (by omega) (fun q hq => by rw [h1 95 (by decide)]; exact hw q hq)
      exact ⟨G', q1, fun c hc => by rw [q2 c hc, h1 c hc]⟩
    cases b with
    | false =>
      rw [if_neg (by decide), b199_57]
      exact go false G (fun _ _ => rfl) rfl
    | true =>
      rw [if_pos rfl, b199_33 hZ.k72 hZ.kr72_40 (hZ.ir72_40 (ib_iN (by omega) (by omega))), hZ.r72_40, iN_clamp (by omega), mI_t]
      by_cases k15 : k.1 = 15
      · rw [if_neg (fun z => z (k89.2.1.mpr k15)), b199_44 hZ.k72]
        obtain ⟨G1, h1, h2⟩ := m_hold_at hZ hwb hw hs hM hg hks (by omega)
        rw [h1]
        show ∃ G' : aL, run 6 199 50 [.ref 72, .int (iN s), .int x, .int (bI true), .int (iN (14 * s + i))] [.int (bI (tst w k.2.2.2))] (S, G1, Z) = _ ∧ _
        rw [b199_50, bI_0]
        cases ht : tst w k.2.2.2
        · rw [if_neg (by decide), b199_57]
          rw [ht] at go
          exact go false G1 h2 (by rw [if_pos ⟨k15, rfl⟩]; rfl)
        · rw [if_pos rfl, b199_53]
          rw [ht] at go
          exact go true G1 h2 (by rw [if_neg (by rintro ⟨_, z⟩; cases z)])
      · rw [if_pos (fun z => k15 (k89.2.1.mp z)), b199_53]
        exact go true G (fun _ _ => rfl) (by rw [if_neg (fun z => k15 z.1)])
theorem m_isFit (hZ : Shp Z) (hwb : ∀ k, k < 13 → -10000000 ≤ w k ∧ w k ≤ 10000000) {s : Nat} {x : Int32} (hs : s < 20) {ks : List aK} (hM : MX S s ks) (hg : ∀ k, k ∈ ks → kg false k) (hL : Lk S Z w x) : ∃ G' : aL, call 199 [.ref 72, .int (iN s), .int x] (S, G, Z) = some (some (.int (bI (aw w ks))), (S, G', Z)) ∧ ∀ c, c ≠ 95 → c ≠ 96 → G' c = G c := by
  obtain ⟨G1, l1, l2, l3⟩ := hL G
  obtain ⟨G', q1, q2⟩ := m_fitl (x := x) hZ hwb hs hM hg ks 0 true G1 rfl (by omega) l2
  refine ⟨G', ?_, fun c h1 h2 => by rw [q2 c h2, l3 c h1]⟩
  refine Eq.trans e199 (Eq.trans (b199_0 hZ.k72) ?_)
  rw [l1]
  refine Eq.trans b199_5 ?_
  rw [show (14 : Int32) * iN s = iN (14 * s + 0) by rw [show (14 : Int32) = iN 14 from rfl, iN_mul (by omega) (by omega) (by omega)]; rfl]
  rw [Bool.true_and] at q1
  exact q1
theorem m_chl (hZ : Shp Z) (hwb : ∀ k, k < 13 → -10000000 ≤ w k ∧ w k ≤ 10000000) {s : Nat} {x y : Int32} (hs : s < 20) {ks : List aK} (hM : MX S s ks) (hg : ∀ k, k ∈ ks → kg false k) : ∀ (l : List aK) (i : Nat) (G : aL), ks = ks.take i ++ l → i + l.length = ks.length → (∀ k, k < 13 → (G 95 k).toInt = w k) → ∃ G' : aL, run 6 202 11 [.ref 72, .int (iN s), .int x, .int y, .int (iN (14 * s + i))] [] (S, G, Z) = some (some (.int (ch w y l)), (S, G', Z)) ∧ ∀ c, c ≠ 96 → G' c = G c := by
  have hlen := hM.2.1
  have e14 : (14 : Int32) * iN s = iN (14 * s) := by rw [show (14 : Int32) = iN 14 from rfl, iN_mul (by omega) (by omega) (by omega)]
  have e88 : ∀ G : aL, mI (S, G, Z) 88 s = iN ks.length := fun _ => hM.1
  have hcs : (iN s).toNatClampNeg = s := iN_clamp (by omega)
  have ib88 : ∀ G : aL, ib (iN s) (mN (S, G, Z) (mR (S, G, Z) 72 39)) := fun G => hZ.ir72_39 (ib_iN (by omega) hs)
  intro l
  induction l with
  | nil =>
    intro i G _ hi _
    have hi : i = ks.length := hi
    refine ⟨G, Eq.trans (b202_11 hZ.k72 hZ.kr72_39 (ib88 G)) ?_, fun _ _ => rfl⟩
    rw [hZ.r72_39, hcs, e88, e14, iN_add, ← hi]
    exact Eq.trans (if_pos (iN_nlt (by omega))) b202_72
  | cons k l ih =>
    intro i G hks hi hw
    rw [List.length_cons] at hi
    obtain ⟨hik, hmem, hks'⟩ := tk_s hks (by omega)
    have hkg := hg k hmem
    have hC := hM.2.2.2.1 i (by omega)
    rw [hik] at hC
    have k89 := kd_89 hC hkg
    have hib : ib (iN (14 * s + i)) 280 := ib_iN (by omega) (by omega)
    have hcx : (iN (14 * s + i)).toNatClampNeg = 14 * s + i := iN_clamp (by omega)
    have st : run 6 202 11 [.ref 72, .int (iN s), .int x, .int y, .int (iN (14 * s + i))] [] (S, G, Z) = if ¬ S 89 (14 * s + i) = 2 then run 6 202 66 [.ref 72, .int (iN s), .int x, .int y, .int (iN (14 * s + i))] [] (S, G, Z) else run 6 202 38 [.ref 72, .int (iN s), .int x, .int y, .int (iN (14 * s + i))] [] (S, G, Z) := by
      refine Eq.trans (b202_11 hZ.k72 hZ.kr72_39 (ib88 G)) ?_
      rw [hZ.r72_39, hcs, e88, e14, iN_add]
      refine Eq.trans (if_neg (fun z => z ((iN_lt (by omega) (by omega)).mpr (by omega)))) (Eq.trans (b202_27 hZ.k72 hZ.kr72_40 (hZ.ir72_40 hib)) ?_)
      rw [hZ.r72_40, hcx, mI_t]
    have s66 : ∀ (G1 : aL), run 6 202 66 [.ref 72, .int (iN s), .int x, .int y, .int (iN (14 * s + i))] [] (S, G1, Z) = run 6 202 11 [.ref 72, .int (iN s), .int x, .int y, .int (iN (14 * s + (i + 1)))] [] (S, G1, Z) := by
      intro G1
      refine Eq.trans b202_66 ?_
      rw [iN_succ]; rfl
    rw [st, ch]
    by_cases k16 : k.1 = 16
    · obtain ⟨d1, d2, d3⟩ := hC.2.2.2.2.1 k16
      rw [if_neg (fun z => z d1), b202_38 hZ.k72 hZ.kr72_41 (hZ.ir72_41 hib), hZ.r72_41, hcx, mI_t, d2]
      by_cases hy : k.2.1 = y
      · rw [if_neg (fun z => z hy), b202_49 hZ.k72]
        obtain ⟨G1, h1, h2⟩ := m_hold_at hZ hwb hw hs hM hg hks (by omega)
        rw [h1]
        show ∃ G' : aL, run 6 202 55 [.ref 72, .int (iN s), .int x, .int y, .int (iN (14 * s + i))] [.int (bI (tst w k.2.2.2))] (S, G1, Z) = _ ∧ _
        rw [b202_55, bI_0]
        cases ht : tst w k.2.2.2
        · rw [if_neg (by decide), if_neg (by rintro ⟨_, _, z⟩; cases z), s66]
          obtain ⟨G', q1, q2⟩ := ih (i + 1) G1 hks' (by omega) (fun q hq => by rw [h2 95 (by decide)]; exact hw q hq)
          exact ⟨G', q1, fun c hc => by rw [q2 c hc, h2 c hc]⟩
        · rw [if_pos rfl, if_pos ⟨k16, hy, rfl⟩]
          refine ⟨G1, Eq.trans (b202_58 hZ.k72 hZ.kr72_42 (hZ.ir72_42 hib)) ?_, h2⟩
          rw [hZ.r72_42, hcx, mI_t, d3]
      · rw [if_pos hy, if_neg (fun z => hy z.2.1), s66]
        exact ih (i + 1) G hks' (by omega) hw
    · rw [if_pos (fun z => k16 (k89.2.2.mp z)), if_neg (fun z => k16 z.1), s66]
      exact ih (i + 1) G hks' (by omega) hw
theorem m_ch (hZ : Shp Z) (hwb : ∀ k, k < 13 → -10000000 ≤ w k ∧ w k ≤ 10000000) {s : Nat} {x y : Int32} (hs : s < 20) {ks : List aK} (hM : MX S s ks) (hg : ∀ k, k ∈ ks → kg false k) (hL : Lk S Z w x) : ∃ G' : aL, call 202 [.ref 72, .int (iN s), .int x, .int y] (S, G, Z) = some (some (.int (ch w y ks)), (S, G', Z)) ∧ ∀ c, c ≠ 95 → c ≠ 96 → G' c = G c := by
  obtain ⟨G1, l1, l2, l3⟩ := hL G
  obtain ⟨G', q1, q2⟩ := m_chl (x := x) (y := y) hZ hwb hs hM hg ks 0 G1 rfl (by omega) l2
  refine ⟨G', ?_, fun c h1 h2 => by rw [q2 c h2, l3 c h1]⟩
  refine Eq.trans e202 (Eq.trans (b202_0 hZ.k72) ?_)
  rw [l1]
  refine Eq.trans b202_5 ?_
  rw [show (14 : Int32) * iN s = iN (14 * s + 0) by rw [show (14 : Int32) = iN 14 from rfl, iN_mul (by omega) (by omega) (by omega)]; rfl]
  exact q1
end MFT
