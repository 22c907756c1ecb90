/-! THE CLASS'S READER: a text made; story and rule -/
/-- refs of 64 carried to the row a -/
def txF (Z : aZ) (a : Nat) : Nat → aZ
  | 0 => Z
  | i + 1 => wrZ (txF Z a i) a i (zR Z 64 i)
theorem txF_f {Z : aZ} {a : Nat} : ∀ i, zX (txF Z a i) = zX Z ∧ zU (txF Z a i) = zU Z ∧ (∀ b, zK (txF Z a i) b = zK Z b ∧ zN (txF Z a i) b = zN Z b) ∧ (∀ b j, b ≠ a → zR (txF Z a i) b j = zR Z b j) ∧ ∀ j, j < i → zR (txF Z a i) a j = zR Z 64 j := by
  intro i
  induction i with
  | zero => exact ⟨rfl, rfl, fun _ => ⟨rfl, rfl⟩, fun _ _ _ => rfl, fun j hj => absurd hj (Nat.not_lt_zero _)⟩
  | succ i ih =>
    obtain ⟨h1, h2, h3, h4, h5⟩ := ih
    rw [txF]
    refine ⟨by rw [zX_w]; exact h1, by rw [zU_w]; exact h2, fun b => ?_, fun b j hb => ?_, fun j hj => ?_⟩
    · rw [wr_f.1, wr_f.2]; exact h3 b
    · rw [wr_r (Or.inl hb)]; exact h4 b j hb
    · by_cases e : j = i
      · subst e; rw [wr_s]
      · rw [wr_r (Or.inr e)]; exact h5 j (by omega)
section ST
variable {J : aI} {G : aL} {Z : aZ} {u : Nat → Int32} {n T : Nat}
theorem c_text {r m : Nat} (h80 : 80 ≤ zX Z) (hr : r < zX Z + 32) (hr64 : r ≠ 64) (hm : m ≤ 14) (hk : zK Z r = 8) (h64 : zK Z 64 = 16) (n64 : zN Z 64 = 14) (hc : ∀ j, j < m → zR Z 64 j < zX Z + 32 ∧ zK Z (zR Z 64 j) = 0) : call 92 [.ref r, .ref 64, .int (iN m)] (J, G, Z) = some (none, (cl2 J (zX Z + 32) 0, cl2 G (zX Z + 32) 0, txF (wrZ (nwZ Z 16 m m) r 0 (zX Z + 32)) (zX Z + 32) m)) := by
  have hkept : (if (0 : Int32) < (if (Int32.ofNat (mN (J, G, Z) 64)) < iN m then (Int32.ofNat (mN (J, G, Z) 64)) else iN m) then (if (Int32.ofNat (mN (J, G, Z) 64)) < iN m then (Int32.ofNat (mN (J, G, Z) 64)) else iN m) else 0) = iN m := by
    rw [mN_t, n64, if_neg (show ¬ Int32.ofNat 14 < iN m from fun z => by have := (iN_lt (a := 14) (by omega) (by omega)).mp z; omega)]
    by_cases h0 : m = 0
    · subst h0; rfl
    · rw [if_pos (show (0 : Int32) < iN m from (iN_lt (a := 0) (b := m) (by omega) (by omega)).mpr (by omega))]
  have hcm : (iN m).toNatClampNeg = m := iN_clamp (by omega)
  refine Eq.trans e92 (Eq.trans (b92_0 hk h64 (by rw [hkept]; exact iN_nneg (by omega)) (by rw [hkept, hcm]; omega) (by rw [hkept, hcm, mK_old hr]; exact hk)) ?_)
  rw [hkept, hcm, wN_t, wR_t, mX_t]
  generalize hZ1 : wrZ (nwZ Z 16 m m) r 0 (zX Z + 32) = Z1
  have k1 : ∀ b, b < zX Z + 32 → zK Z1 b = zK Z b ∧ zN Z1 b = zN Z b := fun b hb => by rw [← hZ1, wr_f.1, wr_f.2, (nw_f hb).1, (nw_f hb).2.1]; exact ⟨rfl, rfl⟩
  have r1 : ∀ j, zR Z1 64 j = zR Z 64 j := fun j => by rw [← hZ1, wr_r (Or.inl (Ne.symm hr64)), (nw_f (by omega)).2.2]
  have ra : zR Z1 r 0 = zX Z + 32 := by rw [← hZ1, wr_s]
  have ka : zK Z1 (zX Z + 32) = 16 ∧ zN Z1 (zX Z + 32) = m := by rw [← hZ1, wr_f.1, wr_f.2]; exact nw_k
  have key := loop_up (fun i => run 1 92 26 [.ref r, .ref 64, .int (iN m), .int (iN m), .int (iN i)] [] (cl2 J (zX Z + 32) 0, cl2 G (zX Z + 32) 0, txF Z1 (zX Z + 32) i)) m (fun i hi => by
    obtain ⟨f1, f2, f3, f4, f5⟩ := txF_f (Z := Z1) (a := zX Z + 32) i
    have hci : (iN i).toNatClampNeg = i := iN_clamp (by omega)
    have e0 : ∀ (K : aI) (H : aL), mR (K, H, txF Z1 (zX Z + 32) i) r 0 = zX Z + 32 := fun K H => by rw [mR_t, f4 r 0 (by omega)]; exact ra
    have e64 : ∀ (K : aI) (H : aL), mR (K, H, txF Z1 (zX Z + 32) i) 64 i = zR Z1 64 i := fun K H => by rw [mR_t, f4 64 i (by omega)]
    refine Eq.trans b92_26 (Eq.trans (if_neg (fun z => z ((iN_lt (by omega) (by omega)).mpr hi))) (Eq.trans (b92_32 (by rw [mK_t, (f3 r).1, (k1 r hr).1]; exact hk) (by rw [mK_t, (f3 64).1, (k1 64 (by omega)).1]; exact h64) (by rw [mN_t, (f3 64).2, (k1 64 (by omega)).2, n64]; exact ib_iN (by omega) (by omega)) (by rw [e0, mK_t, (f3 _).1]; exact ka.1) (by rw [e0, mN_t, (f3 _).2, ka.2]; exact ib_iN (by omega) hi) (by rw [hci, e64, mK_t, (f3 _).1, r1, (k1 _ (hc i hi).1).1]; exact (hc i hi).2)) ?_))
    rw [e0, hci, e64, wR_t, iN_succ]
    rfl) 0 (by omega)
  exact Eq.trans key (Eq.trans b92_26 (Eq.trans (if_pos (iN_nlt (by omega))) b92_49))
def stps (ks : List aK) : Nat := match ks with
  | [] => 0
  | k :: ks => k.2.2.2.length + stps ks
theorem stps_app : ∀ (a b : List aK), stps (a ++ b) = stps a + stps b := by
  intro a
  induction a with
  | nil => intro b; show stps b = 0 + stps b; omega
  | cons k a ih => intro b; show k.2.2.2.length + stps (a ++ b) = k.2.2.2.length + stps a + stps b; rw [ih]; omega
/-- what a text's reading leaves: a text at rr, or a fault -/
def OkT (J : aI) (Z : aZ) (X : Option (Option Value × aM)) (q : List aK ⊕ Nat) : Prop := ∃ (J' : aI) (G' : aL) (Z' : aZ) (rr : Nat), X = some (some (.ref rr), (J', G', Z')) ∧ Ex J J' Z Z' ∧ zX Z' ≤ zX Z + 30 ∧ zU Z' ≤ zU Z + 400 ∧ J' 58 4 = 0 ∧ (match q with
  | .inl ks => rr ≠ 0 ∧ TxC J' Z' (zX Z + 32) (zX Z' + 32) rr ks
  | .inr e => rr = 0 ∧ J' 63 7 = iN e)
theorem c_loop {J0 : aI} {Z0 : aZ} (hZ0 : Shp Z0) (hn : n ≤ 400) {r : Bool} : ∀ (f i k c : Nat) (hp : Bool) (acc : List aK) (J : aI) (G : aL) (Z : aZ) (q : List aK ⊕ Nat), txt u n r f i hp (ps u n k) c acc = some q → Ex J0 J Z0 Z → J 58 4 = 0 → RK J u n T k → J 63 6 = iN c → c ≤ 60 → J 63 4 = iN i → i ≤ 14 → J 63 10 = bI hp → acc.length = i → (∀ j, j < i → ClC J Z (zX Z0 + 32) (zX Z + 32) (zR Z 64 j) (acc.getD j k0)) → zX Z ≤ zX Z0 + 2 * i → zU Z ≤ zU Z0 + 4 * i + stps acc → 3 * stps acc ≤ 6 * c + ps u n k → OkT J0 Z0 (run 61 13 34 [.ref 63, .int (bI r), .int (iN i)] [] (J, G, Z)) q := by
  intro f
  induction f with
  | zero => intro i k c hp acc J G Z q h; cases h
  | succ f ih =>
    intro i k c hp acc J G Z q h hE h58 hR h6 hc h4 hi h10 hac hcl hX hU hst
    have hZ : Shp Z := Ex_S hZ0 hE
    have h80 := hZ.2.2
    have h80' := hZ0.2.2
    have hple := ps_le (u := u) (n := n) k
    rw [txt] at h
    have pre : run 61 13 34 [.ref 63, .int (bI r), .int (iN i)] [] (J, G, Z) = (call 14 [.ref 63, .int (bI r)] (J, G, Z)).bind (fun z => run 61 13 45 [.ref 63, .int (bI r), .int (iN i)] (z.1.toList ++ []) z.2) := Eq.trans b13_34 (Eq.trans (if_neg (fun z => by have := (iN_lt (a := 14) (by omega) (by omega)).mp z; omega)) (b13_40 hZ.k63))
    cases hcq : cl u n r i hp (ps u n k) c with
    | none => rw [hcq] at h; cases h
    | some w =>
      rw [hcq] at h
      have s1 := c_clause (G := G) hZ hn hR h6 hc hi h4 h10 hcq
      rw [pre]
      rcases w with ⟨p1, c1, kk⟩ | e
      · obtain ⟨g1, g2, g3, g4, g5, g6, g7⟩ := cl_b hple hc hcq
        have g8 := g7 (stps acc) hst
        obtain ⟨J1, G1, Z1, k1, a1, l1, r1, r2, r3, r4, r5, r6, r7, r8, r9, r10, r11, r12⟩ := s1
        rw [r1]
        have hE1 := Ex_t hE r2
        have hZ1 : Shp Z1 := Ex_S hZ0 hE1
        have hst1 : stps (acc ++ [kk]) = stps acc + kk.2.2.2.length := by rw [stps_app]; rfl
        have hlen1 : (acc ++ [kk]).length = i + 1 := by rw [List.length_append, hac]; rfl
        have hcl1 : ∀ j, j < i + 1 → ClC J1 Z1 (zX Z0 + 32) (zX Z1 + 32) (zR Z1 64 j) ((acc ++ [kk]).getD j k0) := by
          intro j hj
          by_cases e : j = i
          · subst e
            rw [r8]
            have eg : (acc ++ [kk]).getD j k0 = kk := by rw [← hac]; simp
            rw [eg]
            exact ClC_e r12 (by have := hE.1; omega) (Nat.le_refl _) (fun b _ _ => ⟨rfl, rfl, fun _ => rfl, rfl⟩)
          · rw [r9 j e]
            have hlt : j < acc.length := by omega
            have eg : (acc ++ [kk]).getD j k0 = acc.getD j k0 := by simp [List.getD_eq_getElem?_getD, List.getElem?_append_left hlt]
            rw [eg]
            refine ClC_e (hcl j (by omega)) (Nat.le_refl _) (by have := r2.1; omega) (fun b hb1 hb2 => ?_)
            refine ⟨(r2.2.2.1 b hb2).1, (r2.2.2.1 b hb2).2, fun z => r2.2.2.2.1 b z hb2 (by omega), r2.2.2.2.2 b hb2 (by omega) (by omega) (by omega) (by omega) (by omega) (by omega)⟩
        show OkT J0 Z0 (run 61 13 45 [.ref 63, .int (bI r), .int (iN i)] [.int 1] (J1, G1, Z1)) q
        rw [b13_45, if_pos (show ¬ (1 : Int32) = 0 by decide), b13_50 hZ1.k63, c_kind hZ1 hn r3, r4]
        show OkT J0 Z0 (run 61 13 54 [.ref 63, .int (bI r), .int (iN i)] [.int (iN (KK u n p1))] (J1, G1, Z1)) q
        have kb1 := K_b (u := u) (n := n) (p := p1)
        rw [b13_54]
        dsimp only at h
        by_cases e0 : KK u n p1 = 0
        · rw [if_pos e0] at h
          cases h
          rw [if_neg (show ¬ ¬ iN (KK u n p1) = 0 from fun z => z (by rw [e0]; rfl))]
          have kr : mK (wN (J1, G1, Z1) 8 0 1) (mX (J1, G1, Z1) + 32) = 8 := by rw [wN_t, mK_t, mX_t]; exact nw_k.1
          have h80'' := hZ1.2.2
          rw [b13_57 (by rw [mK_old (by omega)]; exact hZ1.k63 (I := J1) (G := G1)) kr, wN_t, mX_t, mR_t, mI_t, cl2_e, if_neg (by omega), r5]
          have hX2 : zX (nwZ Z1 8 0 1) = zX Z1 + 1 := zX_n
          have r63 : zR (nwZ Z1 8 0 1) 63 0 = 64 := by rw [(nw_f (by omega)).2.2]; exact hZ1.r63_0 (I := J1) (G := G1)
          have hct := c_text (J := cl2 J1 (zX Z1 + 32) 0) (G := cl2 G1 (zX Z1 + 32) 0) (Z := nwZ Z1 8 0 1) (r := zX Z1 + 32) (m := i + 1) (by omega) (by omega) (by omega) (by omega) nw_k.1 (by rw [(nw_f (by omega)).1]; exact hZ1.k64 (I := J1) (G := G1)) (by rw [(nw_f (by omega)).2.1]; exact hZ1.n64 (I := J1) (G := G1)) (fun j hj => by
            have q := hcl1 j hj
            have hq2 := q.2.1
            rw [(nw_f (by omega)).2.2, (nw_f hq2).1]
            exact ⟨by omega, q.2.2.1⟩)
          rw [r63, hct]
          show OkT J0 Z0 (run 61 13 72 [.ref 63, .int (bI r), .int (iN i)] [.ref (zX Z1 + 32)] _) _
          rw [b13_72, hX2]
          obtain ⟨f1, f2, f3, f4, f5⟩ := txF_f (Z := wrZ (nwZ (nwZ Z1 8 0 1) 16 (i + 1) (i + 1)) (zX Z1 + 32) 0 (zX Z1 + 1 + 32)) (a := zX Z1 + 1 + 32) (i + 1)
          generalize hZ3 : txF (wrZ (nwZ (nwZ Z1 8 0 1) 16 (i + 1) (i + 1)) (zX Z1 + 32) 0 (zX Z1 + 1 + 32)) (zX Z1 + 1 + 32) (i + 1) = Z3 at f1 f2 f3 f4 f5
          have X3 : zX Z3 = zX Z1 + 2 := by rw [f1, zX_w, zX_n, zX_n]
          have U3 : zU Z3 = zU Z1 + 1 + (i + 1) := by rw [f2, zU_w, zU_n, zU_n]
          have K3 : ∀ b, b < zX Z1 + 32 → zK Z3 b = zK Z1 b ∧ zN Z3 b = zN Z1 b := fun b hb => by
            rw [(f3 b).1, (f3 b).2, wr_f.1, wr_f.2, (nw_f (by rw [hX2]; omega)).1, (nw_f (by rw [hX2]; omega)).2.1, (nw_f hb).1, (nw_f hb).2.1]
            exact ⟨rfl, rfl⟩
          have R3 : ∀ b j, b < zX Z1 + 32 → zR Z3 b j = zR Z1 b j := fun b j hb => by
            rw [f4 b j (by omega), wr_r (Or.inl (by omega)), (nw_f (by rw [hX2]; omega)).2.2, (nw_f hb).2.2]
          have Rr : zR Z3 (zX Z1 + 32) 0 = zX Z1 + 1 + 32 := by rw [f4 _ 0 (by omega), wr_s]
          have Ra : ∀ j, j < i + 1 → zR Z3 (zX Z1 + 1 + 32) j = zR Z1 64 j := fun j hj => by
            rw [f5 j hj, wr_r (Or.inl (by omega)), (nw_f (by rw [hX2]; omega)).2.2, (nw_f (by omega)).2.2]
          have kR : zK Z3 (zX Z1 + 32) = 8 := by rw [(f3 _).1, wr_f.1, (nw_f (by rw [hX2]; omega)).1]; exact nw_k.1
          have kA : zK Z3 (zX Z1 + 1 + 32) = 16 ∧ zN Z3 (zX Z1 + 1 + 32) = i + 1 := by
            rw [(f3 _).1, (f3 _).2, wr_f.1, wr_f.2]
            exact nw_k (Z := nwZ Z1 8 0 1)
          have JJ : ∀ b, b < zX Z1 + 32 → cl2 (cl2 J1 (zX Z1 + 32) 0) (zX Z1 + 1 + 32) 0 b = J1 b := fun b hb => funext fun z => by rw [cl2_e, if_neg (by omega), cl2_e, if_neg (by omega)]
          have hE3 : Ex J0 (cl2 (cl2 J1 (zX Z1 + 32) 0) (zX Z1 + 1 + 32) 0) Z0 Z3 := Ex_t hE1 ⟨by omega, by omega, K3, fun b j hb _ => R3 b j hb, fun b hb _ _ _ _ _ _ => JJ b hb⟩
          have s58 : J1 58 4 = 0 := by rw [r7 58 (by decide) (by decide) (by decide)]; exact h58
          refine ⟨_, _, Z3, zX Z1 + 32, rfl, hE3, by omega, ?_, by rw [JJ 58 (by omega)]; exact s58, ?_⟩
          · have := ps_le (u := u) (n := n) k1
            rw [r4] at this
            omega
          · refine ⟨by omega, by have := hE1.1; omega, by omega, kR, by rw [Rr]; have := hE1.1; omega, by rw [Rr]; omega, by rw [Rr]; exact kA.1, by rw [Rr, kA.2, hlen1], fun j hj => ?_⟩
            rw [hlen1] at hj
            rw [Rr, Ra j hj]
            refine ClC_e (hcl1 j hj) (Nat.le_refl _) (by omega) (fun b hb1 hb2 => ⟨(K3 b hb2).1, (K3 b hb2).2, fun z => R3 b z hb2, JJ b hb2⟩)
        · rw [if_neg e0] at h
          rw [if_pos (show ¬ iN (KK u n p1) = 0 from fun z => e0 ((iN_inj (b := 0) (by omega) (by omega)).mp z)), b13_73 hZ1.k63, show (4 : Int32) = iN 4 from rfl, c_expect hZ1 hn r3 (by omega), r4]
          by_cases e4 : KK u n p1 = 4
          · rw [if_pos e4] at h
            rw [if_pos e4]
            have hp1 : p1 < n := K_lt (u := u) (by omega)
            have g := nx_gt (u := u) hp1
            have en : ps u n (k1 + 1) = nx u n p1 := by rw [ps, r4]
            rw [← en] at h
            have hR2 := RS_at r3 (by rw [r4]; exact hp1)
            have go : run 61 13 78 [.ref 63, .int (bI r), .int (iN i)] [.int 1] (up2 J1 63 3 (iN k1 + 1), G1, Z1) = run 61 13 34 [.ref 63, .int (bI r), .int (iN (i + 1))] [] (up2 J1 63 3 (iN k1 + 1), G1, Z1) := by
              refine Eq.trans b13_78 (Eq.trans (if_pos (by decide)) (Eq.trans b13_83 ?_))
              rw [iN_succ]
            show OkT J0 Z0 (run 61 13 78 [.ref 63, .int (bI r), .int (iN i)] [.int 1] (up2 J1 63 3 (iN k1 + 1), G1, Z1)) q
            rw [go]
            refine ih (i + 1) (k1 + 1) c1 _ _ _ _ _ _ h (Ex_t hE1 Exw) (by rw [up2_a (by decide), r7 58 (by decide) (by decide) (by decide)]; exact h58) hR2.rk hR2.2.2.2.1 g4 (by rw [up2_k (by decide)]; exact r5) (by omega) (by rw [up2_k (by decide)]; exact r6) hlen1 (fun j hj => ?_) (by omega) (by rw [hst1]; omega) (by rw [hst1, en]; omega)
            refine ClC_e (hcl1 j hj) (Nat.le_refl _) (Nat.le_refl _) (fun b hb1 _ => ⟨rfl, rfl, fun _ => rfl, funext fun z => up2_a (by omega)⟩)
          · rw [if_neg e4] at h
            cases h
            rw [if_neg e4]
            refine ⟨_, _, Z1, 0, Eq.trans b13_78 (Eq.trans (if_neg (fun z => z rfl)) b13_81), Ex_t hE1 Exw, by omega, ?_, by rw [up2_a (by decide), r7 58 (by decide) (by decide) (by decide)]; exact h58, rfl, up2_s⟩
            have := ps_le (u := u) (n := n) k1
            rw [r4] at this
            omega
      · obtain ⟨J1, r1, r2, r3, r4⟩ := s1
        rw [r1]
        cases h
        exact ⟨J1, G, Z, 0, Eq.trans b13_45 (Eq.trans (if_neg (fun z => z rfl)) b13_48), Ex_t hE r2, by omega, by omega, by rw [r3 58 (by decide) (by decide) (by decide)]; exact h58, rfl, r4⟩
theorem c_read (hZ : Shp Z) (hn : n ≤ 400) (h4 : J 58 4 = iN n) {r : Bool} {q : List aK ⊕ Nat} (hq : txt (J 59) n r 16 0 false (ps (J 59) n 0) 0 [] = some q) : OkT J Z (call 13 [.ref 63, .int (bI r)] (J, G, Z)) q := by
  obtain ⟨J1, T, r1, r2, r3, r4, r5⟩ := t_scan (G := G) hZ hn h4
  have pre : call 13 [.ref 63, .int (bI r)] (J, G, Z) = run 61 13 34 [.ref 63, .int (bI r), .int (iN 0)] [] (up2 (up2 (up2 (up2 (up2 J1 63 3 0) 63 4 0) 63 6 0) 63 7 0) 63 10 0, G, Z) := by
    refine Eq.trans e13 (Eq.trans (b13_0 hZ.k63 hZ.kr63_2) ?_)
    rw [hZ.r63_2, r1]
    exact Eq.trans (b13_7 hZ.k63) (b13_22 hZ.k63)
  rw [pre]
  generalize hJ2 : up2 (up2 (up2 (up2 (up2 J1 63 3 0) 63 4 0) 63 6 0) 63 7 0) 63 10 0 = J2
  have f : ∀ a, a ≠ 63 → J2 a = J1 a := fun a ha => by rw [← hJ2]; funext z; simp only [up2_a ha]
  have hE : Ex J J2 Z Z := Ex_r (fun b b1 b2 b3 b4 b5 b6 => by rw [f b b5, r2 b b1 b2 b3 b4])
  have hT : Tok J2 (J 59) n T := by
    obtain ⟨t1, t2, t3, t4, t5⟩ := r5
    refine ⟨t1, t2, t3, by rw [f 58 (by decide)]; exact t4, fun j hj => ?_⟩
    rw [f 60 (by decide), f 61 (by decide), f 62 (by decide)]
    exact t5 j hj
  refine c_loop (T := T) hZ hn 16 0 0 0 false [] J2 G Z q hq hE (by rw [f 58 (by decide)]; exact r4) ⟨hT, Nat.zero_le _, ?_⟩ ?_ (by omega) ?_ (by omega) ?_ rfl (fun j hj => absurd hj (Nat.not_lt_zero _)) (by omega) (by show zU Z ≤ zU Z + 4 * 0 + 0; omega) (by show 3 * 0 ≤ _; omega)
  · rw [← hJ2]; rfl
  · rw [← hJ2]; rfl
  · rw [← hJ2]; rfl
  · rw [← hJ2]; rfl
end ST
