/-! CLAUSES AS THEY ARE READ ARE GOOD -/
def kg (r : Bool) (k : aK) : Prop := (k.2.2.2 ≠ [] → cks k.2.2.2 [] = some [0]) ∧ k.2.2.2.length < 300 ∧ mb r k.1 = true ∧ (k.1 = 14 → inB k.2.2.1 1 9999 = true) ∧ (k.1 = 16 → inB k.2.1 0 15 = true ∧ inB k.2.2.1 0 1000 = true) ∧ (k.1 = 17 → inB k.2.1 0 9 = true ∧ inB k.2.2.1 1 9999 = true)
section KGD
variable {u : Nat → Int32} {n : Nat}
theorem VV3 {p : Nat} (h : KK u n p = 3) : inB (VV u n p) 0 15 = true := by
  obtain ⟨t1, t2, t3⟩ := K3.2 h
  have := K3.1.mpr h
  rw [show sg u n p = u p from if_pos t1, inB_iff] at this
  rw [t3, inB_iff, ti_sub (by rw [show (65 : Int32).toInt = 65 from rfl]; omega) (by rw [show (65 : Int32).toInt = 65 from rfl]; omega), show (65 : Int32).toInt = 65 from rfl]
  omega
theorem hd_v {kd p p1 : Nat} {who num : Int32} (h : hd u n kd p = .inl (p1, who, num)) : (kd = 14 → inB num 1 9999 = true) ∧ (kd = 16 → inB who 0 15 = true ∧ inB num 0 1000 = true) ∧ (kd = 17 → inB who 0 9 = true ∧ inB num 1 9999 = true) := by
  unfold hd at h
  by_cases k14 : kd = 14
  · rw [if_pos k14] at h
    cases hp : pN u n 1 9999 p with
    | inr e => rw [hp] at h; cases h
    | inl w =>
      obtain ⟨q, v⟩ := w
      rw [hp] at h
      cases h
      exact ⟨fun _ => (pN_b hp).2.2, fun z => by omega, fun z => by omega⟩
  · rw [if_neg k14] at h
    by_cases k16 : kd = 16
    · rw [if_pos k16] at h
      by_cases k3 : KK u n p = 3
      · rw [if_pos k3] at h
        cases hp : pN u n 0 1000 (nx u n p) with
        | inr e => rw [hp] at h; cases h
        | inl w =>
          obtain ⟨q, v⟩ := w
          rw [hp] at h
          cases h
          exact ⟨fun z => by omega, fun _ => ⟨VV3 k3, (pN_b hp).2.2⟩, fun z => by omega⟩
      · rw [if_neg k3] at h; cases h
    · rw [if_neg k16] at h
      by_cases k17 : kd = 17
      · rw [if_pos k17] at h
        cases hp : pN u n 0 9 p with
        | inr e => rw [hp] at h; cases h
        | inl w =>
          obtain ⟨q, m⟩ := w
          rw [hp] at h
          dsimp only at h
          by_cases k18 : KK u n q = 18
          · rw [if_pos k18] at h
            cases hp2 : pN u n 1 9999 (nx u n q) with
            | inr e => rw [hp2] at h; cases h
            | inl w2 =>
              obtain ⟨q2, v⟩ := w2
              rw [hp2] at h
              cases h
              exact ⟨fun z => by omega, fun z => by omega, fun _ => ⟨(pN_b hp).2.2, (pN_b hp2).2.2⟩⟩
          · rw [if_neg k18] at h; cases h
      · exact ⟨fun z => absurd z k14, fun z => absurd z k16, fun z => absurd z k17⟩
theorem cl_kg {r : Bool} {i : Nat} {hp : Bool} {p c p1 c1 : Nat} {k : aK} (hn : n ≤ 400) (hpn : p ≤ n) (hc : c ≤ 60) (h : cl u n r i hp p c = some (.inl (p1, c1, k))) : kg r k := by
  have hm := cl_kd hpn hc h
  obtain ⟨g1, g2, g3, g4, g5, g6, g7⟩ := cl_b hpn hc h
  have g8 := g7 0 (by omega)
  unfold cl at h
  split at h
  · cases h
  · split at h
    · cases h
    · have hnl := nx_le (u := u) hpn
      cases hh : hd u n (KK u n p) (nx u n p) with
      | inr e => rw [hh] at h; cases h
      | inl w =>
        obtain ⟨q1, who, num⟩ := w
        rw [hh] at h
        dsimp only at h
        have hb := hd_b hnl.2 hh
        obtain ⟨v1, v2, v3⟩ := hd_v hh
        split at h
        · have hp2 : (if KK u n p = 15 then q1 else nx u n q1) ≤ n := by
            split
            · exact hb.2
            · exact (nx_le (u := u) hb.2).2
          cases hpar : par u n 810 true false false 0 (if KK u n p = 15 then q1 else nx u n q1) c [] with
          | none => rw [hpar] at h; cases h
          | some w =>
            rw [hpar] at h
            rcases w with ⟨p2, c2, l2⟩ | e
            · cases h
              exact ⟨fun _ => test_ck hp2 hc hpar, by omega, hm, v1, v2, v3⟩
            · cases h
        · cases h
          exact ⟨fun z => absurd rfl z, by omega, hm, v1, v2, v3⟩
theorem txt_kg {r : Bool} (hn : n ≤ 400) : ∀ (f i p c : Nat) (hp : Bool) (acc ks : List aK), txt u n r f i hp p c acc = some (.inl ks) → p ≤ n → c ≤ 60 → (∀ k, k ∈ acc → kg r k) → ∀ k, k ∈ ks → kg r k := by
  intro f
  induction f with
  | zero => intro i p c hp acc ks h; cases h
  | succ f ih =>
    intro i p c hp acc ks h hpn hc ha
    rw [txt] at h
    cases hcl : cl u n r i hp p c with
    | none => rw [hcl] at h; cases h
    | some w =>
      rw [hcl] at h
      rcases w with ⟨p1, c1, k⟩ | e
      · obtain ⟨g1, g2, g3, g4, g5, g6, g7⟩ := cl_b hpn hc hcl
        have hk := cl_kg hn hpn hc hcl
        have ha' : ∀ k', k' ∈ acc ++ [k] → kg r k' := by
          intro k' hk'
          rw [List.mem_append] at hk'
          rcases hk' with z | z
          · exact ha k' z
          · rw [List.mem_singleton] at z; rw [z]; exact hk
        dsimp only at h
        split at h
        · cases h; exact ha'
        · split at h
          · exact ih (i + 1) _ c1 _ _ ks h (nx_le (u := u) g2).2 g4 ha'
          · cases h
      · cases h
end KGD
/-! what texts say -/
def aw (w : Nat → Int) (ks : List aK) : Bool := match ks with
  | [] => true
  | k :: ks => if k.1 = 15 ∧ tst w k.2.2.2 = false then false else aw w ks
def ch (w : Nat → Int) (y : Int32) (ks : List aK) : Int32 := match ks with
  | [] => 500
  | k :: ks => if k.1 = 16 ∧ k.2.1 = y ∧ tst w k.2.2.2 = true then k.2.2.1 else ch w y ks
def pr (ks : List aK) : Int32 := match ks with
  | [] => 1
  | k :: ks => if k.1 = 14 then k.2.2.1 else pr ks
section CJT
variable {G : aL} {Z : aZ} {w : Nat → Int}
theorem TxC_68 {J J' : aI} {lo hi r : Nat} {ks : List aK} (h : TxC J Z lo hi r ks) (hlo : 69 ≤ lo) (hJ : ∀ b, b ≠ 68 → J' b = J b) : TxC J' Z lo hi r ks := TxC_e h (Nat.le_refl _) (Nat.le_refl _) (fun b h1 _ => ⟨rfl, rfl, fun _ => rfl, hJ b (by omega)⟩)
theorem iN_kd {k c : Nat} (h : k < 100) (hc : c < 100) : iN k = iN c ↔ k = c := iN_inj (by omega) (by omega)
theorem mb_lt {r : Bool} {k : Nat} (h : mb r k = true) : k < 100 := by
  unfold mb at h
  split at h
  · have := of_decide_eq_true h; omega
  · have := of_decide_eq_true h; omega
theorem c_all (hZ : Shp Z) (hwb : ∀ k, k < 13 → -10000000 ≤ w k ∧ w k ≤ 10000000) {rb : Bool} {lo hi r : Nat} {ks : List aK} (hlo : 69 ≤ lo) (hg : ∀ k, k ∈ ks → kg rb k) (hl : ks.length ≤ 14) : ∀ (l : List aK) (i : Nat) (J : aI) (v : Value), ks = ks.take i ++ l → i + l.length = ks.length → TxC J Z lo hi r ks → (∀ k, k < 13 → (J 67 k).toInt = w k) → ∃ J' : aI, run 5 7 2 [.ref 66, .ref r, .int (iN i), v] [] (J, G, Z) = some (some (.int (bI (aw w l))), (J', G, Z)) ∧ ∀ b, b ≠ 68 → J' b = J b := by
  intro l
  induction l with
  | nil =>
    intro i J v _ hi' hT hw
    have hi' : i = ks.length := hi'
    have hT' := hT
    obtain ⟨t1, t2, t3, t4, t5, t6, t7, t8⟩ := hT
    refine ⟨J, Eq.trans (b7_2 t3 t6) ?_, fun _ _ => rfl⟩
    rw [show mN (J, G, Z) (mR (J, G, Z) r 0) = ks.length from t7, hi']
    exact Eq.trans (if_pos (iN_nlt (by omega))) b7_43
  | cons k l ih =>
    intro i J v hks hi' hT hw
    rw [List.length_cons] at hi'
    have hT' := hT
    obtain ⟨t1, t2, t3, t4, t5, t6, t7, t8⟩ := hT
    have hik : ks.getD i k0 = k := by
      rw [hks]
      have : (ks.take i).length = i := by rw [List.length_take]; omega
      simp [List.getD_eq_getElem?_getD, List.getElem?_append_right, this]
    have hmem : k ∈ ks := by rw [hks]; simp
    have hkg := hg k hmem
    have hC := t8 i (by omega)
    rw [hik] at hC
    have hks' : ks = ks.take (i + 1) ++ l := by
      have e1 : ks.take (i + 1) = ks.take i ++ [k] := by
        rw [List.take_succ]
        have : ks[i]? = some k := by
          have h2 : i < ks.length := by omega
          rw [List.getD_eq_getElem?_getD, List.getElem?_eq_getElem h2] at hik
          rw [List.getElem?_eq_getElem h2]
          simpa using hik
        rw [this]; rfl
      rw [e1, List.append_assoc]
      exact hks
    have hcl : (iN i).toNatClampNeg = i := iN_clamp (by omega)
    have st : run 5 7 2 [.ref 66, .ref r, .int (iN i), v] [] (J, G, Z) = if ¬ iN k.1 = 15 then run 5 7 37 [.ref 66, .ref r, .int (iN i), .ref (zR Z (zR Z r 0) i)] [] (J, G, Z) else run 5 7 27 [.ref 66, .ref r, .int (iN i), .ref (zR Z (zR Z r 0) i)] [] (J, G, Z) := by
      refine Eq.trans (b7_2 t3 t6) ?_
      rw [show mN (J, G, Z) (mR (J, G, Z) r 0) = ks.length from t7]
      refine Eq.trans (if_neg (fun q => q ((iN_lt (by omega) (by omega)).mpr (by omega)))) (Eq.trans (b7_11 t3 t6 (by rw [show mN (J, G, Z) (mR (J, G, Z) r 0) = ks.length from t7]; exact ib_iN (by omega) (by omega)) (by rw [hcl]; exact hC.2.2.1)) ?_)
      rw [hcl, show mI (J, G, Z) (mR (J, G, Z) (mR (J, G, Z) r 0) i) 0 = iN k.1 from hC.2.2.2.1]
      rfl
    have s37 : ∀ J1 : aI, run 5 7 37 [.ref 66, .ref r, .int (iN i), .ref (zR Z (zR Z r 0) i)] [] (J1, G, Z) = run 5 7 2 [.ref 66, .ref r, .int (iN (i + 1)), .ref (zR Z (zR Z r 0) i)] [] (J1, G, Z) := fun J1 => by
      refine Eq.trans b7_37 ?_
      rw [iN_succ]
    rw [st, aw]
    have klt := mb_lt hkg.2.2.1
    by_cases k15 : k.1 = 15
    · rw [if_neg (show ¬ ¬ iN k.1 = 15 from fun z => z (by rw [k15]; rfl))]
      obtain ⟨J1, h1, h2⟩ := c_holds (G := G) hZ hwb hw hC hlo hkg.1 (by have := hkg.2.1; omega)
      rw [b7_27 hZ.k66, h1]
      show ∃ J' : aI, run 5 7 32 [.ref 66, .ref r, .int (iN i), .ref (zR Z (zR Z r 0) i)] [.int (bI (tst w k.2.2.2))] (J1, G, Z) = _ ∧ _
      rw [b7_32, bI_n]
      cases ht : tst w k.2.2.2
      · rw [if_neg (by decide), if_pos ⟨k15, rfl⟩]
        exact ⟨J1, b7_35, h2⟩
      · rw [if_pos rfl, if_neg (by rintro ⟨_, z⟩; cases z), s37]
        obtain ⟨J', b1, b2⟩ := ih (i + 1) J1 (.ref (zR Z (zR Z r 0) i)) hks' (by omega) (TxC_68 hT' hlo h2) (fun q hq => by rw [h2 67 (by decide)]; exact hw q hq)
        exact ⟨J', b1, fun b hb => by rw [b2 b hb, h2 b hb]⟩
    · rw [if_pos (show ¬ iN k.1 = 15 from fun z => k15 ((iN_kd klt (c := 15) (by decide)).mp z)), if_neg (fun z => k15 z.1), s37]
      exact ih (i + 1) J _ hks' (by omega) hT' hw
end CJT
