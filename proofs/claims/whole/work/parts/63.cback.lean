/-! THE CLASS'S MARKS: what a kept State holds; back -/
theorem cof_dich (S : aS) (o k : Nat) : (∀ (I I' : aI) (b b' : Nat), cof I S b o k = cof I' S b' o k) ∨ (∀ (I : aI) (b : Nat), cof I S b o k = I (b + o) k) := by
  by_cases h1 : o = 1
  · subst h1
    cases hm : csc k with
    | some j =>
      left
      intro I I' b b'
      show ctk I S b k = ctk I' S b' k
      unfold ctk
      rw [hm]
    | none =>
      by_cases h12 : k = 12
      · left
        intro I I' b b'
        show ctk I S b k = ctk I' S b' k
        subst h12
        rfl
      by_cases h14 : k = 14
      · left
        intro I I' b b'
        show ctk I S b k = ctk I' S b' k
        subst h14
        rfl
      right
      intro I b
      show ctk I S b k = I (b + 1) k
      unfold ctk
      rw [hm]
      show (if k = 12 then _ else if k = 14 then _ else _) = _
      rw [if_neg h12, if_neg h14]
  by_cases h3 : o = 3
  · subst h3
    by_cases hk : k < laN S
    · left; intro I I' b b'
      show (if k < laN S then S 10 k else I (b + 3) k) = if k < laN S then S 10 k else I' (b' + 3) k
      rw [if_pos hk, if_pos hk]
    · right; intro I b
      show (if k < laN S then S 10 k else I (b + 3) k) = _
      rw [if_neg hk]
  by_cases h4 : o = 4
  · subst h4
    by_cases hk : k < laN S
    · left; intro I I' b b'
      show (if k < laN S then S 11 k else I (b + 4) k) = if k < laN S then S 11 k else I' (b' + 4) k
      rw [if_pos hk, if_pos hk]
    · right; intro I b
      show (if k < laN S then S 11 k else I (b + 4) k) = _
      rw [if_neg hk]
  by_cases h5 : 5 ≤ o ∧ o < 12
  · have e : ∀ (I : aI) (b : Nat), cof I S b o k = if k = 0 then (if o - 5 < riN S then low S (o - 5) else I (b + o) k) else if k < 10 then S k (o - 5) else I (b + o) k := fun I b => by
      unfold cof
      rw [if_neg h1, if_neg h3, if_neg h4, if_pos h5]
    by_cases k0 : k = 0
    · by_cases hr : o - 5 < riN S
      · left; intro I I' b b'; rw [e, e, if_pos k0, if_pos hr, if_pos k0, if_pos hr]
      · right; intro I b; rw [e, if_pos k0, if_neg hr]
    · by_cases k9 : k < 10
      · left; intro I I' b b'; rw [e, e, if_neg k0, if_pos k9, if_neg k0, if_pos k9]
      · right; intro I b; rw [e, if_neg k0, if_neg k9]
  by_cases h12 : o = 12
  · subst h12
    by_cases k5 : k = 5
    · subst k5; left; intro I I' b b'; rfl
    by_cases k6 : k = 6
    · subst k6; left; intro I I' b b'; rfl
    by_cases k7 : k = 7
    · subst k7; left; intro I I' b b'; rfl
    by_cases k8 : k = 8
    · subst k8; left; intro I I' b b'; rfl
    right; intro I b
    exact cst_o k5 k6 k7 k8
  by_cases h16 : o = 16
  · subst h16; left; intro I I' b b'; rfl
  by_cases h18 : o = 18
  · subst h18
    by_cases k3 : k = 3
    · subst k3; left; intro I I' b b'; rfl
    right; intro I b
    show (if k = 3 then S 0 19 else I (b + 18) k) = _
    rw [if_neg k3]
  have e : ∀ (I : aI) (b : Nat), cof I S b o k = (match car o with
    | some c => S c k
    | none => I (b + o) k) := fun I b => by
    unfold cof
    rw [if_neg h1, if_neg h3, if_neg h4, if_neg h5, if_neg h12, if_neg h16, if_neg h18]
    cases car o <;> rfl
  cases hm : car o with
  | some c => left; intro I I' b b'; rw [e, e, hm]
  | none => right; intro I b; rw [e, hm]
/-- a State at b keeps T -/
def MkC (J : aI) (b : Nat) (T : aS) : Prop := ∀ o k, o < 24 → cpy o k = true → J (b + o) k = cof J T b o k
/-- the class's own state is as it was, in a new memory -/
theorem emb_keep {I J : aI} {S : aS} (h : ∀ o k, o < 24 → J (33 + o) k = cof I S 33 o k) : embB 33 J S = J := by
  refine embB_self (fun o k ho => ?_)
  rcases cof_dich S o k with q | q
  · rw [h o k ho]
    exact q _ _ _ _
  · exact q _ _
theorem mk_new {I J : aI} {S : aS} {b : Nat} (h : ∀ o k, o < 24 → cpy o k = true → J (b + o) k = cof I S 33 o k) : MkC J b S := by
  intro o k ho hc
  rcases cof_dich S o k with q | q
  · rw [h o k ho hc]
    exact q _ _ _ _
  · exact (q _ _).symm
theorem mrg_t {S T : aS} {c i : Nat} (h : i < mln c) : mrg S T c i = T c i := if_pos h
theorem mrg_f {S T : aS} {c i : Nat} (h : ¬ i < mln c) : mrg S T c i = S c i := if_neg h
theorem mrg_ri {S T : aS} : riN (mrg S T) = riN T := by unfold riN; rw [mrg_t (by decide)]
theorem mrg_la {S T : aS} : laN (mrg S T) = laN T := by unfold laN; rw [mrg_t (by decide)]
theorem mrg_low {S T : aS} {k : Nat} (h : k ≤ 7) : low (mrg S T) k = low T k := sumI_eq k (fun i hi => mrg_t (show i < 7 by omega))
theorem mrg_dep {S T : aS} (h : laN T ≤ 30) : dep (mrg S T) = dep T := by
  unfold dep
  rw [mrg_la]
  exact sumI_eq _ (fun i hi => mrg_t (show i < 30 by omega))
theorem car_len {o c : Nat} (h : car o = some c) : ∀ k, cpy o k = true ↔ k < mln c := by
  intro k
  unfold car at h
  split at h <;> cases h <;> simp [cpy, mln]
theorem cof_cpy {J : aI} {S T : aS} (hw : Wf0 T) {b o k : Nat} (ho : o < 24) (hc : cpy o k = true) : cof J (mrg S T) b o k = cof J T b o k := by
  have h7 := hw.1.2
  have h30 := hw.2.2
  unfold cof
  by_cases h1 : o = 1
  · subst h1
    rw [if_pos rfl, if_pos rfl]
    unfold ctk
    cases hm : csc k with
    | some j => exact mrg_t (show j < 20 by have := csc_lt hm; omega)
    | none =>
      show (if k = 12 then low (mrg S T) (riN (mrg S T)) else if k = 14 then dep (mrg S T) else J (b + 1) k) = if k = 12 then low T (riN T) else if k = 14 then dep T else J (b + 1) k
      rw [mrg_ri, mrg_low h7, mrg_dep h30]
  rw [if_neg h1, if_neg h1]
  by_cases h3 : o = 3
  · subst h3
    rw [if_pos rfl, if_pos rfl, mrg_la]
    have : k < 30 := by simpa [cpy] using hc
    rw [mrg_t (show k < mln 10 from this)]
  rw [if_neg h3, if_neg h3]
  by_cases h4 : o = 4
  · subst h4
    rw [if_pos rfl, if_pos rfl, mrg_la]
    have : k < 30 := by simpa [cpy] using hc
    rw [mrg_t (show k < mln 11 from this)]
  rw [if_neg h4, if_neg h4]
  by_cases h5 : 5 ≤ o ∧ o < 12
  · rw [if_pos h5, if_pos h5, mrg_ri]
    by_cases k0 : k = 0
    · rw [if_pos k0, if_pos k0, mrg_low (by omega)]
    · rw [if_neg k0, if_neg k0]
      by_cases k9 : k < 10
      · rw [if_pos k9, if_pos k9]
        have hm : mln k = 7 := by
          rcases (by omega : k = 1 ∨ k = 2 ∨ k = 3 ∨ k = 4 ∨ k = 5 ∨ k = 6 ∨ k = 7 ∨ k = 8 ∨ k = 9) with rfl | rfl | rfl | rfl | rfl | rfl | rfl | rfl | rfl <;> rfl
        exact mrg_t (by omega)
      · rw [if_neg k9, if_neg k9]
  rw [if_neg h5, if_neg h5]
  by_cases h12 : o = 12
  · rw [if_pos h12, if_pos h12]
    unfold cst
    rw [mrg_t (show 15 < mln 0 by decide), mrg_t (show 16 < mln 0 by decide), mrg_t (show 17 < mln 0 by decide), mrg_t (show 18 < mln 0 by decide)]
  rw [if_neg h12, if_neg h12]
  by_cases h16 : o = 16
  · subst h16
    rw [if_pos rfl, if_pos rfl, mrg_t (show 15 < mln 0 by decide)]
    have : k < 144 := by simpa [cpy] using hc
    rw [mrg_t (show k < mln 17 from this)]
  rw [if_neg h16, if_neg h16]
  by_cases h18 : o = 18
  · rw [if_pos h18, if_pos h18, mrg_t (show 19 < mln 0 by decide)]
  rw [if_neg h18, if_neg h18]
  cases hm : car o with
  | none => rfl
  | some c => exact mrg_t ((car_len hm k).mp hc)
theorem cof_ncp {I J : aI} {S T : aS} (hw : Wf0 T) {b o k : Nat} (ho : o < 24) (hc : ¬ cpy o k = true) (hJ : J (b + o) k = cof I S b o k) : cof J (mrg S T) b o k = J (b + o) k := by
  have h30 := hw.2.2
  unfold cof
  by_cases h1 : o = 1
  · subst h1
    rw [if_pos rfl]
    have hk : ¬ (3 ≤ k ∧ k ≤ 18) := fun z => hc (by simp [cpy]; exact z)
    unfold ctk
    have hm : csc k = none := by
      unfold csc
      split <;> first | rfl | (exfalso; omega)
    rw [hm]
    show (if k = 12 then low (mrg S T) (riN (mrg S T)) else if k = 14 then dep (mrg S T) else J (b + 1) k) = _
    rw [if_neg (by omega), if_neg (by omega)]
  rw [if_neg h1]
  by_cases h3 : o = 3
  · subst h3
    have : ¬ k < 30 := fun z => hc (by simp [cpy]; exact z)
    rw [if_pos rfl, mrg_la, if_neg (by omega)]
  rw [if_neg h3]
  by_cases h4 : o = 4
  · subst h4
    have : ¬ k < 30 := fun z => hc (by simp [cpy]; exact z)
    rw [if_pos rfl, mrg_la, if_neg (by omega)]
  rw [if_neg h4]
  by_cases h5 : 5 ≤ o ∧ o < 12
  · have : ¬ k < 10 := fun z => hc (by unfold cpy; rw [if_neg h1, if_neg (by omega), if_pos h5]; exact decide_eq_true z)
    rw [if_pos h5, if_neg (by omega), if_neg (by omega)]
  rw [if_neg h5]
  by_cases h12 : o = 12
  · subst h12
    have hk : ¬ (5 ≤ k ∧ k ≤ 8) := fun z => hc (by simp [cpy]; exact z)
    rw [if_pos rfl]
    exact cst_o (by omega) (by omega) (by omega) (by omega)
  rw [if_neg h12]
  by_cases h16 : o = 16
  · subst h16
    have hk : ¬ k < 144 := fun z => hc (by simp [cpy]; exact z)
    rw [if_pos rfl, if_neg (fun z => hk z.2), mrg_f (show ¬ k < mln 17 from hk), hJ]
    show _ = if S 0 15 = 0 ∧ k < 144 then -1 else S 17 k
    rw [if_neg (fun z => hk z.2)]
  rw [if_neg h16]
  by_cases h18 : o = 18
  · subst h18
    have hk : ¬ k = 3 := fun z => hc (by simp [cpy]; exact z)
    rw [if_pos rfl, if_neg hk]
  rw [if_neg h18]
  cases hm : car o with
  | none => rfl
  | some c =>
    have hk : ¬ k < mln c := fun z => hc ((car_len hm k).mpr z)
    show mrg S T c k = _
    rw [mrg_f hk, hJ]
    unfold cof
    rw [if_neg h1, if_neg h3, if_neg h4, if_neg h5, if_neg h12, if_neg h16, if_neg h18, hm]
theorem back_emb {I : aI} {S T : aS} (hw : Wf0 T) {b : Nat} (hb : 57 ≤ b) (hM : MkC (embB 33 I S) b T) : embB 33 (cpB (embB 33 I S) 33 b 0 24) (mrg S T) = cpB (embB 33 I S) 33 b 0 24 := by
  refine embB_self (fun o k ho => ?_)
  by_cases hc : cpy o k = true
  · have e : cpB (embB 33 I S) 33 b 0 24 (33 + o) k = embB 33 I S (b + o) k := by
      unfold cpB
      rw [Nat.add_sub_cancel_left, if_pos ⟨by omega, by omega, hc⟩]
    rw [cof_cpy hw ho hc]
    rcases cof_dich T o k with q | q
    · rw [e, hM o k ho hc]
      exact q _ _ _ _
    · exact q _ _
  · have e : cpB (embB 33 I S) 33 b 0 24 (33 + o) k = cof I S 33 o k := by
      unfold cpB
      rw [Nat.add_sub_cancel_left, if_neg (fun z => hc z.2.2), embB_at ho]
    exact cof_ncp hw ho hc e
section CBK
variable {I : aI} {G : aL} {Z : aZ} {S : aS}
theorem f_back_bad (hZ : Shp Z) {k : Int32} (h : inB k 0 3 = false ∨ zR Z 57 k.toNatClampNeg = 0) : call 133 [.ref 32, .int k] (I, G, Z) = some (some (.int (-1)), (I, G, Z)) := by
  refine Eq.trans e133 (Eq.trans b133_0 ?_)
  rw [c_within, l32_0, l32_3]
  refine Eq.trans b133_6 ?_
  rw [bI_0]
  by_cases h1 : inB k 0 3 = true
  · rw [if_pos h1]
    rcases h with h | h
    · rw [h] at h1; cases h1
    · refine Eq.trans (b133_9 hZ.k32 hZ.kr32_1 (hZ.ir32_1 (ib_in h1 (by decide)))) ?_
      rw [hZ.r32_1]
      exact Eq.trans (if_pos h) b133_18
  · rw [if_neg h1]
    exact b133_18
theorem f_back (hZ : Shp Z) {T : aS} (hw : Wf0 T) (h7 : Wf7 T) {n b : Nat} (hn : n < 4) (hb : 57 ≤ b) (hr : zR Z 57 n = b) (hB : ShB Z b) (hM : MkC (embB 33 I S) b T) : call 133 [.ref 32, .int (iN n)] (embB 33 I S, G, Z) = some (some (.int (T 0 0)), (embB 33 (cpB (embB 33 I S) 33 b 0 24) (mrg S T), G, Z)) := by
  have hb4 : ib (iN n) 4 := ib_iN (by omega) hn
  have hc : (iN n).toNatClampNeg = n := iN_clamp (by omega)
  have e3 : inB (iN n) 0 3 = true := inB_iff.mpr (by rw [iN_int (by omega)]; omega)
  have hS3 : embB 33 I S (b + 1) 3 = T 0 1 := by rw [hM 1 3 (by decide) (by decide)]; rfl
  have hS5 : embB 33 I S (b + 12) 5 = T 0 15 := by rw [hM 12 5 (by decide) (by decide)]; rfl
  refine Eq.trans e133 (Eq.trans b133_0 ?_)
  rw [c_within, l32_0, l32_3, e3]
  refine Eq.trans b133_6 (Eq.trans (if_neg (by decide)) (Eq.trans (b133_9 hZ.k32 hZ.kr32_1 (hZ.ir32_1 hb4)) ?_))
  rw [hZ.r32_1, hc]
  have hr' : mR (embB 33 I S, G, Z) 57 n = b := hr
  refine Eq.trans (if_neg (by rw [hr']; omega)) (Eq.trans (b133_20 hZ.k32 hZ.kr32_1 (hZ.ir32_1 hb4) hZ.kr32_0) ?_)
  rw [hZ.r32_1, hZ.r32_0, hc, hr', t_copy (by omega) (shp_B hZ) hB (by rw [hS3]; exact h7.1) (by rw [hS5]; exact h7.2), back_emb hw hb hM]
  refine Eq.trans (b133_33 hZ.k32 hZ.kr32_0 (by rw [hZ.r32_0, hZ.r33_0]; exact hZ.k34)) ?_
  rw [hZ.r32_0, hZ.r33_0, mI_t]
  have e4 : cpB (embB 33 I S) 33 b 0 24 34 4 = T 0 0 := by
    unfold cpB
    rw [if_pos (by decide)]
    show embB 33 I S (b + 1) 4 = _
    rw [hM 1 4 (by decide) (by decide)]
    rfl
  rw [e4]
/-- to a State that is there -/
theorem f_mark_old (hZ : Shp Z) (h7 : Wf7 S) {n b : Nat} (hn : n < 4) (hb : 57 ≤ b) (hr : zR Z 57 n = b) (hB : ShB Z b) : run 5 132 33 [.ref 32, .int (iN n)] [] (embB 33 I S, G, Z) = some (some (.int (S 0 0)), (cpB (embB 33 I S) b 33 0 24, G, Z)) ∧ embB 33 (cpB (embB 33 I S) b 33 0 24) S = cpB (embB 33 I S) b 33 0 24 ∧ MkC (cpB (embB 33 I S) b 33 0 24) b S := by
  have hb4 : ib (iN n) 4 := ib_iN (by omega) hn
  have hc : (iN n).toNatClampNeg = n := iN_clamp (by omega)
  have hr' : mR (embB 33 I S, G, Z) 57 n = b := hr
  refine ⟨?_, ?_, ?_⟩
  · refine Eq.trans (b132_33 hZ.k32 hZ.kr32_1 (hZ.ir32_1 hb4) (by rw [hZ.r32_1, hc, hr']; exact hB.k0)) ?_
    rw [hZ.r32_1, hZ.r32_0, hc, hr', t_copy (by omega) hB (shp_B hZ) (by show S 0 1 = 0 ∨ S 0 1 = 1; exact h7.1) (by show S 0 15 = 0 ∨ S 0 15 = 1; exact h7.2)]
    refine Eq.trans (b132_46 hZ.k32 hZ.kr32_0 (by rw [hZ.r32_0, hZ.r33_0]; exact hZ.k34)) ?_
    rw [hZ.r32_0, hZ.r33_0, mI_t]
    have e4 : cpB (embB 33 I S) b 33 0 24 34 4 = S 0 0 := by
      unfold cpB
      rw [if_neg (by omega)]
      rfl
    rw [e4]
  · refine emb_keep (I := I) (fun o k ho => ?_)
    unfold cpB
    rw [if_neg (by omega), embB_at ho]
  · refine mk_new (I := I) (fun o k ho hcp => ?_)
    unfold cpB
    rw [Nat.add_sub_cancel_left, if_pos ⟨by omega, by omega, hcp⟩, embB_at ho]
end CBK
