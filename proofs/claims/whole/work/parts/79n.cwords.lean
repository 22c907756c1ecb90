/-! THE WORDS: the class's -/
section CWD
variable {I : aI} {G : aL} {Z : aZ} {S : aS}
theorem w67 {j : Nat} {v : Int32} : wI (embB 33 I S, G, Z) 67 j v = (embB 33 (up2 I 67 j v) S, G, Z) := by
  rw [wI_t, embB_o (Or.inr (by decide))]
theorem c_words (hZ : Shp Z) (hw : Wf0 S) (h1 : Wf1 S) {k : Nat} (hk : k < 7) (hr : k < riN S) (hR : isRg S (iN k) = true) : ∃ I' : aI, call 2 [.ref 66, .ref 34, .int (iN k)] (embB 33 I S, G, Z) = some (none, (embB 33 I' S, G, Z)) ∧ (∀ j, j < 13 → I' 67 j = wd S k j) ∧ ∀ b, b ≠ 67 → I' b = I b := by
  have ib13 : ∀ j : Nat, j < 13 → ∀ (I' : aI) (G' : aL), ib (iN j) (mN (I', G', Z) 67) := fun j hj I' G' => hZ.i67 (ib_iN (by omega) hj)
  have hb7 : ib (iN k) 7 := ib_iN (by omega) hk
  refine ⟨up2 (up2 (up2 (up2 (up2 (up2 (up2 (up2 (up2 (up2 (up2 (up2 (up2 I 67 0 (S 0 0)) 67 1 (dep S)) 67 2 (S 0 9)) 67 3 (S 0 10)) 67 4 (S 0 11)) 67 5 (S 0 8)) 67 6 (loadS S k)) 67 7 (bearsS S k)) 67 8 (steelS S k)) 67 9 (S 2 k)) 67 10 (S 3 k)) 67 11 (iN k)) 67 12 (bI (!decide (S 0 12 = -1))), ?_, ?_, ?_⟩
  · have tw : call 76 [.ref 34, .int (iN k), .ref 67] (embB 33 I S, G, Z) = some (none, (embB 33 (up2 (up2 (up2 (up2 (up2 (up2 (up2 (up2 (up2 (up2 (up2 (up2 (up2 I 67 0 (S 0 0)) 67 1 (dep S)) 67 2 (S 0 9)) 67 3 (S 0 10)) 67 4 (S 0 11)) 67 5 (S 0 8)) 67 6 (loadS S k)) 67 7 (bearsS S k)) 67 8 (steelS S k)) 67 9 (S 2 k)) 67 10 (S 3 k)) 67 11 (iN k)) 67 12 (bI (!decide (S 0 12 = -1)))) S, G, Z)) := by
      refine Eq.trans e76 (Eq.trans (b76_0 hZ.k34) ?_)
      rw [t_hasRing hZ hw, hR]
      refine Eq.trans b76_5 (Eq.trans (if_neg (by decide)) (Eq.trans (b76_8 hZ.k67) ?_))
      rw [hZ.n67]
      refine Eq.trans (if_pos (by decide)) (Eq.trans (b76_16 hZ.k34 hZ.kr34_0 (hZ.ir34_0 hb7) hZ.k67 (ib13 0 (by decide) _ _) (ib13 1 (by decide) _ _) (ib13 2 (by decide) _ _)) ?_)
      simp only [w67, mI_t, ct4, ct14, ct15]
      rw [iN_clamp (by omega), hZ.ring hk]
      refine Eq.trans (b76_44 hZ.k34 hZ.k67 (ib13 3 (by decide) _ _) (ib13 4 (by decide) _ _) (ib13 5 (by decide) _ _)) ?_
      simp only [w67, mI_t, ct5, ct16, ct13]
      refine Eq.trans (b76_65 hZ.k34) ?_
      rw [t_load hZ hk hr]
      show run 4 76 73 [.ref 34, .int (iN k), .ref 67, .ref (38 + k)] [.int (loadS S k), .int 6, .ref 67] (embB 33 _ S, G, Z) = _
      refine Eq.trans (b76_73 hZ.k67 (ib13 6 (by decide) _ _) hZ.k34) ?_
      rw [w67, t_bears hZ hw h1 hk hr]
      show run 4 76 82 [.ref 34, .int (iN k), .ref 67, .ref (38 + k)] [.int (bearsS S k), .int 7, .ref 67] (embB 33 _ S, G, Z) = _
      refine Eq.trans (b76_82 hZ.k67 (ib13 7 (by decide) _ _) hZ.k34) ?_
      rw [w67, t_steel hZ hw hk hr]
      show run 4 76 91 [.ref 34, .int (iN k), .ref 67, .ref (38 + k)] [.int (steelS S k), .int 8, .ref 67] (embB 33 _ S, G, Z) = _
      refine Eq.trans (b76_91 hZ.k67 (ib13 8 (by decide) _ _) (hZ.kring hk) hZ.k67 (ib13 9 (by decide) _ _) (ib13 10 (by decide) _ _)) ?_
      simp only [w67, mI_t, cr_f hk (show 0 < 2 by decide) (show 2 < 10 by decide), cr_f hk (show 0 < 3 by decide) (show 3 < 10 by decide)]
      refine Eq.trans (b76_108 hZ.k67 (ib13 11 (by decide) _ _) hZ.k34) ?_
      rw [w67, t_hasBurst hZ]
      show run 4 76 120 [.ref 34, .int (iN k), .ref 67, .ref (38 + k)] [.int (bI (!decide (S 0 12 = -1))), .int 12, .ref 67] (embB 33 _ S, G, Z) = _
      refine Eq.trans b76_120 ?_
      rw [bI_0]
      by_cases hb : S 0 12 = -1
      · rw [decide_eq_true hb]
        refine Eq.trans (if_neg (by decide)) (Eq.trans b76_127 (Eq.trans (b76_128 hZ.k67 (ib13 12 (by decide) _ _)) ?_))
        rw [w67]; rfl
      · rw [decide_eq_false hb]
        refine Eq.trans (if_pos rfl) (Eq.trans b76_123 (Eq.trans (b76_128 hZ.k67 (ib13 12 (by decide) _ _)) ?_))
        rw [w67]; rfl
    refine Eq.trans e2 (Eq.trans (b2_0 hZ.k66 hZ.k34) ?_)
    rw [hZ.r66_0, tw]
    exact b2_9
  · intro j hj
    have : j = 0 ∨ j = 1 ∨ j = 2 ∨ j = 3 ∨ j = 4 ∨ j = 5 ∨ j = 6 ∨ j = 7 ∨ j = 8 ∨ j = 9 ∨ j = 10 ∨ j = 11 ∨ j = 12 := by omega
    rcases this with q | q | q | q | q | q | q | q | q | q | q | q | q <;> subst q <;> rfl
  · intro b hb
    funext q
    simp only [up2_a hb]
end CWD
