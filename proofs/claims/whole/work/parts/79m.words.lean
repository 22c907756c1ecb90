/-! THE WORDS: laid out alike on both sides -/
def wd (S : aS) (k j : Nat) : Int32 := match j with
  | 0 => S 0 0
  | 1 => dep S
  | 2 => S 0 9
  | 3 => S 0 10
  | 4 => S 0 11
  | 5 => S 0 8
  | 6 => loadS S k
  | 7 => bearsS S k
  | 8 => steelS S k
  | 9 => S 2 k
  | 10 => S 3 k
  | 11 => iN k
  | _ => bI (!decide (S 0 12 = -1))
theorem embB_o {I : aI} {S : aS} {a j : Nat} {v : Int32} (h : a < 33 ∨ 57 ≤ a) : up2 (embB 33 I S) a j v = embB 33 (up2 I a j v) S := by
  funext a' k'
  by_cases hin : 33 ≤ a' ∧ a' < 33 + 24
  · rw [up2_a (by omega)]
    unfold embB
    rw [if_pos hin, if_pos hin]
    exact (cof_I (by rw [show 33 + (a' - 33) = a' by omega]; exact up_o (by omega))).symm
  · unfold embB
    rw [if_neg hin, up2_e, up2_e, if_neg hin]
section WDS
variable {I : aI} {G : aL} {Z : aZ} {S : aS}
theorem m_looks (hZ : Shp Z) (hw : Wf0 S) {k : Nat} (hk : k < 7) : ∃ G' : aL, call 196 [.ref 72, .int (iN k)] (emb I S, G, Z) = some (none, (emb I S, G', Z)) ∧ (∀ j, j < 13 → G' 95 j = (wd S k j).toInt64) ∧ ∀ b, b ≠ 95 → G' b = G b := by
  have ib13 : ∀ j : Nat, j < 13 → ∀ (I' : aI) (G' : aL), ib (iN j) (mN (I', G', Z) (mR (I', G', Z) 72 46)) := fun j hj I' G' => hZ.ir72_46 (ib_iN (by omega) hj)
  have ib95 : ∀ j : Nat, j < 13 → ∀ (I' : aI) (G' : aL), ib (iN j) (mN (I', G', Z) 95) := fun j hj I' G' => hZ.i95 (ib_iN (by omega) hj)
  have hb7 : ib (iN k) 7 := ib_iN (by omega) hk
  have c0 : ∀ j : Nat, j < 13 → (iN j).toNatClampNeg = j := fun j hj => iN_clamp (by omega)
  let v12 : Int64 := if S 0 12 = -1 then 0 else 1
  refine ⟨up2 (up2 (up2 (up2 (up2 (up2 (up2 (up2 (up2 (up2 (up2 (up2 (up2 G 95 0 (S 0 0).toInt64) 95 1 (dep S).toInt64) 95 2 (S 0 9).toInt64) 95 3 (S 0 10).toInt64) 95 4 (S 0 11).toInt64) 95 5 (S 0 8).toInt64) 95 6 (loadS S k).toInt64) 95 7 (bearsS S k).toInt64) 95 8 (steelS S k).toInt64) 95 9 (S 2 k).toInt64) 95 10 (S 3 k).toInt64) 95 11 (iN k).toInt64) 95 12 v12, ?_, ?_, ?_⟩
  · refine Eq.trans e196 (Eq.trans (b196_0 hZ.k72 hZ.kr72_46 (ib13 0 (by decide) _ _)) ?_)
    rw [hZ.r72_46, wL_t, s_depth hZ hw]
    show run 5 196 20 [.ref 72, .int (iN k)] [.int (dep S), .int 1, .ref 95] (emb I S, _, Z) = _
    refine Eq.trans (b196_20 hZ.k95 (ib95 1 (by decide) _ _) hZ.k72 hZ.kr72_46 (ib13 2 (by decide) _ _) (ib13 3 (by decide) _ _)) ?_
    rw [hZ.r72_46]
    show run 5 196 44 [.ref 72, .int (iN k)] [] (emb I S, _, Z) = _
    refine Eq.trans (b196_44 hZ.k72 hZ.kr72_46 (ib13 4 (by decide) _ _) (ib13 5 (by decide) _ _)) ?_
    rw [hZ.r72_46, wL_t, wL_t, s_loadOf hZ hw (by omega)]
    show run 5 196 77 [.ref 72, .int (iN k)] [.int (loadS S k), .int 6, .ref 95] (emb I S, _, Z) = _
    refine Eq.trans (b196_77 hZ.k95 (ib95 6 (by decide) _ _) hZ.k72) ?_
    rw [hZ.r72_46, wL_t, s_bearsOf hZ hw hk]
    show run 5 196 90 [.ref 72, .int (iN k)] [.int (bearsS S k), .int 7, .ref 95] (emb I S, _, Z) = _
    refine Eq.trans (b196_90 hZ.k95 (ib95 7 (by decide) _ _) hZ.k72) ?_
    rw [hZ.r72_46, wL_t, s_steelOf hZ hw (by omega)]
    show run 5 196 103 [.ref 72, .int (iN k)] [.int (steelS S k), .int 8, .ref 95] (emb I S, _, Z) = _
    refine Eq.trans (b196_103 hZ.k95 (ib95 8 (by decide) _ _) hZ.k72 hZ.kr72_17 (hZ.ir72_17 hb7) hZ.kr72_46 (ib13 9 (by decide) _ _) hZ.kr72_18 (hZ.ir72_18 hb7) (ib13 10 (by decide) _ _)) ?_
    rw [hZ.r72_46, hZ.r72_17, hZ.r72_18, iN_clamp (by omega)]
    show run 5 196 133 [.ref 72, .int (iN k)] [] (emb I S, _, Z) = _
    refine Eq.trans (b196_133 hZ.k72 hZ.kr72_46 (ib13 11 (by decide) _ _)) ?_
    rw [hZ.r72_46, wL_t]
    by_cases hb : S 0 12 = -1
    · refine Eq.trans (if_neg (fun z => z hb)) (Eq.trans b196_156 (Eq.trans (b196_161 hZ.k95 (ib95 12 (by decide) _ _)) ?_))
      rw [show v12 = 0 from if_pos hb]
      rfl
    · refine Eq.trans (if_pos hb) (Eq.trans b196_160 (Eq.trans (b196_161 hZ.k95 (ib95 12 (by decide) _ _)) ?_))
      rw [show v12 = 1 from if_neg hb]
      rfl
  · intro j hj
    have : j = 0 ∨ j = 1 ∨ j = 2 ∨ j = 3 ∨ j = 4 ∨ j = 5 ∨ j = 6 ∨ j = 7 ∨ j = 8 ∨ j = 9 ∨ j = 10 ∨ j = 11 ∨ j = 12 := by omega
    rcases this with q | q | q | q | q | q | q | q | q | q | q | q | q <;> subst q
    case inr.inr.inr.inr.inr.inr.inr.inr.inr.inr.inr.inr =>
      rw [up2_s]
      show v12 = (bI (!decide (S 0 12 = -1))).toInt64
      by_cases hb : S 0 12 = -1
      · rw [show v12 = 0 from if_pos hb, decide_eq_true hb]; rfl
      · rw [show v12 = 1 from if_neg hb, decide_eq_false hb]; rfl
    all_goals rfl
  · intro b hb
    funext q
    simp only [up2_a hb]
end WDS
