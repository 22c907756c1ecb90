/-! SIMULATION, 3: fields, arrays, new cells, members of the JDK -/
set_option maxRecDepth 100000 in
theorem fpt_own : fpt.all (fun q => !(q.1.1 == q.1.2.2.1) || decide (tables_1[q.2]? = some (fwd q.1))) = true := by decide +kernel
theorem fld_own {a b k : Nat} (h : pk ftab a b = some (a, k)) : fwd (a, b, a, k) ∈ gtb := by
  have hm := pk_mem h
  rw [← fpt_ok, List.mem_map] at hm
  obtain ⟨q, hq, e⟩ := hm
  have := List.all_eq_true.mp fpt_own q hq
  simp only [Bool.or_eq_true, decide_eq_true_eq, Bool.not_eq_true', beq_eq_false_iff_ne] at this
  rw [e] at this
  rcases this with h1 | h1
  · exact absurd rfl h1
  · exact gtb_at h1 rfl
theorem fld_in {a b ci k : Nat} (h : pk ftab a b = some (ci, k)) : ci < 12 ∧ k < nF ci ∧ (TF ci k).1 = RF ci := by
  have := List.all_eq_true.mp fld_cls _ (pk_mem h)
  simp only [Bool.and_eq_true, decide_eq_true_eq] at this
  exact ⟨this.1.1, this.1.2, this.2⟩
theorem tyk_all : (List.range 12).all (fun ci => (List.range (nF ci)).all (fun j => decide (defaultValue (tyF ci j) = if rfF ci j = true then .null else .int 0))) = true := by decide +kernel
theorem tyk {ci j : Nat} (h : ci < 12) (hj : j < nF ci) : defaultValue (tyF ci j) = if rfF ci j = true then .null else .int 0 := by
  have := List.all_eq_true.mp (List.all_eq_true.mp tyk_all ci (List.mem_range.mpr h)) j (List.mem_range.mpr hj)
  simpa using this
theorem bty_ok {ci k : Nat} {y : Int32} (h : bty ci k y = true) : narrow (tyF ci k) (.int y) = .int y ∧ fits (tyF ci k) (.int y) = true := by
  unfold bty at h
  split at h
  · rename_i e; rw [e]; exact ⟨rfl, rfl⟩
  · rename_i e
    rw [e]
    simp only [decide_eq_true_eq] at h
    rcases h with rfl | rfl <;> exact ⟨rfl, rfl⟩
  · cases h
theorem rfk_ok {ci k b : Nat} {g : aG} (h : rfF ci k = true) : narrow (tyF ci k) (rv g (.ref b)) = rv g (.ref b) ∧ fits (tyF ci k) (rv g (.ref b)) = true := by
  unfold rfF rfT at h
  unfold rv
  split at h
  · rename_i e; rw [e]; by_cases hb : b = 0 <;> simp [hb] <;> exact ⟨rfl, rfl⟩
  · rename_i e; rw [e]; by_cases hb : b = 0 <;> simp [hb] <;> exact ⟨rfl, rfl⟩
  · cases h
theorem ROf_lt {o : Nat} (h : o < 12) : ROf o = RF o := by unfold ROf; rw [if_pos h]
theorem cat_map {g : aG} (l : List Value) : ((l.map (rv g)).map fun v => v.category).sum = (l.map fun v => v.category).sum := by
  rw [List.map_map]
  congr 1
  apply List.map_congr_left
  intro v _
  exact rv_cat v
theorem new_at {g : aG} {M : aM} {H1 H0 : Heap} {q C0 cells : Nat} {c : va_E} (h0 : H0.size = gB g + C0) (hP : va_P (gD g) vwCl (wsl g M ++ [(q, c)]) H1) (hD : va_D (wA g) (wsl g M ++ [(q, c)])) (hc : cells + C0 = mX M) (hz : H1.size ≤ H0.size + (cells + 1)) : q = gB g + mX M := by
  have hl : (wsl g M ++ [(q, c)])[mX M]? = some (q, c) := by
    rw [List.getElem?_append_right (by rw [wsl_len]; exact Nat.le_refl _), wsl_len, Nat.sub_self]
    rfl
  have h1 : q < H1.size := (hP _ _ hl).lt
  have h2 : gB g ≤ q := hD.2 _ _ hl
  rcases Nat.lt_or_ge q (gB g + mX M) with h3 | h3
  · exfalso
    have hi : (wsl g M ++ [(q, c)])[q - gB g]? = some (adr g (q - gB g + 32), cE g M (q - gB g + 32)) := by
      rw [List.getElem?_append_left (by rw [wsl_len]; omega)]
      have := wsl_get (g := g) (M := M) (a := q - gB g + 32) (by omega) (by omega)
      rwa [show q - gB g + 32 - 32 = q - gB g by omega] at this
    have he := hD.1 _ _ _ _ hi hl (by
      show adr g (q - gB g + 32) = q
      rw [adr_ge (by omega)]; omega)
    omega
  · omega
theorem wsV_good {own C : String} {idx : Nat} {y : MethodName} {ws : List Cond} (h1 : Cond.methodLink own idx y ∈ gtb) (h2 : Cond.instanceMethod y ∈ gtb) (h3 : Cond.selects C y y ∈ gtb) (h4 : Cond.initialized C ∈ gtb) (h5 : GoodIn gtb ws) : GoodIn gtb (wsV own idx C y ws) := by
  intro w hw
  unfold wsV at hw
  rcases List.mem_append.mp hw with hw | hw
  · simp only [List.mem_cons, List.not_mem_nil, or_false] at hw
    rcases hw with rfl | rfl | rfl | rfl
    · exact gtb_good _ h1
    · exact gtb_good _ h2
    · exact gtb_good _ h3
    · exact gtb_good _ h4
  · exact h5 w hw
def StrM (l : Launch) (g : aG) : Prop :=
  (∀ i, i < 22 → Met l yJ0_length_8abf5 (.code yJ0_length_8abf5 cJ0_length_8abf5 1 (some .int) :: gtb) { frames := 6, cells := 0, slots := 0, locals := 300 } (va_Pc [.ref (gK g i)] (fun U => WS g U)) (fun _ st oc t => oc = .returned (some (.int (Int32.ofNat (slen.getD i 0)))) ∧ t.heap = st.heap) 0 0 (fun _ => False)) ∧
  ∀ (i : Nat) (j : Int32), i < 22 → ib j (slen.getD i 0) → Met l yJ0_charAt_5068e (.code yJ0_charAt_5068e cJ0_charAt_5068e 2 (some .char) :: gtb) { frames := 6, cells := 0, slots := 0, locals := 300 } (va_Pc [.ref (gK g i), .int j] (fun U => WS g U)) (fun _ st oc t => oc = .returned (some (.int ((sbyt.getD i []).getD j.toNatClampNeg 0))) ∧ t.heap = st.heap) 0 0 (fun _ => False)
theorem w_len : GoodIn gtb (.code yJ0_length_8abf5 cJ0_length_8abf5 1 (some .int) :: gtb) := by
  intro w hw
  rcases List.mem_cons.mp hw with rfl | h
  · exact gtb_good _ (gtb_of (List.mem_append_right _ (tin3 (List.mem_of_getElem? (i := 103) rfl))) rfl)
  · exact gtb_good _ h
theorem w_cha : GoodIn gtb (.code yJ0_charAt_5068e cJ0_charAt_5068e 2 (some .char) :: gtb) := by
  intro w hw
  rcases List.mem_cons.mp hw with rfl | h
  · exact gtb_good _ (gtb_of (List.mem_append_right _ (tin3 (List.mem_of_getElem? (i := 113) rfl))) rfl)
  · exact gtb_good _ h
theorem w_leni : Cond.instanceMethod yJ0_length_8abf5 ∈ gtb := gtb_at (p := 581) (by decide +kernel) rfl
theorem w_lens : Cond.selects RJ0 yJ0_length_8abf5 yJ0_length_8abf5 ∈ gtb := gtb_at (p := 582) (by decide +kernel) rfl
theorem w_chai : Cond.instanceMethod yJ0_charAt_5068e ∈ gtb := gtb_at (p := 591) (by decide +kernel) rfl
theorem w_chas : Cond.selects RJ0 yJ0_charAt_5068e yJ0_charAt_5068e ∈ gtb := gtb_at (p := 592) (by decide +kernel) rfl
theorem w_stri : Cond.initialized RJ0 ∈ gtb := gtb_at (p := 12) (by decide +kernel) rfl
section SIMM
variable {g : aG} {J n C0 S0 : Nat} {p : Program} {l : Launch} {e : Env} {R : Room} {s : State} {m : MethodId} {args : Array Value} {below : List Frame} {meth : Method} {c : Code} {Q : State → Prop} {pc : Nat} {L stk : List Value} {M : aM}
theorem sn_getf {x a ci k : Nat} (F : Fr g J n C0 p R s m args meth c) (hd : decode (mt J).2.2.1 pc = .ok (.getfield x, 3)) (ht : pk ftab (mt J).1 x = some (ci, k)) (hk : mK M a = ci) (K : SimAt g J C0 S0 p l e R s m args below meth c Q (pc + 3) L ((if rfF ci k = true then .ref (mR M a k) else .int (mI M a k)) :: stk) M) : SimAt g J C0 S0 p l e R s m args below meth c Q pc L (.ref a :: stk) M := by
  intro H locs ls cells slots hS hM hl hL hc hu
  obtain ⟨hx, hb, hml, hown, hts, hWS, hname, hfr, hlo, hsz⟩ := F
  have hK := hWS.1
  obtain ⟨hci, hq, -⟩ := fld_in ht
  have ha := hM.2.1 a (by omega)
  have hw := hM.at (a := a) (by omega)
  rw [cE_obj hk hci] at hw
  have k' := (K H locs ls cells slots hS hM hl hL hc hu)
  have ev : rv g (if rfF ci k = true then .ref (mR M a k) else .int (mI M a k)) = fv g M a ci k := by
    unfold fv
    split <;> rfl
  rw [List.map_cons, ev] at k'
  rw [List.map_cons, rv_refP (by omega)]
  have hv : ((List.range (nF ci)).map (fv g M a ci))[k]? = some (fv g M a ci k) := by
    rw [List.getElem?_map, List.getElem?_range hq]
    rfl
  rcases fld_ok ht with hw1 | hw1
  · exact va_get hx hb hts (inG hci) hown hK hM.1 (a - 32) hw (clG hci) k hq (hts _ hw1) (fun _ h => h) hv hd k'
  · exact va_getN hx hb hts (inG hci) hown hK hM.1 (a - 32) hw (clG hci) k hq (va_Nw.use rfl (hWS.2.1 _ hw1)) (fun _ h => h) hv hd k'
theorem sn_puti {x a ci k : Nat} {y : Int32} (F : Fr g J n C0 p R s m args meth c) (hd : decode (mt J).2.2.1 pc = .ok (.putfield x, 3)) (ht : pk ftab (mt J).1 x = some (ci, k)) (hk : mK M a = ci) (hf : (TF ci k).2.2.2 = false ∨ ((mt J).2.1.name = "<init>" ∧ (mt J).1 = ci)) (hr : rfF ci k = false) (hy : bty ci k y = true) (K : SimAt g J C0 S0 p l e R s m args below meth c Q (pc + 3) L stk (wI M a k y)) : SimAt g J C0 S0 p l e R s m args below meth c Q pc L (.int y :: .ref a :: stk) M := by
  intro H locs ls cells slots hS hM hl hL hc hu
  obtain ⟨hx, hb, hml, hown, hts, hWS, hname, hfr, hlo, hsz⟩ := F
  have hK := hWS.1
  obtain ⟨hci, hq, hdc⟩ := fld_in ht
  have ha := hM.2.1 a (by omega)
  have hw := hM.at (a := a) (by omega)
  rw [cE_obj hk hci] at hw
  rw [List.map_cons, List.map_cons, rv_refP (a := a) (by omega)]
  have hn := bty_ok hy
  have kk : ∀ (H1 : Heap) (locs1 : List Loc), va_P (gD g) vwCl ((wsl g M).set (a - 32) (adr g a, .inr (ci, ((List.range (nF ci)).map (fv g M a ci)).set k (.int y)))) H1 → va_D (wA g) ((wsl g M).set (a - 32) (adr g a, .inr (ci, ((List.range (nF ci)).map (fv g M a ci)).set k (.int y)))) → va_S (wA g) s.heap H1 locs1 → W p l e R s m args below meth c H1 locs1 cells slots Q (F0 m (pc + 3) ls (stk.map (rv g))) :=
    fun H1 locs1 h1 _ h3 => K H1 locs1 ls cells slots h3 (hm_wI hM (by omega) (cE_wI_obj hk hci hr) h1) hl hL hc hu
  by_cases hfin : (TF ci k).2.2.2 = false
  · rcases fld_ok ht with hw1 | hw1
    · exact va_put hx hb hts (inG hci) (tyF ci) (tyG hci) (nmG hci) hown hK hM.1 wsl_D hS (a - 32) hw (clG hci) k hq (hts _ hw1) (fun _ h => h) hfin (tyG hci k hq) hn.1 hn.2 (by simpa using hq) hd kk
    · exact va_putN hx hb hts (inG hci) (tyF ci) (tyG hci) (nmG hci) hown hK hM.1 wsl_D hS (a - 32) hw (clG hci) k hq (va_Nw.use rfl (hWS.2.1 _ hw1)) (fun _ h => h) hfin (tyG hci k hq) hn.1 hn.2 (by simpa using hq) hd kk
  · obtain ⟨hin, hoc⟩ := hf.resolve_left hfin
    have hw1 : fwd ((mt J).1, x, ci, k) ∈ gtb := by
      rw [hoc] at ht ⊢
      exact fld_own ht
    exact va_putF hx hb hts (inG hci) (tyF ci) (tyG hci) (nmG hci) hown hK hM.1 wsl_D hS (a - 32) hw (clG hci) k hq (hts _ hw1) (fun _ h => h) (by simpa using hfin) (hname hin) (by rw [hdc, hoc, ROf_lt hci]) (tyG hci k hq) hn.1 hn.2 (by simpa using hq) hd kk
theorem sn_putr {x a ci k : Nat} {b : Nat} (F : Fr g J n C0 p R s m args meth c) (hd : decode (mt J).2.2.1 pc = .ok (.putfield x, 3)) (ht : pk ftab (mt J).1 x = some (ci, k)) (hk : mK M a = ci) (hf : (TF ci k).2.2.2 = false ∨ ((mt J).2.1.name = "<init>" ∧ (mt J).1 = ci)) (hr : rfF ci k = true) (K : SimAt g J C0 S0 p l e R s m args below meth c Q (pc + 3) L stk (wR M a k b)) : SimAt g J C0 S0 p l e R s m args below meth c Q pc L (.ref b :: .ref a :: stk) M := by
  intro H locs ls cells slots hS hM hl hL hc hu
  obtain ⟨hx, hb, hml, hown, hts, hWS, hname, hfr, hlo, hsz⟩ := F
  have hK := hWS.1
  obtain ⟨hci, hq, hdc⟩ := fld_in ht
  have ha := hM.2.1 a (by omega)
  have hw := hM.at (a := a) (by omega)
  rw [cE_obj hk hci] at hw
  rw [List.map_cons, List.map_cons, rv_refP (a := a) (by omega)]
  have hn := rfk_ok (b := b) (g := g) hr
  have kk : ∀ (H1 : Heap) (locs1 : List Loc), va_P (gD g) vwCl ((wsl g M).set (a - 32) (adr g a, .inr (ci, ((List.range (nF ci)).map (fv g M a ci)).set k (rv g (.ref b))))) H1 → va_D (wA g) ((wsl g M).set (a - 32) (adr g a, .inr (ci, ((List.range (nF ci)).map (fv g M a ci)).set k (rv g (.ref b))))) → va_S (wA g) s.heap H1 locs1 → W p l e R s m args below meth c H1 locs1 cells slots Q (F0 m (pc + 3) ls (stk.map (rv g))) :=
    fun H1 locs1 h1 _ h3 => K H1 locs1 ls cells slots h3 (hm_wR hM (by omega) (cE_wR_obj hk hci hr) h1) hl hL hc hu
  by_cases hfin : (TF ci k).2.2.2 = false
  · rcases fld_ok ht with hw1 | hw1
    · exact va_put hx hb hts (inG hci) (tyF ci) (tyG hci) (nmG hci) hown hK hM.1 wsl_D hS (a - 32) hw (clG hci) k hq (hts _ hw1) (fun _ h => h) hfin (tyG hci k hq) hn.1 hn.2 (by simpa using hq) hd kk
    · exact va_putN hx hb hts (inG hci) (tyF ci) (tyG hci) (nmG hci) hown hK hM.1 wsl_D hS (a - 32) hw (clG hci) k hq (va_Nw.use rfl (hWS.2.1 _ hw1)) (fun _ h => h) hfin (tyG hci k hq) hn.1 hn.2 (by simpa using hq) hd kk
  · obtain ⟨hin, hoc⟩ := hf.resolve_left hfin
    have hw1 : fwd ((mt J).1, x, ci, k) ∈ gtb := by
      rw [hoc] at ht ⊢
      exact fld_own ht
    exact va_putF hx hb hts (inG hci) (tyF ci) (tyG hci) (nmG hci) hown hK hM.1 wsl_D hS (a - 32) hw (clG hci) k hq (hts _ hw1) (fun _ h => h) (by simpa using hfin) (hname hin) (by rw [hdc, hoc, ROf_lt hci]) (tyG hci k hq) hn.1 hn.2 (by simpa using hq) hd kk
theorem sn_iald {a : Nat} {j : Int32} (F : Fr g J n C0 p R s m args meth c) (hd : decode (mt J).2.2.1 pc = .ok (.iaload, 1)) (hk : mK M a = 12) (hj : ib j (mN M a)) (K : SimAt g J C0 S0 p l e R s m args below meth c Q (pc + 1) L (.int (mI M a j.toNatClampNeg) :: stk) M) : SimAt g J C0 S0 p l e R s m args below meth c Q pc L (.int j :: .ref a :: stk) M := by
  intro H locs ls cells slots hS hM hl hL hc hu
  obtain ⟨hx, hb, hml, hown, hts, hWS, hname, hfr, hlo, hsz⟩ := F
  have hK := hWS.1
  have ha := hM.2.1 a (by omega)
  have hw := hM.at (a := a) (by omega)
  rw [cE_int hk (by omega) (by omega)] at hw
  rw [List.map_cons, List.map_cons, rv_refP (by omega)]
  exact va_iald hx hb hK hM.1 (a - 32) 0 hw rfl hj hd (K H locs ls cells slots hS hM hl hL hc hu)
theorem sn_bald {a : Nat} {j : Int32} (F : Fr g J n C0 p R s m args meth c) (hd : decode (mt J).2.2.1 pc = .ok (.baload, 1)) (hk : mK M a = 13) (hj : ib j (mN M a)) (K : SimAt g J C0 S0 p l e R s m args below meth c Q (pc + 1) L (.int (mI M a j.toNatClampNeg) :: stk) M) : SimAt g J C0 S0 p l e R s m args below meth c Q pc L (.int j :: .ref a :: stk) M := by
  intro H locs ls cells slots hS hM hl hL hc hu
  obtain ⟨hx, hb, hml, hown, hts, hWS, hname, hfr, hlo, hsz⟩ := F
  have hK := hWS.1
  have ha := hM.2.1 a (by omega)
  have hw := hM.at (a := a) (by omega)
  rw [cE_int hk (by omega) (by omega)] at hw
  rw [List.map_cons, List.map_cons, rv_refP (by omega)]
  exact va_bald hx hb hK hM.1 (a - 32) 1 hw rfl hj hd (K H locs ls cells slots hS hM hl hL hc hu)
theorem sn_zald {a : Nat} {j : Int32} (F : Fr g J n C0 p R s m args meth c) (hd : decode (mt J).2.2.1 pc = .ok (.baload, 1)) (hk : mK M a = 14) (hj : ib j (mN M a)) (K : SimAt g J C0 S0 p l e R s m args below meth c Q (pc + 1) L (.int (mI M a j.toNatClampNeg) :: stk) M) : SimAt g J C0 S0 p l e R s m args below meth c Q pc L (.int j :: .ref a :: stk) M := by
  intro H locs ls cells slots hS hM hl hL hc hu
  obtain ⟨hx, hb, hml, hown, hts, hWS, hname, hfr, hlo, hsz⟩ := F
  have hK := hWS.1
  have ha := hM.2.1 a (by omega)
  have hw := hM.at (a := a) (by omega)
  rw [cE_int hk (by omega) (by omega)] at hw
  rw [List.map_cons, List.map_cons, rv_refP (by omega)]
  exact va_zald hx hb hK hM.1 (a - 32) 2 hw rfl hj hd (K H locs ls cells slots hS hM hl hL hc hu)
theorem sn_lald {a : Nat} {j : Int32} (F : Fr g J n C0 p R s m args meth c) (hd : decode (mt J).2.2.1 pc = .ok (.laload, 1)) (hk : mK M a = 15) (hj : ib j (mN M a)) (K : SimAt g J C0 S0 p l e R s m args below meth c Q (pc + 1) L (.long (mL M a j.toNatClampNeg) :: stk) M) : SimAt g J C0 S0 p l e R s m args below meth c Q pc L (.int j :: .ref a :: stk) M := by
  intro H locs ls cells slots hS hM hl hL hc hu
  obtain ⟨hx, hb, hml, hown, hts, hWS, hname, hfr, hlo, hsz⟩ := F
  have hK := hWS.1
  have ha := hM.2.1 a (by omega)
  have hw := hM.at (a := a) (by omega)
  rw [cE_long hk] at hw
  rw [List.map_cons, List.map_cons, rv_refP (by omega)]
  exact va_lald hx hb hK hM.1 (a - 32) 3 hw rfl hj hd (K H locs ls cells slots hS hM hl hL hc hu)
theorem sn_sald {a : Nat} {j : Int32} (F : Fr g J n C0 p R s m args meth c) (hd : decode (mt J).2.2.1 pc = .ok (.iaload, 1)) (hk : mK M a = 20) (hj : ib j (mN M a)) (K : SimAt g J C0 S0 p l e R s m args below meth c Q (pc + 1) L (.int (mI M a j.toNatClampNeg) :: stk) M) : SimAt g J C0 S0 p l e R s m args below meth c Q pc L (.int j :: .ref a :: stk) M := by
  intro H locs ls cells slots hS hM hl hL hc hu
  obtain ⟨hx, hb, hml, hown, hts, hWS, hname, hfr, hlo, hsz⟩ := F
  have hK := hWS.1
  have h1 := hM.2.2.1 a hk
  subst h1
  have k' := (K H locs ls cells slots hS hM hl hL hc hu)
  rw [List.map_cons, hM.2.2.2.2] at k'
  rw [hM.2.2.2.1] at hj
  rw [List.map_cons, List.map_cons, rv_refP (by omega), show adr g 1 = gS g from by unfold adr; rw [if_pos (by omega), if_pos rfl]]
  exact va_sld hx hb hWS.2.2.2.2.2.1 (Nat.lt_of_lt_of_le hWS.2.2.2.2.2.2.1 hWS.2.2.2.2.2.2.2.1) (fun q => absurd hWS.2.2.2.2.2.2.1 (Nat.not_lt.mpr q)) hS hj hd k'
theorem sn_slenA {a : Nat} (F : Fr g J n C0 p R s m args meth c) (hd : decode (mt J).2.2.1 pc = .ok (.arraylength, 1)) (hk : mK M a = 20) (K : SimAt g J C0 S0 p l e R s m args below meth c Q (pc + 1) L (.int (Int32.ofNat (mN M a)) :: stk) M) : SimAt g J C0 S0 p l e R s m args below meth c Q pc L (.ref a :: stk) M := by
  intro H locs ls cells slots hS hM hl hL hc hu
  obtain ⟨hx, hb, hml, hown, hts, hWS, hname, hfr, hlo, hsz⟩ := F
  have hK := hWS.1
  have h1 := hM.2.2.1 a hk
  subst h1
  have k' := (K H locs ls cells slots hS hM hl hL hc hu)
  rw [List.map_cons, hM.2.2.2.1] at k'
  rw [List.map_cons, rv_refP (by omega), show adr g 1 = gS g from by unfold adr; rw [if_pos (by omega), if_pos rfl]]
  exact va_slen hx hb hWS.2.2.2.2.2.1 (Nat.lt_of_lt_of_le hWS.2.2.2.2.2.2.1 hWS.2.2.2.2.2.2.2.1) (fun q => absurd hWS.2.2.2.2.2.2.1 (Nat.not_lt.mpr q)) hS hd k'
theorem sn_aald16 {a : Nat} {j : Int32} (F : Fr g J n C0 p R s m args meth c) (hd : decode (mt J).2.2.1 pc = .ok (.aaload, 1)) (hk : mK M a = 16) (hj : ib j (mN M a)) (K : SimAt g J C0 S0 p l e R s m args below meth c Q (pc + 1) L (.ref (mR M a j.toNatClampNeg) :: stk) M) : SimAt g J C0 S0 p l e R s m args below meth c Q pc L (.int j :: .ref a :: stk) M := by
  intro H locs ls cells slots hS hM hl hL hc hu
  obtain ⟨hx, hb, hml, hown, hts, hWS, hname, hfr, hlo, hsz⟩ := F
  have hK := hWS.1
  have ha := hM.2.1 a (by omega)
  have hw := hM.at (a := a) (by omega)
  rw [cE_ref hk (by omega)] at hw
  have k' := (K H locs ls cells slots hS hM hl hL hc hu)
  rw [List.map_cons, rv_ref] at k'
  rw [List.map_cons, List.map_cons, rv_refP (by omega)]
  exact va_aldq (C := RX0) hx hb hK hM.1 (a - 32) 4 hw rfl hj hd k'
theorem sn_aald17 {a : Nat} {j : Int32} (F : Fr g J n C0 p R s m args meth c) (hd : decode (mt J).2.2.1 pc = .ok (.aaload, 1)) (hk : mK M a = 17) (hj : ib j (mN M a)) (K : SimAt g J C0 S0 p l e R s m args below meth c Q (pc + 1) L (.ref (mR M a j.toNatClampNeg) :: stk) M) : SimAt g J C0 S0 p l e R s m args below meth c Q pc L (.int j :: .ref a :: stk) M := by
  intro H locs ls cells slots hS hM hl hL hc hu
  obtain ⟨hx, hb, hml, hown, hts, hWS, hname, hfr, hlo, hsz⟩ := F
  have hK := hWS.1
  have ha := hM.2.1 a (by omega)
  have hw := hM.at (a := a) (by omega)
  rw [cE_ref hk (by omega)] at hw
  have k' := (K H locs ls cells slots hS hM hl hL hc hu)
  rw [List.map_cons, rv_ref] at k'
  rw [List.map_cons, List.map_cons, rv_refP (by omega)]
  exact va_aldq (C := RX3) hx hb hK hM.1 (a - 32) 5 hw rfl hj hd k'
theorem sn_aald18 {a : Nat} {j : Int32} (F : Fr g J n C0 p R s m args meth c) (hd : decode (mt J).2.2.1 pc = .ok (.aaload, 1)) (hk : mK M a = 18) (hj : ib j (mN M a)) (K : SimAt g J C0 S0 p l e R s m args below meth c Q (pc + 1) L (.ref (mR M a j.toNatClampNeg) :: stk) M) : SimAt g J C0 S0 p l e R s m args below meth c Q pc L (.int j :: .ref a :: stk) M := by
  intro H locs ls cells slots hS hM hl hL hc hu
  obtain ⟨hx, hb, hml, hown, hts, hWS, hname, hfr, hlo, hsz⟩ := F
  have hK := hWS.1
  have ha := hM.2.1 a (by omega)
  have hw := hM.at (a := a) (by omega)
  rw [cE_ref hk (by omega)] at hw
  have k' := (K H locs ls cells slots hS hM hl hL hc hu)
  rw [List.map_cons, rv_ref] at k'
  rw [List.map_cons, List.map_cons, rv_refP (by omega)]
  exact va_aldq (C := RX4) hx hb hK hM.1 (a - 32) 6 hw rfl hj hd k'
theorem sn_aald19 {a : Nat} {j : Int32} (F : Fr g J n C0 p R s m args meth c) (hd : decode (mt J).2.2.1 pc = .ok (.aaload, 1)) (hk : mK M a = 19) (hj : ib j (mN M a)) (K : SimAt g J C0 S0 p l e R s m args below meth c Q (pc + 1) L (.ref (mR M a j.toNatClampNeg) :: stk) M) : SimAt g J C0 S0 p l e R s m args below meth c Q pc L (.int j :: .ref a :: stk) M := by
  intro H locs ls cells slots hS hM hl hL hc hu
  obtain ⟨hx, hb, hml, hown, hts, hWS, hname, hfr, hlo, hsz⟩ := F
  have hK := hWS.1
  have ha := hM.2.1 a (by omega)
  have hw := hM.at (a := a) (by omega)
  rw [cE_ref hk (by omega)] at hw
  have k' := (K H locs ls cells slots hS hM hl hL hc hu)
  rw [List.map_cons, rv_ref] at k'
  rw [List.map_cons, List.map_cons, rv_refP (by omega)]
  exact va_aldq (C := RX8) hx hb hK hM.1 (a - 32) 7 hw rfl hj hd k'
theorem sn_iast {a : Nat} {j : Int32} {x : Int32} (F : Fr g J n C0 p R s m args meth c) (hd : decode (mt J).2.2.1 pc = .ok (.iastore, 1)) (hk : mK M a = 12) (hj : ib j (mN M a)) (K : SimAt g J C0 S0 p l e R s m args below meth c Q (pc + 1) L stk (wI M a j.toNatClampNeg x)) : SimAt g J C0 S0 p l e R s m args below meth c Q pc L (.int x :: .int j :: .ref a :: stk) M := by
  intro H locs ls cells slots hS hM hl hL hc hu
  obtain ⟨hx, hb, hml, hown, hts, hWS, hname, hfr, hlo, hsz⟩ := F
  have hK := hWS.1
  have ha := hM.2.1 a (by omega)
  have hw := hM.at (a := a) (by omega)
  rw [cE_int hk (by omega) (by omega)] at hw
  rw [List.map_cons, List.map_cons, List.map_cons, rv_refP (by omega)]
  exact va_iast hx hb hK hM.1 wsl_D hS (a - 32) 0 hw rfl hj hd (fun H1 locs1 h1 _ h3 => K H1 locs1 ls cells slots h3 (hm_wI hM (by omega) (cE_wI_arr hk (by omega) (by omega)) h1) hl hL hc hu)
theorem sn_bast {a : Nat} {j : Int32} {x : Int32} (F : Fr g J n C0 p R s m args meth c) (hd : decode (mt J).2.2.1 pc = .ok (.bastore, 1)) (hk : mK M a = 13) (hj : ib j (mN M a)) (K : SimAt g J C0 S0 p l e R s m args below meth c Q (pc + 1) L stk (wI M a j.toNatClampNeg (vp_nar .byte x))) : SimAt g J C0 S0 p l e R s m args below meth c Q pc L (.int x :: .int j :: .ref a :: stk) M := by
  intro H locs ls cells slots hS hM hl hL hc hu
  obtain ⟨hx, hb, hml, hown, hts, hWS, hname, hfr, hlo, hsz⟩ := F
  have hK := hWS.1
  have ha := hM.2.1 a (by omega)
  have hw := hM.at (a := a) (by omega)
  rw [cE_int hk (by omega) (by omega)] at hw
  rw [List.map_cons, List.map_cons, List.map_cons, rv_refP (by omega)]
  exact va_bast hx hb hK hM.1 wsl_D hS (a - 32) 1 hw rfl hj hd (fun H1 locs1 h1 _ h3 => K H1 locs1 ls cells slots h3 (hm_wI hM (by omega) (cE_wI_arr hk (by omega) (by omega)) h1) hl hL hc hu)
theorem sn_zast {a : Nat} {j : Int32} {x : Int32} (F : Fr g J n C0 p R s m args meth c) (hd : decode (mt J).2.2.1 pc = .ok (.bastore, 1)) (hk : mK M a = 14) (hj : ib j (mN M a)) (K : SimAt g J C0 S0 p l e R s m args below meth c Q (pc + 1) L stk (wI M a j.toNatClampNeg (vp_nar .boolean x))) : SimAt g J C0 S0 p l e R s m args below meth c Q pc L (.int x :: .int j :: .ref a :: stk) M := by
  intro H locs ls cells slots hS hM hl hL hc hu
  obtain ⟨hx, hb, hml, hown, hts, hWS, hname, hfr, hlo, hsz⟩ := F
  have hK := hWS.1
  have ha := hM.2.1 a (by omega)
  have hw := hM.at (a := a) (by omega)
  rw [cE_int hk (by omega) (by omega)] at hw
  rw [List.map_cons, List.map_cons, List.map_cons, rv_refP (by omega)]
  exact va_zast hx hb hK hM.1 wsl_D hS (a - 32) 2 hw rfl hj hd (fun H1 locs1 h1 _ h3 => K H1 locs1 ls cells slots h3 (hm_wI hM (by omega) (cE_wI_arr hk (by omega) (by omega)) h1) hl hL hc hu)
theorem sn_last {a : Nat} {j : Int32} {x : Int64} (F : Fr g J n C0 p R s m args meth c) (hd : decode (mt J).2.2.1 pc = .ok (.lastore, 1)) (hk : mK M a = 15) (hj : ib j (mN M a)) (K : SimAt g J C0 S0 p l e R s m args below meth c Q (pc + 1) L stk (wL M a j.toNatClampNeg x)) : SimAt g J C0 S0 p l e R s m args below meth c Q pc L (.long x :: .int j :: .ref a :: stk) M := by
  intro H locs ls cells slots hS hM hl hL hc hu
  obtain ⟨hx, hb, hml, hown, hts, hWS, hname, hfr, hlo, hsz⟩ := F
  have hK := hWS.1
  have ha := hM.2.1 a (by omega)
  have hw := hM.at (a := a) (by omega)
  rw [cE_long hk] at hw
  rw [List.map_cons, List.map_cons, List.map_cons, rv_refP (by omega)]
  exact va_last hx hb hK hM.1 wsl_D hS (a - 32) 3 hw rfl hj hd (fun H1 locs1 h1 _ h3 => K H1 locs1 ls cells slots h3 (hm_wL hM (by omega) (cE_wL_arr hk) h1) hl hL hc hu)
theorem sn_aast16 {a b : Nat} {j : Int32} (F : Fr g J n C0 p R s m args meth c) (hd : decode (mt J).2.2.1 pc = .ok (.aastore, 1)) (hk : mK M a = 16) (hkb : mK M b = 0) (hj : ib j (mN M a)) (K : SimAt g J C0 S0 p l e R s m args below meth c Q (pc + 1) L stk (wR M a j.toNatClampNeg b)) : SimAt g J C0 S0 p l e R s m args below meth c Q pc L (.ref b :: .int j :: .ref a :: stk) M := by
  intro H locs ls cells slots hS hM hl hL hc hu
  obtain ⟨hx, hb, hml, hown, hts, hWS, hname, hfr, hlo, hsz⟩ := F
  have hK := hWS.1
  have ha := hM.2.1 a (by omega)
  have hbb := hM.2.1 b (by omega)
  have hw := hM.at (a := a) (by omega)
  have hwb := hM.at (a := b) (by omega)
  rw [cE_ref hk (by omega)] at hw
  rw [cE_obj hkb (by omega)] at hwb
  rw [List.map_cons, List.map_cons, List.map_cons, rv_refP (a := a) (by omega), rv_refP (a := b) (by omega)]
  have hro : rvO g b = some (adr g b) := by unfold rvO; rw [if_neg (by omega)]
  exact va_astq hx hb hK hM.1 wsl_D hS (a - 32) 4 (b - 32) 0 (r := (RF 0, TF 0, nF 0)) hw rfl hwb (clG (by omega)) hj hd (fun H1 locs1 h1 _ h3 => K H1 locs1 ls cells slots h3 (hm_wR hM (by omega) (by rw [cE_wR_arr hk (by omega), hro]) h1) hl hL hc hu)
theorem sn_aast17 {a b : Nat} {j : Int32} (F : Fr g J n C0 p R s m args meth c) (hd : decode (mt J).2.2.1 pc = .ok (.aastore, 1)) (hk : mK M a = 17) (hkb : mK M b = 3) (hj : ib j (mN M a)) (K : SimAt g J C0 S0 p l e R s m args below meth c Q (pc + 1) L stk (wR M a j.toNatClampNeg b)) : SimAt g J C0 S0 p l e R s m args below meth c Q pc L (.ref b :: .int j :: .ref a :: stk) M := by
  intro H locs ls cells slots hS hM hl hL hc hu
  obtain ⟨hx, hb, hml, hown, hts, hWS, hname, hfr, hlo, hsz⟩ := F
  have hK := hWS.1
  have ha := hM.2.1 a (by omega)
  have hbb := hM.2.1 b (by omega)
  have hw := hM.at (a := a) (by omega)
  have hwb := hM.at (a := b) (by omega)
  rw [cE_ref hk (by omega)] at hw
  rw [cE_obj hkb (by omega)] at hwb
  rw [List.map_cons, List.map_cons, List.map_cons, rv_refP (a := a) (by omega), rv_refP (a := b) (by omega)]
  have hro : rvO g b = some (adr g b) := by unfold rvO; rw [if_neg (by omega)]
  exact va_astq hx hb hK hM.1 wsl_D hS (a - 32) 5 (b - 32) 3 (r := (RF 3, TF 3, nF 3)) hw rfl hwb (clG (by omega)) hj hd (fun H1 locs1 h1 _ h3 => K H1 locs1 ls cells slots h3 (hm_wR hM (by omega) (by rw [cE_wR_arr hk (by omega), hro]) h1) hl hL hc hu)
theorem sn_aast18 {a b : Nat} {j : Int32} (F : Fr g J n C0 p R s m args meth c) (hd : decode (mt J).2.2.1 pc = .ok (.aastore, 1)) (hk : mK M a = 18) (hkb : mK M b = 4) (hj : ib j (mN M a)) (K : SimAt g J C0 S0 p l e R s m args below meth c Q (pc + 1) L stk (wR M a j.toNatClampNeg b)) : SimAt g J C0 S0 p l e R s m args below meth c Q pc L (.ref b :: .int j :: .ref a :: stk) M := by
  intro H locs ls cells slots hS hM hl hL hc hu
  obtain ⟨hx, hb, hml, hown, hts, hWS, hname, hfr, hlo, hsz⟩ := F
  have hK := hWS.1
  have ha := hM.2.1 a (by omega)
  have hbb := hM.2.1 b (by omega)
  have hw := hM.at (a := a) (by omega)
  have hwb := hM.at (a := b) (by omega)
  rw [cE_ref hk (by omega)] at hw
  rw [cE_obj hkb (by omega)] at hwb
  rw [List.map_cons, List.map_cons, List.map_cons, rv_refP (a := a) (by omega), rv_refP (a := b) (by omega)]
  have hro : rvO g b = some (adr g b) := by unfold rvO; rw [if_neg (by omega)]
  exact va_astq hx hb hK hM.1 wsl_D hS (a - 32) 6 (b - 32) 4 (r := (RF 4, TF 4, nF 4)) hw rfl hwb (clG (by omega)) hj hd (fun H1 locs1 h1 _ h3 => K H1 locs1 ls cells slots h3 (hm_wR hM (by omega) (by rw [cE_wR_arr hk (by omega), hro]) h1) hl hL hc hu)
theorem sn_aast19 {a b : Nat} {j : Int32} (F : Fr g J n C0 p R s m args meth c) (hd : decode (mt J).2.2.1 pc = .ok (.aastore, 1)) (hk : mK M a = 19) (hkb : mK M b = 8) (hj : ib j (mN M a)) (K : SimAt g J C0 S0 p l e R s m args below meth c Q (pc + 1) L stk (wR M a j.toNatClampNeg b)) : SimAt g J C0 S0 p l e R s m args below meth c Q pc L (.ref b :: .int j :: .ref a :: stk) M := by
  intro H locs ls cells slots hS hM hl hL hc hu
  obtain ⟨hx, hb, hml, hown, hts, hWS, hname, hfr, hlo, hsz⟩ := F
  have hK := hWS.1
  have ha := hM.2.1 a (by omega)
  have hbb := hM.2.1 b (by omega)
  have hw := hM.at (a := a) (by omega)
  have hwb := hM.at (a := b) (by omega)
  rw [cE_ref hk (by omega)] at hw
  rw [cE_obj hkb (by omega)] at hwb
  rw [List.map_cons, List.map_cons, List.map_cons, rv_refP (a := a) (by omega), rv_refP (a := b) (by omega)]
  have hro : rvO g b = some (adr g b) := by unfold rvO; rw [if_neg (by omega)]
  exact va_astq hx hb hK hM.1 wsl_D hS (a - 32) 7 (b - 32) 8 (r := (RF 8, TF 8, nF 8)) hw rfl hwb (clG (by omega)) hj hd (fun H1 locs1 h1 _ h3 => K H1 locs1 ls cells slots h3 (hm_wR hM (by omega) (by rw [cE_wR_arr hk (by omega), hro]) h1) hl hL hc hu)
theorem sn_alen12 {a : Nat} (F : Fr g J n C0 p R s m args meth c) (hd : decode (mt J).2.2.1 pc = .ok (.arraylength, 1)) (hk : mK M a = 12) (K : SimAt g J C0 S0 p l e R s m args below meth c Q (pc + 1) L (.int (Int32.ofNat (mN M a)) :: stk) M) : SimAt g J C0 S0 p l e R s m args below meth c Q pc L (.ref a :: stk) M := by
  intro H locs ls cells slots hS hM hl hL hc hu
  obtain ⟨hx, hb, hml, hown, hts, hWS, hname, hfr, hlo, hsz⟩ := F
  have hK := hWS.1
  have ha := hM.2.1 a (by omega)
  have hw := hM.at (a := a) (by omega)
  rw [cE_int hk (by omega) (by omega)] at hw
  rw [List.map_cons, rv_refP (by omega)]
  exact va_alen hx hb hK hM.1 (a - 32) 0 hw rfl rfl hd (K H locs ls cells slots hS hM hl hL hc hu)
theorem sn_alen13 {a : Nat} (F : Fr g J n C0 p R s m args meth c) (hd : decode (mt J).2.2.1 pc = .ok (.arraylength, 1)) (hk : mK M a = 13) (K : SimAt g J C0 S0 p l e R s m args below meth c Q (pc + 1) L (.int (Int32.ofNat (mN M a)) :: stk) M) : SimAt g J C0 S0 p l e R s m args below meth c Q pc L (.ref a :: stk) M := by
  intro H locs ls cells slots hS hM hl hL hc hu
  obtain ⟨hx, hb, hml, hown, hts, hWS, hname, hfr, hlo, hsz⟩ := F
  have hK := hWS.1
  have ha := hM.2.1 a (by omega)
  have hw := hM.at (a := a) (by omega)
  rw [cE_int hk (by omega) (by omega)] at hw
  rw [List.map_cons, rv_refP (by omega)]
  exact va_alen hx hb hK hM.1 (a - 32) 1 hw rfl rfl hd (K H locs ls cells slots hS hM hl hL hc hu)
theorem sn_alen14 {a : Nat} (F : Fr g J n C0 p R s m args meth c) (hd : decode (mt J).2.2.1 pc = .ok (.arraylength, 1)) (hk : mK M a = 14) (K : SimAt g J C0 S0 p l e R s m args below meth c Q (pc + 1) L (.int (Int32.ofNat (mN M a)) :: stk) M) : SimAt g J C0 S0 p l e R s m args below meth c Q pc L (.ref a :: stk) M := by
  intro H locs ls cells slots hS hM hl hL hc hu
  obtain ⟨hx, hb, hml, hown, hts, hWS, hname, hfr, hlo, hsz⟩ := F
  have hK := hWS.1
  have ha := hM.2.1 a (by omega)
  have hw := hM.at (a := a) (by omega)
  rw [cE_int hk (by omega) (by omega)] at hw
  rw [List.map_cons, rv_refP (by omega)]
  exact va_alen hx hb hK hM.1 (a - 32) 2 hw rfl rfl hd (K H locs ls cells slots hS hM hl hL hc hu)
theorem sn_alen15 {a : Nat} (F : Fr g J n C0 p R s m args meth c) (hd : decode (mt J).2.2.1 pc = .ok (.arraylength, 1)) (hk : mK M a = 15) (K : SimAt g J C0 S0 p l e R s m args below meth c Q (pc + 1) L (.int (Int32.ofNat (mN M a)) :: stk) M) : SimAt g J C0 S0 p l e R s m args below meth c Q pc L (.ref a :: stk) M := by
  intro H locs ls cells slots hS hM hl hL hc hu
  obtain ⟨hx, hb, hml, hown, hts, hWS, hname, hfr, hlo, hsz⟩ := F
  have hK := hWS.1
  have ha := hM.2.1 a (by omega)
  have hw := hM.at (a := a) (by omega)
  rw [cE_long hk] at hw
  rw [List.map_cons, rv_refP (by omega)]
  exact va_alen hx hb hK hM.1 (a - 32) 3 hw rfl rfl hd (K H locs ls cells slots hS hM hl hL hc hu)
theorem sn_alen16 {a : Nat} (F : Fr g J n C0 p R s m args meth c) (hd : decode (mt J).2.2.1 pc = .ok (.arraylength, 1)) (hk : mK M a = 16) (K : SimAt g J C0 S0 p l e R s m args below meth c Q (pc + 1) L (.int (Int32.ofNat (mN M a)) :: stk) M) : SimAt g J C0 S0 p l e R s m args below meth c Q pc L (.ref a :: stk) M := by
  intro H locs ls cells slots hS hM hl hL hc hu
  obtain ⟨hx, hb, hml, hown, hts, hWS, hname, hfr, hlo, hsz⟩ := F
  have hK := hWS.1
  have ha := hM.2.1 a (by omega)
  have hw := hM.at (a := a) (by omega)
  rw [cE_ref hk (by omega)] at hw
  rw [List.map_cons, rv_refP (by omega)]
  exact va_alen hx hb hK hM.1 (a - 32) 4 hw rfl rfl hd (K H locs ls cells slots hS hM hl hL hc hu)
theorem sn_alen17 {a : Nat} (F : Fr g J n C0 p R s m args meth c) (hd : decode (mt J).2.2.1 pc = .ok (.arraylength, 1)) (hk : mK M a = 17) (K : SimAt g J C0 S0 p l e R s m args below meth c Q (pc + 1) L (.int (Int32.ofNat (mN M a)) :: stk) M) : SimAt g J C0 S0 p l e R s m args below meth c Q pc L (.ref a :: stk) M := by
  intro H locs ls cells slots hS hM hl hL hc hu
  obtain ⟨hx, hb, hml, hown, hts, hWS, hname, hfr, hlo, hsz⟩ := F
  have hK := hWS.1
  have ha := hM.2.1 a (by omega)
  have hw := hM.at (a := a) (by omega)
  rw [cE_ref hk (by omega)] at hw
  rw [List.map_cons, rv_refP (by omega)]
  exact va_alen hx hb hK hM.1 (a - 32) 5 hw rfl rfl hd (K H locs ls cells slots hS hM hl hL hc hu)
theorem sn_alen18 {a : Nat} (F : Fr g J n C0 p R s m args meth c) (hd : decode (mt J).2.2.1 pc = .ok (.arraylength, 1)) (hk : mK M a = 18) (K : SimAt g J C0 S0 p l e R s m args below meth c Q (pc + 1) L (.int (Int32.ofNat (mN M a)) :: stk) M) : SimAt g J C0 S0 p l e R s m args below meth c Q pc L (.ref a :: stk) M := by
  intro H locs ls cells slots hS hM hl hL hc hu
  obtain ⟨hx, hb, hml, hown, hts, hWS, hname, hfr, hlo, hsz⟩ := F
  have hK := hWS.1
  have ha := hM.2.1 a (by omega)
  have hw := hM.at (a := a) (by omega)
  rw [cE_ref hk (by omega)] at hw
  rw [List.map_cons, rv_refP (by omega)]
  exact va_alen hx hb hK hM.1 (a - 32) 6 hw rfl rfl hd (K H locs ls cells slots hS hM hl hL hc hu)
theorem sn_alen19 {a : Nat} (F : Fr g J n C0 p R s m args meth c) (hd : decode (mt J).2.2.1 pc = .ok (.arraylength, 1)) (hk : mK M a = 19) (K : SimAt g J C0 S0 p l e R s m args below meth c Q (pc + 1) L (.int (Int32.ofNat (mN M a)) :: stk) M) : SimAt g J C0 S0 p l e R s m args below meth c Q pc L (.ref a :: stk) M := by
  intro H locs ls cells slots hS hM hl hL hc hu
  obtain ⟨hx, hb, hml, hown, hts, hWS, hname, hfr, hlo, hsz⟩ := F
  have hK := hWS.1
  have ha := hM.2.1 a (by omega)
  have hw := hM.at (a := a) (by omega)
  rw [cE_ref hk (by omega)] at hw
  rw [List.map_cons, rv_refP (by omega)]
  exact va_alen hx hb hK hM.1 (a - 32) 7 hw rfl rfl hd (K H locs ls cells slots hS hM hl hL hc hu)
theorem sn_new {x ci : Nat} (F : Fr g J n C0 p R s m args meth c) (hd : decode (mt J).2.2.1 pc = .ok (.new x, 3)) (ht : pk ctab (mt J).1 x = some ci) (hC : mX M + 1 ≤ R.cells + C0) (hU : mU M + nF ci ≤ R.slots + S0) (K : SimAt g J C0 S0 p l e R s m args below meth c Q (pc + 3) L (.ref (mX M + 32) :: stk) (wN M ci 0 (nF ci))) : SimAt g J C0 S0 p l e R s m args below meth c Q pc L stk M := by
  intro H locs ls cells slots hS hM hl hL hc hu
  obtain ⟨hx, hb, hml, hown, hts, hWS, hname, hfr, hlo, hsz⟩ := F
  have hK := hWS.1
  obtain ⟨hcl, hci⟩ := cls_ok ht
  refine va_new (ci := ci) (fs := (List.range (nF ci)).map (fv g (wN M ci 0 (nF ci)) (mX M + 32) ci)) hx hb hts (inG hci) (tyF ci) (tyG hci) hown (hts _ hcl) (hts _ (inst_ok hci).1) (hts _ (inst_ok hci).2) hK hM.1 wsl_D hS (fun q hq => Nat.le_trans hWS.2.2.2.2.2.2.2.1 hq) (clG hci) ?_ (by omega) (by omega) hd (fun q H1 hP1 hD1 hS1 => W.size (fun hz => ?_))
  · intro j hj
    rw [tyk hci hj]
    unfold vp_V
    rw [List.getD_eq_getElem?_getD, List.getElem?_map, List.getElem?_range hj]
    show _ = fv g (wN M ci 0 (nF ci)) (mX M + 32) ci j
    unfold fv
    rw [mR_wN, mI_wN, if_pos rfl, if_pos rfl, rv_ref0]
  · have hq := new_at hsz hP1 hD1 hc hz
    subst hq
    have k' := K H1 locs ls (cells + 1) (slots + nF ci) hS1 (hm_wN hM (by omega) (by rw [cE_obj (by rw [mK_wN, if_pos rfl]) hci]; exact hP1)) hl hL (by rw [mX_wN]; omega) (by show slots + nF ci + S0 = mU M + nF ci; omega)
    rw [List.map_cons, rv_refP (by omega), adr_ge (by omega), Nat.add_sub_cancel] at k'
    exact k'
theorem sn_newa12 {k : Int32} (F : Fr g J n C0 p R s m args meth c) (hd : decode (mt J).2.2.1 pc = .ok (.newarray .int, 2)) (hk : ¬ k < 0) (hB : k.toNatClampNeg * 8 ≤ 536870912) (hC : mX M + 1 ≤ R.cells + C0) (hU : mU M + k.toNatClampNeg ≤ R.slots + S0) (K : SimAt g J C0 S0 p l e R s m args below meth c Q (pc + 2) L (.ref (mX M + 32) :: stk) (wN M 12 k.toNatClampNeg k.toNatClampNeg)) : SimAt g J C0 S0 p l e R s m args below meth c Q pc L (.int k :: stk) M := by
  intro H locs ls cells slots hS hM hl hL hc hu
  obtain ⟨hx, hb, hml, hown, hts, hWS, hname, hfr, hlo, hsz⟩ := F
  have hK := hWS.1
  refine va_newa (a0 := (k.toNatClampNeg, .inl (fun _ => 0))) (ty := .int) (atype := .int) hx hb (hts _ w_aI) rfl hK hM.1 wsl_D hS (fun q hq => Nat.le_trans hWS.2.2.2.2.2.2.2.1 hq) (fun _ => rfl) hk rfl (by show k.toNatClampNeg * 4 ≤ 536870912; omega) (by omega) (by omega) hd (fun q cA H1 hK1 hP1 hD1 hS1 => W.size (fun hz => ?_))
  have hq := new_at hsz hP1 hD1 hc hz
  subst hq
  have hA : cA = gA g 12 := by
    have h1 := (hK1.2 8 (cA, .int) rfl).2
    have h2 := (hK.2 0 (gA g 12, .int) rfl).2
    exact Option.some.inj (h1.symm.trans h2)
  subst hA
  have ec : cE g (wN M 12 k.toNatClampNeg k.toNatClampNeg) (mX M + 32) = .inl (gA g 12, (k.toNatClampNeg, .inl (fun _ => 0))) := by
    rw [cE_int (by rw [mK_wN, if_pos rfl]) (by omega) (by omega), mN_wN, if_pos rfl]
    have ef : (fun i => mI (wN M 12 k.toNatClampNeg k.toNatClampNeg) (mX M + 32) i) = fun _ => 0 := funext fun i => by rw [mI_wN, if_pos rfl]
    rw [ef]
  have k' := K H1 locs ls (cells + 1) (slots + k.toNatClampNeg) hS1 (hm_wN hM (by omega) (by rw [ec]; exact hP1)) hl hL (by rw [mX_wN]; omega) (by show slots + k.toNatClampNeg + S0 = mU M + k.toNatClampNeg; omega)
  rw [List.map_cons, rv_refP (by omega), adr_ge (by omega), Nat.add_sub_cancel] at k'
  exact k'
theorem sn_newa13 {k : Int32} (F : Fr g J n C0 p R s m args meth c) (hd : decode (mt J).2.2.1 pc = .ok (.newarray .byte, 2)) (hk : ¬ k < 0) (hB : k.toNatClampNeg * 8 ≤ 536870912) (hC : mX M + 1 ≤ R.cells + C0) (hU : mU M + k.toNatClampNeg ≤ R.slots + S0) (K : SimAt g J C0 S0 p l e R s m args below meth c Q (pc + 2) L (.ref (mX M + 32) :: stk) (wN M 13 k.toNatClampNeg k.toNatClampNeg)) : SimAt g J C0 S0 p l e R s m args below meth c Q pc L (.int k :: stk) M := by
  intro H locs ls cells slots hS hM hl hL hc hu
  obtain ⟨hx, hb, hml, hown, hts, hWS, hname, hfr, hlo, hsz⟩ := F
  have hK := hWS.1
  refine va_newa (a0 := (k.toNatClampNeg, .inl (fun _ => 0))) (ty := .byte) (atype := .byte) hx hb (hts _ w_aB) rfl hK hM.1 wsl_D hS (fun q hq => Nat.le_trans hWS.2.2.2.2.2.2.2.1 hq) (fun _ => rfl) hk rfl (by show k.toNatClampNeg * 1 ≤ 536870912; omega) (by omega) (by omega) hd (fun q cA H1 hK1 hP1 hD1 hS1 => W.size (fun hz => ?_))
  have hq := new_at hsz hP1 hD1 hc hz
  subst hq
  have hA : cA = gA g 13 := by
    have h1 := (hK1.2 8 (cA, .byte) rfl).2
    have h2 := (hK.2 1 (gA g 13, .byte) rfl).2
    exact Option.some.inj (h1.symm.trans h2)
  subst hA
  have ec : cE g (wN M 13 k.toNatClampNeg k.toNatClampNeg) (mX M + 32) = .inl (gA g 13, (k.toNatClampNeg, .inl (fun _ => 0))) := by
    rw [cE_int (by rw [mK_wN, if_pos rfl]) (by omega) (by omega), mN_wN, if_pos rfl]
    have ef : (fun i => mI (wN M 13 k.toNatClampNeg k.toNatClampNeg) (mX M + 32) i) = fun _ => 0 := funext fun i => by rw [mI_wN, if_pos rfl]
    rw [ef]
  have k' := K H1 locs ls (cells + 1) (slots + k.toNatClampNeg) hS1 (hm_wN hM (by omega) (by rw [ec]; exact hP1)) hl hL (by rw [mX_wN]; omega) (by show slots + k.toNatClampNeg + S0 = mU M + k.toNatClampNeg; omega)
  rw [List.map_cons, rv_refP (by omega), adr_ge (by omega), Nat.add_sub_cancel] at k'
  exact k'
theorem sn_newa14 {k : Int32} (F : Fr g J n C0 p R s m args meth c) (hd : decode (mt J).2.2.1 pc = .ok (.newarray .boolean, 2)) (hk : ¬ k < 0) (hB : k.toNatClampNeg * 8 ≤ 536870912) (hC : mX M + 1 ≤ R.cells + C0) (hU : mU M + k.toNatClampNeg ≤ R.slots + S0) (K : SimAt g J C0 S0 p l e R s m args below meth c Q (pc + 2) L (.ref (mX M + 32) :: stk) (wN M 14 k.toNatClampNeg k.toNatClampNeg)) : SimAt g J C0 S0 p l e R s m args below meth c Q pc L (.int k :: stk) M := by
  intro H locs ls cells slots hS hM hl hL hc hu
  obtain ⟨hx, hb, hml, hown, hts, hWS, hname, hfr, hlo, hsz⟩ := F
  have hK := hWS.1
  refine va_newa (a0 := (k.toNatClampNeg, .inl (fun _ => 0))) (ty := .boolean) (atype := .boolean) hx hb (hts _ w_aZ) rfl hK hM.1 wsl_D hS (fun q hq => Nat.le_trans hWS.2.2.2.2.2.2.2.1 hq) (fun _ => rfl) hk rfl (by show k.toNatClampNeg * 1 ≤ 536870912; omega) (by omega) (by omega) hd (fun q cA H1 hK1 hP1 hD1 hS1 => W.size (fun hz => ?_))
  have hq := new_at hsz hP1 hD1 hc hz
  subst hq
  have hA : cA = gA g 14 := by
    have h1 := (hK1.2 8 (cA, .boolean) rfl).2
    have h2 := (hK.2 2 (gA g 14, .boolean) rfl).2
    exact Option.some.inj (h1.symm.trans h2)
  subst hA
  have ec : cE g (wN M 14 k.toNatClampNeg k.toNatClampNeg) (mX M + 32) = .inl (gA g 14, (k.toNatClampNeg, .inl (fun _ => 0))) := by
    rw [cE_int (by rw [mK_wN, if_pos rfl]) (by omega) (by omega), mN_wN, if_pos rfl]
    have ef : (fun i => mI (wN M 14 k.toNatClampNeg k.toNatClampNeg) (mX M + 32) i) = fun _ => 0 := funext fun i => by rw [mI_wN, if_pos rfl]
    rw [ef]
  have k' := K H1 locs ls (cells + 1) (slots + k.toNatClampNeg) hS1 (hm_wN hM (by omega) (by rw [ec]; exact hP1)) hl hL (by rw [mX_wN]; omega) (by show slots + k.toNatClampNeg + S0 = mU M + k.toNatClampNeg; omega)
  rw [List.map_cons, rv_refP (by omega), adr_ge (by omega), Nat.add_sub_cancel] at k'
  exact k'
theorem sn_newa15 {k : Int32} (F : Fr g J n C0 p R s m args meth c) (hd : decode (mt J).2.2.1 pc = .ok (.newarray .long, 2)) (hk : ¬ k < 0) (hB : k.toNatClampNeg * 8 ≤ 536870912) (hC : mX M + 1 ≤ R.cells + C0) (hU : mU M + k.toNatClampNeg ≤ R.slots + S0) (K : SimAt g J C0 S0 p l e R s m args below meth c Q (pc + 2) L (.ref (mX M + 32) :: stk) (wN M 15 k.toNatClampNeg k.toNatClampNeg)) : SimAt g J C0 S0 p l e R s m args below meth c Q pc L (.int k :: stk) M := by
  intro H locs ls cells slots hS hM hl hL hc hu
  obtain ⟨hx, hb, hml, hown, hts, hWS, hname, hfr, hlo, hsz⟩ := F
  have hK := hWS.1
  refine va_newa (a0 := (k.toNatClampNeg, .inr (.inl (fun _ => 0)))) (ty := .long) (atype := .long) hx hb (hts _ w_aJ_) rfl hK hM.1 wsl_D hS (fun q hq => Nat.le_trans hWS.2.2.2.2.2.2.2.1 hq) (fun _ => rfl) hk rfl (by show k.toNatClampNeg * 8 ≤ 536870912; omega) (by omega) (by omega) hd (fun q cA H1 hK1 hP1 hD1 hS1 => W.size (fun hz => ?_))
  have hq := new_at hsz hP1 hD1 hc hz
  subst hq
  have hA : cA = gA g 15 := by
    have h1 := (hK1.2 8 (cA, .long) rfl).2
    have h2 := (hK.2 3 (gA g 15, .long) rfl).2
    exact Option.some.inj (h1.symm.trans h2)
  subst hA
  have ec : cE g (wN M 15 k.toNatClampNeg k.toNatClampNeg) (mX M + 32) = .inl (gA g 15, (k.toNatClampNeg, .inr (.inl (fun _ => 0)))) := by
    rw [cE_long (by rw [mK_wN, if_pos rfl]), mN_wN, if_pos rfl]
    have ef : (fun i => mL (wN M 15 k.toNatClampNeg k.toNatClampNeg) (mX M + 32) i) = fun _ => 0 := funext fun i => by rw [mL_wN, if_pos rfl]
    rw [ef]
  have k' := K H1 locs ls (cells + 1) (slots + k.toNatClampNeg) hS1 (hm_wN hM (by omega) (by rw [ec]; exact hP1)) hl hL (by rw [mX_wN]; omega) (by show slots + k.toNatClampNeg + S0 = mU M + k.toNatClampNeg; omega)
  rw [List.map_cons, rv_refP (by omega), adr_ge (by omega), Nat.add_sub_cancel] at k'
  exact k'
theorem sn_newr16 {k : Int32} {x : Nat} (F : Fr g J n C0 p R s m args meth c) (hd : decode (mt J).2.2.1 pc = .ok (.anewarray x, 3)) (ht : pk ctab (mt J).1 x = some 0) (hk : ¬ k < 0) (hB : k.toNatClampNeg * 8 ≤ 536870912) (hC : mX M + 1 ≤ R.cells + C0) (hU : mU M + k.toNatClampNeg ≤ R.slots + S0) (K : SimAt g J C0 S0 p l e R s m args below meth c Q (pc + 3) L (.ref (mX M + 32) :: stk) (wN M 16 k.toNatClampNeg k.toNatClampNeg)) : SimAt g J C0 S0 p l e R s m args below meth c Q pc L (.int k :: stk) M := by
  intro H locs ls cells slots hS hM hl hL hc hu
  obtain ⟨hx, hb, hml, hown, hts, hWS, hname, hfr, hlo, hsz⟩ := F
  have hK := hWS.1
  obtain ⟨hcl, hci⟩ := cls_ok ht
  refine va_newq (C := RX0) hx hb hown (hts _ hcl) hWS.2.2.1.1 hK hM.1 wsl_D hS (fun q hq => Nat.le_trans hWS.2.2.2.2.2.2.2.1 hq) hk rfl (by omega) (by omega) (by omega) hd (fun q cA H1 hK1 hP1 hD1 hS1 => W.size (fun hz => ?_))
  have hq := new_at hsz hP1 hD1 hc hz
  subst hq
  have hA : cA = gA g 16 := by
    obtain ⟨_, _, -, -, -, h1⟩ := (hK1.2 8 (cA, .object RX0) rfl).2
    obtain ⟨_, _, -, -, -, h2⟩ := (hK.2 4 (gA g 16, .object RX0) rfl).2
    exact Option.some.inj (h1.symm.trans h2)
  subst hA
  have ec : cE g (wN M 16 k.toNatClampNeg k.toNatClampNeg) (mX M + 32) = .inl (gA g 16, (k.toNatClampNeg, .inr (.inr (.inr (.inr (fun _ => none)))))) := by
    rw [cE_ref (by rw [mK_wN, if_pos rfl]) (by omega), mN_wN, if_pos rfl]
    have ef : (fun i => rvO g (mR (wN M 16 k.toNatClampNeg k.toNatClampNeg) (mX M + 32) i)) = fun _ => none := funext fun i => by rw [mR_wN, if_pos rfl]; rfl
    rw [ef]
  have k' := K H1 locs ls (cells + 1) (slots + k.toNatClampNeg) hS1 (hm_wN hM (by omega) (by rw [ec]; exact hP1)) hl hL (by rw [mX_wN]; omega) (by show slots + k.toNatClampNeg + S0 = mU M + k.toNatClampNeg; omega)
  rw [List.map_cons, rv_refP (by omega), adr_ge (by omega), Nat.add_sub_cancel] at k'
  exact k'
theorem sn_newr17 {k : Int32} {x : Nat} (F : Fr g J n C0 p R s m args meth c) (hd : decode (mt J).2.2.1 pc = .ok (.anewarray x, 3)) (ht : pk ctab (mt J).1 x = some 3) (hk : ¬ k < 0) (hB : k.toNatClampNeg * 8 ≤ 536870912) (hC : mX M + 1 ≤ R.cells + C0) (hU : mU M + k.toNatClampNeg ≤ R.slots + S0) (K : SimAt g J C0 S0 p l e R s m args below meth c Q (pc + 3) L (.ref (mX M + 32) :: stk) (wN M 17 k.toNatClampNeg k.toNatClampNeg)) : SimAt g J C0 S0 p l e R s m args below meth c Q pc L (.int k :: stk) M := by
  intro H locs ls cells slots hS hM hl hL hc hu
  obtain ⟨hx, hb, hml, hown, hts, hWS, hname, hfr, hlo, hsz⟩ := F
  have hK := hWS.1
  obtain ⟨hcl, hci⟩ := cls_ok ht
  refine va_newq (C := RX3) hx hb hown (hts _ hcl) hWS.2.2.1.2.1 hK hM.1 wsl_D hS (fun q hq => Nat.le_trans hWS.2.2.2.2.2.2.2.1 hq) hk rfl (by omega) (by omega) (by omega) hd (fun q cA H1 hK1 hP1 hD1 hS1 => W.size (fun hz => ?_))
  have hq := new_at hsz hP1 hD1 hc hz
  subst hq
  have hA : cA = gA g 17 := by
    obtain ⟨_, _, -, -, -, h1⟩ := (hK1.2 8 (cA, .object RX3) rfl).2
    obtain ⟨_, _, -, -, -, h2⟩ := (hK.2 5 (gA g 17, .object RX3) rfl).2
    exact Option.some.inj (h1.symm.trans h2)
  subst hA
  have ec : cE g (wN M 17 k.toNatClampNeg k.toNatClampNeg) (mX M + 32) = .inl (gA g 17, (k.toNatClampNeg, .inr (.inr (.inr (.inr (fun _ => none)))))) := by
    rw [cE_ref (by rw [mK_wN, if_pos rfl]) (by omega), mN_wN, if_pos rfl]
    have ef : (fun i => rvO g (mR (wN M 17 k.toNatClampNeg k.toNatClampNeg) (mX M + 32) i)) = fun _ => none := funext fun i => by rw [mR_wN, if_pos rfl]; rfl
    rw [ef]
  have k' := K H1 locs ls (cells + 1) (slots + k.toNatClampNeg) hS1 (hm_wN hM (by omega) (by rw [ec]; exact hP1)) hl hL (by rw [mX_wN]; omega) (by show slots + k.toNatClampNeg + S0 = mU M + k.toNatClampNeg; omega)
  rw [List.map_cons, rv_refP (by omega), adr_ge (by omega), Nat.add_sub_cancel] at k'
  exact k'
theorem sn_newr18 {k : Int32} {x : Nat} (F : Fr g J n C0 p R s m args meth c) (hd : decode (mt J).2.2.1 pc = .ok (.anewarray x, 3)) (ht : pk ctab (mt J).1 x = some 4) (hk : ¬ k < 0) (hB : k.toNatClampNeg * 8 ≤ 536870912) (hC : mX M + 1 ≤ R.cells + C0) (hU : mU M + k.toNatClampNeg ≤ R.slots + S0) (K : SimAt g J C0 S0 p l e R s m args below meth c Q (pc + 3) L (.ref (mX M + 32) :: stk) (wN M 18 k.toNatClampNeg k.toNatClampNeg)) : SimAt g J C0 S0 p l e R s m args below meth c Q pc L (.int k :: stk) M := by
  intro H locs ls cells slots hS hM hl hL hc hu
  obtain ⟨hx, hb, hml, hown, hts, hWS, hname, hfr, hlo, hsz⟩ := F
  have hK := hWS.1
  obtain ⟨hcl, hci⟩ := cls_ok ht
  refine va_newq (C := RX4) hx hb hown (hts _ hcl) hWS.2.2.1.2.2.1 hK hM.1 wsl_D hS (fun q hq => Nat.le_trans hWS.2.2.2.2.2.2.2.1 hq) hk rfl (by omega) (by omega) (by omega) hd (fun q cA H1 hK1 hP1 hD1 hS1 => W.size (fun hz => ?_))
  have hq := new_at hsz hP1 hD1 hc hz
  subst hq
  have hA : cA = gA g 18 := by
    obtain ⟨_, _, -, -, -, h1⟩ := (hK1.2 8 (cA, .object RX4) rfl).2
    obtain ⟨_, _, -, -, -, h2⟩ := (hK.2 6 (gA g 18, .object RX4) rfl).2
    exact Option.some.inj (h1.symm.trans h2)
  subst hA
  have ec : cE g (wN M 18 k.toNatClampNeg k.toNatClampNeg) (mX M + 32) = .inl (gA g 18, (k.toNatClampNeg, .inr (.inr (.inr (.inr (fun _ => none)))))) := by
    rw [cE_ref (by rw [mK_wN, if_pos rfl]) (by omega), mN_wN, if_pos rfl]
    have ef : (fun i => rvO g (mR (wN M 18 k.toNatClampNeg k.toNatClampNeg) (mX M + 32) i)) = fun _ => none := funext fun i => by rw [mR_wN, if_pos rfl]; rfl
    rw [ef]
  have k' := K H1 locs ls (cells + 1) (slots + k.toNatClampNeg) hS1 (hm_wN hM (by omega) (by rw [ec]; exact hP1)) hl hL (by rw [mX_wN]; omega) (by show slots + k.toNatClampNeg + S0 = mU M + k.toNatClampNeg; omega)
  rw [List.map_cons, rv_refP (by omega), adr_ge (by omega), Nat.add_sub_cancel] at k'
  exact k'
theorem sn_newr19 {k : Int32} {x : Nat} (F : Fr g J n C0 p R s m args meth c) (hd : decode (mt J).2.2.1 pc = .ok (.anewarray x, 3)) (ht : pk ctab (mt J).1 x = some 8) (hk : ¬ k < 0) (hB : k.toNatClampNeg * 8 ≤ 536870912) (hC : mX M + 1 ≤ R.cells + C0) (hU : mU M + k.toNatClampNeg ≤ R.slots + S0) (K : SimAt g J C0 S0 p l e R s m args below meth c Q (pc + 3) L (.ref (mX M + 32) :: stk) (wN M 19 k.toNatClampNeg k.toNatClampNeg)) : SimAt g J C0 S0 p l e R s m args below meth c Q pc L (.int k :: stk) M := by
  intro H locs ls cells slots hS hM hl hL hc hu
  obtain ⟨hx, hb, hml, hown, hts, hWS, hname, hfr, hlo, hsz⟩ := F
  have hK := hWS.1
  obtain ⟨hcl, hci⟩ := cls_ok ht
  refine va_newq (C := RX8) hx hb hown (hts _ hcl) hWS.2.2.1.2.2.2 hK hM.1 wsl_D hS (fun q hq => Nat.le_trans hWS.2.2.2.2.2.2.2.1 hq) hk rfl (by omega) (by omega) (by omega) hd (fun q cA H1 hK1 hP1 hD1 hS1 => W.size (fun hz => ?_))
  have hq := new_at hsz hP1 hD1 hc hz
  subst hq
  have hA : cA = gA g 19 := by
    obtain ⟨_, _, -, -, -, h1⟩ := (hK1.2 8 (cA, .object RX8) rfl).2
    obtain ⟨_, _, -, -, -, h2⟩ := (hK.2 7 (gA g 19, .object RX8) rfl).2
    exact Option.some.inj (h1.symm.trans h2)
  subst hA
  have ec : cE g (wN M 19 k.toNatClampNeg k.toNatClampNeg) (mX M + 32) = .inl (gA g 19, (k.toNatClampNeg, .inr (.inr (.inr (.inr (fun _ => none)))))) := by
    rw [cE_ref (by rw [mK_wN, if_pos rfl]) (by omega), mN_wN, if_pos rfl]
    have ef : (fun i => rvO g (mR (wN M 19 k.toNatClampNeg k.toNatClampNeg) (mX M + 32) i)) = fun _ => none := funext fun i => by rw [mR_wN, if_pos rfl]; rfl
    rw [ef]
  have k' := K H1 locs ls (cells + 1) (slots + k.toNatClampNeg) hS1 (hm_wN hM (by omega) (by rw [ec]; exact hP1)) hl hL (by rw [mX_wN]; omega) (by show slots + k.toNatClampNeg + S0 = mU M + k.toNatClampNeg; omega)
  rw [List.map_cons, rv_refP (by omega), adr_ge (by omega), Nat.add_sub_cancel] at k'
  exact k'
theorem sn_max {x : Nat} {z y : Int32} (F : Fr g J n C0 p R s m args meth c) (hd : decode (mt J).2.2.1 pc = .ok (.invokestatic x, 3)) (ht : pk mtab (mt J).1 x = some (9, 2, 1201)) (hs8 : (stk.map fun v => v.category).sum ≤ 8) (hC : mX M ≤ R.cells + C0) (hU : mU M ≤ R.slots + S0) (K : SimAt g J C0 S0 p l e R s m args below meth c Q (pc + 3) L (.int (if z < y then y else z) :: stk) M) : SimAt g J C0 S0 p l e R s m args below meth c Q pc L (.int y :: .int z :: stk) M := by
  intro H locs ls cells slots hS hM hl hL hc hu
  obtain ⟨hx, hb, hml, hown, hts, hWS, hname, hfr, hlo, hsz⟩ := F
  have hK := hWS.1
  obtain ⟨pp, hp⟩ := mth_ok ht
  have hlk : Cond.methodLink (ROf (mt J).1) x Lib.Math.max.name ∈ gtb := by
    unfold mck at hp
    simp only [if_true, decide_eq_true_eq] at hp
    exact gtb_at hp rfl
  exact va_mmax hx hb (by rw [hml]; exact hl.1.symm) hown (hts _ hlk) (hts _ w_maxs) (hts _ w_mi) (hts _ w_maxc) (by omega) (by rw [cat_map]; omega) (by omega) (by omega) hd (K H locs ls cells slots hS hM hl hL hc hu)
theorem sn_min {x : Nat} {z y : Int32} (F : Fr g J n C0 p R s m args meth c) (hd : decode (mt J).2.2.1 pc = .ok (.invokestatic x, 3)) (ht : pk mtab (mt J).1 x = some (9, 2, 1202)) (hs8 : (stk.map fun v => v.category).sum ≤ 8) (hC : mX M ≤ R.cells + C0) (hU : mU M ≤ R.slots + S0) (K : SimAt g J C0 S0 p l e R s m args below meth c Q (pc + 3) L (.int (if y < z then y else z) :: stk) M) : SimAt g J C0 S0 p l e R s m args below meth c Q pc L (.int y :: .int z :: stk) M := by
  intro H locs ls cells slots hS hM hl hL hc hu
  obtain ⟨hx, hb, hml, hown, hts, hWS, hname, hfr, hlo, hsz⟩ := F
  have hK := hWS.1
  obtain ⟨pp, hp⟩ := mth_ok ht
  have hlk : Cond.methodLink (ROf (mt J).1) x Lib.Math.min.name ∈ gtb := by
    unfold mck at hp
    simp only [if_true, decide_eq_true_eq] at hp
    exact gtb_at hp rfl
  exact va_mmin hx hb (by rw [hml]; exact hl.1.symm) hown (hts _ hlk) (hts _ w_mins) (hts _ w_mi) (hts _ w_minc) (by omega) (by rw [cat_map]; omega) (by omega) (by omega) hd (K H locs ls cells slots hS hM hl hL hc hu)
theorem sn_abs {x : Nat} {z : Int32} (F : Fr g J n C0 p R s m args meth c) (hd : decode (mt J).2.2.1 pc = .ok (.invokestatic x, 3)) (ht : pk mtab (mt J).1 x = some (9, 1, 1203)) (hs8 : (stk.map fun v => v.category).sum ≤ 8) (hC : mX M ≤ R.cells + C0) (hU : mU M ≤ R.slots + S0) (K : SimAt g J C0 S0 p l e R s m args below meth c Q (pc + 3) L (.int (if 0 ≤ z then z else 0 - z) :: stk) M) : SimAt g J C0 S0 p l e R s m args below meth c Q pc L (.int z :: stk) M := by
  intro H locs ls cells slots hS hM hl hL hc hu
  obtain ⟨hx, hb, hml, hown, hts, hWS, hname, hfr, hlo, hsz⟩ := F
  have hK := hWS.1
  obtain ⟨pp, hp⟩ := mth_ok ht
  have hlk : Cond.methodLink (ROf (mt J).1) x Lib.Math.abs.name ∈ gtb := by
    unfold mck at hp
    simp only [if_true, decide_eq_true_eq] at hp
    exact gtb_at hp rfl
  exact va_mabs hx hb (by rw [hml]; exact hl.1.symm) hown (hts _ hlk) (hts _ w_abss) (hts _ w_mi) (hts _ w_absc) (by omega) (by rw [cat_map]; omega) (by omega) (by omega) hd (K H locs ls cells slots hS hM hl hL hc hu)
theorem sn_copy {x a0 a1 : Nat} {sp dp k : Int32} (F : Fr g J n C0 p R s m args meth c) (hd : decode (mt J).2.2.1 pc = .ok (.invokestatic x, 3)) (ht : pk mtab (mt J).1 x = some (9, 5, 1204)) (hs8 : (stk.map fun v => v.category).sum ≤ 8) (h0 : mK M a0 = 12) (h1 : mK M a1 = 12) (g1 : ¬ sp < 0) (g2 : ¬ dp < 0) (g3 : ¬ k < 0) (g4 : sp.toNatClampNeg + k.toNatClampNeg ≤ mN M a0) (g5 : dp.toNatClampNeg + k.toNatClampNeg ≤ mN M a1) (K : SimAt g J C0 S0 p l e R s m args below meth c Q (pc + 3) L stk (wC M a0 sp.toNatClampNeg a1 dp.toNatClampNeg k.toNatClampNeg)) : SimAt g J C0 S0 p l e R s m args below meth c Q pc L (.int k :: .int dp :: .ref a1 :: .int sp :: .ref a0 :: stk) M := by
  intro H locs ls cells slots hS hM hl hL hc hu
  obtain ⟨hx, hb, hml, hown, hts, hWS, hname, hfr, hlo, hsz⟩ := F
  have hK := hWS.1
  obtain ⟨pp, hp⟩ := mth_ok ht
  have hlk : Cond.methodLink (ROf (mt J).1) x arraycopyName ∈ gtb := by
    unfold mck at hp
    simp only [if_true, decide_eq_true_eq] at hp
    exact gtb_at hp rfl
  have ha0 := hM.2.1 a0 (by omega)
  have ha1 := hM.2.1 a1 (by omega)
  have hw0 := hM.at (a := a0) (by omega)
  have hw1 := hM.at (a := a1) (by omega)
  rw [cE_int h0 (by omega) (by omega)] at hw0
  rw [cE_int h1 (by omega) (by omega)] at hw1
  rw [List.map_cons, List.map_cons, List.map_cons, List.map_cons, List.map_cons, rv_refP (a := a0) (by omega), rv_refP (a := a1) (by omega)]
  have hnf : nativeFrameWords "java/lang/System" "arraycopy" 5 ≤ 100 := by decide +kernel
  exact va_copyi (ty := .int) hx hb (by rw [hml]; exact hl.1.symm) hown (hts _ hlk) (hts _ w_an) (hts _ w_as) (hts _ w_ai) hK hM.1 wsl_D hS (a0 - 32) (a1 - 32) 0 0 hw0 hw1 rfl rfl rfl g1 g2 g3 g4 g5 (fun _ _ => rfl) (by omega) (by rw [cat_map]; omega) hd (fun H1 locs1 q1 _ q3 => K H1 locs1 ls cells slots q3 (hm_wC hM h1 q1) hl hL hc hu)
theorem sn_oin {x a : Nat} (F : Fr g J n C0 p R s m args meth c) (hd : decode (mt J).2.2.1 pc = .ok (.invokespecial x, 3)) (ht : pk mtab (mt J).1 x = some (9, 0, 1200)) (hk : mK M a < 12) (hs8 : (stk.map fun v => v.category).sum ≤ 8) (K : SimAt g J C0 S0 p l e R s m args below meth c Q (pc + 3) L stk M) : SimAt g J C0 S0 p l e R s m args below meth c Q pc L (.ref a :: stk) M := by
  intro H locs ls cells slots hS hM hl hL hc hu
  obtain ⟨hx, hb, hml, hown, hts, hWS, hname, hfr, hlo, hsz⟩ := F
  have hK := hWS.1
  obtain ⟨pp, hp⟩ := mth_ok ht
  have hlk : Cond.methodLink (ROf (mt J).1) x Lib.objectInit ∈ gtb := by
    unfold mck at hp
    simp only [if_true, decide_eq_true_eq] at hp
    exact gtb_at hp rfl
  have ha := hM.2.1 a (by omega)
  rw [List.map_cons, rv_refP (by omega)]
  have hr8 : ((stk.map (rv g)).map fun v => v.category).sum ≤ 8 := by rw [cat_map]; exact hs8
  have hrm := lv_room (m := m) (pc := pc) (ls := ls) (rest := .ref (adr g a) :: stk.map (rv g)) hr8
  exact W.objInit hx hb hown (hts _ hlk) (hts _ w_oi) (hts _ w_oc) rfl (by rw [hml]; exact hl.1) rfl hd (by omega) (by omega) (K H locs ls cells slots hS hM hl hL hc hu)
theorem sn_slen {x a : Nat} (F : Fr g J n C0 p R s m args meth c) (hd : decode (mt J).2.2.1 pc = .ok (.invokevirtual x, 3)) (hStr : StrM l g) (ht : pk mtab (mt J).1 x = some (9, 0, 1205)) (h2 : 2 ≤ a) (h24 : a < 24)  (hs8 : (stk.map fun v => v.category).sum ≤ 8) (hC : mX M ≤ R.cells + C0) (hU : mU M ≤ R.slots + S0) (K : SimAt g J C0 S0 p l e R s m args below meth c Q (pc + 3) L (.int (Int32.ofNat (slen.getD (a - 2) 0)) :: stk) M) : SimAt g J C0 S0 p l e R s m args below meth c Q pc L (.ref a :: stk) M := by
  intro H locs ls cells slots hS hM hl hL hc hu
  obtain ⟨hx, hb, hml, hown, hts, hWS, hname, hfr, hlo, hsz⟩ := F
  have hK := hWS.1
  obtain ⟨pp, hp⟩ := mth_ok ht
  have hlk : Cond.methodLink (ROf (mt J).1) x yJ0_length_8abf5 ∈ gtb := by
    unfold mck at hp
    simp only [if_true, decide_eq_true_eq] at hp
    exact gtb_at hp rfl
  have hi : a - 2 < 22 := by omega
  have hrv : rv g (.ref a) = .ref (gK g (a - 2)) := by
    rw [rv_refP (by omega)]; unfold adr; rw [if_pos (by omega), if_neg (by omega)]
  have hrc := vS.recv (H := H) (locs := locs) hWS.2.2.2.1 hi hS
  rw [List.map_cons, hrv]
  have hrun := va_runV (cells := cells) (slots := slots) (locs := locs) (H := H) (e := e) (below := below) (meth := meth) (As := []) (rest := stk.map (rv g)) (g := F0 m pc ls (.ref (gK g (a - 2)) :: stk.map (rv g))) ⟨hx, hb, hml, hown, hts⟩ (hStr.1 (a - 2) hi) (cwV (R := R) (own := ROf (mt J).1) (index := x) (C := RJ0) 0 hts (wsV_good hlk w_leni w_lens w_stri w_len) rfl rfl rfl ⟨rfl, by decide, by decide, by decide +kernel⟩ ⟨by show 6 + 1 ≤ R.frames; omega, by show 8 + (1 + 11) + 300 ≤ R.locals; omega⟩) ⟨fun a9 U g9 mk q => ⟨q.1, WS.same (u := U) (U := U.calling g9 mk a9) rfl rfl q.2⟩, hrc, fun U hU hW => ⟨rfl, WS.warm hW hU hS hWS⟩⟩ rfl rfl hl.1 rfl (lv_room (by rw [cat_map]; exact hs8)) hd (mc := 0) (ms := 0) ⟨by omega, by omega⟩
  intro T hT X
  obtain ⟨v, st₀, t, T', L', h0, X', hL', e1, e2, ⟨hv, hh⟩, st⟩ := hrun T hT X
  cases hv
  obtain ⟨t2, a1, b1⟩ := K H locs ls cells slots hS hM hl hL hc hu T' (by rw [e1, hh, h0]) (Stand.forget X' (fun q h => (hL' q h).elim))
  exact ⟨t2, st t2 a1, b1⟩
theorem sn_sch {x a : Nat} {j : Int32} (F : Fr g J n C0 p R s m args meth c) (hd : decode (mt J).2.2.1 pc = .ok (.invokevirtual x, 3)) (hStr : StrM l g) (ht : pk mtab (mt J).1 x = some (9, 1, 1206)) (h2 : 2 ≤ a) (h24 : a < 24) (hj : ib j (slen.getD (a - 2) 0)) (hs8 : (stk.map fun v => v.category).sum ≤ 8) (hC : mX M ≤ R.cells + C0) (hU : mU M ≤ R.slots + S0) (K : SimAt g J C0 S0 p l e R s m args below meth c Q (pc + 3) L (.int ((sbyt.getD (a - 2) []).getD j.toNatClampNeg 0) :: stk) M) : SimAt g J C0 S0 p l e R s m args below meth c Q pc L (.int j :: .ref a :: stk) M := by
  intro H locs ls cells slots hS hM hl hL hc hu
  obtain ⟨hx, hb, hml, hown, hts, hWS, hname, hfr, hlo, hsz⟩ := F
  have hK := hWS.1
  obtain ⟨pp, hp⟩ := mth_ok ht
  have hlk : Cond.methodLink (ROf (mt J).1) x yJ0_charAt_5068e ∈ gtb := by
    unfold mck at hp
    simp only [if_true, decide_eq_true_eq] at hp
    exact gtb_at hp rfl
  have hi : a - 2 < 22 := by omega
  have hrv : rv g (.ref a) = .ref (gK g (a - 2)) := by
    rw [rv_refP (by omega)]; unfold adr; rw [if_pos (by omega), if_neg (by omega)]
  have hrc := vS.recv (H := H) (locs := locs) hWS.2.2.2.1 hi hS
  rw [List.map_cons, List.map_cons, hrv]
  have hrun := va_runV (cells := cells) (slots := slots) (locs := locs) (H := H) (e := e) (below := below) (meth := meth) (As := [.int j]) (rest := stk.map (rv g)) (g := F0 m pc ls (.int j :: .ref (gK g (a - 2)) :: stk.map (rv g))) ⟨hx, hb, hml, hown, hts⟩ (hStr.2 (a - 2) j hi hj) (cwV (R := R) (own := ROf (mt J).1) (index := x) (C := RJ0) 1 hts (wsV_good hlk w_chai w_chas w_stri w_cha) rfl rfl rfl ⟨rfl, by decide, by decide, by decide +kernel⟩ ⟨by show 6 + 1 ≤ R.frames; omega, by show 8 + (2 + 11) + 300 ≤ R.locals; omega⟩) ⟨fun a9 U g9 mk q => ⟨q.1, WS.same (u := U) (U := U.calling g9 mk a9) rfl rfl q.2⟩, hrc, fun U hU hW => ⟨rfl, WS.warm hW hU hS hWS⟩⟩ rfl rfl hl.1 rfl (lv_room (by rw [cat_map]; exact hs8)) hd (mc := 0) (ms := 0) ⟨by omega, by omega⟩
  intro T hT X
  obtain ⟨v, st₀, t, T', L', h0, X', hL', e1, e2, ⟨hv, hh⟩, st⟩ := hrun T hT X
  cases hv
  obtain ⟨t2, a1, b1⟩ := K H locs ls cells slots hS hM hl hL hc hu T' (by rw [e1, hh, h0]) (Stand.forget X' (fun q h => (hL' q h).elim))
  exact ⟨t2, st t2 a1, b1⟩
end SIMM
