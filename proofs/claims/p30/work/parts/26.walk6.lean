set_option maxHeartbeats 4000000 in
set_option maxRecDepth 100000 in
theorem c_person (l : Launch) (D : va_G) (ad : Nat → Nat) (ca : Nat → ClassId) (tw : Nat) (hI : ∀ i j, i < 40 → j < 40 → ad i = ad j → i = j) (σ : St) (x1 : Int32) (x2 : Int32) (hwf : WF σ) (hb1 : b01 x1) (hb2 : b01 x2) (hc : (σ.1 0 3).toInt < 8) : Met l yX3_person (wm yX3_person cX3_person 4 (some .int)) ({ frames := 5, cells := 0, slots := 0, locals := 108 } : Room) (va_Pc [.ref (ad 0), .int x1, .int x2] (wPre D ad ca tw σ)) (va_Qi (fun r u => (r, u) = f_person σ x1 x2) (wB D ad ca) (Aw ad)) 0 0 (Aw ad) := by
  generalize hF : f_person σ x1 x2 = F
  refine Met.ofW (cc := cX3_person) (maxL := 4) (ret := (some .int)) (by decide) rfl ?_
  intro p e s m args below meth c s₁ B hml hv
  obtain ⟨rfl, hv⟩ := hv
  have X := q_open (own := RX3) B rfl hml hI hv
  have hx := X.1
  have hb := X.2.1
  have hts := X.2.2.2.2.1
  have hr := B.returns
  have hlocks := B.notSynchronized
  have hP := hv.1
  have hS : va_S (Aw ad) s.heap s.heap [] := va_S.rf
  have hl := lv_entry ([.ref (ad 0), .int x1, .int x2]) (n := 4) (Nat.le_of_ble_eq_true rfl)
  rw [lg_entry_eq]
  generalize (lg_sl ([.ref (ad 0), .int x1, .int x2]) ++ List.replicate (4 - (lg_sl ([.ref (ad 0), .int x1, .int x2])).length) Slot.unset).toArray = ls at hl ⊢
  have hl : lv_has ls 4 [(0, .ref (ad 0)), (1, .int x1), (2, .int x2)] := hl
  unfold f_person at hF
  replace hF : ((fun σ1 : St => ((fun σ2 : St => ((fun σ3 : St => ((fun σ4 : St => ((σ.1 0 3), σ4)) (f_standDownOccupied σ3))) (up σ2 0 3 ((σ2.1 0 3) + (1 : Int32))))) (up σ1 (6 + (σ.1 0 3).toNatClampNeg) 2 x2))) (up σ (6 + (σ.1 0 3).toNatClampNeg) 1 x1)) = F := hF
  refine lv_aload_n hx hb dX3_person_0 rfl (lv_at hl 0 rfl) ?_
  refine q_getM (v := .int (σ.1 0 3)) X hP 3 (by decide) (hts _ wd16) rfl dX3_person_1 ?_
  refine lv_bipush (v := (8 : Int32)) hx hb dX3_person_4 (by decide) ?_
  refine lv_icmp_lt (tgt := 19) hx hb dX3_person_6 (by decide) (fun c_6 => ?_) (fun c_6 => ?_)
  · refine lv_aload_n hx hb dX3_person_19 rfl (lv_at hl 0 rfl) ?_
    refine q_getM (v := .int (σ.1 0 3)) X hP 3 (by decide) (hts _ wd16) rfl dX3_person_20 ?_
    refine lv_istore_n (lv' := [(3, .int (σ.1 0 3)), (0, .ref (ad 0)), (1, .int x1), (2, .int x2)]) hx hb dX3_person_23 rfl hl (by decide) rfl (fun ls hl => ?_)
    refine lv_aload_n hx hb dX3_person_24 rfl (lv_at hl 1 rfl) ?_
    refine q_getM (v := .ref (ad 1)) X hP 0 (by decide) (hts _ wd11) rfl dX3_person_25 ?_
    refine lv_iload_n hx hb dX3_person_28 rfl (lv_at hl 0 rfl) ?_
    refine q_aldP X hP (vp_to hwf.1.1 hc) dX3_person_29 ?_
    refine lv_iload_n hx hb dX3_person_30 rfl (lv_at hl 2 rfl) ?_
    refine q_putP (ty := .boolean) X hP hS ((σ.1 0 3).toNatClampNeg) (ix_lt (vp_to hwf.1.1 hc)) 1 (by decide) (by decide) (hts _ wd84) rfl (by decide +kernel) (nb01 hb1) (fb01 hb1) dX3_person_31 (fun H locs hP hS => ?_)
    have hw_σ1 : WF (up σ (6 + (σ.1 0 3).toNatClampNeg) 1 x1) := wf_up hwf (fun h => absurd h (by omega)) (fun h => absurd h (by have q9 : (σ.1 0 3).toNatClampNeg < 8 := (ix_lt (vp_to hwf.1.1 hc)); omega)) (fun h h2 => absurd h (by have q9 : (σ.1 0 3).toNatClampNeg < 8 := (ix_lt (vp_to hwf.1.1 hc)); omega))
    generalize hs_σ1 : (up σ (6 + (σ.1 0 3).toNatClampNeg) 1 x1) = σ1 at hP hw_σ1 hF
    replace hF : ((fun σ2 : St => ((fun σ3 : St => ((fun σ4 : St => ((σ.1 0 3), σ4)) (f_standDownOccupied σ3))) (up σ2 0 3 ((σ2.1 0 3) + (1 : Int32))))) (up σ1 (6 + (σ.1 0 3).toNatClampNeg) 2 x2)) = F := hF
    refine lv_aload_n hx hb dX3_person_34 rfl (lv_at hl 1 rfl) ?_
    refine q_getM (v := .ref (ad 1)) X hP 0 (by decide) (hts _ wd11) rfl dX3_person_35 ?_
    refine lv_iload_n hx hb dX3_person_38 rfl (lv_at hl 0 rfl) ?_
    refine q_aldP X hP (vp_to hwf.1.1 hc) dX3_person_39 ?_
    refine lv_iload_n hx hb dX3_person_40 rfl (lv_at hl 3 rfl) ?_
    refine q_putP (ty := .boolean) X hP hS ((σ.1 0 3).toNatClampNeg) (ix_lt (vp_to hwf.1.1 hc)) 2 (by decide) (by decide) (hts _ wd85) rfl (by decide +kernel) (nb01 hb2) (fb01 hb2) dX3_person_41 (fun H locs hP hS => ?_)
    have hw_σ2 : WF (up σ1 (6 + (σ.1 0 3).toNatClampNeg) 2 x2) := wf_up hw_σ1 (fun h => absurd h (by omega)) (fun h => absurd h (by have q9 : (σ.1 0 3).toNatClampNeg < 8 := (ix_lt (vp_to hwf.1.1 hc)); omega)) (fun h h2 => absurd h (by have q9 : (σ.1 0 3).toNatClampNeg < 8 := (ix_lt (vp_to hwf.1.1 hc)); omega))
    generalize hs_σ2 : (up σ1 (6 + (σ.1 0 3).toNatClampNeg) 2 x2) = σ2 at hP hw_σ2 hF
    replace hF : ((fun σ3 : St => ((fun σ4 : St => ((σ.1 0 3), σ4)) (f_standDownOccupied σ3))) (up σ2 0 3 ((σ2.1 0 3) + (1 : Int32)))) = F := hF
    refine lv_aload_n hx hb dX3_person_44 rfl (lv_at hl 1 rfl) ?_
    refine lv_dup hx hb dX3_person_45 rfl ?_
    refine q_getM (v := .int (σ2.1 0 3)) X hP 3 (by decide) (hts _ wd16) rfl dX3_person_46 ?_
    refine lv_iconst (v := (1 : Int32)) hx hb dX3_person_49 (by decide) ?_
    refine lv_iadd hx hb dX3_person_50 ?_
    refine q_putM (ty := .int) X hP hS 3 (by decide) (hts _ wd16) rfl (by decide +kernel) rfl rfl dX3_person_51 (fun H locs hP hS => ?_)
    have hw_σ3 : WF (up σ2 0 3 ((σ2.1 0 3) + (1 : Int32))) := wf_c3 hw_σ2 (by rw [← hs_σ2, up_o (by omega), ← hs_σ1, up_o (by omega)]) hwf.1.1 hc
    generalize hs_σ3 : (up σ2 0 3 ((σ2.1 0 3) + (1 : Int32))) = σ3 at hP hw_σ3 hF
    replace hF : ((fun σ4 : St => ((σ.1 0 3), σ4)) (f_standDownOccupied σ3)) = F := hF
    refine lv_aload_n hx hb dX3_person_54 rfl (lv_at hl 1 rfl) ?_
    refine k_standDownOccupied X hP hS ⟨Nat.le_of_ble_eq_true rfl, Nat.le_of_ble_eq_true rfl⟩ ⟨Nat.zero_le _, Nat.zero_le _⟩ wd86 hl.1 (Nat.le_of_ble_eq_true rfl) dX3_person_55  hw_σ3  (fun H locs hP hS => ?_)
    have hw_σ4 : WF (f_standDownOccupied σ3) := wf_standDownOccupied hw_σ3 
    generalize hs_σ4 : (f_standDownOccupied σ3) = σ4 at hP hw_σ4 hF
    replace hF : ((σ.1 0 3), σ4) = F := hF
    refine lv_iload_n hx hb dX3_person_58 rfl (lv_at hl 0 rfl) ?_
    exact W.iret (v := (σ.1 0 3)) hx hb hr (fun t ht hW => ⟨⟨(σ.1 0 3), σ4, rfl, hF, wB_of ht hP⟩, hS.F ht⟩) hS.2.2 dX3_person_59
  · exact absurd (i_lt.mpr hc) c_6
theorem k_person {p : Program} {l : Launch} {e : Env} {R : Room} {s : State} {m : MethodId} {args : Array Value} {below : List Frame} {meth : Method} {c : Code} {H : Heap} {locs : List Loc} {cells slots : Nat} {Q : State → Prop} {cc : ByteArray} {pc : Nat} {ls : Array Slot} {rest : List Value} {D : va_G} {A : Nat → Prop} {ad : Nat → Nat} {ca : Nat → ClassId} {tw nL : Nat} {σ : St} {own : String} {index : Nat} (X : Cx p s m args c own cc nL D ad ca tw A) (hP : va_P D vwCl (wl ad ca σ) H) (hS : va_S A s.heap H locs) (hR : 6 ≤ R.frames ∧ 131 ≤ R.locals) (hcap : cells ≤ R.cells ∧ slots ≤ R.slots) (hlk : Cond.methodLink own index yX3_person ∈ wsL_law0) (hsz : ls.size = nL) (hrs : (rest.map fun v => v.category).sum ≤ 8) (hdg : decode cc pc = .ok (.invokevirtual index, 3)) (x1 : Int32) (x2 : Int32) (hwf : WF σ) (hb1 : b01 x1) (hb2 : b01 x2) (hc : (σ.1 0 3).toInt < 8)
    (kk : ∀ (H1 : Heap) (locs1 : List Loc), va_P D vwCl (wl ad ca (f_person σ x1 x2).2) H1 → va_S A s.heap H1 locs1 → W p l e R s m args below meth c H1 locs1 cells slots Q (F0 m (pc + 3) ls (.int (f_person σ x1 x2).1 :: rest))) : W p l e R s m args below meth c H locs cells slots Q (F0 m pc ls (.int x2 :: .int x1 :: .ref (ad 0) :: rest)) := by
  refine q_bi X hS (q_runV (as := [.int x1, .int x2]) X hP hS (q_cwV (rm := ({ frames := 5, cells := 0, slots := 0, locals := 108 } : Room)) (k := 2) X.2.2.2.2.1 hlk wd79 wd80 wd2 wd81 rfl rfl (by decide +kernel) rfl ⟨hR.1, hR.2⟩) (c_person l D ad ca tw X.2.2.2.2.2.2.1 σ x1 x2 hwf hb1 hb2 hc) rfl hsz rfl hrs hdg hcap) (fun r u H1 locs1 h1 h2 h3 => ?_)
  have e1 := congrArg Prod.fst h1
  have e2 := congrArg Prod.snd h1
  dsimp only at e1 e2
  subst e1
  subst e2
  exact kk H1 locs1 h2 h3
set_option maxHeartbeats 4000000 in
set_option maxRecDepth 100000 in
theorem c_skill (l : Launch) (D : va_G) (ad : Nat → Nat) (ca : Nat → ClassId) (tw : Nat) (hI : ∀ i j, i < 40 → j < 40 → ad i = ad j → i = j) (σ : St) (x1 : Int32) (x2 : Int32) (x3 : Int32) (hwf : WF σ) (hp : inr x1 (σ.1 0 3)) (hk : vp_in x2 4) (hs : (0 : Int32).toInt ≤ x3.toInt ∧ x3.toInt ≤ (9 : Int32).toInt) : Met l yX3_skill (wm yX3_skill cX3_skill 5 (some .int)) ({ frames := 1, cells := 0, slots := 0, locals := 22 } : Room) (va_Pc [.ref (ad 0), .int x1, .int x2, .int x3] (wPre D ad ca tw σ)) (va_Qi (fun r u => (r, u) = f_skill σ x1 x2 x3) (wB D ad ca) (Aw ad)) 0 0 (Aw ad) := by
  generalize hF : f_skill σ x1 x2 x3 = F
  refine Met.ofW (cc := cX3_skill) (maxL := 5) (ret := (some .int)) (by decide) rfl ?_
  intro p e s m args below meth c s₁ B hml hv
  obtain ⟨rfl, hv⟩ := hv
  have X := q_open (own := RX3) B rfl hml hI hv
  have hx := X.1
  have hb := X.2.1
  have hts := X.2.2.2.2.1
  have hr := B.returns
  have hlocks := B.notSynchronized
  have hP := hv.1
  have hS : va_S (Aw ad) s.heap s.heap [] := va_S.rf
  have hl := lv_entry ([.ref (ad 0), .int x1, .int x2, .int x3]) (n := 5) (Nat.le_of_ble_eq_true rfl)
  rw [lg_entry_eq]
  generalize (lg_sl ([.ref (ad 0), .int x1, .int x2, .int x3]) ++ List.replicate (5 - (lg_sl ([.ref (ad 0), .int x1, .int x2, .int x3])).length) Slot.unset).toArray = ls at hl ⊢
  have hl : lv_has ls 5 [(0, .ref (ad 0)), (1, .int x1), (2, .int x2), (3, .int x3)] := hl
  unfold f_skill at hF
  replace hF : ((fun σ1 : St => ((σ.1 (6 + x1.toNatClampNeg + 8) x2.toNatClampNeg), σ1)) (up σ (6 + x1.toNatClampNeg + 8) x2.toNatClampNeg x3)) = F := hF
  refine lv_aload_n hx hb dX3_skill_0 rfl (lv_at hl 0 rfl) ?_
  refine lv_iload_n hx hb dX3_skill_1 rfl (lv_at hl 1 rfl) ?_
  refine k_requirePerson X hP hS ⟨Nat.le_of_ble_eq_true rfl, Nat.le_of_ble_eq_true rfl⟩ ⟨Nat.zero_le _, Nat.zero_le _⟩ wd128 hl.1 (Nat.le_of_ble_eq_true rfl) dX3_skill_2 x1 hwf hp (fun H locs hP hS => ?_)
  refine lv_iload_n hx hb dX3_skill_5 rfl (lv_at hl 2 rfl) ?_
  refine k_requireKind X hP hS ⟨Nat.le_of_ble_eq_true rfl, Nat.le_of_ble_eq_true rfl⟩ ⟨Nat.zero_le _, Nat.zero_le _⟩ wd134 hl.1 (Nat.le_of_ble_eq_true rfl) dX3_skill_6 x2 hwf hk (fun H locs hP hS => ?_)
  refine lv_iload_n hx hb dX3_skill_9 rfl (lv_at hl 3 rfl) ?_
  refine lv_iconst (v := (0 : Int32)) hx hb dX3_skill_10 (by decide) ?_
  refine lv_bipush (v := (9 : Int32)) hx hb dX3_skill_11 (by decide) ?_
  refine k_requireRange X hP hS ⟨Nat.le_of_ble_eq_true rfl, Nat.le_of_ble_eq_true rfl⟩ ⟨Nat.zero_le _, Nat.zero_le _⟩ wd137 hl.1 (Nat.le_of_ble_eq_true rfl) dX3_skill_13 x3 (0 : Int32) (9 : Int32) hwf hs (fun H locs hP hS => ?_)
  refine lv_aload_n hx hb dX3_skill_16 rfl (lv_at hl 0 rfl) ?_
  refine q_getM (v := .ref (ad 1)) X hP 0 (by decide) (hts _ wd11) rfl dX3_skill_17 ?_
  refine lv_iload_n hx hb dX3_skill_20 rfl (lv_at hl 1 rfl) ?_
  refine q_aldP X hP (WF.p8 hwf hp) dX3_skill_21 ?_
  refine q_getP (v := .ref (ad (6 + x1.toNatClampNeg + 8))) X hP x1.toNatClampNeg (ix_lt (WF.p8 hwf hp)) 0 (by decide) (hts _ wd127) rfl dX3_skill_22 ?_
  refine lv_iload_n hx hb dX3_skill_25 rfl (lv_at hl 2 rfl) ?_
  refine q_iald X hP (6 + x1.toNatClampNeg + 8) (Or.inr (by have := (ix_lt (WF.p8 hwf hp)); omega)) hk dX3_skill_26 ?_
  refine lv_istore (lv' := [(4, .int (σ.1 (6 + x1.toNatClampNeg + 8) x2.toNatClampNeg)), (0, .ref (ad 0)), (1, .int x1), (2, .int x2), (3, .int x3)]) hx hb dX3_skill_27 hl (by decide) rfl (fun ls hl => ?_)
  refine lv_aload_n hx hb dX3_skill_29 rfl (lv_at hl 1 rfl) ?_
  refine q_getM (v := .ref (ad 1)) X hP 0 (by decide) (hts _ wd11) rfl dX3_skill_30 ?_
  refine lv_iload_n hx hb dX3_skill_33 rfl (lv_at hl 2 rfl) ?_
  refine q_aldP X hP (WF.p8 hwf hp) dX3_skill_34 ?_
  refine q_getP (v := .ref (ad (6 + x1.toNatClampNeg + 8))) X hP x1.toNatClampNeg (ix_lt (WF.p8 hwf hp)) 0 (by decide) (hts _ wd127) rfl dX3_skill_35 ?_
  refine lv_iload_n hx hb dX3_skill_38 rfl (lv_at hl 3 rfl) ?_
  refine lv_iload_n hx hb dX3_skill_39 rfl (lv_at hl 4 rfl) ?_
  refine q_iast X hP hS (6 + x1.toNatClampNeg + 8) (Or.inr (by have := (ix_lt (WF.p8 hwf hp)); omega)) hk dX3_skill_40 (fun H locs hP hS => ?_)
  have hw_σ1 : WF (up σ (6 + x1.toNatClampNeg + 8) x2.toNatClampNeg x3) := wf_up hwf (fun h => absurd h (by omega)) (fun h => absurd h (by have := (ix_lt (WF.p8 hwf hp)); omega)) (fun h _ => absurd h (by have := (ix_lt (WF.p8 hwf hp)); omega))
  generalize hs_σ1 : (up σ (6 + x1.toNatClampNeg + 8) x2.toNatClampNeg x3) = σ1 at hP hw_σ1 hF
  replace hF : ((σ.1 (6 + x1.toNatClampNeg + 8) x2.toNatClampNeg), σ1) = F := hF
  refine lv_iload hx hb dX3_skill_41 (lv_at hl 0 rfl) ?_
  exact W.iret (v := (σ.1 (6 + x1.toNatClampNeg + 8) x2.toNatClampNeg)) hx hb hr (fun t ht hW => ⟨⟨(σ.1 (6 + x1.toNatClampNeg + 8) x2.toNatClampNeg), σ1, rfl, hF, wB_of ht hP⟩, hS.F ht⟩) hS.2.2 dX3_skill_43
theorem k_skill {p : Program} {l : Launch} {e : Env} {R : Room} {s : State} {m : MethodId} {args : Array Value} {below : List Frame} {meth : Method} {c : Code} {H : Heap} {locs : List Loc} {cells slots : Nat} {Q : State → Prop} {cc : ByteArray} {pc : Nat} {ls : Array Slot} {rest : List Value} {D : va_G} {A : Nat → Prop} {ad : Nat → Nat} {ca : Nat → ClassId} {tw nL : Nat} {σ : St} {own : String} {index : Nat} (X : Cx p s m args c own cc nL D ad ca tw A) (hP : va_P D vwCl (wl ad ca σ) H) (hS : va_S A s.heap H locs) (hR : 2 ≤ R.frames ∧ 46 ≤ R.locals) (hcap : cells ≤ R.cells ∧ slots ≤ R.slots) (hlk : Cond.methodLink own index yX3_skill ∈ wsL_law0) (hsz : ls.size = nL) (hrs : (rest.map fun v => v.category).sum ≤ 8) (hdg : decode cc pc = .ok (.invokevirtual index, 3)) (x1 : Int32) (x2 : Int32) (x3 : Int32) (hwf : WF σ) (hp : inr x1 (σ.1 0 3)) (hk : vp_in x2 4) (hs : (0 : Int32).toInt ≤ x3.toInt ∧ x3.toInt ≤ (9 : Int32).toInt)
    (kk : ∀ (H1 : Heap) (locs1 : List Loc), va_P D vwCl (wl ad ca (f_skill σ x1 x2 x3).2) H1 → va_S A s.heap H1 locs1 → W p l e R s m args below meth c H1 locs1 cells slots Q (F0 m (pc + 3) ls (.int (f_skill σ x1 x2 x3).1 :: rest))) : W p l e R s m args below meth c H locs cells slots Q (F0 m pc ls (.int x3 :: .int x2 :: .int x1 :: .ref (ad 0) :: rest)) := by
  refine q_bi X hS (q_runV (as := [.int x1, .int x2, .int x3]) X hP hS (q_cwV (rm := ({ frames := 1, cells := 0, slots := 0, locals := 22 } : Room)) (k := 3) X.2.2.2.2.1 hlk wd124 wd125 wd2 wd126 rfl rfl (by decide +kernel) rfl ⟨hR.1, hR.2⟩) (c_skill l D ad ca tw X.2.2.2.2.2.2.1 σ x1 x2 x3 hwf hp hk hs) rfl hsz rfl hrs hdg hcap) (fun r u H1 locs1 h1 h2 h3 => ?_)
  have e1 := congrArg Prod.fst h1
  have e2 := congrArg Prod.snd h1
  dsimp only at e1 e2
  subst e1
  subst e2
  exact kk H1 locs1 h2 h3
set_option maxHeartbeats 4000000 in
set_option maxRecDepth 100000 in
theorem c_walk (l : Launch) (D : va_G) (ad : Nat → Nat) (ca : Nat → ClassId) (tw : Nat) (hI : ∀ i j, i < 40 → j < 40 → ad i = ad j → i = j) (σ : St) (x1 : Int32) (x2 : Int32) (hwf : WF σ) (hp : inr x1 (σ.1 0 3)) (hr2 : (0 : Int32).toInt ≤ x2.toInt ∧ x2.toInt ≤ (99 : Int32).toInt) : Met l yX3_walk (wm yX3_walk cX3_walk 5 (some .int)) ({ frames := 3, cells := 0, slots := 0, locals := 65 } : Room) (va_Pc [.ref (ad 0), .int x1, .int x2] (wPre D ad ca tw σ)) (va_Qi (fun r u => (r, u) = f_walk σ x1 x2) (wB D ad ca) (Aw ad)) 0 0 (Aw ad) := by
  generalize hF : f_walk σ x1 x2 = F
  refine Met.ofW (cc := cX3_walk) (maxL := 5) (ret := (some .int)) (by decide) rfl ?_
  intro p e s m args below meth c s₁ B hml hv
  obtain ⟨rfl, hv⟩ := hv
  have X := q_open (own := RX3) B rfl hml hI hv
  have hx := X.1
  have hb := X.2.1
  have hts := X.2.2.2.2.1
  have hr := B.returns
  have hlocks := B.notSynchronized
  have hP := hv.1
  have hS : va_S (Aw ad) s.heap s.heap [] := va_S.rf
  have hl := lv_entry ([.ref (ad 0), .int x1, .int x2]) (n := 5) (Nat.le_of_ble_eq_true rfl)
  rw [lg_entry_eq]
  generalize (lg_sl ([.ref (ad 0), .int x1, .int x2]) ++ List.replicate (5 - (lg_sl ([.ref (ad 0), .int x1, .int x2])).length) Slot.unset).toArray = ls at hl ⊢
  have hl : lv_has ls 5 [(0, .ref (ad 0)), (1, .int x1), (2, .int x2)] := hl
  unfold f_walk at hF
  replace hF : ((fun σ1 : St => (f_walk_L30 σ x1 128 σ1 (0 : Int32))) (up σ (6 + x1.toNatClampNeg) 5 x2)) = F := hF
  refine lv_aload_n hx hb dX3_walk_0 rfl (lv_at hl 0 rfl) ?_
  refine lv_iload_n hx hb dX3_walk_1 rfl (lv_at hl 1 rfl) ?_
  refine k_requirePerson X hP hS ⟨Nat.le_of_ble_eq_true rfl, Nat.le_of_ble_eq_true rfl⟩ ⟨Nat.zero_le _, Nat.zero_le _⟩ wd128 hl.1 (Nat.le_of_ble_eq_true rfl) dX3_walk_2 x1 hwf hp (fun H locs hP hS => ?_)
  refine lv_iload_n hx hb dX3_walk_5 rfl (lv_at hl 2 rfl) ?_
  refine lv_iconst (v := (0 : Int32)) hx hb dX3_walk_6 (by decide) ?_
  refine lv_bipush (v := (99 : Int32)) hx hb dX3_walk_7 (by decide) ?_
  refine k_requireRange X hP hS ⟨Nat.le_of_ble_eq_true rfl, Nat.le_of_ble_eq_true rfl⟩ ⟨Nat.zero_le _, Nat.zero_le _⟩ wd137 hl.1 (Nat.le_of_ble_eq_true rfl) dX3_walk_9 x2 (0 : Int32) (99 : Int32) hwf hr2 (fun H locs hP hS => ?_)
  refine lv_aload_n hx hb dX3_walk_12 rfl (lv_at hl 0 rfl) ?_
  refine k_armedSet X hP hS ⟨Nat.le_of_ble_eq_true rfl, Nat.le_of_ble_eq_true rfl⟩ ⟨Nat.zero_le _, Nat.zero_le _⟩ wd146 hl.1 (Nat.le_of_ble_eq_true rfl) dX3_walk_13  hwf  (fun H locs hP hS => ?_)
  refine lv_istore_n (lv' := [(3, .int (f_armedSet σ)), (0, .ref (ad 0)), (1, .int x1), (2, .int x2)]) hx hb dX3_walk_16 rfl hl (by decide) rfl (fun ls hl => ?_)
  refine lv_aload_n hx hb dX3_walk_17 rfl (lv_at hl 1 rfl) ?_
  refine q_getM (v := .ref (ad 1)) X hP 0 (by decide) (hts _ wd11) rfl dX3_walk_18 ?_
  refine lv_iload_n hx hb dX3_walk_21 rfl (lv_at hl 2 rfl) ?_
  refine q_aldP X hP (WF.p8 hwf hp) dX3_walk_22 ?_
  refine lv_iload_n hx hb dX3_walk_23 rfl (lv_at hl 3 rfl) ?_
  refine q_putP (ty := .int) X hP hS x1.toNatClampNeg (ix_lt (WF.p8 hwf hp)) 5 (by decide) (by decide) (hts _ wd99) rfl (by decide +kernel) rfl rfl dX3_walk_24 (fun H locs hP hS => ?_)
  have hw_σ1 : WF (up σ (6 + x1.toNatClampNeg) 5 x2) := wf_up hwf (fun h => absurd h (by omega)) (fun h => absurd h (by have q9 : x1.toNatClampNeg < 8 := (ix_lt (WF.p8 hwf hp)); omega)) (fun h h2 => absurd h (by have q9 : x1.toNatClampNeg < 8 := (ix_lt (WF.p8 hwf hp)); omega))
  generalize hs_σ1 : (up σ (6 + x1.toNatClampNeg) 5 x2) = σ1 at hP hw_σ1 hF
  replace hF : (f_walk_L30 σ x1 128 σ1 (0 : Int32)) = F := hF
  refine lv_iconst (v := (0 : Int32)) hx hb dX3_walk_27 (by decide) ?_
  refine lv_istore (lv' := [(4, .int (0 : Int32)), (3, .int (f_armedSet σ)), (0, .ref (ad 0)), (1, .int x1), (2, .int x2)]) hx hb dX3_walk_28 hl (by decide) rfl (fun ls hl => ?_)
  have L_30 : ∀ (n_30 : Nat) (σ_30 : St) (y4_30 : Int32) (H : Heap) (locs : List Loc) (ls : Array Slot), WF σ_30 → lpI 6 y4_30 n_30 → va_P D vwCl (wl ad ca σ_30) H → va_S (Aw ad) s.heap H locs → lv_has ls 5 [(4, .int y4_30), (3, .int (f_armedSet σ)), (0, .ref (ad 0)), (1, .int x1), (2, .int x2)] → f_walk_L30 σ x1 (n_30) σ_30 y4_30 = F → W p l e (headSpec (wm yX3_walk cX3_walk 5 (some .int)) ({ frames := 3, cells := 0, slots := 0, locals := 65 } : Room)).room s m ([.ref (ad 0), .int x1, .int x2] : List Value).toArray below meth c H locs 0 0 (MQ below (va_Qi (fun r u => (r, u) = F) (wB D ad ca) (Aw ad)) ([.ref (ad 0), .int x1, .int x2] : List Value).toArray s 0 0 (Aw ad)) (F0 m 30 ls []) := by
    intro n_30
    induction n_30 with
    | zero => intro σ_30 y4_30 H locs ls hw_30 hi_30 _ _ _ _; exact absurd hi_30 (fun h => lp_0 h)
    | succ n_30 ih_30 =>
      intro σ_30 y4_30 H locs ls hw_30 hi_30 hP hS hl hF
      rw [f_walk_L30] at hF
      refine lv_iload hx hb dX3_walk_30 (lv_at hl 0 rfl) ?_
      refine lv_aload_n hx hb dX3_walk_32 rfl (lv_at hl 2 rfl) ?_
      refine q_getM (v := .int (σ_30.1 0 5)) X hP 5 (by decide) (hts _ wd18) rfl dX3_walk_33 ?_
      refine lv_icmp_ge (tgt := 88) hx hb dX3_walk_36 (by decide) (fun c_36 => ?_) (fun c_36 => ?_)
      · rw [if_pos c_36] at hF
        refine lv_iload_n hx hb dX3_walk_88 rfl (lv_at hl 1 rfl) ?_
        refine lv_aload_n hx hb dX3_walk_89 rfl (lv_at hl 2 rfl) ?_
        refine k_armedSet X hP hS ⟨Nat.le_of_ble_eq_true rfl, Nat.le_of_ble_eq_true rfl⟩ ⟨Nat.zero_le _, Nat.zero_le _⟩ wd146 hl.1 (Nat.le_of_ble_eq_true rfl) dX3_walk_90  hw_30  (fun H locs hP hS => ?_)
        refine lv_iconst (v := (-1 : Int32)) hx hb dX3_walk_93 (by decide) ?_
        refine lv_ixor hx hb dX3_walk_94 ?_
        refine lv_iand hx hb dX3_walk_95 ?_
        exact W.iret (v := ((f_armedSet σ) &&& ((f_armedSet σ_30) ^^^ (-1 : Int32)))) hx hb hr (fun t ht hW => ⟨⟨((f_armedSet σ) &&& ((f_armedSet σ_30) ^^^ (-1 : Int32))), σ_30, rfl, hF, wB_of ht hP⟩, hS.F ht⟩) hS.2.2 dX3_walk_96
      · have hlt_30 : y4_30.toInt < 6 := lt_nle c_36 hw_30.2.2.1.2
        rw [if_neg c_36] at hF
        refine lv_aload_n hx hb dX3_walk_39 rfl (lv_at hl 2 rfl) ?_
        refine q_getM (v := .ref (ad 3)) X hP 2 (by decide) (hts _ wd15) rfl dX3_walk_40 ?_
        refine lv_iload hx hb dX3_walk_43 (lv_at hl 0 rfl) ?_
        refine q_aldG X hP (lp_i hi_30 hlt_30) dX3_walk_45 ?_
        refine q_getG (v := .int (σ_30.1 (34 + y4_30.toNatClampNeg) 8)) X hP y4_30.toNatClampNeg (ix_lt (lp_i hi_30 hlt_30)) 8 (by decide) (hts _ wd122) rfl dX3_walk_46 ?_
        refine lv_if_eq (tgt := 82) hx hb dX3_walk_49 (by decide) (fun c_49 => ?_) (fun c_49 => ?_)
        · rw [if_pos c_49] at hF
          refine lv_iinc (v := (y4_30 + (1 : Int32))) (lv' := [(4, .int (y4_30 + (1 : Int32))), (3, .int (f_armedSet σ)), (0, .ref (ad 0)), (1, .int x1), (2, .int x2)]) hx hb dX3_walk_82 hl (k := 0) rfl rfl (by decide) rfl (fun ls hl => ?_)
          refine lv_goto (tgt := 30) hx hb dX3_walk_85 (by decide) ?_
          exact ih_30 σ_30 (y4_30 + (1 : Int32)) _ _ _ hw_30 (lp_s hi_30 hlt_30) hP hS (lv_sub hl [0, 1, 2, 3, 4] rfl) hF
        · rw [if_neg c_49] at hF
          refine lv_aload_n hx hb dX3_walk_52 rfl (lv_at hl 2 rfl) ?_
          refine lv_iload_n hx hb dX3_walk_53 rfl (lv_at hl 3 rfl) ?_
          refine lv_iload hx hb dX3_walk_54 (lv_at hl 0 rfl) ?_
          refine k_standsInRing X hP hS ⟨Nat.le_of_ble_eq_true rfl, Nat.le_of_ble_eq_true rfl⟩ ⟨Nat.zero_le _, Nat.zero_le _⟩ wd94 hl.1 (Nat.le_of_ble_eq_true rfl) dX3_walk_56 x1 y4_30 hw_30 (WF.p8 hwf hp) (lp_i hi_30 hlt_30) (fun H locs hP hS => ?_)
          refine lv_if_eq (tgt := 82) hx hb dX3_walk_59 (by decide) (fun c_59 => ?_) (fun c_59 => ?_)
          · rw [if_pos c_59] at hF
            refine lv_iinc (v := (y4_30 + (1 : Int32))) (lv' := [(4, .int (y4_30 + (1 : Int32))), (3, .int (f_armedSet σ)), (0, .ref (ad 0)), (1, .int x1), (2, .int x2)]) hx hb dX3_walk_82 hl (k := 0) rfl rfl (by decide) rfl (fun ls hl => ?_)
            refine lv_goto (tgt := 30) hx hb dX3_walk_85 (by decide) ?_
            exact ih_30 σ_30 (y4_30 + (1 : Int32)) _ _ _ hw_30 (lp_s hi_30 hlt_30) hP hS (lv_sub hl [0, 1, 2, 3, 4] rfl) hF
          · rw [if_neg c_59] at hF
            refine lv_aload_n hx hb dX3_walk_62 rfl (lv_at hl 2 rfl) ?_
            refine lv_iload hx hb dX3_walk_63 (lv_at hl 0 rfl) ?_
            refine k_standDown X hP hS ⟨Nat.le_of_ble_eq_true rfl, Nat.le_of_ble_eq_true rfl⟩ ⟨Nat.zero_le _, Nat.zero_le _⟩ wd118 hl.1 (Nat.le_of_ble_eq_true rfl) dX3_walk_65 y4_30 hw_30 (lp_i hi_30 hlt_30) (fun H locs hP hS => ?_)
            have hw_σ2 : WF (f_standDown σ_30 y4_30) := wf_standDown hw_30 (lp_i hi_30 hlt_30)
            generalize hs_σ2 : (f_standDown σ_30 y4_30) = σ2 at hP hw_σ2 hF
            replace hF : ((fun σ3 : St => (f_walk_L30 σ x1 n_30 σ3 (y4_30 + (1 : Int32)))) (f_addMiss σ2 (σ2.1 (34 + y4_30.toNatClampNeg) 0))) = F := hF
            refine lv_aload_n hx hb dX3_walk_68 rfl (lv_at hl 2 rfl) ?_
            refine lv_aload_n hx hb dX3_walk_69 rfl (lv_at hl 2 rfl) ?_
            refine q_getM (v := .ref (ad 3)) X hP 2 (by decide) (hts _ wd15) rfl dX3_walk_70 ?_
            refine lv_iload hx hb dX3_walk_73 (lv_at hl 0 rfl) ?_
            refine q_aldG X hP (lp_i hi_30 hlt_30) dX3_walk_75 ?_
            refine q_getG (v := .int (σ2.1 (34 + y4_30.toNatClampNeg) 0)) X hP y4_30.toNatClampNeg (ix_lt (lp_i hi_30 hlt_30)) 0 (by decide) (hts _ wd112) rfl dX3_walk_76 ?_
            refine k_addMiss X hP hS ⟨Nat.le_of_ble_eq_true rfl, Nat.le_of_ble_eq_true rfl⟩ ⟨Nat.zero_le _, Nat.zero_le _⟩ wd150 hl.1 (Nat.le_of_ble_eq_true rfl) dX3_walk_79 (σ2.1 (34 + y4_30.toNatClampNeg) 0) hw_σ2 (WF.gk hw_σ2 (lp_i hi_30 hlt_30)) (fun H locs hP hS => ?_)
            have hw_σ3 : WF (f_addMiss σ2 (σ2.1 (34 + y4_30.toNatClampNeg) 0)) := wf_addMiss hw_σ2 (WF.gk hw_σ2 (lp_i hi_30 hlt_30))
            generalize hs_σ3 : (f_addMiss σ2 (σ2.1 (34 + y4_30.toNatClampNeg) 0)) = σ3 at hP hw_σ3 hF
            replace hF : (f_walk_L30 σ x1 n_30 σ3 (y4_30 + (1 : Int32))) = F := hF
            refine lv_iinc (v := (y4_30 + (1 : Int32))) (lv' := [(4, .int (y4_30 + (1 : Int32))), (3, .int (f_armedSet σ)), (0, .ref (ad 0)), (1, .int x1), (2, .int x2)]) hx hb dX3_walk_82 hl (k := 0) rfl rfl (by decide) rfl (fun ls hl => ?_)
            refine lv_goto (tgt := 30) hx hb dX3_walk_85 (by decide) ?_
            exact ih_30 σ3 (y4_30 + (1 : Int32)) _ _ _ hw_σ3 (lp_s hi_30 hlt_30) hP hS (lv_sub hl [0, 1, 2, 3, 4] rfl) hF
  exact L_30 128 σ1 (0 : Int32) _ _ _ hw_σ1 (lp_z (by decide)) hP hS hl hF
theorem k_walk {p : Program} {l : Launch} {e : Env} {R : Room} {s : State} {m : MethodId} {args : Array Value} {below : List Frame} {meth : Method} {c : Code} {H : Heap} {locs : List Loc} {cells slots : Nat} {Q : State → Prop} {cc : ByteArray} {pc : Nat} {ls : Array Slot} {rest : List Value} {D : va_G} {A : Nat → Prop} {ad : Nat → Nat} {ca : Nat → ClassId} {tw nL : Nat} {σ : St} {own : String} {index : Nat} (X : Cx p s m args c own cc nL D ad ca tw A) (hP : va_P D vwCl (wl ad ca σ) H) (hS : va_S A s.heap H locs) (hR : 4 ≤ R.frames ∧ 89 ≤ R.locals) (hcap : cells ≤ R.cells ∧ slots ≤ R.slots) (hlk : Cond.methodLink own index yX3_walk ∈ wsL_law0) (hsz : ls.size = nL) (hrs : (rest.map fun v => v.category).sum ≤ 8) (hdg : decode cc pc = .ok (.invokevirtual index, 3)) (x1 : Int32) (x2 : Int32) (hwf : WF σ) (hp : inr x1 (σ.1 0 3)) (hr2 : (0 : Int32).toInt ≤ x2.toInt ∧ x2.toInt ≤ (99 : Int32).toInt)
    (kk : ∀ (H1 : Heap) (locs1 : List Loc), va_P D vwCl (wl ad ca (f_walk σ x1 x2).2) H1 → va_S A s.heap H1 locs1 → W p l e R s m args below meth c H1 locs1 cells slots Q (F0 m (pc + 3) ls (.int (f_walk σ x1 x2).1 :: rest))) : W p l e R s m args below meth c H locs cells slots Q (F0 m pc ls (.int x2 :: .int x1 :: .ref (ad 0) :: rest)) := by
  refine q_bi X hS (q_runV (as := [.int x1, .int x2]) X hP hS (q_cwV (rm := ({ frames := 3, cells := 0, slots := 0, locals := 65 } : Room)) (k := 2) X.2.2.2.2.1 hlk wd143 wd144 wd2 wd145 rfl rfl (by decide +kernel) rfl ⟨hR.1, hR.2⟩) (c_walk l D ad ca tw X.2.2.2.2.2.2.1 σ x1 x2 hwf hp hr2) rfl hsz rfl hrs hdg hcap) (fun r u H1 locs1 h1 h2 h3 => ?_)
  have e1 := congrArg Prod.fst h1
  have e2 := congrArg Prod.snd h1
  dsimp only at e1 e2
  subst e1
  subst e2
  exact kk H1 locs1 h2 h3
set_option maxHeartbeats 4000000 in
set_option maxRecDepth 100000 in
theorem c_kit (l : Launch) (D : va_G) (ad : Nat → Nat) (ca : Nat → ClassId) (tw : Nat) (hI : ∀ i j, i < 40 → j < 40 → ad i = ad j → i = j) (σ : St) (x1 : Int32) (x2 : Int32) (x3 : Int32) (hwf : WF σ) (hk : vp_in x1 4) (hg : (1 : Int32).toInt ≤ x2.toInt ∧ x2.toInt ≤ (90 : Int32).toInt) (hu : (1 : Int32).toInt ≤ x3.toInt ∧ x3.toInt ≤ (5 : Int32).toInt) (hc : (σ.1 0 4).toInt < 12) : Met l yX3_kit (wm yX3_kit cX3_kit 5 (some .int)) ({ frames := 1, cells := 0, slots := 0, locals := 22 } : Room) (va_Pc [.ref (ad 0), .int x1, .int x2, .int x3] (wPre D ad ca tw σ)) (va_Qi (fun r u => (r, u) = f_kit σ x1 x2 x3) (wB D ad ca) (Aw ad)) 0 0 (Aw ad) := by
  generalize hF : f_kit σ x1 x2 x3 = F
  refine Met.ofW (cc := cX3_kit) (maxL := 5) (ret := (some .int)) (by decide) rfl ?_
  intro p e s m args below meth c s₁ B hml hv
  obtain ⟨rfl, hv⟩ := hv
  have X := q_open (own := RX3) B rfl hml hI hv
  have hx := X.1
  have hb := X.2.1
  have hts := X.2.2.2.2.1
  have hr := B.returns
  have hlocks := B.notSynchronized
  have hP := hv.1
  have hS : va_S (Aw ad) s.heap s.heap [] := va_S.rf
  have hl := lv_entry ([.ref (ad 0), .int x1, .int x2, .int x3]) (n := 5) (Nat.le_of_ble_eq_true rfl)
  rw [lg_entry_eq]
  generalize (lg_sl ([.ref (ad 0), .int x1, .int x2, .int x3]) ++ List.replicate (5 - (lg_sl ([.ref (ad 0), .int x1, .int x2, .int x3])).length) Slot.unset).toArray = ls at hl ⊢
  have hl : lv_has ls 5 [(0, .ref (ad 0)), (1, .int x1), (2, .int x2), (3, .int x3)] := hl
  unfold f_kit at hF
  replace hF : ((fun σ1 : St => ((fun σ2 : St => ((fun σ3 : St => ((fun σ4 : St => ((σ.1 0 4), σ4)) (up σ3 0 4 ((σ3.1 0 4) + (1 : Int32))))) (up σ2 (22 + (σ.1 0 4).toNatClampNeg) 2 x3))) (up σ1 (22 + (σ.1 0 4).toNatClampNeg) 1 x2))) (up σ (22 + (σ.1 0 4).toNatClampNeg) 0 x1)) = F := hF
  refine lv_iload_n hx hb dX3_kit_0 rfl (lv_at hl 1 rfl) ?_
  refine k_requireKind X hP hS ⟨Nat.le_of_ble_eq_true rfl, Nat.le_of_ble_eq_true rfl⟩ ⟨Nat.zero_le _, Nat.zero_le _⟩ wd134 hl.1 (Nat.le_of_ble_eq_true rfl) dX3_kit_1 x1 hwf hk (fun H locs hP hS => ?_)
  refine lv_iload_n hx hb dX3_kit_4 rfl (lv_at hl 2 rfl) ?_
  refine lv_iconst (v := (1 : Int32)) hx hb dX3_kit_5 (by decide) ?_
  refine lv_bipush (v := (90 : Int32)) hx hb dX3_kit_6 (by decide) ?_
  refine k_requireRange X hP hS ⟨Nat.le_of_ble_eq_true rfl, Nat.le_of_ble_eq_true rfl⟩ ⟨Nat.zero_le _, Nat.zero_le _⟩ wd137 hl.1 (Nat.le_of_ble_eq_true rfl) dX3_kit_8 x2 (1 : Int32) (90 : Int32) hwf hg (fun H locs hP hS => ?_)
  refine lv_iload_n hx hb dX3_kit_11 rfl (lv_at hl 3 rfl) ?_
  refine lv_iconst (v := (1 : Int32)) hx hb dX3_kit_12 (by decide) ?_
  refine lv_iconst (v := (5 : Int32)) hx hb dX3_kit_13 (by decide) ?_
  refine k_requireRange X hP hS ⟨Nat.le_of_ble_eq_true rfl, Nat.le_of_ble_eq_true rfl⟩ ⟨Nat.zero_le _, Nat.zero_le _⟩ wd137 hl.1 (Nat.le_of_ble_eq_true rfl) dX3_kit_14 x3 (1 : Int32) (5 : Int32) hwf hu (fun H locs hP hS => ?_)
  refine lv_aload_n hx hb dX3_kit_17 rfl (lv_at hl 0 rfl) ?_
  refine q_getM (v := .int (σ.1 0 4)) X hP 4 (by decide) (hts _ wd17) rfl dX3_kit_18 ?_
  refine lv_bipush (v := (12 : Int32)) hx hb dX3_kit_21 (by decide) ?_
  refine lv_icmp_lt (tgt := 36) hx hb dX3_kit_23 (by decide) (fun c_23 => ?_) (fun c_23 => ?_)
  · refine lv_aload_n hx hb dX3_kit_36 rfl (lv_at hl 0 rfl) ?_
    refine q_getM (v := .int (σ.1 0 4)) X hP 4 (by decide) (hts _ wd17) rfl dX3_kit_37 ?_
    refine lv_istore (lv' := [(4, .int (σ.1 0 4)), (0, .ref (ad 0)), (1, .int x1), (2, .int x2), (3, .int x3)]) hx hb dX3_kit_40 hl (by decide) rfl (fun ls hl => ?_)
    refine lv_aload_n hx hb dX3_kit_42 rfl (lv_at hl 1 rfl) ?_
    refine q_getM (v := .ref (ad 2)) X hP 1 (by decide) (hts _ wd13) rfl dX3_kit_43 ?_
    refine lv_iload hx hb dX3_kit_46 (lv_at hl 0 rfl) ?_
    refine q_aldK X hP (vp_to hwf.2.1.1 hc) dX3_kit_48 ?_
    refine lv_iload_n hx hb dX3_kit_49 rfl (lv_at hl 2 rfl) ?_
    refine q_putK (ty := .int) X hP hS ((σ.1 0 4).toNatClampNeg) (ix_lt (vp_to hwf.2.1.1 hc)) 0 (by decide) (hts _ wd188) rfl (by decide +kernel) rfl rfl dX3_kit_50 (fun H locs hP hS => ?_)
    have hw_σ1 : WF (up σ (22 + (σ.1 0 4).toNatClampNeg) 0 x1) := wf_up hwf (fun h => absurd h (by omega)) (fun h => absurd h (by have q9 : (σ.1 0 4).toNatClampNeg < 12 := (ix_lt (vp_to hwf.2.1.1 hc)); omega)) (fun h h2 => by decide)
    generalize hs_σ1 : (up σ (22 + (σ.1 0 4).toNatClampNeg) 0 x1) = σ1 at hP hw_σ1 hF
    replace hF : ((fun σ2 : St => ((fun σ3 : St => ((fun σ4 : St => ((σ.1 0 4), σ4)) (up σ3 0 4 ((σ3.1 0 4) + (1 : Int32))))) (up σ2 (22 + (σ.1 0 4).toNatClampNeg) 2 x3))) (up σ1 (22 + (σ.1 0 4).toNatClampNeg) 1 x2)) = F := hF
    refine lv_aload_n hx hb dX3_kit_53 rfl (lv_at hl 1 rfl) ?_
    refine q_getM (v := .ref (ad 2)) X hP 1 (by decide) (hts _ wd13) rfl dX3_kit_54 ?_
    refine lv_iload hx hb dX3_kit_57 (lv_at hl 0 rfl) ?_
    refine q_aldK X hP (vp_to hwf.2.1.1 hc) dX3_kit_59 ?_
    refine lv_iload_n hx hb dX3_kit_60 rfl (lv_at hl 3 rfl) ?_
    refine q_putK (ty := .int) X hP hS ((σ.1 0 4).toNatClampNeg) (ix_lt (vp_to hwf.2.1.1 hc)) 1 (by decide) (hts _ wd182) rfl (by decide +kernel) rfl rfl dX3_kit_61 (fun H locs hP hS => ?_)
    have hw_σ2 : WF (up σ1 (22 + (σ.1 0 4).toNatClampNeg) 1 x2) := wf_up hw_σ1 (fun h => absurd h (by omega)) (fun h => absurd h (by have q9 : (σ.1 0 4).toNatClampNeg < 12 := (ix_lt (vp_to hwf.2.1.1 hc)); omega)) (fun h h2 => by decide)
    generalize hs_σ2 : (up σ1 (22 + (σ.1 0 4).toNatClampNeg) 1 x2) = σ2 at hP hw_σ2 hF
    replace hF : ((fun σ3 : St => ((fun σ4 : St => ((σ.1 0 4), σ4)) (up σ3 0 4 ((σ3.1 0 4) + (1 : Int32))))) (up σ2 (22 + (σ.1 0 4).toNatClampNeg) 2 x3)) = F := hF
    refine lv_aload_n hx hb dX3_kit_64 rfl (lv_at hl 1 rfl) ?_
    refine q_getM (v := .ref (ad 2)) X hP 1 (by decide) (hts _ wd13) rfl dX3_kit_65 ?_
    refine lv_iload hx hb dX3_kit_68 (lv_at hl 0 rfl) ?_
    refine q_aldK X hP (vp_to hwf.2.1.1 hc) dX3_kit_70 ?_
    refine lv_iload_n hx hb dX3_kit_71 rfl (lv_at hl 4 rfl) ?_
    refine q_putK (ty := .int) X hP hS ((σ.1 0 4).toNatClampNeg) (ix_lt (vp_to hwf.2.1.1 hc)) 2 (by decide) (hts _ wd193) rfl (by decide +kernel) rfl rfl dX3_kit_72 (fun H locs hP hS => ?_)
    have hw_σ3 : WF (up σ2 (22 + (σ.1 0 4).toNatClampNeg) 2 x3) := wf_up hw_σ2 (fun h => absurd h (by omega)) (fun h => absurd h (by have q9 : (σ.1 0 4).toNatClampNeg < 12 := (ix_lt (vp_to hwf.2.1.1 hc)); omega)) (fun h h2 => by decide)
    generalize hs_σ3 : (up σ2 (22 + (σ.1 0 4).toNatClampNeg) 2 x3) = σ3 at hP hw_σ3 hF
    replace hF : ((fun σ4 : St => ((σ.1 0 4), σ4)) (up σ3 0 4 ((σ3.1 0 4) + (1 : Int32)))) = F := hF
    refine lv_aload_n hx hb dX3_kit_75 rfl (lv_at hl 1 rfl) ?_
    refine lv_dup hx hb dX3_kit_76 rfl ?_
    refine q_getM (v := .int (σ3.1 0 4)) X hP 4 (by decide) (hts _ wd17) rfl dX3_kit_77 ?_
    refine lv_iconst (v := (1 : Int32)) hx hb dX3_kit_80 (by decide) ?_
    refine lv_iadd hx hb dX3_kit_81 ?_
    refine q_putM (ty := .int) X hP hS 4 (by decide) (hts _ wd17) rfl (by decide +kernel) rfl rfl dX3_kit_82 (fun H locs hP hS => ?_)
    have hw_σ4 : WF (up σ3 0 4 ((σ3.1 0 4) + (1 : Int32))) := wf_c4 hw_σ3 (by rw [← hs_σ3, up_o (by omega), ← hs_σ2, up_o (by omega), ← hs_σ1, up_o (by omega)]) hwf.2.1.1 hc
    generalize hs_σ4 : (up σ3 0 4 ((σ3.1 0 4) + (1 : Int32))) = σ4 at hP hw_σ4 hF
    replace hF : ((σ.1 0 4), σ4) = F := hF
    refine lv_iload hx hb dX3_kit_85 (lv_at hl 0 rfl) ?_
    exact W.iret (v := (σ.1 0 4)) hx hb hr (fun t ht hW => ⟨⟨(σ.1 0 4), σ4, rfl, hF, wB_of ht hP⟩, hS.F ht⟩) hS.2.2 dX3_kit_87
  · exact absurd (i_lt.mpr hc) c_23
theorem k_kit {p : Program} {l : Launch} {e : Env} {R : Room} {s : State} {m : MethodId} {args : Array Value} {below : List Frame} {meth : Method} {c : Code} {H : Heap} {locs : List Loc} {cells slots : Nat} {Q : State → Prop} {cc : ByteArray} {pc : Nat} {ls : Array Slot} {rest : List Value} {D : va_G} {A : Nat → Prop} {ad : Nat → Nat} {ca : Nat → ClassId} {tw nL : Nat} {σ : St} {own : String} {index : Nat} (X : Cx p s m args c own cc nL D ad ca tw A) (hP : va_P D vwCl (wl ad ca σ) H) (hS : va_S A s.heap H locs) (hR : 2 ≤ R.frames ∧ 46 ≤ R.locals) (hcap : cells ≤ R.cells ∧ slots ≤ R.slots) (hlk : Cond.methodLink own index yX3_kit ∈ wsL_law0) (hsz : ls.size = nL) (hrs : (rest.map fun v => v.category).sum ≤ 8) (hdg : decode cc pc = .ok (.invokevirtual index, 3)) (x1 : Int32) (x2 : Int32) (x3 : Int32) (hwf : WF σ) (hk : vp_in x1 4) (hg : (1 : Int32).toInt ≤ x2.toInt ∧ x2.toInt ≤ (90 : Int32).toInt) (hu : (1 : Int32).toInt ≤ x3.toInt ∧ x3.toInt ≤ (5 : Int32).toInt) (hc : (σ.1 0 4).toInt < 12)
    (kk : ∀ (H1 : Heap) (locs1 : List Loc), va_P D vwCl (wl ad ca (f_kit σ x1 x2 x3).2) H1 → va_S A s.heap H1 locs1 → W p l e R s m args below meth c H1 locs1 cells slots Q (F0 m (pc + 3) ls (.int (f_kit σ x1 x2 x3).1 :: rest))) : W p l e R s m args below meth c H locs cells slots Q (F0 m pc ls (.int x3 :: .int x2 :: .int x1 :: .ref (ad 0) :: rest)) := by
  refine q_bi X hS (q_runV (as := [.int x1, .int x2, .int x3]) X hP hS (q_cwV (rm := ({ frames := 1, cells := 0, slots := 0, locals := 22 } : Room)) (k := 3) X.2.2.2.2.1 hlk wd245 wd246 wd2 wd247 rfl rfl (by decide +kernel) rfl ⟨hR.1, hR.2⟩) (c_kit l D ad ca tw X.2.2.2.2.2.2.1 σ x1 x2 x3 hwf hk hg hu hc) rfl hsz rfl hrs hdg hcap) (fun r u H1 locs1 h1 h2 h3 => ?_)
  have e1 := congrArg Prod.fst h1
  have e2 := congrArg Prod.snd h1
  dsimp only at e1 e2
  subst e1
  subst e2
  exact kk H1 locs1 h2 h3
set_option maxHeartbeats 4000000 in
set_option maxRecDepth 100000 in
theorem c_inspect (l : Launch) (D : va_G) (ad : Nat → Nat) (ca : Nat → ClassId) (tw : Nat) (hI : ∀ i j, i < 40 → j < 40 → ad i = ad j → i = j) (σ : St) (x1 : Int32) (hwf : WF σ) (hk : inr x1 (σ.1 0 4)) : Met l yX3_inspect (wm yX3_inspect cX3_inspect 3 (some .int)) ({ frames := 1, cells := 0, slots := 0, locals := 21 } : Room) (va_Pc [.ref (ad 0), .int x1] (wPre D ad ca tw σ)) (va_Qi (fun r u => (r, u) = f_inspect σ x1) (wB D ad ca) (Aw ad)) 0 0 (Aw ad) := by
  generalize hF : f_inspect σ x1 = F
  refine Met.ofW (cc := cX3_inspect) (maxL := 3) (ret := (some .int)) (by decide) rfl ?_
  intro p e s m args below meth c s₁ B hml hv
  obtain ⟨rfl, hv⟩ := hv
  have X := q_open (own := RX3) B rfl hml hI hv
  have hx := X.1
  have hb := X.2.1
  have hts := X.2.2.2.2.1
  have hr := B.returns
  have hlocks := B.notSynchronized
  have hP := hv.1
  have hS : va_S (Aw ad) s.heap s.heap [] := va_S.rf
  have hl := lv_entry ([.ref (ad 0), .int x1]) (n := 3) (Nat.le_of_ble_eq_true rfl)
  rw [lg_entry_eq]
  generalize (lg_sl ([.ref (ad 0), .int x1]) ++ List.replicate (3 - (lg_sl ([.ref (ad 0), .int x1])).length) Slot.unset).toArray = ls at hl ⊢
  have hl : lv_has ls 3 [(0, .ref (ad 0)), (1, .int x1)] := hl
  unfold f_inspect at hF
  replace hF : ((fun σ1 : St => ((σ.1 (22 + x1.toNatClampNeg) 3), σ1)) (up σ (22 + x1.toNatClampNeg) 3 (σ.1 0 8))) = F := hF
  refine lv_aload_n hx hb dX3_inspect_0 rfl (lv_at hl 0 rfl) ?_
  refine lv_iload_n hx hb dX3_inspect_1 rfl (lv_at hl 1 rfl) ?_
  refine k_requirePiece X hP hS ⟨Nat.le_of_ble_eq_true rfl, Nat.le_of_ble_eq_true rfl⟩ ⟨Nat.zero_le _, Nat.zero_le _⟩ wd252 hl.1 (Nat.le_of_ble_eq_true rfl) dX3_inspect_2 x1 hwf hk (fun H locs hP hS => ?_)
  refine lv_aload_n hx hb dX3_inspect_5 rfl (lv_at hl 0 rfl) ?_
  refine q_getM (v := .ref (ad 2)) X hP 1 (by decide) (hts _ wd13) rfl dX3_inspect_6 ?_
  refine lv_iload_n hx hb dX3_inspect_9 rfl (lv_at hl 1 rfl) ?_
  refine q_aldK X hP (WF.k12 hwf hk) dX3_inspect_10 ?_
  refine q_getK (v := .int (σ.1 (22 + x1.toNatClampNeg) 3)) X hP x1.toNatClampNeg (ix_lt (WF.k12 hwf hk)) 3 (by decide) (hts _ wd194) rfl dX3_inspect_11 ?_
  refine lv_istore_n (lv' := [(2, .int (σ.1 (22 + x1.toNatClampNeg) 3)), (0, .ref (ad 0)), (1, .int x1)]) hx hb dX3_inspect_14 rfl hl (by decide) rfl (fun ls hl => ?_)
  refine lv_aload_n hx hb dX3_inspect_15 rfl (lv_at hl 1 rfl) ?_
  refine q_getM (v := .ref (ad 2)) X hP 1 (by decide) (hts _ wd13) rfl dX3_inspect_16 ?_
  refine lv_iload_n hx hb dX3_inspect_19 rfl (lv_at hl 2 rfl) ?_
  refine q_aldK X hP (WF.k12 hwf hk) dX3_inspect_20 ?_
  refine lv_aload_n hx hb dX3_inspect_21 rfl (lv_at hl 1 rfl) ?_
  refine q_getM (v := .int (σ.1 0 8)) X hP 8 (by decide) (hts _ wd21) rfl dX3_inspect_22 ?_
  refine q_putK (ty := .int) X hP hS x1.toNatClampNeg (ix_lt (WF.k12 hwf hk)) 3 (by decide) (hts _ wd194) rfl (by decide +kernel) rfl rfl dX3_inspect_25 (fun H locs hP hS => ?_)
  have hw_σ1 : WF (up σ (22 + x1.toNatClampNeg) 3 (σ.1 0 8)) := wf_up hwf (fun h => absurd h (by omega)) (fun h => absurd h (by have q9 : x1.toNatClampNeg < 12 := (ix_lt (WF.k12 hwf hk)); omega)) (fun h h2 => by decide)
  generalize hs_σ1 : (up σ (22 + x1.toNatClampNeg) 3 (σ.1 0 8)) = σ1 at hP hw_σ1 hF
  replace hF : ((σ.1 (22 + x1.toNatClampNeg) 3), σ1) = F := hF
  refine lv_iload_n hx hb dX3_inspect_28 rfl (lv_at hl 0 rfl) ?_
  exact W.iret (v := (σ.1 (22 + x1.toNatClampNeg) 3)) hx hb hr (fun t ht hW => ⟨⟨(σ.1 (22 + x1.toNatClampNeg) 3), σ1, rfl, hF, wB_of ht hP⟩, hS.F ht⟩) hS.2.2 dX3_inspect_29
theorem k_inspect {p : Program} {l : Launch} {e : Env} {R : Room} {s : State} {m : MethodId} {args : Array Value} {below : List Frame} {meth : Method} {c : Code} {H : Heap} {locs : List Loc} {cells slots : Nat} {Q : State → Prop} {cc : ByteArray} {pc : Nat} {ls : Array Slot} {rest : List Value} {D : va_G} {A : Nat → Prop} {ad : Nat → Nat} {ca : Nat → ClassId} {tw nL : Nat} {σ : St} {own : String} {index : Nat} (X : Cx p s m args c own cc nL D ad ca tw A) (hP : va_P D vwCl (wl ad ca σ) H) (hS : va_S A s.heap H locs) (hR : 2 ≤ R.frames ∧ 43 ≤ R.locals) (hcap : cells ≤ R.cells ∧ slots ≤ R.slots) (hlk : Cond.methodLink own index yX3_inspect ∈ wsL_law0) (hsz : ls.size = nL) (hrs : (rest.map fun v => v.category).sum ≤ 8) (hdg : decode cc pc = .ok (.invokevirtual index, 3)) (x1 : Int32) (hwf : WF σ) (hk : inr x1 (σ.1 0 4))
    (kk : ∀ (H1 : Heap) (locs1 : List Loc), va_P D vwCl (wl ad ca (f_inspect σ x1).2) H1 → va_S A s.heap H1 locs1 → W p l e R s m args below meth c H1 locs1 cells slots Q (F0 m (pc + 3) ls (.int (f_inspect σ x1).1 :: rest))) : W p l e R s m args below meth c H locs cells slots Q (F0 m pc ls (.int x1 :: .ref (ad 0) :: rest)) := by
  refine q_bi X hS (q_runV (as := [.int x1]) X hP hS (q_cwV (rm := ({ frames := 1, cells := 0, slots := 0, locals := 21 } : Room)) (k := 1) X.2.2.2.2.1 hlk wd264 wd265 wd2 wd266 rfl rfl (by decide +kernel) rfl ⟨hR.1, hR.2⟩) (c_inspect l D ad ca tw X.2.2.2.2.2.2.1 σ x1 hwf hk) rfl hsz rfl hrs hdg hcap) (fun r u H1 locs1 h1 h2 h3 => ?_)
  have e1 := congrArg Prod.fst h1
  have e2 := congrArg Prod.snd h1
  dsimp only at e1 e2
  subst e1
  subst e2
  exact kk H1 locs1 h2 h3
set_option maxHeartbeats 4000000 in
set_option maxRecDepth 100000 in
theorem c_put (l : Launch) (D : va_G) (ad : Nat → Nat) (ca : Nat → ClassId) (tw : Nat) (hI : ∀ i j, i < 40 → j < 40 → ad i = ad j → i = j) (σ : St) (x1 : Int32) (x2 : Int32) (hwf : WF σ) (hk : inr x1 (σ.1 0 4)) (hg : inr x2 (σ.1 0 5)) (hne : ¬ σ.1 (22 + x1.toNatClampNeg) 4 = x2) : Met l yX3_put (wm yX3_put cX3_put 4 (some .int)) ({ frames := 3, cells := 0, slots := 0, locals := 63 } : Room) (va_Pc [.ref (ad 0), .int x1, .int x2] (wPre D ad ca tw σ)) (va_Qi (fun r u => (r, u) = f_put σ x1 x2) (wB D ad ca) (Aw ad)) 0 0 (Aw ad) := by
  generalize hF : f_put σ x1 x2 = F
  refine Met.ofW (cc := cX3_put) (maxL := 4) (ret := (some .int)) (by decide) rfl ?_
  intro p e s m args below meth c s₁ B hml hv
  obtain ⟨rfl, hv⟩ := hv
  have X := q_open (own := RX3) B rfl hml hI hv
  have hx := X.1
  have hb := X.2.1
  have hts := X.2.2.2.2.1
  have hr := B.returns
  have hlocks := B.notSynchronized
  have hP := hv.1
  have hS : va_S (Aw ad) s.heap s.heap [] := va_S.rf
  have hl := lv_entry ([.ref (ad 0), .int x1, .int x2]) (n := 4) (Nat.le_of_ble_eq_true rfl)
  rw [lg_entry_eq]
  generalize (lg_sl ([.ref (ad 0), .int x1, .int x2]) ++ List.replicate (4 - (lg_sl ([.ref (ad 0), .int x1, .int x2])).length) Slot.unset).toArray = ls at hl ⊢
  have hl : lv_has ls 4 [(0, .ref (ad 0)), (1, .int x1), (2, .int x2)] := hl
  unfold f_put at hF
  replace hF : ((fun σ1 : St => (if (σ.1 (22 + x1.toNatClampNeg) 4) = (-1 : Int32) then ((fun σ2 : St => ((σ.1 (22 + x1.toNatClampNeg) 4), σ2)) (f_becomeChanged σ1 x2)) else ((fun σ3 : St => ((fun σ4 : St => ((σ.1 (22 + x1.toNatClampNeg) 4), σ4)) (f_becomeChanged σ3 x2))) (f_becomeChanged σ1 (σ.1 (22 + x1.toNatClampNeg) 4))))) (up σ (22 + x1.toNatClampNeg) 4 x2)) = F := hF
  refine lv_aload_n hx hb dX3_put_0 rfl (lv_at hl 0 rfl) ?_
  refine lv_iload_n hx hb dX3_put_1 rfl (lv_at hl 1 rfl) ?_
  refine k_requirePiece X hP hS ⟨Nat.le_of_ble_eq_true rfl, Nat.le_of_ble_eq_true rfl⟩ ⟨Nat.zero_le _, Nat.zero_le _⟩ wd252 hl.1 (Nat.le_of_ble_eq_true rfl) dX3_put_2 x1 hwf hk (fun H locs hP hS => ?_)
  refine lv_iload_n hx hb dX3_put_5 rfl (lv_at hl 2 rfl) ?_
  refine lv_iconst (v := (-1 : Int32)) hx hb dX3_put_6 (by decide) ?_
  refine lv_icmp_eq (tgt := 15) hx hb dX3_put_7 (by decide) (fun c_7 => ?_) (fun c_7 => ?_)
  · exact absurd c_7 (ne_m1 hg)
  · refine lv_aload_n hx hb dX3_put_10 rfl (lv_at hl 0 rfl) ?_
    refine lv_iload_n hx hb dX3_put_11 rfl (lv_at hl 2 rfl) ?_
    refine k_requireGag X hP hS ⟨Nat.le_of_ble_eq_true rfl, Nat.le_of_ble_eq_true rfl⟩ ⟨Nat.zero_le _, Nat.zero_le _⟩ wd170 hl.1 (Nat.le_of_ble_eq_true rfl) dX3_put_12 x2 hwf hg (fun H locs hP hS => ?_)
    refine lv_aload_n hx hb dX3_put_15 rfl (lv_at hl 0 rfl) ?_
    refine q_getM (v := .ref (ad 2)) X hP 1 (by decide) (hts _ wd13) rfl dX3_put_16 ?_
    refine lv_iload_n hx hb dX3_put_19 rfl (lv_at hl 1 rfl) ?_
    refine q_aldK X hP (WF.k12 hwf hk) dX3_put_20 ?_
    refine q_getK (v := .int (σ.1 (22 + x1.toNatClampNeg) 4)) X hP x1.toNatClampNeg (ix_lt (WF.k12 hwf hk)) 4 (by decide) (hts _ wd187) rfl dX3_put_21 ?_
    refine lv_istore_n (lv' := [(3, .int (σ.1 (22 + x1.toNatClampNeg) 4)), (0, .ref (ad 0)), (1, .int x1), (2, .int x2)]) hx hb dX3_put_24 rfl hl (by decide) rfl (fun ls hl => ?_)
    refine lv_iload_n hx hb dX3_put_25 rfl (lv_at hl 0 rfl) ?_
    refine lv_iload_n hx hb dX3_put_26 rfl (lv_at hl 3 rfl) ?_
    refine lv_icmp_ne (tgt := 40) hx hb dX3_put_27 (by decide) (fun c_27 => ?_) (fun c_27 => ?_)
    · refine lv_aload_n hx hb dX3_put_40 rfl (lv_at hl 1 rfl) ?_
      refine q_getM (v := .ref (ad 2)) X hP 1 (by decide) (hts _ wd13) rfl dX3_put_41 ?_
      refine lv_iload_n hx hb dX3_put_44 rfl (lv_at hl 2 rfl) ?_
      refine q_aldK X hP (WF.k12 hwf hk) dX3_put_45 ?_
      refine lv_iload_n hx hb dX3_put_46 rfl (lv_at hl 3 rfl) ?_
      refine q_putK (ty := .int) X hP hS x1.toNatClampNeg (ix_lt (WF.k12 hwf hk)) 4 (by decide) (hts _ wd187) rfl (by decide +kernel) rfl rfl dX3_put_47 (fun H locs hP hS => ?_)
      have hw_σ1 : WF (up σ (22 + x1.toNatClampNeg) 4 x2) := wf_K4 hwf (Or.inr (WF.g6 hwf hg))
      generalize hs_σ1 : (up σ (22 + x1.toNatClampNeg) 4 x2) = σ1 at hP hw_σ1 hF
      replace hF : (if (σ.1 (22 + x1.toNatClampNeg) 4) = (-1 : Int32) then ((fun σ2 : St => ((σ.1 (22 + x1.toNatClampNeg) 4), σ2)) (f_becomeChanged σ1 x2)) else ((fun σ3 : St => ((fun σ4 : St => ((σ.1 (22 + x1.toNatClampNeg) 4), σ4)) (f_becomeChanged σ3 x2))) (f_becomeChanged σ1 (σ.1 (22 + x1.toNatClampNeg) 4)))) = F := hF
      refine lv_iload_n hx hb dX3_put_50 rfl (lv_at hl 0 rfl) ?_
      refine lv_iconst (v := (-1 : Int32)) hx hb dX3_put_51 (by decide) ?_
      refine lv_icmp_eq (tgt := 60) hx hb dX3_put_52 (by decide) (fun c_52 => ?_) (fun c_52 => ?_)
      · rw [if_pos c_52] at hF
        refine lv_iload_n hx hb dX3_put_60 rfl (lv_at hl 3 rfl) ?_
        refine lv_iconst (v := (-1 : Int32)) hx hb dX3_put_61 (by decide) ?_
        refine lv_icmp_eq (tgt := 70) hx hb dX3_put_62 (by decide) (fun c_62 => ?_) (fun c_62 => ?_)
        · exact absurd c_62 (ne_m1 hg)
        · refine lv_aload_n hx hb dX3_put_65 rfl (lv_at hl 1 rfl) ?_
          refine lv_iload_n hx hb dX3_put_66 rfl (lv_at hl 3 rfl) ?_
          refine k_becomeChanged X hP hS ⟨Nat.le_of_ble_eq_true rfl, Nat.le_of_ble_eq_true rfl⟩ ⟨Nat.zero_le _, Nat.zero_le _⟩ wd256 hl.1 (Nat.le_of_ble_eq_true rfl) dX3_put_67 x2 hw_σ1 (WF.g6 hwf hg) (fun H locs hP hS => ?_)
          have hw_σ2 : WF (f_becomeChanged σ1 x2) := wf_becomeChanged hw_σ1 (WF.g6 hwf hg)
          generalize hs_σ2 : (f_becomeChanged σ1 x2) = σ2 at hP hw_σ2 hF
          replace hF : ((σ.1 (22 + x1.toNatClampNeg) 4), σ2) = F := hF
          refine lv_iload_n hx hb dX3_put_70 rfl (lv_at hl 0 rfl) ?_
          exact W.iret (v := (σ.1 (22 + x1.toNatClampNeg) 4)) hx hb hr (fun t ht hW => ⟨⟨(σ.1 (22 + x1.toNatClampNeg) 4), σ2, rfl, hF, wB_of ht hP⟩, hS.F ht⟩) hS.2.2 dX3_put_71
      · rw [if_neg c_52] at hF
        refine lv_aload_n hx hb dX3_put_55 rfl (lv_at hl 1 rfl) ?_
        refine lv_iload_n hx hb dX3_put_56 rfl (lv_at hl 0 rfl) ?_
        refine k_becomeChanged X hP hS ⟨Nat.le_of_ble_eq_true rfl, Nat.le_of_ble_eq_true rfl⟩ ⟨Nat.zero_le _, Nat.zero_le _⟩ wd256 hl.1 (Nat.le_of_ble_eq_true rfl) dX3_put_57 (σ.1 (22 + x1.toNatClampNeg) 4) hw_σ1 ((WF.kt hwf (WF.k12 hwf hk)).resolve_left c_52) (fun H locs hP hS => ?_)
        have hw_σ3 : WF (f_becomeChanged σ1 (σ.1 (22 + x1.toNatClampNeg) 4)) := wf_becomeChanged hw_σ1 ((WF.kt hwf (WF.k12 hwf hk)).resolve_left c_52)
        generalize hs_σ3 : (f_becomeChanged σ1 (σ.1 (22 + x1.toNatClampNeg) 4)) = σ3 at hP hw_σ3 hF
        replace hF : ((fun σ4 : St => ((σ.1 (22 + x1.toNatClampNeg) 4), σ4)) (f_becomeChanged σ3 x2)) = F := hF
        refine lv_iload_n hx hb dX3_put_60 rfl (lv_at hl 3 rfl) ?_
        refine lv_iconst (v := (-1 : Int32)) hx hb dX3_put_61 (by decide) ?_
        refine lv_icmp_eq (tgt := 70) hx hb dX3_put_62 (by decide) (fun c_62 => ?_) (fun c_62 => ?_)
        · exact absurd c_62 (ne_m1 hg)
        · refine lv_aload_n hx hb dX3_put_65 rfl (lv_at hl 1 rfl) ?_
          refine lv_iload_n hx hb dX3_put_66 rfl (lv_at hl 3 rfl) ?_
          refine k_becomeChanged X hP hS ⟨Nat.le_of_ble_eq_true rfl, Nat.le_of_ble_eq_true rfl⟩ ⟨Nat.zero_le _, Nat.zero_le _⟩ wd256 hl.1 (Nat.le_of_ble_eq_true rfl) dX3_put_67 x2 hw_σ3 (WF.g6 hwf hg) (fun H locs hP hS => ?_)
          have hw_σ4 : WF (f_becomeChanged σ3 x2) := wf_becomeChanged hw_σ3 (WF.g6 hwf hg)
          generalize hs_σ4 : (f_becomeChanged σ3 x2) = σ4 at hP hw_σ4 hF
          replace hF : ((σ.1 (22 + x1.toNatClampNeg) 4), σ4) = F := hF
          refine lv_iload_n hx hb dX3_put_70 rfl (lv_at hl 0 rfl) ?_
          exact W.iret (v := (σ.1 (22 + x1.toNatClampNeg) 4)) hx hb hr (fun t ht hW => ⟨⟨(σ.1 (22 + x1.toNatClampNeg) 4), σ4, rfl, hF, wB_of ht hP⟩, hS.F ht⟩) hS.2.2 dX3_put_71
    · first | exact absurd c_27 hk | exact absurd hk c_27 | exact absurd c_27 hg | exact absurd hg c_27 | exact absurd c_27 hne | exact absurd hne c_27
theorem k_put {p : Program} {l : Launch} {e : Env} {R : Room} {s : State} {m : MethodId} {args : Array Value} {below : List Frame} {meth : Method} {c : Code} {H : Heap} {locs : List Loc} {cells slots : Nat} {Q : State → Prop} {cc : ByteArray} {pc : Nat} {ls : Array Slot} {rest : List Value} {D : va_G} {A : Nat → Prop} {ad : Nat → Nat} {ca : Nat → ClassId} {tw nL : Nat} {σ : St} {own : String} {index : Nat} (X : Cx p s m args c own cc nL D ad ca tw A) (hP : va_P D vwCl (wl ad ca σ) H) (hS : va_S A s.heap H locs) (hR : 4 ≤ R.frames ∧ 86 ≤ R.locals) (hcap : cells ≤ R.cells ∧ slots ≤ R.slots) (hlk : Cond.methodLink own index yX3_put ∈ wsL_law0) (hsz : ls.size = nL) (hrs : (rest.map fun v => v.category).sum ≤ 8) (hdg : decode cc pc = .ok (.invokevirtual index, 3)) (x1 : Int32) (x2 : Int32) (hwf : WF σ) (hk : inr x1 (σ.1 0 4)) (hg : inr x2 (σ.1 0 5)) (hne : ¬ σ.1 (22 + x1.toNatClampNeg) 4 = x2)
    (kk : ∀ (H1 : Heap) (locs1 : List Loc), va_P D vwCl (wl ad ca (f_put σ x1 x2).2) H1 → va_S A s.heap H1 locs1 → W p l e R s m args below meth c H1 locs1 cells slots Q (F0 m (pc + 3) ls (.int (f_put σ x1 x2).1 :: rest))) : W p l e R s m args below meth c H locs cells slots Q (F0 m pc ls (.int x2 :: .int x1 :: .ref (ad 0) :: rest)) := by
  refine q_bi X hS (q_runV (as := [.int x1, .int x2]) X hP hS (q_cwV (rm := ({ frames := 3, cells := 0, slots := 0, locals := 63 } : Room)) (k := 2) X.2.2.2.2.1 hlk wd249 wd250 wd2 wd251 rfl rfl (by decide +kernel) rfl ⟨hR.1, hR.2⟩) (c_put l D ad ca tw X.2.2.2.2.2.2.1 σ x1 x2 hwf hk hg hne) rfl hsz rfl hrs hdg hcap) (fun r u H1 locs1 h1 h2 h3 => ?_)
  have e1 := congrArg Prod.fst h1
  have e2 := congrArg Prod.snd h1
  dsimp only at e1 e2
  subst e1
  subst e2
  exact kk H1 locs1 h2 h3
set_option maxHeartbeats 4000000 in
set_option maxRecDepth 100000 in
theorem c_gag (l : Launch) (D : va_G) (ad : Nat → Nat) (ca : Nat → ClassId) (tw : Nat) (hI : ∀ i j, i < 40 → j < 40 → ad i = ad j → i = j) (σ : St) (x1 : Int32) (x2 : Int32) (x3 : Int32) (x4 : Int32) (hwf : WF σ) (hk : vp_in x1 4) (hp : inr x2 (σ.1 0 3)) (hpl : (0 : Int32).toInt ≤ x3.toInt ∧ x3.toInt ≤ (99 : Int32).toInt) (hlv : (1 : Int32).toInt ≤ x4.toInt ∧ x4.toInt ≤ (30 : Int32).toInt) (hc : (σ.1 0 5).toInt < 6) : Met l yX3_gag (wm yX3_gag cX3_gag 6 (some .int)) ({ frames := 1, cells := 0, slots := 0, locals := 22 } : Room) (va_Pc [.ref (ad 0), .int x1, .int x2, .int x3, .int x4] (wPre D ad ca tw σ)) (va_Qi (fun r u => (r, u) = f_gag σ x1 x2 x3 x4) (wB D ad ca) (Aw ad)) 0 0 (Aw ad) := by
  generalize hF : f_gag σ x1 x2 x3 x4 = F
  refine Met.ofW (cc := cX3_gag) (maxL := 6) (ret := (some .int)) (by decide) rfl ?_
  intro p e s m args below meth c s₁ B hml hv
  obtain ⟨rfl, hv⟩ := hv
  have X := q_open (own := RX3) B rfl hml hI hv
  have hx := X.1
  have hb := X.2.1
  have hts := X.2.2.2.2.1
  have hr := B.returns
  have hlocks := B.notSynchronized
  have hP := hv.1
  have hS : va_S (Aw ad) s.heap s.heap [] := va_S.rf
  have hl := lv_entry ([.ref (ad 0), .int x1, .int x2, .int x3, .int x4]) (n := 6) (Nat.le_of_ble_eq_true rfl)
  rw [lg_entry_eq]
  generalize (lg_sl ([.ref (ad 0), .int x1, .int x2, .int x3, .int x4]) ++ List.replicate (6 - (lg_sl ([.ref (ad 0), .int x1, .int x2, .int x3, .int x4])).length) Slot.unset).toArray = ls at hl ⊢
  have hl : lv_has ls 6 [(0, .ref (ad 0)), (1, .int x1), (2, .int x2), (3, .int x3), (4, .int x4)] := hl
  unfold f_gag at hF
  replace hF : ((fun σ1 : St => ((fun σ2 : St => ((fun σ3 : St => ((fun σ4 : St => ((fun σ5 : St => ((σ.1 0 5), σ5)) (up σ4 0 5 ((σ4.1 0 5) + (1 : Int32))))) (up σ3 (34 + (σ.1 0 5).toNatClampNeg) 3 x4))) (up σ2 (34 + (σ.1 0 5).toNatClampNeg) 2 x3))) (up σ1 (34 + (σ.1 0 5).toNatClampNeg) 1 x2))) (up σ (34 + (σ.1 0 5).toNatClampNeg) 0 x1)) = F := hF
  refine lv_iload_n hx hb dX3_gag_0 rfl (lv_at hl 1 rfl) ?_
  refine k_requireKind X hP hS ⟨Nat.le_of_ble_eq_true rfl, Nat.le_of_ble_eq_true rfl⟩ ⟨Nat.zero_le _, Nat.zero_le _⟩ wd134 hl.1 (Nat.le_of_ble_eq_true rfl) dX3_gag_1 x1 hwf hk (fun H locs hP hS => ?_)
  refine lv_aload_n hx hb dX3_gag_4 rfl (lv_at hl 0 rfl) ?_
  refine lv_iload_n hx hb dX3_gag_5 rfl (lv_at hl 2 rfl) ?_
  refine k_requirePerson X hP hS ⟨Nat.le_of_ble_eq_true rfl, Nat.le_of_ble_eq_true rfl⟩ ⟨Nat.zero_le _, Nat.zero_le _⟩ wd128 hl.1 (Nat.le_of_ble_eq_true rfl) dX3_gag_6 x2 hwf hp (fun H locs hP hS => ?_)
  refine lv_iload_n hx hb dX3_gag_9 rfl (lv_at hl 3 rfl) ?_
  refine lv_iconst (v := (0 : Int32)) hx hb dX3_gag_10 (by decide) ?_
  refine lv_bipush (v := (99 : Int32)) hx hb dX3_gag_11 (by decide) ?_
  refine k_requireRange X hP hS ⟨Nat.le_of_ble_eq_true rfl, Nat.le_of_ble_eq_true rfl⟩ ⟨Nat.zero_le _, Nat.zero_le _⟩ wd137 hl.1 (Nat.le_of_ble_eq_true rfl) dX3_gag_13 x3 (0 : Int32) (99 : Int32) hwf hpl (fun H locs hP hS => ?_)
  refine lv_iload hx hb dX3_gag_16 (lv_at hl 4 rfl) ?_
  refine lv_iconst (v := (1 : Int32)) hx hb dX3_gag_18 (by decide) ?_
  refine lv_bipush (v := (30 : Int32)) hx hb dX3_gag_19 (by decide) ?_
  refine k_requireRange X hP hS ⟨Nat.le_of_ble_eq_true rfl, Nat.le_of_ble_eq_true rfl⟩ ⟨Nat.zero_le _, Nat.zero_le _⟩ wd137 hl.1 (Nat.le_of_ble_eq_true rfl) dX3_gag_21 x4 (1 : Int32) (30 : Int32) hwf hlv (fun H locs hP hS => ?_)
  refine lv_aload_n hx hb dX3_gag_24 rfl (lv_at hl 0 rfl) ?_
  refine q_getM (v := .int (σ.1 0 5)) X hP 5 (by decide) (hts _ wd18) rfl dX3_gag_25 ?_
  refine lv_bipush (v := (6 : Int32)) hx hb dX3_gag_28 (by decide) ?_
  refine lv_icmp_lt (tgt := 43) hx hb dX3_gag_30 (by decide) (fun c_30 => ?_) (fun c_30 => ?_)
  · refine lv_aload_n hx hb dX3_gag_43 rfl (lv_at hl 0 rfl) ?_
    refine q_getM (v := .int (σ.1 0 5)) X hP 5 (by decide) (hts _ wd18) rfl dX3_gag_44 ?_
    refine lv_istore (lv' := [(5, .int (σ.1 0 5)), (0, .ref (ad 0)), (1, .int x1), (2, .int x2), (3, .int x3), (4, .int x4)]) hx hb dX3_gag_47 hl (by decide) rfl (fun ls hl => ?_)
    refine lv_aload_n hx hb dX3_gag_49 rfl (lv_at hl 1 rfl) ?_
    refine q_getM (v := .ref (ad 3)) X hP 2 (by decide) (hts _ wd15) rfl dX3_gag_50 ?_
    refine lv_iload hx hb dX3_gag_53 (lv_at hl 0 rfl) ?_
    refine q_aldG X hP (vp_to hwf.2.2.1.1 hc) dX3_gag_55 ?_
    refine lv_iload_n hx hb dX3_gag_56 rfl (lv_at hl 2 rfl) ?_
    refine q_putG (ty := .int) X hP hS ((σ.1 0 5).toNatClampNeg) (ix_lt (vp_to hwf.2.2.1.1 hc)) 0 (by decide) (hts _ wd112) rfl (by decide +kernel) rfl rfl dX3_gag_57 (fun H locs hP hS => ?_)
    have hw_σ1 : WF (up σ (34 + (σ.1 0 5).toNatClampNeg) 0 x1) := wf_G0 hwf hk
    generalize hs_σ1 : (up σ (34 + (σ.1 0 5).toNatClampNeg) 0 x1) = σ1 at hP hw_σ1 hF
    replace hF : ((fun σ2 : St => ((fun σ3 : St => ((fun σ4 : St => ((fun σ5 : St => ((σ.1 0 5), σ5)) (up σ4 0 5 ((σ4.1 0 5) + (1 : Int32))))) (up σ3 (34 + (σ.1 0 5).toNatClampNeg) 3 x4))) (up σ2 (34 + (σ.1 0 5).toNatClampNeg) 2 x3))) (up σ1 (34 + (σ.1 0 5).toNatClampNeg) 1 x2)) = F := hF
    refine lv_aload_n hx hb dX3_gag_60 rfl (lv_at hl 1 rfl) ?_
    refine q_getM (v := .ref (ad 3)) X hP 2 (by decide) (hts _ wd15) rfl dX3_gag_61 ?_
    refine lv_iload hx hb dX3_gag_64 (lv_at hl 0 rfl) ?_
    refine q_aldG X hP (vp_to hwf.2.2.1.1 hc) dX3_gag_66 ?_
    refine lv_iload_n hx hb dX3_gag_67 rfl (lv_at hl 3 rfl) ?_
    refine q_putG (ty := .int) X hP hS ((σ.1 0 5).toNatClampNeg) (ix_lt (vp_to hwf.2.2.1.1 hc)) 1 (by decide) (hts _ wd98) rfl (by decide +kernel) rfl rfl dX3_gag_68 (fun H locs hP hS => ?_)
    have hw_σ2 : WF (up σ1 (34 + (σ.1 0 5).toNatClampNeg) 1 x2) := wf_G1 hw_σ1 (WF.p8 hwf hp)
    generalize hs_σ2 : (up σ1 (34 + (σ.1 0 5).toNatClampNeg) 1 x2) = σ2 at hP hw_σ2 hF
    replace hF : ((fun σ3 : St => ((fun σ4 : St => ((fun σ5 : St => ((σ.1 0 5), σ5)) (up σ4 0 5 ((σ4.1 0 5) + (1 : Int32))))) (up σ3 (34 + (σ.1 0 5).toNatClampNeg) 3 x4))) (up σ2 (34 + (σ.1 0 5).toNatClampNeg) 2 x3)) = F := hF
    refine lv_aload_n hx hb dX3_gag_71 rfl (lv_at hl 1 rfl) ?_
    refine q_getM (v := .ref (ad 3)) X hP 2 (by decide) (hts _ wd15) rfl dX3_gag_72 ?_
    refine lv_iload hx hb dX3_gag_75 (lv_at hl 0 rfl) ?_
    refine q_aldG X hP (vp_to hwf.2.2.1.1 hc) dX3_gag_77 ?_
    refine lv_iload_n hx hb dX3_gag_78 rfl (lv_at hl 4 rfl) ?_
    refine q_putG (ty := .int) X hP hS ((σ.1 0 5).toNatClampNeg) (ix_lt (vp_to hwf.2.2.1.1 hc)) 2 (by decide) (hts _ wd100) rfl (by decide +kernel) rfl rfl dX3_gag_79 (fun H locs hP hS => ?_)
    have hw_σ3 : WF (up σ2 (34 + (σ.1 0 5).toNatClampNeg) 2 x3) := wf_up hw_σ2 (fun h => absurd h (by omega)) (fun _ => ⟨by decide, by decide, by decide, fun h => absurd h (by decide)⟩) (fun h h2 => absurd h2 (by omega))
    generalize hs_σ3 : (up σ2 (34 + (σ.1 0 5).toNatClampNeg) 2 x3) = σ3 at hP hw_σ3 hF
    replace hF : ((fun σ4 : St => ((fun σ5 : St => ((σ.1 0 5), σ5)) (up σ4 0 5 ((σ4.1 0 5) + (1 : Int32))))) (up σ3 (34 + (σ.1 0 5).toNatClampNeg) 3 x4)) = F := hF
    refine lv_aload_n hx hb dX3_gag_82 rfl (lv_at hl 1 rfl) ?_
    refine q_getM (v := .ref (ad 3)) X hP 2 (by decide) (hts _ wd15) rfl dX3_gag_83 ?_
    refine lv_iload hx hb dX3_gag_86 (lv_at hl 0 rfl) ?_
    refine q_aldG X hP (vp_to hwf.2.2.1.1 hc) dX3_gag_88 ?_
    refine lv_iload hx hb dX3_gag_89 (lv_at hl 5 rfl) ?_
    refine q_putG (ty := .int) X hP hS ((σ.1 0 5).toNatClampNeg) (ix_lt (vp_to hwf.2.2.1.1 hc)) 3 (by decide) (hts _ wd113) rfl (by decide +kernel) rfl rfl dX3_gag_91 (fun H locs hP hS => ?_)
    have hw_σ4 : WF (up σ3 (34 + (σ.1 0 5).toNatClampNeg) 3 x4) := wf_G3 hw_σ3 (vp_to (by have q := hlv.1; rw [show (1 : Int32).toInt = 1 from rfl] at q; omega) (by have q := hlv.2; rw [show (30 : Int32).toInt = 30 from rfl] at q; omega))
    generalize hs_σ4 : (up σ3 (34 + (σ.1 0 5).toNatClampNeg) 3 x4) = σ4 at hP hw_σ4 hF
    replace hF : ((fun σ5 : St => ((σ.1 0 5), σ5)) (up σ4 0 5 ((σ4.1 0 5) + (1 : Int32)))) = F := hF
    refine lv_aload_n hx hb dX3_gag_94 rfl (lv_at hl 1 rfl) ?_
    refine lv_dup hx hb dX3_gag_95 rfl ?_
    refine q_getM (v := .int (σ4.1 0 5)) X hP 5 (by decide) (hts _ wd18) rfl dX3_gag_96 ?_
    refine lv_iconst (v := (1 : Int32)) hx hb dX3_gag_99 (by decide) ?_
    refine lv_iadd hx hb dX3_gag_100 ?_
    refine q_putM (ty := .int) X hP hS 5 (by decide) (hts _ wd18) rfl (by decide +kernel) rfl rfl dX3_gag_101 (fun H locs hP hS => ?_)
    have hw_σ5 : WF (up σ4 0 5 ((σ4.1 0 5) + (1 : Int32))) := wf_c5 hw_σ4 (by rw [← hs_σ4, up_o (by omega), ← hs_σ3, up_o (by omega), ← hs_σ2, up_o (by omega), ← hs_σ1, up_o (by omega)]) hwf.2.2.1.1 hc
    generalize hs_σ5 : (up σ4 0 5 ((σ4.1 0 5) + (1 : Int32))) = σ5 at hP hw_σ5 hF
    replace hF : ((σ.1 0 5), σ5) = F := hF
    refine lv_iload hx hb dX3_gag_104 (lv_at hl 0 rfl) ?_
    exact W.iret (v := (σ.1 0 5)) hx hb hr (fun t ht hW => ⟨⟨(σ.1 0 5), σ5, rfl, hF, wB_of ht hP⟩, hS.F ht⟩) hS.2.2 dX3_gag_106
  · exact absurd (i_lt.mpr hc) c_30
theorem k_gag {p : Program} {l : Launch} {e : Env} {R : Room} {s : State} {m : MethodId} {args : Array Value} {below : List Frame} {meth : Method} {c : Code} {H : Heap} {locs : List Loc} {cells slots : Nat} {Q : State → Prop} {cc : ByteArray} {pc : Nat} {ls : Array Slot} {rest : List Value} {D : va_G} {A : Nat → Prop} {ad : Nat → Nat} {ca : Nat → ClassId} {tw nL : Nat} {σ : St} {own : String} {index : Nat} (X : Cx p s m args c own cc nL D ad ca tw A) (hP : va_P D vwCl (wl ad ca σ) H) (hS : va_S A s.heap H locs) (hR : 2 ≤ R.frames ∧ 47 ≤ R.locals) (hcap : cells ≤ R.cells ∧ slots ≤ R.slots) (hlk : Cond.methodLink own index yX3_gag ∈ wsL_law0) (hsz : ls.size = nL) (hrs : (rest.map fun v => v.category).sum ≤ 8) (hdg : decode cc pc = .ok (.invokevirtual index, 3)) (x1 : Int32) (x2 : Int32) (x3 : Int32) (x4 : Int32) (hwf : WF σ) (hk : vp_in x1 4) (hp : inr x2 (σ.1 0 3)) (hpl : (0 : Int32).toInt ≤ x3.toInt ∧ x3.toInt ≤ (99 : Int32).toInt) (hlv : (1 : Int32).toInt ≤ x4.toInt ∧ x4.toInt ≤ (30 : Int32).toInt) (hc : (σ.1 0 5).toInt < 6)
    (kk : ∀ (H1 : Heap) (locs1 : List Loc), va_P D vwCl (wl ad ca (f_gag σ x1 x2 x3 x4).2) H1 → va_S A s.heap H1 locs1 → W p l e R s m args below meth c H1 locs1 cells slots Q (F0 m (pc + 3) ls (.int (f_gag σ x1 x2 x3 x4).1 :: rest))) : W p l e R s m args below meth c H locs cells slots Q (F0 m pc ls (.int x4 :: .int x3 :: .int x2 :: .int x1 :: .ref (ad 0) :: rest)) := by
  refine q_bi X hS (q_runV (as := [.int x1, .int x2, .int x3, .int x4]) X hP hS (q_cwV (rm := ({ frames := 1, cells := 0, slots := 0, locals := 22 } : Room)) (k := 4) X.2.2.2.2.1 hlk wd160 wd161 wd2 wd162 rfl rfl (by decide +kernel) rfl ⟨hR.1, hR.2⟩) (c_gag l D ad ca tw X.2.2.2.2.2.2.1 σ x1 x2 x3 x4 hwf hk hp hpl hlv hc) rfl hsz rfl hrs hdg hcap) (fun r u H1 locs1 h1 h2 h3 => ?_)
  have e1 := congrArg Prod.fst h1
  have e2 := congrArg Prod.snd h1
  dsimp only at e1 e2
  subst e1
  subst e2
  exact kk H1 locs1 h2 h3
set_option maxHeartbeats 4000000 in
set_option maxRecDepth 100000 in
theorem c_change (l : Launch) (D : va_G) (ad : Nat → Nat) (ca : Nat → ClassId) (tw : Nat) (hI : ∀ i j, i < 40 → j < 40 → ad i = ad j → i = j) (σ : St) (x1 : Int32) (x2 : Int32) (x3 : Int32) (x4 : Int32) (hwf : WF σ) (hg : inr x1 (σ.1 0 5)) (hp : inr x2 (σ.1 0 3)) (hpl : (0 : Int32).toInt ≤ x3.toInt ∧ x3.toInt ≤ (99 : Int32).toInt) (hlv : (1 : Int32).toInt ≤ x4.toInt ∧ x4.toInt ≤ (30 : Int32).toInt) : Met l yX3_change (wm yX3_change cX3_change 6 (some .int)) ({ frames := 3, cells := 0, slots := 0, locals := 63 } : Room) (va_Pc [.ref (ad 0), .int x1, .int x2, .int x3, .int x4] (wPre D ad ca tw σ)) (va_Qi (fun r u => (r, u) = f_change σ x1 x2 x3 x4) (wB D ad ca) (Aw ad)) 0 0 (Aw ad) := by
  generalize hF : f_change σ x1 x2 x3 x4 = F
  refine Met.ofW (cc := cX3_change) (maxL := 6) (ret := (some .int)) (by decide) rfl ?_
  intro p e s m args below meth c s₁ B hml hv
  obtain ⟨rfl, hv⟩ := hv
  have X := q_open (own := RX3) B rfl hml hI hv
  have hx := X.1
  have hb := X.2.1
  have hts := X.2.2.2.2.1
  have hr := B.returns
  have hlocks := B.notSynchronized
  have hP := hv.1
  have hS : va_S (Aw ad) s.heap s.heap [] := va_S.rf
  have hl := lv_entry ([.ref (ad 0), .int x1, .int x2, .int x3, .int x4]) (n := 6) (Nat.le_of_ble_eq_true rfl)
  rw [lg_entry_eq]
  generalize (lg_sl ([.ref (ad 0), .int x1, .int x2, .int x3, .int x4]) ++ List.replicate (6 - (lg_sl ([.ref (ad 0), .int x1, .int x2, .int x3, .int x4])).length) Slot.unset).toArray = ls at hl ⊢
  have hl : lv_has ls 6 [(0, .ref (ad 0)), (1, .int x1), (2, .int x2), (3, .int x3), (4, .int x4)] := hl
  unfold f_change at hF
  replace hF : ((fun σ1 : St => ((fun σ2 : St => ((fun σ3 : St => ((fun σ4 : St => ((f_bitCount (σ.1 (34 + x1.toNatClampNeg) 5)), σ4)) (f_becomeChanged σ3 x1))) (up σ2 (34 + x1.toNatClampNeg) 3 x4))) (up σ1 (34 + x1.toNatClampNeg) 2 x3))) (up σ (34 + x1.toNatClampNeg) 1 x2)) = F := hF
  refine lv_aload_n hx hb dX3_change_0 rfl (lv_at hl 0 rfl) ?_
  refine lv_iload_n hx hb dX3_change_1 rfl (lv_at hl 1 rfl) ?_
  refine k_requireGag X hP hS ⟨Nat.le_of_ble_eq_true rfl, Nat.le_of_ble_eq_true rfl⟩ ⟨Nat.zero_le _, Nat.zero_le _⟩ wd170 hl.1 (Nat.le_of_ble_eq_true rfl) dX3_change_2 x1 hwf hg (fun H locs hP hS => ?_)
  refine lv_aload_n hx hb dX3_change_5 rfl (lv_at hl 0 rfl) ?_
  refine lv_iload_n hx hb dX3_change_6 rfl (lv_at hl 2 rfl) ?_
  refine k_requirePerson X hP hS ⟨Nat.le_of_ble_eq_true rfl, Nat.le_of_ble_eq_true rfl⟩ ⟨Nat.zero_le _, Nat.zero_le _⟩ wd128 hl.1 (Nat.le_of_ble_eq_true rfl) dX3_change_7 x2 hwf hp (fun H locs hP hS => ?_)
  refine lv_iload_n hx hb dX3_change_10 rfl (lv_at hl 3 rfl) ?_
  refine lv_iconst (v := (0 : Int32)) hx hb dX3_change_11 (by decide) ?_
  refine lv_bipush (v := (99 : Int32)) hx hb dX3_change_12 (by decide) ?_
  refine k_requireRange X hP hS ⟨Nat.le_of_ble_eq_true rfl, Nat.le_of_ble_eq_true rfl⟩ ⟨Nat.zero_le _, Nat.zero_le _⟩ wd137 hl.1 (Nat.le_of_ble_eq_true rfl) dX3_change_14 x3 (0 : Int32) (99 : Int32) hwf hpl (fun H locs hP hS => ?_)
  refine lv_iload hx hb dX3_change_17 (lv_at hl 4 rfl) ?_
  refine lv_iconst (v := (1 : Int32)) hx hb dX3_change_19 (by decide) ?_
  refine lv_bipush (v := (30 : Int32)) hx hb dX3_change_20 (by decide) ?_
  refine k_requireRange X hP hS ⟨Nat.le_of_ble_eq_true rfl, Nat.le_of_ble_eq_true rfl⟩ ⟨Nat.zero_le _, Nat.zero_le _⟩ wd137 hl.1 (Nat.le_of_ble_eq_true rfl) dX3_change_22 x4 (1 : Int32) (30 : Int32) hwf hlv (fun H locs hP hS => ?_)
  refine lv_aload_n hx hb dX3_change_25 rfl (lv_at hl 0 rfl) ?_
  refine q_getM (v := .ref (ad 3)) X hP 2 (by decide) (hts _ wd15) rfl dX3_change_26 ?_
  refine lv_iload_n hx hb dX3_change_29 rfl (lv_at hl 1 rfl) ?_
  refine q_aldG X hP (WF.g6 hwf hg) dX3_change_30 ?_
  refine q_getG (v := .int (σ.1 (34 + x1.toNatClampNeg) 5)) X hP x1.toNatClampNeg (ix_lt (WF.g6 hwf hg)) 5 (by decide) (hts _ wd158) rfl dX3_change_31 ?_
  refine k_bitCount X hP hS ⟨Nat.le_of_ble_eq_true rfl, Nat.le_of_ble_eq_true rfl⟩ ⟨Nat.zero_le _, Nat.zero_le _⟩ wd212 hl.1 (Nat.le_of_ble_eq_true rfl) dX3_change_34 (σ.1 (34 + x1.toNatClampNeg) 5) (fun H locs hP hS => ?_)
  refine lv_istore (lv' := [(5, .int (f_bitCount (σ.1 (34 + x1.toNatClampNeg) 5))), (0, .ref (ad 0)), (1, .int x1), (2, .int x2), (3, .int x3), (4, .int x4)]) hx hb dX3_change_37 hl (by decide) rfl (fun ls hl => ?_)
  refine lv_aload_n hx hb dX3_change_39 rfl (lv_at hl 1 rfl) ?_
  refine q_getM (v := .ref (ad 3)) X hP 2 (by decide) (hts _ wd15) rfl dX3_change_40 ?_
  refine lv_iload_n hx hb dX3_change_43 rfl (lv_at hl 2 rfl) ?_
  refine q_aldG X hP (WF.g6 hwf hg) dX3_change_44 ?_
  refine lv_iload_n hx hb dX3_change_45 rfl (lv_at hl 3 rfl) ?_
  refine q_putG (ty := .int) X hP hS x1.toNatClampNeg (ix_lt (WF.g6 hwf hg)) 1 (by decide) (hts _ wd98) rfl (by decide +kernel) rfl rfl dX3_change_46 (fun H locs hP hS => ?_)
  have hw_σ1 : WF (up σ (34 + x1.toNatClampNeg) 1 x2) := wf_G1 hwf (WF.p8 hwf hp)
  generalize hs_σ1 : (up σ (34 + x1.toNatClampNeg) 1 x2) = σ1 at hP hw_σ1 hF
  replace hF : ((fun σ2 : St => ((fun σ3 : St => ((fun σ4 : St => ((f_bitCount (σ.1 (34 + x1.toNatClampNeg) 5)), σ4)) (f_becomeChanged σ3 x1))) (up σ2 (34 + x1.toNatClampNeg) 3 x4))) (up σ1 (34 + x1.toNatClampNeg) 2 x3)) = F := hF
  refine lv_aload_n hx hb dX3_change_49 rfl (lv_at hl 1 rfl) ?_
  refine q_getM (v := .ref (ad 3)) X hP 2 (by decide) (hts _ wd15) rfl dX3_change_50 ?_
  refine lv_iload_n hx hb dX3_change_53 rfl (lv_at hl 2 rfl) ?_
  refine q_aldG X hP (WF.g6 hwf hg) dX3_change_54 ?_
  refine lv_iload_n hx hb dX3_change_55 rfl (lv_at hl 4 rfl) ?_
  refine q_putG (ty := .int) X hP hS x1.toNatClampNeg (ix_lt (WF.g6 hwf hg)) 2 (by decide) (hts _ wd100) rfl (by decide +kernel) rfl rfl dX3_change_56 (fun H locs hP hS => ?_)
  have hw_σ2 : WF (up σ1 (34 + x1.toNatClampNeg) 2 x3) := wf_up hw_σ1 (fun h => absurd h (by omega)) (fun _ => ⟨by decide, by decide, by decide, fun h => absurd h (by decide)⟩) (fun h h2 => absurd h2 (by omega))
  generalize hs_σ2 : (up σ1 (34 + x1.toNatClampNeg) 2 x3) = σ2 at hP hw_σ2 hF
  replace hF : ((fun σ3 : St => ((fun σ4 : St => ((f_bitCount (σ.1 (34 + x1.toNatClampNeg) 5)), σ4)) (f_becomeChanged σ3 x1))) (up σ2 (34 + x1.toNatClampNeg) 3 x4)) = F := hF
  refine lv_aload_n hx hb dX3_change_59 rfl (lv_at hl 1 rfl) ?_
  refine q_getM (v := .ref (ad 3)) X hP 2 (by decide) (hts _ wd15) rfl dX3_change_60 ?_
  refine lv_iload_n hx hb dX3_change_63 rfl (lv_at hl 2 rfl) ?_
  refine q_aldG X hP (WF.g6 hwf hg) dX3_change_64 ?_
  refine lv_iload hx hb dX3_change_65 (lv_at hl 5 rfl) ?_
  refine q_putG (ty := .int) X hP hS x1.toNatClampNeg (ix_lt (WF.g6 hwf hg)) 3 (by decide) (hts _ wd113) rfl (by decide +kernel) rfl rfl dX3_change_67 (fun H locs hP hS => ?_)
  have hw_σ3 : WF (up σ2 (34 + x1.toNatClampNeg) 3 x4) := wf_G3 hw_σ2 (vp_to (by have q := hlv.1; rw [show (1 : Int32).toInt = 1 from rfl] at q; omega) (by have q := hlv.2; rw [show (30 : Int32).toInt = 30 from rfl] at q; omega))
  generalize hs_σ3 : (up σ2 (34 + x1.toNatClampNeg) 3 x4) = σ3 at hP hw_σ3 hF
  replace hF : ((fun σ4 : St => ((f_bitCount (σ.1 (34 + x1.toNatClampNeg) 5)), σ4)) (f_becomeChanged σ3 x1)) = F := hF
  refine lv_aload_n hx hb dX3_change_70 rfl (lv_at hl 1 rfl) ?_
  refine lv_iload_n hx hb dX3_change_71 rfl (lv_at hl 2 rfl) ?_
  refine k_becomeChanged X hP hS ⟨Nat.le_of_ble_eq_true rfl, Nat.le_of_ble_eq_true rfl⟩ ⟨Nat.zero_le _, Nat.zero_le _⟩ wd256 hl.1 (Nat.le_of_ble_eq_true rfl) dX3_change_72 x1 hw_σ3 (WF.g6 hwf hg) (fun H locs hP hS => ?_)
  have hw_σ4 : WF (f_becomeChanged σ3 x1) := wf_becomeChanged hw_σ3 (WF.g6 hwf hg)
  generalize hs_σ4 : (f_becomeChanged σ3 x1) = σ4 at hP hw_σ4 hF
  replace hF : ((f_bitCount (σ.1 (34 + x1.toNatClampNeg) 5)), σ4) = F := hF
  refine lv_iload hx hb dX3_change_75 (lv_at hl 0 rfl) ?_
  exact W.iret (v := (f_bitCount (σ.1 (34 + x1.toNatClampNeg) 5))) hx hb hr (fun t ht hW => ⟨⟨(f_bitCount (σ.1 (34 + x1.toNatClampNeg) 5)), σ4, rfl, hF, wB_of ht hP⟩, hS.F ht⟩) hS.2.2 dX3_change_77
theorem k_change {p : Program} {l : Launch} {e : Env} {R : Room} {s : State} {m : MethodId} {args : Array Value} {below : List Frame} {meth : Method} {c : Code} {H : Heap} {locs : List Loc} {cells slots : Nat} {Q : State → Prop} {cc : ByteArray} {pc : Nat} {ls : Array Slot} {rest : List Value} {D : va_G} {A : Nat → Prop} {ad : Nat → Nat} {ca : Nat → ClassId} {tw nL : Nat} {σ : St} {own : String} {index : Nat} (X : Cx p s m args c own cc nL D ad ca tw A) (hP : va_P D vwCl (wl ad ca σ) H) (hS : va_S A s.heap H locs) (hR : 4 ≤ R.frames ∧ 88 ≤ R.locals) (hcap : cells ≤ R.cells ∧ slots ≤ R.slots) (hlk : Cond.methodLink own index yX3_change ∈ wsL_law0) (hsz : ls.size = nL) (hrs : (rest.map fun v => v.category).sum ≤ 8) (hdg : decode cc pc = .ok (.invokevirtual index, 3)) (x1 : Int32) (x2 : Int32) (x3 : Int32) (x4 : Int32) (hwf : WF σ) (hg : inr x1 (σ.1 0 5)) (hp : inr x2 (σ.1 0 3)) (hpl : (0 : Int32).toInt ≤ x3.toInt ∧ x3.toInt ≤ (99 : Int32).toInt) (hlv : (1 : Int32).toInt ≤ x4.toInt ∧ x4.toInt ≤ (30 : Int32).toInt)
    (kk : ∀ (H1 : Heap) (locs1 : List Loc), va_P D vwCl (wl ad ca (f_change σ x1 x2 x3 x4).2) H1 → va_S A s.heap H1 locs1 → W p l e R s m args below meth c H1 locs1 cells slots Q (F0 m (pc + 3) ls (.int (f_change σ x1 x2 x3 x4).1 :: rest))) : W p l e R s m args below meth c H locs cells slots Q (F0 m pc ls (.int x4 :: .int x3 :: .int x2 :: .int x1 :: .ref (ad 0) :: rest)) := by
  refine q_bi X hS (q_runV (as := [.int x1, .int x2, .int x3, .int x4]) X hP hS (q_cwV (rm := ({ frames := 3, cells := 0, slots := 0, locals := 63 } : Room)) (k := 4) X.2.2.2.2.1 hlk wd367 wd368 wd2 wd369 rfl rfl (by decide +kernel) rfl ⟨hR.1, hR.2⟩) (c_change l D ad ca tw X.2.2.2.2.2.2.1 σ x1 x2 x3 x4 hwf hg hp hpl hlv) rfl hsz rfl hrs hdg hcap) (fun r u H1 locs1 h1 h2 h3 => ?_)
  have e1 := congrArg Prod.fst h1
  have e2 := congrArg Prod.snd h1
  dsimp only at e1 e2
  subst e1
  subst e2
  exact kk H1 locs1 h2 h3
