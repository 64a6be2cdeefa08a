set_option maxHeartbeats 4000000 in
set_option maxRecDepth 100000 in
theorem c_standDown (l : Launch) (D : va_G) (ad : Nat → Nat) (ca : Nat → ClassId) (tw : Nat) (hI : ∀ i j, i < 40 → j < 40 → ad i = ad j → i = j) (σ : St) (x1 : Int32) (hwf : WF σ) (hg : vp_in x1 6) : Met l yX3_standDown (wm yX3_standDown cX3_standDown 2 none) ({ frames := 0, cells := 0, slots := 0, locals := 0 } : Room) (va_Pc [.ref (ad 0), .int x1] (wPre D ad ca tw σ)) (va_Qv (fun u => u = f_standDown σ x1) (wB D ad ca) (Aw ad)) 0 0 (Aw ad) := by
  generalize hF : f_standDown σ x1 = F
  refine Met.ofW (cc := cX3_standDown) (maxL := 2) (ret := none) (by decide) rfl ?_
  intro p e s m args below meth c s₁ B hml hv
  obtain ⟨rfl, hv⟩ := hv
  have X := q_open (own := RX3) B rfl hml hI hv
  have hx := X.1
  have hb := X.2.1
  have hts := X.2.2.2.2.1
  have hr := B.returns
  have hlocks := B.notSynchronized
  have hP := hv.1
  have hS : va_S (Aw ad) s.heap s.heap [] := va_S.rf
  have hl := lv_entry ([.ref (ad 0), .int x1]) (n := 2) (Nat.le_of_ble_eq_true rfl)
  rw [lg_entry_eq]
  generalize (lg_sl ([.ref (ad 0), .int x1]) ++ List.replicate (2 - (lg_sl ([.ref (ad 0), .int x1])).length) Slot.unset).toArray = ls at hl ⊢
  have hl : lv_has ls 2 [(0, .ref (ad 0)), (1, .int x1)] := hl
  unfold f_standDown at hF
  replace hF : (if (σ.1 (34 + x1.toNatClampNeg) 8) = (0 : Int32) then σ else ((fun σ1 : St => ((fun σ2 : St => σ2) (up σ1 0 13 ((σ1.1 0 13) + (1 : Int32))))) (up σ (34 + x1.toNatClampNeg) 8 (0 : Int32)))) = F := hF
  refine lv_aload_n hx hb dX3_standDown_0 rfl (lv_at hl 0 rfl) ?_
  refine q_getM (v := .ref (ad 3)) X hP 2 (by decide) (hts _ wd15) rfl dX3_standDown_1 ?_
  refine lv_iload_n hx hb dX3_standDown_4 rfl (lv_at hl 1 rfl) ?_
  refine q_aldG X hP hg dX3_standDown_5 ?_
  refine q_getG (v := .int (σ.1 (34 + x1.toNatClampNeg) 8)) X hP x1.toNatClampNeg (ix_lt hg) 8 (by decide) (hts _ wd122) rfl dX3_standDown_6 ?_
  refine lv_if_eq (tgt := 32) hx hb dX3_standDown_9 (by decide) (fun c_9 => ?_) (fun c_9 => ?_)
  · rw [if_pos c_9] at hF
    exact W.vret hx hb hr (fun t ht hW => ⟨⟨σ, rfl, hF, wB_of ht hP⟩, hS.F ht⟩) hS.2.2 dX3_standDown_32
  · rw [if_neg c_9] at hF
    refine lv_aload_n hx hb dX3_standDown_12 rfl (lv_at hl 0 rfl) ?_
    refine q_getM (v := .ref (ad 3)) X hP 2 (by decide) (hts _ wd15) rfl dX3_standDown_13 ?_
    refine lv_iload_n hx hb dX3_standDown_16 rfl (lv_at hl 1 rfl) ?_
    refine q_aldG X hP hg dX3_standDown_17 ?_
    refine lv_iconst (v := (0 : Int32)) hx hb dX3_standDown_18 (by decide) ?_
    refine q_putG (ty := .boolean) X hP hS x1.toNatClampNeg (ix_lt hg) 8 (by decide) (hts _ wd122) rfl (by decide +kernel) rfl rfl dX3_standDown_19 (fun H locs hP hS => ?_)
    have hw_σ1 : WF (up σ (34 + x1.toNatClampNeg) 8 (0 : Int32)) := wf_up hwf (fun h => absurd h (by omega)) (fun _ => ⟨by decide, by decide, by decide, fun _ => (by first | exact Or.inl rfl | exact Or.inr rfl)⟩) (fun h h2 => absurd h2 (by omega))
    generalize hs_σ1 : (up σ (34 + x1.toNatClampNeg) 8 (0 : Int32)) = σ1 at hP hw_σ1 hF
    replace hF : ((fun σ2 : St => σ2) (up σ1 0 13 ((σ1.1 0 13) + (1 : Int32)))) = F := hF
    refine lv_aload_n hx hb dX3_standDown_22 rfl (lv_at hl 0 rfl) ?_
    refine lv_dup hx hb dX3_standDown_23 rfl ?_
    refine q_getM (v := .int (σ1.1 0 13)) X hP 13 (by decide) (hts _ wd26) rfl dX3_standDown_24 ?_
    refine lv_iconst (v := (1 : Int32)) hx hb dX3_standDown_27 (by decide) ?_
    refine lv_iadd hx hb dX3_standDown_28 ?_
    refine q_putM (ty := .int) X hP hS 13 (by decide) (hts _ wd26) rfl (by decide +kernel) rfl rfl dX3_standDown_29 (fun H locs hP hS => ?_)
    have hw_σ2 : WF (up σ1 0 13 ((σ1.1 0 13) + (1 : Int32))) := wf_up hw_σ1 (fun _ => by decide) (fun h => absurd h (by decide)) (fun h => absurd h (by decide))
    generalize hs_σ2 : (up σ1 0 13 ((σ1.1 0 13) + (1 : Int32))) = σ2 at hP hw_σ2 hF
    replace hF : σ2 = F := hF
    exact W.vret hx hb hr (fun t ht hW => ⟨⟨σ2, rfl, hF, wB_of ht hP⟩, hS.F ht⟩) hS.2.2 dX3_standDown_32
theorem k_standDown {p : Program} {l : Launch} {e : Env} {R : Room} {s : State} {m : MethodId} {args : Array Value} {below : List Frame} {meth : Method} {c : Code} {H : Heap} {locs : List Loc} {cells slots : Nat} {Q : State → Prop} {cc : ByteArray} {pc : Nat} {ls : Array Slot} {rest : List Value} {D : va_G} {A : Nat → Prop} {ad : Nat → Nat} {ca : Nat → ClassId} {tw nL : Nat} {σ : St} {own : String} {index : Nat} (X : Cx p s m args c own cc nL D ad ca tw A) (hP : va_P D vwCl (wl ad ca σ) H) (hS : va_S A s.heap H locs) (hR : 1 ≤ R.frames ∧ 21 ≤ R.locals) (hcap : cells ≤ R.cells ∧ slots ≤ R.slots) (hlk : Cond.methodLink own index yX3_standDown ∈ wsL_law0) (hsz : ls.size = nL) (hrs : (rest.map fun v => v.category).sum ≤ 8) (hdg : decode cc pc = .ok (.invokevirtual index, 3)) (x1 : Int32) (hwf : WF σ) (hg : vp_in x1 6)
    (kk : ∀ (H1 : Heap) (locs1 : List Loc), va_P D vwCl (wl ad ca (f_standDown σ x1)) H1 → va_S A s.heap H1 locs1 → W p l e R s m args below meth c H1 locs1 cells slots Q (F0 m (pc + 3) ls (rest))) : W p l e R s m args below meth c H locs cells slots Q (F0 m pc ls (.int x1 :: .ref (ad 0) :: rest)) := by
  refine q_bv X hS (q_runV (as := [.int x1]) X hP hS (q_cwV (rm := ({ frames := 0, cells := 0, slots := 0, locals := 0 } : Room)) (k := 1) X.2.2.2.2.1 hlk wd119 wd120 wd2 wd121 rfl rfl (by decide +kernel) rfl ⟨hR.1, hR.2⟩) (c_standDown l D ad ca tw X.2.2.2.2.2.2.1 σ x1 hwf hg) rfl hsz rfl hrs hdg hcap) (fun u H1 locs1 h1 h2 h3 => ?_)
  subst h1
  exact kk H1 locs1 h2 h3
set_option maxHeartbeats 4000000 in
set_option maxRecDepth 100000 in
theorem c_standDownOccupied (l : Launch) (D : va_G) (ad : Nat → Nat) (ca : Nat → ClassId) (tw : Nat) (hI : ∀ i j, i < 40 → j < 40 → ad i = ad j → i = j) (σ : St) (hwf : WF σ)  : Met l yX3_standDownOccupied (wm yX3_standDownOccupied cX3_standDownOccupied 2 none) ({ frames := 4, cells := 0, slots := 0, locals := 87 } : Room) (va_Pc [.ref (ad 0)] (wPre D ad ca tw σ)) (va_Qv (fun u => u = f_standDownOccupied σ) (wB D ad ca) (Aw ad)) 0 0 (Aw ad) := by
  generalize hF : f_standDownOccupied σ = F
  refine Met.ofW (cc := cX3_standDownOccupied) (maxL := 2) (ret := none) (by decide) rfl ?_
  intro p e s m args below meth c s₁ B hml hv
  obtain ⟨rfl, hv⟩ := hv
  have X := q_open (own := RX3) B rfl hml hI hv
  have hx := X.1
  have hb := X.2.1
  have hts := X.2.2.2.2.1
  have hr := B.returns
  have hlocks := B.notSynchronized
  have hP := hv.1
  have hS : va_S (Aw ad) s.heap s.heap [] := va_S.rf
  have hl := lv_entry ([.ref (ad 0)]) (n := 2) (Nat.le_of_ble_eq_true rfl)
  rw [lg_entry_eq]
  generalize (lg_sl ([.ref (ad 0)]) ++ List.replicate (2 - (lg_sl ([.ref (ad 0)])).length) Slot.unset).toArray = ls at hl ⊢
  have hl : lv_has ls 2 [(0, .ref (ad 0))] := hl
  unfold f_standDownOccupied at hF
  replace hF : (f_standDownOccupied_L2 128 σ (0 : Int32)) = F := hF
  refine lv_iconst (v := (0 : Int32)) hx hb dX3_standDownOccupied_0 (by decide) ?_
  refine lv_istore_n (lv' := [(1, .int (0 : Int32)), (0, .ref (ad 0))]) hx hb dX3_standDownOccupied_1 rfl hl (by decide) rfl (fun ls hl => ?_)
  have L_2 : ∀ (n_2 : Nat) (σ_2 : St) (y1_2 : Int32) (H : Heap) (locs : List Loc) (ls : Array Slot), WF σ_2 → lpI 6 y1_2 n_2 → va_P D vwCl (wl ad ca σ_2) H → va_S (Aw ad) s.heap H locs → lv_has ls 2 [(1, .int y1_2), (0, .ref (ad 0))] → f_standDownOccupied_L2 (n_2) σ_2 y1_2 = F → W p l e (headSpec (wm yX3_standDownOccupied cX3_standDownOccupied 2 none) ({ frames := 4, cells := 0, slots := 0, locals := 87 } : Room)).room s m ([.ref (ad 0)] : List Value).toArray below meth c H locs 0 0 (MQ below (va_Qv (fun u => u = F) (wB D ad ca) (Aw ad)) ([.ref (ad 0)] : List Value).toArray s 0 0 (Aw ad)) (F0 m 2 ls []) := by
    intro n_2
    induction n_2 with
    | zero => intro σ_2 y1_2 H locs ls hw_2 hi_2 _ _ _ _; exact absurd hi_2 (fun h => lp_0 h)
    | succ n_2 ih_2 =>
      intro σ_2 y1_2 H locs ls hw_2 hi_2 hP hS hl hF
      rw [f_standDownOccupied_L2] at hF
      refine lv_iload_n hx hb dX3_standDownOccupied_2 rfl (lv_at hl 0 rfl) ?_
      refine lv_aload_n hx hb dX3_standDownOccupied_3 rfl (lv_at hl 1 rfl) ?_
      refine q_getM (v := .int (σ_2.1 0 5)) X hP 5 (by decide) (hts _ wd18) rfl dX3_standDownOccupied_4 ?_
      refine lv_icmp_ge (tgt := 29) hx hb dX3_standDownOccupied_7 (by decide) (fun c_7 => ?_) (fun c_7 => ?_)
      · rw [if_pos c_7] at hF
        exact W.vret hx hb hr (fun t ht hW => ⟨⟨σ_2, rfl, hF, wB_of ht hP⟩, hS.F ht⟩) hS.2.2 dX3_standDownOccupied_29
      · have hlt_2 : y1_2.toInt < 6 := lt_nle c_7 hw_2.2.2.1.2
        rw [if_neg c_7] at hF
        refine lv_aload_n hx hb dX3_standDownOccupied_10 rfl (lv_at hl 1 rfl) ?_
        refine lv_iload_n hx hb dX3_standDownOccupied_11 rfl (lv_at hl 0 rfl) ?_
        refine k_isOccupied X hP hS ⟨Nat.le_of_ble_eq_true rfl, Nat.le_of_ble_eq_true rfl⟩ ⟨Nat.zero_le _, Nat.zero_le _⟩ wd90 hl.1 (Nat.le_of_ble_eq_true rfl) dX3_standDownOccupied_12 y1_2 hw_2 (lp_i hi_2 hlt_2) (fun H locs hP hS => ?_)
        refine lv_if_eq (tgt := 23) hx hb dX3_standDownOccupied_15 (by decide) (fun c_15 => ?_) (fun c_15 => ?_)
        · rw [if_pos c_15] at hF
          refine lv_iinc (v := (y1_2 + (1 : Int32))) (lv' := [(1, .int (y1_2 + (1 : Int32))), (0, .ref (ad 0))]) hx hb dX3_standDownOccupied_23 hl (k := 0) rfl rfl (by decide) rfl (fun ls hl => ?_)
          refine lv_goto (tgt := 2) hx hb dX3_standDownOccupied_26 (by decide) ?_
          exact ih_2 σ_2 (y1_2 + (1 : Int32)) _ _ _ hw_2 (lp_s hi_2 hlt_2) hP hS (lv_sub hl [0, 1] rfl) hF
        · rw [if_neg c_15] at hF
          refine lv_aload_n hx hb dX3_standDownOccupied_18 rfl (lv_at hl 1 rfl) ?_
          refine lv_iload_n hx hb dX3_standDownOccupied_19 rfl (lv_at hl 0 rfl) ?_
          refine k_standDown X hP hS ⟨Nat.le_of_ble_eq_true rfl, Nat.le_of_ble_eq_true rfl⟩ ⟨Nat.zero_le _, Nat.zero_le _⟩ wd118 hl.1 (Nat.le_of_ble_eq_true rfl) dX3_standDownOccupied_20 y1_2 hw_2 (lp_i hi_2 hlt_2) (fun H locs hP hS => ?_)
          have hw_σ1 : WF (f_standDown σ_2 y1_2) := wf_standDown hw_2 (lp_i hi_2 hlt_2)
          generalize hs_σ1 : (f_standDown σ_2 y1_2) = σ1 at hP hw_σ1 hF
          replace hF : (f_standDownOccupied_L2 n_2 σ1 (y1_2 + (1 : Int32))) = F := hF
          refine lv_iinc (v := (y1_2 + (1 : Int32))) (lv' := [(1, .int (y1_2 + (1 : Int32))), (0, .ref (ad 0))]) hx hb dX3_standDownOccupied_23 hl (k := 0) rfl rfl (by decide) rfl (fun ls hl => ?_)
          refine lv_goto (tgt := 2) hx hb dX3_standDownOccupied_26 (by decide) ?_
          exact ih_2 σ1 (y1_2 + (1 : Int32)) _ _ _ hw_σ1 (lp_s hi_2 hlt_2) hP hS (lv_sub hl [0, 1] rfl) hF
  exact L_2 128 σ (0 : Int32) _ _ _ hwf (lp_z (by decide)) hP hS hl hF
theorem k_standDownOccupied {p : Program} {l : Launch} {e : Env} {R : Room} {s : State} {m : MethodId} {args : Array Value} {below : List Frame} {meth : Method} {c : Code} {H : Heap} {locs : List Loc} {cells slots : Nat} {Q : State → Prop} {cc : ByteArray} {pc : Nat} {ls : Array Slot} {rest : List Value} {D : va_G} {A : Nat → Prop} {ad : Nat → Nat} {ca : Nat → ClassId} {tw nL : Nat} {σ : St} {own : String} {index : Nat} (X : Cx p s m args c own cc nL D ad ca tw A) (hP : va_P D vwCl (wl ad ca σ) H) (hS : va_S A s.heap H locs) (hR : 5 ≤ R.frames ∧ 108 ≤ R.locals) (hcap : cells ≤ R.cells ∧ slots ≤ R.slots) (hlk : Cond.methodLink own index yX3_standDownOccupied ∈ wsL_law0) (hsz : ls.size = nL) (hrs : (rest.map fun v => v.category).sum ≤ 8) (hdg : decode cc pc = .ok (.invokevirtual index, 3)) (hwf : WF σ) 
    (kk : ∀ (H1 : Heap) (locs1 : List Loc), va_P D vwCl (wl ad ca (f_standDownOccupied σ)) H1 → va_S A s.heap H1 locs1 → W p l e R s m args below meth c H1 locs1 cells slots Q (F0 m (pc + 3) ls (rest))) : W p l e R s m args below meth c H locs cells slots Q (F0 m pc ls (.ref (ad 0) :: rest)) := by
  refine q_bv X hS (q_runV (as := []) X hP hS (q_cwV (rm := ({ frames := 4, cells := 0, slots := 0, locals := 87 } : Room)) (k := 0) X.2.2.2.2.1 hlk wd87 wd88 wd2 wd89 rfl rfl (by decide +kernel) rfl ⟨hR.1, hR.2⟩) (c_standDownOccupied l D ad ca tw X.2.2.2.2.2.2.1 σ hwf ) rfl hsz rfl hrs hdg hcap) (fun u H1 locs1 h1 h2 h3 => ?_)
  subst h1
  exact kk H1 locs1 h2 h3
set_option maxHeartbeats 4000000 in
set_option maxRecDepth 100000 in
theorem c_loseSignatures (l : Launch) (D : va_G) (ad : Nat → Nat) (ca : Nat → ClassId) (tw : Nat) (hI : ∀ i j, i < 40 → j < 40 → ad i = ad j → i = j) (σ : St) (x1 : Int32) (hwf : WF σ) (hg : vp_in x1 6) : Met l yX3_loseSignatures (wm yX3_loseSignatures cX3_loseSignatures 2 none) ({ frames := 1, cells := 0, slots := 0, locals := 21 } : Room) (va_Pc [.ref (ad 0), .int x1] (wPre D ad ca tw σ)) (va_Qv (fun u => u = f_loseSignatures σ x1) (wB D ad ca) (Aw ad)) 0 0 (Aw ad) := by
  generalize hF : f_loseSignatures σ x1 = F
  refine Met.ofW (cc := cX3_loseSignatures) (maxL := 2) (ret := none) (by decide) rfl ?_
  intro p e s m args below meth c s₁ B hml hv
  obtain ⟨rfl, hv⟩ := hv
  have X := q_open (own := RX3) B rfl hml hI hv
  have hx := X.1
  have hb := X.2.1
  have hts := X.2.2.2.2.1
  have hr := B.returns
  have hlocks := B.notSynchronized
  have hP := hv.1
  have hS : va_S (Aw ad) s.heap s.heap [] := va_S.rf
  have hl := lv_entry ([.ref (ad 0), .int x1]) (n := 2) (Nat.le_of_ble_eq_true rfl)
  rw [lg_entry_eq]
  generalize (lg_sl ([.ref (ad 0), .int x1]) ++ List.replicate (2 - (lg_sl ([.ref (ad 0), .int x1])).length) Slot.unset).toArray = ls at hl ⊢
  have hl : lv_has ls 2 [(0, .ref (ad 0)), (1, .int x1)] := hl
  unfold f_loseSignatures at hF
  replace hF : ((fun σ1 : St => ((fun σ2 : St => σ2) (f_standDown σ1 x1))) (up σ (34 + x1.toNatClampNeg) 5 (0 : Int32))) = F := hF
  refine lv_aload_n hx hb dX3_loseSignatures_0 rfl (lv_at hl 0 rfl) ?_
  refine q_getM (v := .ref (ad 3)) X hP 2 (by decide) (hts _ wd15) rfl dX3_loseSignatures_1 ?_
  refine lv_iload_n hx hb dX3_loseSignatures_4 rfl (lv_at hl 1 rfl) ?_
  refine q_aldG X hP hg dX3_loseSignatures_5 ?_
  refine lv_iconst (v := (0 : Int32)) hx hb dX3_loseSignatures_6 (by decide) ?_
  refine q_putG (ty := .int) X hP hS x1.toNatClampNeg (ix_lt hg) 5 (by decide) (hts _ wd158) rfl (by decide +kernel) rfl rfl dX3_loseSignatures_7 (fun H locs hP hS => ?_)
  have hw_σ1 : WF (up σ (34 + x1.toNatClampNeg) 5 (0 : Int32)) := wf_up hwf (fun h => absurd h (by omega)) (fun _ => ⟨by decide, by decide, by decide, fun h => absurd h (by decide)⟩) (fun h h2 => absurd h2 (by omega))
  generalize hs_σ1 : (up σ (34 + x1.toNatClampNeg) 5 (0 : Int32)) = σ1 at hP hw_σ1 hF
  replace hF : ((fun σ2 : St => σ2) (f_standDown σ1 x1)) = F := hF
  refine lv_aload_n hx hb dX3_loseSignatures_10 rfl (lv_at hl 0 rfl) ?_
  refine lv_iload_n hx hb dX3_loseSignatures_11 rfl (lv_at hl 1 rfl) ?_
  refine k_standDown X hP hS ⟨Nat.le_of_ble_eq_true rfl, Nat.le_of_ble_eq_true rfl⟩ ⟨Nat.zero_le _, Nat.zero_le _⟩ wd118 hl.1 (Nat.le_of_ble_eq_true rfl) dX3_loseSignatures_12 x1 hw_σ1 hg (fun H locs hP hS => ?_)
  have hw_σ2 : WF (f_standDown σ1 x1) := wf_standDown hw_σ1 hg
  generalize hs_σ2 : (f_standDown σ1 x1) = σ2 at hP hw_σ2 hF
  replace hF : σ2 = F := hF
  exact W.vret hx hb hr (fun t ht hW => ⟨⟨σ2, rfl, hF, wB_of ht hP⟩, hS.F ht⟩) hS.2.2 dX3_loseSignatures_15
theorem k_loseSignatures {p : Program} {l : Launch} {e : Env} {R : Room} {s : State} {m : MethodId} {args : Array Value} {below : List Frame} {meth : Method} {c : Code} {H : Heap} {locs : List Loc} {cells slots : Nat} {Q : State → Prop} {cc : ByteArray} {pc : Nat} {ls : Array Slot} {rest : List Value} {D : va_G} {A : Nat → Prop} {ad : Nat → Nat} {ca : Nat → ClassId} {tw nL : Nat} {σ : St} {own : String} {index : Nat} (X : Cx p s m args c own cc nL D ad ca tw A) (hP : va_P D vwCl (wl ad ca σ) H) (hS : va_S A s.heap H locs) (hR : 2 ≤ R.frames ∧ 42 ≤ R.locals) (hcap : cells ≤ R.cells ∧ slots ≤ R.slots) (hlk : Cond.methodLink own index yX3_loseSignatures ∈ wsL_law0) (hsz : ls.size = nL) (hrs : (rest.map fun v => v.category).sum ≤ 8) (hdg : decode cc pc = .ok (.invokevirtual index, 3)) (x1 : Int32) (hwf : WF σ) (hg : vp_in x1 6)
    (kk : ∀ (H1 : Heap) (locs1 : List Loc), va_P D vwCl (wl ad ca (f_loseSignatures σ x1)) H1 → va_S A s.heap H1 locs1 → W p l e R s m args below meth c H1 locs1 cells slots Q (F0 m (pc + 3) ls (rest))) : W p l e R s m args below meth c H locs cells slots Q (F0 m pc ls (.int x1 :: .ref (ad 0) :: rest)) := by
  refine q_bv X hS (q_runV (as := [.int x1]) X hP hS (q_cwV (rm := ({ frames := 1, cells := 0, slots := 0, locals := 21 } : Room)) (k := 1) X.2.2.2.2.1 hlk wd155 wd156 wd2 wd157 rfl rfl (by decide +kernel) rfl ⟨hR.1, hR.2⟩) (c_loseSignatures l D ad ca tw X.2.2.2.2.2.2.1 σ x1 hwf hg) rfl hsz rfl hrs hdg hcap) (fun u H1 locs1 h1 h2 h3 => ?_)
  subst h1
  exact kk H1 locs1 h2 h3
set_option maxHeartbeats 4000000 in
set_option maxRecDepth 100000 in
theorem c_becomeChanged (l : Launch) (D : va_G) (ad : Nat → Nat) (ca : Nat → ClassId) (tw : Nat) (hI : ∀ i j, i < 40 → j < 40 → ad i = ad j → i = j) (σ : St) (x1 : Int32) (hwf : WF σ) (hg : vp_in x1 6) : Met l yX3_becomeChanged (wm yX3_becomeChanged cX3_becomeChanged 2 none) ({ frames := 2, cells := 0, slots := 0, locals := 42 } : Room) (va_Pc [.ref (ad 0), .int x1] (wPre D ad ca tw σ)) (va_Qv (fun u => u = f_becomeChanged σ x1) (wB D ad ca) (Aw ad)) 0 0 (Aw ad) := by
  generalize hF : f_becomeChanged σ x1 = F
  refine Met.ofW (cc := cX3_becomeChanged) (maxL := 2) (ret := none) (by decide) rfl ?_
  intro p e s m args below meth c s₁ B hml hv
  obtain ⟨rfl, hv⟩ := hv
  have X := q_open (own := RX3) B rfl hml hI hv
  have hx := X.1
  have hb := X.2.1
  have hts := X.2.2.2.2.1
  have hr := B.returns
  have hlocks := B.notSynchronized
  have hP := hv.1
  have hS : va_S (Aw ad) s.heap s.heap [] := va_S.rf
  have hl := lv_entry ([.ref (ad 0), .int x1]) (n := 2) (Nat.le_of_ble_eq_true rfl)
  rw [lg_entry_eq]
  generalize (lg_sl ([.ref (ad 0), .int x1]) ++ List.replicate (2 - (lg_sl ([.ref (ad 0), .int x1])).length) Slot.unset).toArray = ls at hl ⊢
  have hl : lv_has ls 2 [(0, .ref (ad 0)), (1, .int x1)] := hl
  unfold f_becomeChanged at hF
  replace hF : ((fun σ1 : St => ((fun σ2 : St => σ2) (up σ1 (34 + x1.toNatClampNeg) 4 (if (σ1.1 (34 + x1.toNatClampNeg) 4) < (2 : Int32) then (σ1.1 (34 + x1.toNatClampNeg) 4) else (2 : Int32))))) (f_loseSignatures σ x1)) = F := hF
  refine lv_aload_n hx hb dX3_becomeChanged_0 rfl (lv_at hl 0 rfl) ?_
  refine lv_iload_n hx hb dX3_becomeChanged_1 rfl (lv_at hl 1 rfl) ?_
  refine k_loseSignatures X hP hS ⟨Nat.le_of_ble_eq_true rfl, Nat.le_of_ble_eq_true rfl⟩ ⟨Nat.zero_le _, Nat.zero_le _⟩ wd154 hl.1 (Nat.le_of_ble_eq_true rfl) dX3_becomeChanged_2 x1 hwf hg (fun H locs hP hS => ?_)
  have hw_σ1 : WF (f_loseSignatures σ x1) := wf_loseSignatures hwf hg
  generalize hs_σ1 : (f_loseSignatures σ x1) = σ1 at hP hw_σ1 hF
  replace hF : ((fun σ2 : St => σ2) (up σ1 (34 + x1.toNatClampNeg) 4 (if (σ1.1 (34 + x1.toNatClampNeg) 4) < (2 : Int32) then (σ1.1 (34 + x1.toNatClampNeg) 4) else (2 : Int32)))) = F := hF
  refine lv_aload_n hx hb dX3_becomeChanged_5 rfl (lv_at hl 0 rfl) ?_
  refine q_getM (v := .ref (ad 3)) X hP 2 (by decide) (hts _ wd15) rfl dX3_becomeChanged_6 ?_
  refine lv_iload_n hx hb dX3_becomeChanged_9 rfl (lv_at hl 1 rfl) ?_
  refine q_aldG X hP hg dX3_becomeChanged_10 ?_
  refine lv_iconst (v := (2 : Int32)) hx hb dX3_becomeChanged_11 (by decide) ?_
  refine lv_aload_n hx hb dX3_becomeChanged_12 rfl (lv_at hl 0 rfl) ?_
  refine q_getM (v := .ref (ad 3)) X hP 2 (by decide) (hts _ wd15) rfl dX3_becomeChanged_13 ?_
  refine lv_iload_n hx hb dX3_becomeChanged_16 rfl (lv_at hl 1 rfl) ?_
  refine q_aldG X hP hg dX3_becomeChanged_17 ?_
  refine q_getG (v := .int (σ1.1 (34 + x1.toNatClampNeg) 4)) X hP x1.toNatClampNeg (ix_lt hg) 4 (by decide) (hts _ wd167) rfl dX3_becomeChanged_18 ?_
  refine va_mmin hx hb (X.2.2.1.trans hl.1.symm) X.2.2.2.1 (hts _ wd260) (hts _ wd261) (hts _ wd106) (hts _ wd262) (Nat.le_of_ble_eq_true rfl) (Nat.le_of_ble_eq_true rfl) (Nat.zero_le _) (Nat.zero_le _) dX3_becomeChanged_21 ?_
  refine q_putG (ty := .int) X hP hS x1.toNatClampNeg (ix_lt hg) 4 (by decide) (hts _ wd167) rfl (by decide +kernel) rfl rfl dX3_becomeChanged_24 (fun H locs hP hS => ?_)
  have hw_σ2 : WF (up σ1 (34 + x1.toNatClampNeg) 4 (if (σ1.1 (34 + x1.toNatClampNeg) 4) < (2 : Int32) then (σ1.1 (34 + x1.toNatClampNeg) 4) else (2 : Int32))) := wf_up hw_σ1 (fun h => absurd h (by omega)) (fun _ => ⟨by decide, by decide, by decide, fun h => absurd h (by decide)⟩) (fun h h2 => absurd h2 (by omega))
  generalize hs_σ2 : (up σ1 (34 + x1.toNatClampNeg) 4 (if (σ1.1 (34 + x1.toNatClampNeg) 4) < (2 : Int32) then (σ1.1 (34 + x1.toNatClampNeg) 4) else (2 : Int32))) = σ2 at hP hw_σ2 hF
  replace hF : σ2 = F := hF
  exact W.vret hx hb hr (fun t ht hW => ⟨⟨σ2, rfl, hF, wB_of ht hP⟩, hS.F ht⟩) hS.2.2 dX3_becomeChanged_27
theorem k_becomeChanged {p : Program} {l : Launch} {e : Env} {R : Room} {s : State} {m : MethodId} {args : Array Value} {below : List Frame} {meth : Method} {c : Code} {H : Heap} {locs : List Loc} {cells slots : Nat} {Q : State → Prop} {cc : ByteArray} {pc : Nat} {ls : Array Slot} {rest : List Value} {D : va_G} {A : Nat → Prop} {ad : Nat → Nat} {ca : Nat → ClassId} {tw nL : Nat} {σ : St} {own : String} {index : Nat} (X : Cx p s m args c own cc nL D ad ca tw A) (hP : va_P D vwCl (wl ad ca σ) H) (hS : va_S A s.heap H locs) (hR : 3 ≤ R.frames ∧ 63 ≤ R.locals) (hcap : cells ≤ R.cells ∧ slots ≤ R.slots) (hlk : Cond.methodLink own index yX3_becomeChanged ∈ wsL_law0) (hsz : ls.size = nL) (hrs : (rest.map fun v => v.category).sum ≤ 8) (hdg : decode cc pc = .ok (.invokevirtual index, 3)) (x1 : Int32) (hwf : WF σ) (hg : vp_in x1 6)
    (kk : ∀ (H1 : Heap) (locs1 : List Loc), va_P D vwCl (wl ad ca (f_becomeChanged σ x1)) H1 → va_S A s.heap H1 locs1 → W p l e R s m args below meth c H1 locs1 cells slots Q (F0 m (pc + 3) ls (rest))) : W p l e R s m args below meth c H locs cells slots Q (F0 m pc ls (.int x1 :: .ref (ad 0) :: rest)) := by
  refine q_bv X hS (q_runV (as := [.int x1]) X hP hS (q_cwV (rm := ({ frames := 2, cells := 0, slots := 0, locals := 42 } : Room)) (k := 1) X.2.2.2.2.1 hlk wd257 wd258 wd2 wd259 rfl rfl (by decide +kernel) rfl ⟨hR.1, hR.2⟩) (c_becomeChanged l D ad ca tw X.2.2.2.2.2.2.1 σ x1 hwf hg) rfl hsz rfl hrs hdg hcap) (fun u H1 locs1 h1 h2 h3 => ?_)
  subst h1
  exact kk H1 locs1 h2 h3
set_option maxHeartbeats 4000000 in
set_option maxRecDepth 100000 in
theorem c_addMiss (l : Launch) (D : va_G) (ad : Nat → Nat) (ca : Nat → ClassId) (tw : Nat) (hI : ∀ i j, i < 40 → j < 40 → ad i = ad j → i = j) (σ : St) (x1 : Int32) (hwf : WF σ) (hk : vp_in x1 4) : Met l yX3_addMiss (wm yX3_addMiss cX3_addMiss 3 none) ({ frames := 2, cells := 0, slots := 0, locals := 42 } : Room) (va_Pc [.ref (ad 0), .int x1] (wPre D ad ca tw σ)) (va_Qv (fun u => u = f_addMiss σ x1) (wB D ad ca) (Aw ad)) 0 0 (Aw ad) := by
  generalize hF : f_addMiss σ x1 = F
  refine Met.ofW (cc := cX3_addMiss) (maxL := 3) (ret := none) (by decide) rfl ?_
  intro p e s m args below meth c s₁ B hml hv
  obtain ⟨rfl, hv⟩ := hv
  have X := q_open (own := RX3) B rfl hml hI hv
  have hx := X.1
  have hb := X.2.1
  have hts := X.2.2.2.2.1
  have hr := B.returns
  have hlocks := B.notSynchronized
  have hP := hv.1
  have hS : va_S (Aw ad) s.heap s.heap [] := va_S.rf
  have hl := lv_entry ([.ref (ad 0), .int x1]) (n := 3) (Nat.le_of_ble_eq_true rfl)
  rw [lg_entry_eq]
  generalize (lg_sl ([.ref (ad 0), .int x1]) ++ List.replicate (3 - (lg_sl ([.ref (ad 0), .int x1])).length) Slot.unset).toArray = ls at hl ⊢
  have hl : lv_has ls 3 [(0, .ref (ad 0)), (1, .int x1)] := hl
  unfold f_addMiss at hF
  replace hF : ((fun σ1 : St => (if ((σ1.1 5 x1.toNatClampNeg) - (σ1.1 5 x1.toNatClampNeg) / (3 : Int32) * (3 : Int32)) = (0 : Int32) then ((fun σ2 : St => (f_addMiss_L34 x1 128 σ2 (0 : Int32))) (up σ1 4 x1.toNatClampNeg ((σ1.1 4 x1.toNatClampNeg) + (1 : Int32)))) else σ1)) (up σ 5 x1.toNatClampNeg ((σ.1 5 x1.toNatClampNeg) + (1 : Int32)))) = F := hF
  refine lv_aload_n hx hb dX3_addMiss_0 rfl (lv_at hl 0 rfl) ?_
  refine q_getM (v := .ref (ad 5)) X hP 7 (by decide) (hts _ wd20) rfl dX3_addMiss_1 ?_
  refine lv_iload_n hx hb dX3_addMiss_4 rfl (lv_at hl 1 rfl) ?_
  refine lv_dup2_11 hx hb dX3_addMiss_5 rfl rfl ?_
  refine q_iald X hP 5 (by decide) hk dX3_addMiss_6 ?_
  refine lv_iconst (v := (1 : Int32)) hx hb dX3_addMiss_7 (by decide) ?_
  refine lv_iadd hx hb dX3_addMiss_8 ?_
  refine q_iast X hP hS 5 (by decide) hk dX3_addMiss_9 (fun H locs hP hS => ?_)
  have hw_σ1 : WF (up σ 5 x1.toNatClampNeg ((σ.1 5 x1.toNatClampNeg) + (1 : Int32))) := wf_up hwf (fun h => absurd h (by decide)) (fun h => absurd h (by decide)) (fun h => absurd h (by decide))
  generalize hs_σ1 : (up σ 5 x1.toNatClampNeg ((σ.1 5 x1.toNatClampNeg) + (1 : Int32))) = σ1 at hP hw_σ1 hF
  replace hF : (if ((σ1.1 5 x1.toNatClampNeg) - (σ1.1 5 x1.toNatClampNeg) / (3 : Int32) * (3 : Int32)) = (0 : Int32) then ((fun σ2 : St => (f_addMiss_L34 x1 128 σ2 (0 : Int32))) (up σ1 4 x1.toNatClampNeg ((σ1.1 4 x1.toNatClampNeg) + (1 : Int32)))) else σ1) = F := hF
  refine lv_aload_n hx hb dX3_addMiss_10 rfl (lv_at hl 0 rfl) ?_
  refine q_getM (v := .ref (ad 5)) X hP 7 (by decide) (hts _ wd20) rfl dX3_addMiss_11 ?_
  refine lv_iload_n hx hb dX3_addMiss_14 rfl (lv_at hl 1 rfl) ?_
  refine q_iald X hP 5 (by decide) hk dX3_addMiss_15 ?_
  refine lv_iconst (v := (3 : Int32)) hx hb dX3_addMiss_16 (by decide) ?_
  refine lv_irem hx hb dX3_addMiss_17 (by decide) ?_
  refine lv_if_eq (tgt := 22) hx hb dX3_addMiss_18 (by decide) (fun c_18 => ?_) (fun c_18 => ?_)
  · rw [if_pos c_18] at hF
    refine lv_aload_n hx hb dX3_addMiss_22 rfl (lv_at hl 0 rfl) ?_
    refine q_getM (v := .ref (ad 4)) X hP 6 (by decide) (hts _ wd19) rfl dX3_addMiss_23 ?_
    refine lv_iload_n hx hb dX3_addMiss_26 rfl (lv_at hl 1 rfl) ?_
    refine lv_dup2_11 hx hb dX3_addMiss_27 rfl rfl ?_
    refine q_iald X hP 4 (by decide) hk dX3_addMiss_28 ?_
    refine lv_iconst (v := (1 : Int32)) hx hb dX3_addMiss_29 (by decide) ?_
    refine lv_iadd hx hb dX3_addMiss_30 ?_
    refine q_iast X hP hS 4 (by decide) hk dX3_addMiss_31 (fun H locs hP hS => ?_)
    have hw_σ2 : WF (up σ1 4 x1.toNatClampNeg ((σ1.1 4 x1.toNatClampNeg) + (1 : Int32))) := wf_up hw_σ1 (fun h => absurd h (by decide)) (fun h => absurd h (by decide)) (fun h => absurd h (by decide))
    generalize hs_σ2 : (up σ1 4 x1.toNatClampNeg ((σ1.1 4 x1.toNatClampNeg) + (1 : Int32))) = σ2 at hP hw_σ2 hF
    replace hF : (f_addMiss_L34 x1 128 σ2 (0 : Int32)) = F := hF
    refine lv_iconst (v := (0 : Int32)) hx hb dX3_addMiss_32 (by decide) ?_
    refine lv_istore_n (lv' := [(2, .int (0 : Int32)), (0, .ref (ad 0)), (1, .int x1)]) hx hb dX3_addMiss_33 rfl hl (by decide) rfl (fun ls hl => ?_)
    have L_34 : ∀ (n_34 : Nat) (σ_34 : St) (y2_34 : Int32) (H : Heap) (locs : List Loc) (ls : Array Slot), WF σ_34 → lpI 6 y2_34 n_34 → va_P D vwCl (wl ad ca σ_34) H → va_S (Aw ad) s.heap H locs → lv_has ls 3 [(2, .int y2_34), (0, .ref (ad 0)), (1, .int x1)] → f_addMiss_L34 x1 (n_34) σ_34 y2_34 = F → W p l e (headSpec (wm yX3_addMiss cX3_addMiss 3 none) ({ frames := 2, cells := 0, slots := 0, locals := 42 } : Room)).room s m ([.ref (ad 0), .int x1] : List Value).toArray below meth c H locs 0 0 (MQ below (va_Qv (fun u => u = F) (wB D ad ca) (Aw ad)) ([.ref (ad 0), .int x1] : List Value).toArray s 0 0 (Aw ad)) (F0 m 34 ls []) := by
      intro n_34
      induction n_34 with
      | zero => intro σ_34 y2_34 H locs ls hw_34 hi_34 _ _ _ _; exact absurd hi_34 (fun h => lp_0 h)
      | succ n_34 ih_34 =>
        intro σ_34 y2_34 H locs ls hw_34 hi_34 hP hS hl hF
        rw [f_addMiss_L34] at hF
        refine lv_iload_n hx hb dX3_addMiss_34 rfl (lv_at hl 0 rfl) ?_
        refine lv_aload_n hx hb dX3_addMiss_35 rfl (lv_at hl 1 rfl) ?_
        refine q_getM (v := .int (σ_34.1 0 5)) X hP 5 (by decide) (hts _ wd18) rfl dX3_addMiss_36 ?_
        refine lv_icmp_ge (tgt := 66) hx hb dX3_addMiss_39 (by decide) (fun c_39 => ?_) (fun c_39 => ?_)
        · rw [if_pos c_39] at hF
          exact W.vret hx hb hr (fun t ht hW => ⟨⟨σ_34, rfl, hF, wB_of ht hP⟩, hS.F ht⟩) hS.2.2 dX3_addMiss_66
        · have hlt_34 : y2_34.toInt < 6 := lt_nle c_39 hw_34.2.2.1.2
          rw [if_neg c_39] at hF
          refine lv_aload_n hx hb dX3_addMiss_42 rfl (lv_at hl 1 rfl) ?_
          refine q_getM (v := .ref (ad 3)) X hP 2 (by decide) (hts _ wd15) rfl dX3_addMiss_43 ?_
          refine lv_iload_n hx hb dX3_addMiss_46 rfl (lv_at hl 0 rfl) ?_
          refine q_aldG X hP (lp_i hi_34 hlt_34) dX3_addMiss_47 ?_
          refine q_getG (v := .int (σ_34.1 (34 + y2_34.toNatClampNeg) 0)) X hP y2_34.toNatClampNeg (ix_lt (lp_i hi_34 hlt_34)) 0 (by decide) (hts _ wd112) rfl dX3_addMiss_48 ?_
          refine lv_iload_n hx hb dX3_addMiss_51 rfl (lv_at hl 2 rfl) ?_
          refine lv_icmp_ne (tgt := 60) hx hb dX3_addMiss_52 (by decide) (fun c_52 => ?_) (fun c_52 => ?_)
          · rw [if_neg c_52] at hF
            refine lv_iinc (v := (y2_34 + (1 : Int32))) (lv' := [(2, .int (y2_34 + (1 : Int32))), (0, .ref (ad 0)), (1, .int x1)]) hx hb dX3_addMiss_60 hl (k := 0) rfl rfl (by decide) rfl (fun ls hl => ?_)
            refine lv_goto (tgt := 34) hx hb dX3_addMiss_63 (by decide) ?_
            exact ih_34 σ_34 (y2_34 + (1 : Int32)) _ _ _ hw_34 (lp_s hi_34 hlt_34) hP hS (lv_sub hl [0, 1, 2] rfl) hF
          · rw [if_pos c_52] at hF
            refine lv_aload_n hx hb dX3_addMiss_55 rfl (lv_at hl 1 rfl) ?_
            refine lv_iload_n hx hb dX3_addMiss_56 rfl (lv_at hl 0 rfl) ?_
            refine k_loseSignatures X hP hS ⟨Nat.le_of_ble_eq_true rfl, Nat.le_of_ble_eq_true rfl⟩ ⟨Nat.zero_le _, Nat.zero_le _⟩ wd154 hl.1 (Nat.le_of_ble_eq_true rfl) dX3_addMiss_57 y2_34 hw_34 (lp_i hi_34 hlt_34) (fun H locs hP hS => ?_)
            have hw_σ3 : WF (f_loseSignatures σ_34 y2_34) := wf_loseSignatures hw_34 (lp_i hi_34 hlt_34)
            generalize hs_σ3 : (f_loseSignatures σ_34 y2_34) = σ3 at hP hw_σ3 hF
            replace hF : (f_addMiss_L34 x1 n_34 σ3 (y2_34 + (1 : Int32))) = F := hF
            refine lv_iinc (v := (y2_34 + (1 : Int32))) (lv' := [(2, .int (y2_34 + (1 : Int32))), (0, .ref (ad 0)), (1, .int x1)]) hx hb dX3_addMiss_60 hl (k := 0) rfl rfl (by decide) rfl (fun ls hl => ?_)
            refine lv_goto (tgt := 34) hx hb dX3_addMiss_63 (by decide) ?_
            exact ih_34 σ3 (y2_34 + (1 : Int32)) _ _ _ hw_σ3 (lp_s hi_34 hlt_34) hP hS (lv_sub hl [0, 1, 2] rfl) hF
    exact L_34 128 σ2 (0 : Int32) _ _ _ hw_σ2 (lp_z (by decide)) hP hS hl hF
  · rw [if_neg c_18] at hF
    exact W.vret hx hb hr (fun t ht hW => ⟨⟨σ1, rfl, hF, wB_of ht hP⟩, hS.F ht⟩) hS.2.2 dX3_addMiss_21
theorem k_addMiss {p : Program} {l : Launch} {e : Env} {R : Room} {s : State} {m : MethodId} {args : Array Value} {below : List Frame} {meth : Method} {c : Code} {H : Heap} {locs : List Loc} {cells slots : Nat} {Q : State → Prop} {cc : ByteArray} {pc : Nat} {ls : Array Slot} {rest : List Value} {D : va_G} {A : Nat → Prop} {ad : Nat → Nat} {ca : Nat → ClassId} {tw nL : Nat} {σ : St} {own : String} {index : Nat} (X : Cx p s m args c own cc nL D ad ca tw A) (hP : va_P D vwCl (wl ad ca σ) H) (hS : va_S A s.heap H locs) (hR : 3 ≤ R.frames ∧ 64 ≤ R.locals) (hcap : cells ≤ R.cells ∧ slots ≤ R.slots) (hlk : Cond.methodLink own index yX3_addMiss ∈ wsL_law0) (hsz : ls.size = nL) (hrs : (rest.map fun v => v.category).sum ≤ 8) (hdg : decode cc pc = .ok (.invokevirtual index, 3)) (x1 : Int32) (hwf : WF σ) (hk : vp_in x1 4)
    (kk : ∀ (H1 : Heap) (locs1 : List Loc), va_P D vwCl (wl ad ca (f_addMiss σ x1)) H1 → va_S A s.heap H1 locs1 → W p l e R s m args below meth c H1 locs1 cells slots Q (F0 m (pc + 3) ls (rest))) : W p l e R s m args below meth c H locs cells slots Q (F0 m pc ls (.int x1 :: .ref (ad 0) :: rest)) := by
  refine q_bv X hS (q_runV (as := [.int x1]) X hP hS (q_cwV (rm := ({ frames := 2, cells := 0, slots := 0, locals := 42 } : Room)) (k := 1) X.2.2.2.2.1 hlk wd151 wd152 wd2 wd153 rfl rfl (by decide +kernel) rfl ⟨hR.1, hR.2⟩) (c_addMiss l D ad ca tw X.2.2.2.2.2.2.1 σ x1 hwf hk) rfl hsz rfl hrs hdg hcap) (fun u H1 locs1 h1 h2 h3 => ?_)
  subst h1
  exact kk H1 locs1 h2 h3
set_option maxHeartbeats 4000000 in
set_option maxRecDepth 100000 in
theorem c_tire (l : Launch) (D : va_G) (ad : Nat → Nat) (ca : Nat → ClassId) (tw : Nat) (hI : ∀ i j, i < 40 → j < 40 → ad i = ad j → i = j) (σ : St) (x0 : Nat) (x1 : Int32) (hwf : WF σ) (hw : x0 < 8) : Met l yX3_tire (wm yX3_tire cX3_tire 2 none) ({ frames := 1, cells := 0, slots := 0, locals := 21 } : Room) (va_Pc [.ref (ad (6 + x0)), .int x1] (wPre D ad ca tw σ)) (va_Qv (fun u => u = f_tire σ x0 x1) (wB D ad ca) (Aw ad)) 0 0 (Aw ad) := by
  generalize hF : f_tire σ x0 x1 = F
  refine Met.ofW (cc := cX3_tire) (maxL := 2) (ret := none) (by decide) rfl ?_
  intro p e s m args below meth c s₁ B hml hv
  obtain ⟨rfl, hv⟩ := hv
  have X := q_open (own := RX3) B rfl hml hI hv
  have hx := X.1
  have hb := X.2.1
  have hts := X.2.2.2.2.1
  have hr := B.returns
  have hlocks := B.notSynchronized
  have hP := hv.1
  have hS : va_S (Aw ad) s.heap s.heap [] := va_S.rf
  have hl := lv_entry ([.ref (ad (6 + x0)), .int x1]) (n := 2) (Nat.le_of_ble_eq_true rfl)
  rw [lg_entry_eq]
  generalize (lg_sl ([.ref (ad (6 + x0)), .int x1]) ++ List.replicate (2 - (lg_sl ([.ref (ad (6 + x0)), .int x1])).length) Slot.unset).toArray = ls at hl ⊢
  have hl : lv_has ls 2 [(0, .ref (ad (6 + x0))), (1, .int x1)] := hl
  unfold f_tire at hF
  replace hF : ((fun σ1 : St => σ1) (up σ (6 + x0) 6 (if ((σ.1 (6 + x0) 6) + x1) < (100 : Int32) then ((σ.1 (6 + x0) 6) + x1) else (100 : Int32)))) = F := hF
  refine lv_aload_n hx hb dX3_tire_0 rfl (lv_at hl 0 rfl) ?_
  refine lv_bipush (v := (100 : Int32)) hx hb dX3_tire_1 (by decide) ?_
  refine lv_aload_n hx hb dX3_tire_3 rfl (lv_at hl 0 rfl) ?_
  refine q_getP (v := .int (σ.1 (6 + x0) 6)) X hP x0 hw 6 (by decide) (hts _ wd203) rfl dX3_tire_4 ?_
  refine lv_iload_n hx hb dX3_tire_7 rfl (lv_at hl 1 rfl) ?_
  refine lv_iadd hx hb dX3_tire_8 ?_
  refine va_mmin hx hb (X.2.2.1.trans hl.1.symm) X.2.2.2.1 (hts _ wd260) (hts _ wd261) (hts _ wd106) (hts _ wd262) (Nat.le_of_ble_eq_true rfl) (Nat.le_of_ble_eq_true rfl) (Nat.zero_le _) (Nat.zero_le _) dX3_tire_9 ?_
  refine q_putP (ty := .int) X hP hS x0 hw 6 (by decide) (by decide) (hts _ wd203) rfl (by decide +kernel) rfl rfl dX3_tire_12 (fun H locs hP hS => ?_)
  have hw_σ1 : WF (up σ (6 + x0) 6 (if ((σ.1 (6 + x0) 6) + x1) < (100 : Int32) then ((σ.1 (6 + x0) 6) + x1) else (100 : Int32))) := wf_up hwf (fun h => absurd h (by omega)) (fun h => absurd h (by have q9 : x0 < 8 := hw; omega)) (fun h h2 => absurd h (by have q9 : x0 < 8 := hw; omega))
  generalize hs_σ1 : (up σ (6 + x0) 6 (if ((σ.1 (6 + x0) 6) + x1) < (100 : Int32) then ((σ.1 (6 + x0) 6) + x1) else (100 : Int32))) = σ1 at hP hw_σ1 hF
  replace hF : σ1 = F := hF
  exact W.vret hx hb hr (fun t ht hW => ⟨⟨σ1, rfl, hF, wB_of ht hP⟩, hS.F ht⟩) hS.2.2 dX3_tire_15
theorem k_tire {p : Program} {l : Launch} {e : Env} {R : Room} {s : State} {m : MethodId} {args : Array Value} {below : List Frame} {meth : Method} {c : Code} {H : Heap} {locs : List Loc} {cells slots : Nat} {Q : State → Prop} {cc : ByteArray} {pc : Nat} {ls : Array Slot} {rest : List Value} {D : va_G} {A : Nat → Prop} {ad : Nat → Nat} {ca : Nat → ClassId} {tw nL : Nat} {σ : St} {own : String} {index : Nat} (X : Cx p s m args c own cc nL D ad ca tw A) (hP : va_P D vwCl (wl ad ca σ) H) (hS : va_S A s.heap H locs) (hR : 2 ≤ R.frames ∧ 42 ≤ R.locals) (hcap : cells ≤ R.cells ∧ slots ≤ R.slots) (hlk : Cond.methodLink own index yX3_tire ∈ wsL_law0) (hsz : ls.size = nL) (hrs : (rest.map fun v => v.category).sum ≤ 8) (hdg : decode cc pc = .ok (.invokestatic index, 3)) (x0 : Nat) (x1 : Int32) (hwf : WF σ) (hw : x0 < 8)
    (kk : ∀ (H1 : Heap) (locs1 : List Loc), va_P D vwCl (wl ad ca (f_tire σ x0 x1)) H1 → va_S A s.heap H1 locs1 → W p l e R s m args below meth c H1 locs1 cells slots Q (F0 m (pc + 3) ls (rest))) : W p l e R s m args below meth c H locs cells slots Q (F0 m pc ls (.int x1 :: .ref (ad (6 + x0)) :: rest)) := by
  refine q_bv X hS (q_runS (as := [.ref (ad (6 + x0)), .int x1]) X hP hS (q_cwS (rm := ({ frames := 1, cells := 0, slots := 0, locals := 21 } : Room)) (k := 2) X.2.2.2.2.1 hlk wd293 wd2 wd294 rfl rfl (by decide +kernel) ⟨hR.1, hR.2⟩) (c_tire l D ad ca tw X.2.2.2.2.2.2.1 σ x0 x1 hwf hw) rfl hsz rfl hrs hdg hcap) (fun u H1 locs1 h1 h2 h3 => ?_)
  subst h1
  exact kk H1 locs1 h2 h3
set_option maxHeartbeats 4000000 in
set_option maxRecDepth 100000 in
theorem c_hurt (l : Launch) (D : va_G) (ad : Nat → Nat) (ca : Nat → ClassId) (tw : Nat) (hI : ∀ i j, i < 40 → j < 40 → ad i = ad j → i = j) (σ : St) (x1 : Int32) (hwf : WF σ) (hp : vp_in x1 8) : Met l yX3_hurt (wm yX3_hurt cX3_hurt 3 none) ({ frames := 1, cells := 0, slots := 0, locals := 21 } : Room) (va_Pc [.ref (ad 0), .int x1] (wPre D ad ca tw σ)) (va_Qv (fun u => u = f_hurt σ x1) (wB D ad ca) (Aw ad)) 0 0 (Aw ad) := by
  generalize hF : f_hurt σ x1 = F
  refine Met.ofW (cc := cX3_hurt) (maxL := 3) (ret := none) (by decide) rfl ?_
  intro p e s m args below meth c s₁ B hml hv
  obtain ⟨rfl, hv⟩ := hv
  have X := q_open (own := RX3) B rfl hml hI hv
  have hx := X.1
  have hb := X.2.1
  have hts := X.2.2.2.2.1
  have hr := B.returns
  have hlocks := B.notSynchronized
  have hP := hv.1
  have hS : va_S (Aw ad) s.heap s.heap [] := va_S.rf
  have hl := lv_entry ([.ref (ad 0), .int x1]) (n := 3) (Nat.le_of_ble_eq_true rfl)
  rw [lg_entry_eq]
  generalize (lg_sl ([.ref (ad 0), .int x1]) ++ List.replicate (3 - (lg_sl ([.ref (ad 0), .int x1])).length) Slot.unset).toArray = ls at hl ⊢
  have hl : lv_has ls 3 [(0, .ref (ad 0)), (1, .int x1)] := hl
  unfold f_hurt at hF
  replace hF : ((fun σ1 : St => ((fun σ2 : St => ((fun σ3 : St => (f_hurt_L35 x1 128 σ3 (0 : Int32))) (up σ2 0 11 ((σ2.1 0 11) + (1 : Int32))))) (up σ1 (6 + x1.toNatClampNeg) 4 (σ1.1 0 8)))) (up σ (6 + x1.toNatClampNeg) 3 (1 : Int32))) = F := hF
  refine lv_aload_n hx hb dX3_hurt_0 rfl (lv_at hl 0 rfl) ?_
  refine q_getM (v := .ref (ad 1)) X hP 0 (by decide) (hts _ wd11) rfl dX3_hurt_1 ?_
  refine lv_iload_n hx hb dX3_hurt_4 rfl (lv_at hl 1 rfl) ?_
  refine q_aldP X hP hp dX3_hurt_5 ?_
  refine lv_iconst (v := (1 : Int32)) hx hb dX3_hurt_6 (by decide) ?_
  refine q_putP (ty := .boolean) X hP hS x1.toNatClampNeg (ix_lt hp) 3 (by decide) (by decide) (hts _ wd211) rfl (by decide +kernel) rfl rfl dX3_hurt_7 (fun H locs hP hS => ?_)
  have hw_σ1 : WF (up σ (6 + x1.toNatClampNeg) 3 (1 : Int32)) := wf_up hwf (fun h => absurd h (by omega)) (fun h => absurd h (by have q9 : x1.toNatClampNeg < 8 := (ix_lt hp); omega)) (fun h h2 => absurd h (by have q9 : x1.toNatClampNeg < 8 := (ix_lt hp); omega))
  generalize hs_σ1 : (up σ (6 + x1.toNatClampNeg) 3 (1 : Int32)) = σ1 at hP hw_σ1 hF
  replace hF : ((fun σ2 : St => ((fun σ3 : St => (f_hurt_L35 x1 128 σ3 (0 : Int32))) (up σ2 0 11 ((σ2.1 0 11) + (1 : Int32))))) (up σ1 (6 + x1.toNatClampNeg) 4 (σ1.1 0 8))) = F := hF
  refine lv_aload_n hx hb dX3_hurt_10 rfl (lv_at hl 0 rfl) ?_
  refine q_getM (v := .ref (ad 1)) X hP 0 (by decide) (hts _ wd11) rfl dX3_hurt_11 ?_
  refine lv_iload_n hx hb dX3_hurt_14 rfl (lv_at hl 1 rfl) ?_
  refine q_aldP X hP hp dX3_hurt_15 ?_
  refine lv_aload_n hx hb dX3_hurt_16 rfl (lv_at hl 0 rfl) ?_
  refine q_getM (v := .int (σ1.1 0 8)) X hP 8 (by decide) (hts _ wd21) rfl dX3_hurt_17 ?_
  refine q_putP (ty := .int) X hP hS x1.toNatClampNeg (ix_lt hp) 4 (by decide) (by decide) (hts _ wd318) rfl (by decide +kernel) rfl rfl dX3_hurt_20 (fun H locs hP hS => ?_)
  have hw_σ2 : WF (up σ1 (6 + x1.toNatClampNeg) 4 (σ1.1 0 8)) := wf_up hw_σ1 (fun h => absurd h (by omega)) (fun h => absurd h (by have q9 : x1.toNatClampNeg < 8 := (ix_lt hp); omega)) (fun h h2 => absurd h (by have q9 : x1.toNatClampNeg < 8 := (ix_lt hp); omega))
  generalize hs_σ2 : (up σ1 (6 + x1.toNatClampNeg) 4 (σ1.1 0 8)) = σ2 at hP hw_σ2 hF
  replace hF : ((fun σ3 : St => (f_hurt_L35 x1 128 σ3 (0 : Int32))) (up σ2 0 11 ((σ2.1 0 11) + (1 : Int32)))) = F := hF
  refine lv_aload_n hx hb dX3_hurt_23 rfl (lv_at hl 0 rfl) ?_
  refine lv_dup hx hb dX3_hurt_24 rfl ?_
  refine q_getM (v := .int (σ2.1 0 11)) X hP 11 (by decide) (hts _ wd24) rfl dX3_hurt_25 ?_
  refine lv_iconst (v := (1 : Int32)) hx hb dX3_hurt_28 (by decide) ?_
  refine lv_iadd hx hb dX3_hurt_29 ?_
  refine q_putM (ty := .int) X hP hS 11 (by decide) (hts _ wd24) rfl (by decide +kernel) rfl rfl dX3_hurt_30 (fun H locs hP hS => ?_)
  have hw_σ3 : WF (up σ2 0 11 ((σ2.1 0 11) + (1 : Int32))) := wf_up hw_σ2 (fun _ => by decide) (fun h => absurd h (by decide)) (fun h => absurd h (by decide))
  generalize hs_σ3 : (up σ2 0 11 ((σ2.1 0 11) + (1 : Int32))) = σ3 at hP hw_σ3 hF
  replace hF : (f_hurt_L35 x1 128 σ3 (0 : Int32)) = F := hF
  refine lv_iconst (v := (0 : Int32)) hx hb dX3_hurt_33 (by decide) ?_
  refine lv_istore_n (lv' := [(2, .int (0 : Int32)), (0, .ref (ad 0)), (1, .int x1)]) hx hb dX3_hurt_34 rfl hl (by decide) rfl (fun ls hl => ?_)
  have L_35 : ∀ (n_35 : Nat) (σ_35 : St) (y2_35 : Int32) (H : Heap) (locs : List Loc) (ls : Array Slot), WF σ_35 → lpI 6 y2_35 n_35 → va_P D vwCl (wl ad ca σ_35) H → va_S (Aw ad) s.heap H locs → lv_has ls 3 [(2, .int y2_35), (0, .ref (ad 0)), (1, .int x1)] → f_hurt_L35 x1 (n_35) σ_35 y2_35 = F → W p l e (headSpec (wm yX3_hurt cX3_hurt 3 none) ({ frames := 1, cells := 0, slots := 0, locals := 21 } : Room)).room s m ([.ref (ad 0), .int x1] : List Value).toArray below meth c H locs 0 0 (MQ below (va_Qv (fun u => u = F) (wB D ad ca) (Aw ad)) ([.ref (ad 0), .int x1] : List Value).toArray s 0 0 (Aw ad)) (F0 m 35 ls []) := by
    intro n_35
    induction n_35 with
    | zero => intro σ_35 y2_35 H locs ls hw_35 hi_35 _ _ _ _; exact absurd hi_35 (fun h => lp_0 h)
    | succ n_35 ih_35 =>
      intro σ_35 y2_35 H locs ls hw_35 hi_35 hP hS hl hF
      rw [f_hurt_L35] at hF
      refine lv_iload_n hx hb dX3_hurt_35 rfl (lv_at hl 0 rfl) ?_
      refine lv_aload_n hx hb dX3_hurt_36 rfl (lv_at hl 1 rfl) ?_
      refine q_getM (v := .int (σ_35.1 0 5)) X hP 5 (by decide) (hts _ wd18) rfl dX3_hurt_37 ?_
      refine lv_icmp_ge (tgt := 67) hx hb dX3_hurt_40 (by decide) (fun c_40 => ?_) (fun c_40 => ?_)
      · rw [if_pos c_40] at hF
        exact W.vret hx hb hr (fun t ht hW => ⟨⟨σ_35, rfl, hF, wB_of ht hP⟩, hS.F ht⟩) hS.2.2 dX3_hurt_67
      · have hlt_35 : y2_35.toInt < 6 := lt_nle c_40 hw_35.2.2.1.2
        rw [if_neg c_40] at hF
        refine lv_aload_n hx hb dX3_hurt_43 rfl (lv_at hl 1 rfl) ?_
        refine q_getM (v := .ref (ad 3)) X hP 2 (by decide) (hts _ wd15) rfl dX3_hurt_44 ?_
        refine lv_iload_n hx hb dX3_hurt_47 rfl (lv_at hl 0 rfl) ?_
        refine q_aldG X hP (lp_i hi_35 hlt_35) dX3_hurt_48 ?_
        refine q_getG (v := .int (σ_35.1 (34 + y2_35.toNatClampNeg) 1)) X hP y2_35.toNatClampNeg (ix_lt (lp_i hi_35 hlt_35)) 1 (by decide) (hts _ wd98) rfl dX3_hurt_49 ?_
        refine lv_iload_n hx hb dX3_hurt_52 rfl (lv_at hl 2 rfl) ?_
        refine lv_icmp_ne (tgt := 61) hx hb dX3_hurt_53 (by decide) (fun c_53 => ?_) (fun c_53 => ?_)
        · rw [if_neg c_53] at hF
          refine lv_iinc (v := (y2_35 + (1 : Int32))) (lv' := [(2, .int (y2_35 + (1 : Int32))), (0, .ref (ad 0)), (1, .int x1)]) hx hb dX3_hurt_61 hl (k := 0) rfl rfl (by decide) rfl (fun ls hl => ?_)
          refine lv_goto (tgt := 35) hx hb dX3_hurt_64 (by decide) ?_
          exact ih_35 σ_35 (y2_35 + (1 : Int32)) _ _ _ hw_35 (lp_s hi_35 hlt_35) hP hS (lv_sub hl [0, 1, 2] rfl) hF
        · rw [if_pos c_53] at hF
          refine lv_aload_n hx hb dX3_hurt_56 rfl (lv_at hl 1 rfl) ?_
          refine lv_iload_n hx hb dX3_hurt_57 rfl (lv_at hl 0 rfl) ?_
          refine k_standDown X hP hS ⟨Nat.le_of_ble_eq_true rfl, Nat.le_of_ble_eq_true rfl⟩ ⟨Nat.zero_le _, Nat.zero_le _⟩ wd118 hl.1 (Nat.le_of_ble_eq_true rfl) dX3_hurt_58 y2_35 hw_35 (lp_i hi_35 hlt_35) (fun H locs hP hS => ?_)
          have hw_σ4 : WF (f_standDown σ_35 y2_35) := wf_standDown hw_35 (lp_i hi_35 hlt_35)
          generalize hs_σ4 : (f_standDown σ_35 y2_35) = σ4 at hP hw_σ4 hF
          replace hF : (f_hurt_L35 x1 n_35 σ4 (y2_35 + (1 : Int32))) = F := hF
          refine lv_iinc (v := (y2_35 + (1 : Int32))) (lv' := [(2, .int (y2_35 + (1 : Int32))), (0, .ref (ad 0)), (1, .int x1)]) hx hb dX3_hurt_61 hl (k := 0) rfl rfl (by decide) rfl (fun ls hl => ?_)
          refine lv_goto (tgt := 35) hx hb dX3_hurt_64 (by decide) ?_
          exact ih_35 σ4 (y2_35 + (1 : Int32)) _ _ _ hw_σ4 (lp_s hi_35 hlt_35) hP hS (lv_sub hl [0, 1, 2] rfl) hF
  exact L_35 128 σ3 (0 : Int32) _ _ _ hw_σ3 (lp_z (by decide)) hP hS hl hF
theorem k_hurt {p : Program} {l : Launch} {e : Env} {R : Room} {s : State} {m : MethodId} {args : Array Value} {below : List Frame} {meth : Method} {c : Code} {H : Heap} {locs : List Loc} {cells slots : Nat} {Q : State → Prop} {cc : ByteArray} {pc : Nat} {ls : Array Slot} {rest : List Value} {D : va_G} {A : Nat → Prop} {ad : Nat → Nat} {ca : Nat → ClassId} {tw nL : Nat} {σ : St} {own : String} {index : Nat} (X : Cx p s m args c own cc nL D ad ca tw A) (hP : va_P D vwCl (wl ad ca σ) H) (hS : va_S A s.heap H locs) (hR : 2 ≤ R.frames ∧ 43 ≤ R.locals) (hcap : cells ≤ R.cells ∧ slots ≤ R.slots) (hlk : Cond.methodLink own index yX3_hurt ∈ wsL_law0) (hsz : ls.size = nL) (hrs : (rest.map fun v => v.category).sum ≤ 8) (hdg : decode cc pc = .ok (.invokevirtual index, 3)) (x1 : Int32) (hwf : WF σ) (hp : vp_in x1 8)
    (kk : ∀ (H1 : Heap) (locs1 : List Loc), va_P D vwCl (wl ad ca (f_hurt σ x1)) H1 → va_S A s.heap H1 locs1 → W p l e R s m args below meth c H1 locs1 cells slots Q (F0 m (pc + 3) ls (rest))) : W p l e R s m args below meth c H locs cells slots Q (F0 m pc ls (.int x1 :: .ref (ad 0) :: rest)) := by
  refine q_bv X hS (q_runV (as := [.int x1]) X hP hS (q_cwV (rm := ({ frames := 1, cells := 0, slots := 0, locals := 21 } : Room)) (k := 1) X.2.2.2.2.1 hlk wd315 wd316 wd2 wd317 rfl rfl (by decide +kernel) rfl ⟨hR.1, hR.2⟩) (c_hurt l D ad ca tw X.2.2.2.2.2.2.1 σ x1 hwf hp) rfl hsz rfl hrs hdg hcap) (fun u H1 locs1 h1 h2 h3 => ?_)
  subst h1
  exact kk H1 locs1 h2 h3
set_option maxHeartbeats 4000000 in
set_option maxRecDepth 100000 in
theorem c_useKitOf (l : Launch) (D : va_G) (ad : Nat → Nat) (ca : Nat → ClassId) (tw : Nat) (hI : ∀ i j, i < 40 → j < 40 → ad i = ad j → i = j) (σ : St) (x1 : Int32) (hwf : WF σ) (hg : vp_in x1 6) : Met l yX3_useKitOf (wm yX3_useKitOf cX3_useKitOf 3 none) ({ frames := 2, cells := 0, slots := 0, locals := 44 } : Room) (va_Pc [.ref (ad 0), .int x1] (wPre D ad ca tw σ)) (va_Qv (fun u => u = f_useKitOf σ x1) (wB D ad ca) (Aw ad)) 0 0 (Aw ad) := by
  generalize hF : f_useKitOf σ x1 = F
  refine Met.ofW (cc := cX3_useKitOf) (maxL := 3) (ret := none) (by decide) rfl ?_
  intro p e s m args below meth c s₁ B hml hv
  obtain ⟨rfl, hv⟩ := hv
  have X := q_open (own := RX3) B rfl hml hI hv
  have hx := X.1
  have hb := X.2.1
  have hts := X.2.2.2.2.1
  have hr := B.returns
  have hlocks := B.notSynchronized
  have hP := hv.1
  have hS : va_S (Aw ad) s.heap s.heap [] := va_S.rf
  have hl := lv_entry ([.ref (ad 0), .int x1]) (n := 3) (Nat.le_of_ble_eq_true rfl)
  rw [lg_entry_eq]
  generalize (lg_sl ([.ref (ad 0), .int x1]) ++ List.replicate (3 - (lg_sl ([.ref (ad 0), .int x1])).length) Slot.unset).toArray = ls at hl ⊢
  have hl : lv_has ls 3 [(0, .ref (ad 0)), (1, .int x1)] := hl
  unfold f_useKitOf at hF
  replace hF : (f_useKitOf_L2 x1 128 σ (0 : Int32)) = F := hF
  refine lv_iconst (v := (0 : Int32)) hx hb dX3_useKitOf_0 (by decide) ?_
  refine lv_istore_n (lv' := [(2, .int (0 : Int32)), (0, .ref (ad 0)), (1, .int x1)]) hx hb dX3_useKitOf_1 rfl hl (by decide) rfl (fun ls hl => ?_)
  have L_2 : ∀ (n_2 : Nat) (σ_2 : St) (y2_2 : Int32) (H : Heap) (locs : List Loc) (ls : Array Slot), WF σ_2 → lpI 12 y2_2 n_2 → va_P D vwCl (wl ad ca σ_2) H → va_S (Aw ad) s.heap H locs → lv_has ls 3 [(2, .int y2_2), (0, .ref (ad 0)), (1, .int x1)] → f_useKitOf_L2 x1 (n_2) σ_2 y2_2 = F → W p l e (headSpec (wm yX3_useKitOf cX3_useKitOf 3 none) ({ frames := 2, cells := 0, slots := 0, locals := 44 } : Room)).room s m ([.ref (ad 0), .int x1] : List Value).toArray below meth c H locs 0 0 (MQ below (va_Qv (fun u => u = F) (wB D ad ca) (Aw ad)) ([.ref (ad 0), .int x1] : List Value).toArray s 0 0 (Aw ad)) (F0 m 2 ls []) := by
    intro n_2
    induction n_2 with
    | zero => intro σ_2 y2_2 H locs ls hw_2 hi_2 _ _ _ _; exact absurd hi_2 (fun h => lp_0 h)
    | succ n_2 ih_2 =>
      intro σ_2 y2_2 H locs ls hw_2 hi_2 hP hS hl hF
      rw [f_useKitOf_L2] at hF
      refine lv_iload_n hx hb dX3_useKitOf_2 rfl (lv_at hl 0 rfl) ?_
      refine lv_aload_n hx hb dX3_useKitOf_3 rfl (lv_at hl 1 rfl) ?_
      refine q_getM (v := .int (σ_2.1 0 4)) X hP 4 (by decide) (hts _ wd17) rfl dX3_useKitOf_4 ?_
      refine lv_icmp_ge (tgt := 40) hx hb dX3_useKitOf_7 (by decide) (fun c_7 => ?_) (fun c_7 => ?_)
      · rw [if_pos c_7] at hF
        exact W.vret hx hb hr (fun t ht hW => ⟨⟨σ_2, rfl, hF, wB_of ht hP⟩, hS.F ht⟩) hS.2.2 dX3_useKitOf_40
      · have hlt_2 : y2_2.toInt < 12 := lt_nle c_7 hw_2.2.1.2
        rw [if_neg c_7] at hF
        refine lv_aload_n hx hb dX3_useKitOf_10 rfl (lv_at hl 1 rfl) ?_
        refine lv_iload_n hx hb dX3_useKitOf_11 rfl (lv_at hl 0 rfl) ?_
        refine lv_iload_n hx hb dX3_useKitOf_12 rfl (lv_at hl 2 rfl) ?_
        refine k_guards X hP hS ⟨Nat.le_of_ble_eq_true rfl, Nat.le_of_ble_eq_true rfl⟩ ⟨Nat.zero_le _, Nat.zero_le _⟩ wd183 hl.1 (Nat.le_of_ble_eq_true rfl) dX3_useKitOf_13 y2_2 x1 hw_2 (lp_i hi_2 hlt_2) hg (fun H locs hP hS => ?_)
        refine lv_if_eq (tgt := 34) hx hb dX3_useKitOf_16 (by decide) (fun c_16 => ?_) (fun c_16 => ?_)
        · rw [if_pos c_16] at hF
          refine lv_iinc (v := (y2_2 + (1 : Int32))) (lv' := [(2, .int (y2_2 + (1 : Int32))), (0, .ref (ad 0)), (1, .int x1)]) hx hb dX3_useKitOf_34 hl (k := 0) rfl rfl (by decide) rfl (fun ls hl => ?_)
          refine lv_goto (tgt := 2) hx hb dX3_useKitOf_37 (by decide) ?_
          exact ih_2 σ_2 (y2_2 + (1 : Int32)) _ _ _ hw_2 (lp_s hi_2 hlt_2) hP hS (lv_sub hl [0, 1, 2] rfl) hF
        · rw [if_neg c_16] at hF
          refine lv_aload_n hx hb dX3_useKitOf_19 rfl (lv_at hl 1 rfl) ?_
          refine q_getM (v := .ref (ad 2)) X hP 1 (by decide) (hts _ wd13) rfl dX3_useKitOf_20 ?_
          refine lv_iload_n hx hb dX3_useKitOf_23 rfl (lv_at hl 0 rfl) ?_
          refine q_aldK X hP (lp_i hi_2 hlt_2) dX3_useKitOf_24 ?_
          refine lv_dup hx hb dX3_useKitOf_25 rfl ?_
          refine q_getK (v := .int (σ_2.1 (22 + y2_2.toNatClampNeg) 2)) X hP y2_2.toNatClampNeg (ix_lt (lp_i hi_2 hlt_2)) 2 (by decide) (hts _ wd193) rfl dX3_useKitOf_26 ?_
          refine lv_iconst (v := (1 : Int32)) hx hb dX3_useKitOf_29 (by decide) ?_
          refine lv_isub hx hb dX3_useKitOf_30 ?_
          refine q_putK (ty := .int) X hP hS y2_2.toNatClampNeg (ix_lt (lp_i hi_2 hlt_2)) 2 (by decide) (hts _ wd193) rfl (by decide +kernel) rfl rfl dX3_useKitOf_31 (fun H locs hP hS => ?_)
          have hw_σ1 : WF (up σ_2 (22 + y2_2.toNatClampNeg) 2 ((σ_2.1 (22 + y2_2.toNatClampNeg) 2) - (1 : Int32))) := wf_up hw_2 (fun h => absurd h (by omega)) (fun h => absurd h (by have q9 : y2_2.toNatClampNeg < 12 := (ix_lt (lp_i hi_2 hlt_2)); omega)) (fun h h2 => by decide)
          generalize hs_σ1 : (up σ_2 (22 + y2_2.toNatClampNeg) 2 ((σ_2.1 (22 + y2_2.toNatClampNeg) 2) - (1 : Int32))) = σ1 at hP hw_σ1 hF
          replace hF : (f_useKitOf_L2 x1 n_2 σ1 (y2_2 + (1 : Int32))) = F := hF
          refine lv_iinc (v := (y2_2 + (1 : Int32))) (lv' := [(2, .int (y2_2 + (1 : Int32))), (0, .ref (ad 0)), (1, .int x1)]) hx hb dX3_useKitOf_34 hl (k := 0) rfl rfl (by decide) rfl (fun ls hl => ?_)
          refine lv_goto (tgt := 2) hx hb dX3_useKitOf_37 (by decide) ?_
          exact ih_2 σ1 (y2_2 + (1 : Int32)) _ _ _ hw_σ1 (lp_s hi_2 hlt_2) hP hS (lv_sub hl [0, 1, 2] rfl) hF
  exact L_2 128 σ (0 : Int32) _ _ _ hwf (lp_z (by decide)) hP hS hl hF
theorem k_useKitOf {p : Program} {l : Launch} {e : Env} {R : Room} {s : State} {m : MethodId} {args : Array Value} {below : List Frame} {meth : Method} {c : Code} {H : Heap} {locs : List Loc} {cells slots : Nat} {Q : State → Prop} {cc : ByteArray} {pc : Nat} {ls : Array Slot} {rest : List Value} {D : va_G} {A : Nat → Prop} {ad : Nat → Nat} {ca : Nat → ClassId} {tw nL : Nat} {σ : St} {own : String} {index : Nat} (X : Cx p s m args c own cc nL D ad ca tw A) (hP : va_P D vwCl (wl ad ca σ) H) (hS : va_S A s.heap H locs) (hR : 3 ≤ R.frames ∧ 66 ≤ R.locals) (hcap : cells ≤ R.cells ∧ slots ≤ R.slots) (hlk : Cond.methodLink own index yX3_useKitOf ∈ wsL_law0) (hsz : ls.size = nL) (hrs : (rest.map fun v => v.category).sum ≤ 8) (hdg : decode cc pc = .ok (.invokevirtual index, 3)) (x1 : Int32) (hwf : WF σ) (hg : vp_in x1 6)
    (kk : ∀ (H1 : Heap) (locs1 : List Loc), va_P D vwCl (wl ad ca (f_useKitOf σ x1)) H1 → va_S A s.heap H1 locs1 → W p l e R s m args below meth c H1 locs1 cells slots Q (F0 m (pc + 3) ls (rest))) : W p l e R s m args below meth c H locs cells slots Q (F0 m pc ls (.int x1 :: .ref (ad 0) :: rest)) := by
  refine q_bv X hS (q_runV (as := [.int x1]) X hP hS (q_cwV (rm := ({ frames := 2, cells := 0, slots := 0, locals := 44 } : Room)) (k := 1) X.2.2.2.2.1 hlk wd320 wd321 wd2 wd322 rfl rfl (by decide +kernel) rfl ⟨hR.1, hR.2⟩) (c_useKitOf l D ad ca tw X.2.2.2.2.2.2.1 σ x1 hwf hg) rfl hsz rfl hrs hdg hcap) (fun u H1 locs1 h1 h2 h3 => ?_)
  subst h1
  exact kk H1 locs1 h2 h3
set_option maxHeartbeats 4000000 in
set_option maxRecDepth 100000 in
theorem c_payFor (l : Launch) (D : va_G) (ad : Nat → Nat) (ca : Nat → ClassId) (tw : Nat) (hI : ∀ i j, i < 40 → j < 40 → ad i = ad j → i = j) (σ : St) (x1 : Int32) (hwf : WF σ) (hg : vp_in x1 6) : Met l yX3_payFor (wm yX3_payFor cX3_payFor 5 none) ({ frames := 3, cells := 0, slots := 0, locals := 64 } : Room) (va_Pc [.ref (ad 0), .int x1] (wPre D ad ca tw σ)) (va_Qv (fun u => u = f_payFor σ x1) (wB D ad ca) (Aw ad)) 0 0 (Aw ad) := by
  generalize hF : f_payFor σ x1 = F
  refine Met.ofW (cc := cX3_payFor) (maxL := 5) (ret := none) (by decide) rfl ?_
  intro p e s m args below meth c s₁ B hml hv
  obtain ⟨rfl, hv⟩ := hv
  have X := q_open (own := RX3) B rfl hml hI hv
  have hx := X.1
  have hb := X.2.1
  have hts := X.2.2.2.2.1
  have hr := B.returns
  have hlocks := B.notSynchronized
  have hP := hv.1
  have hS : va_S (Aw ad) s.heap s.heap [] := va_S.rf
  have hl := lv_entry ([.ref (ad 0), .int x1]) (n := 5) (Nat.le_of_ble_eq_true rfl)
  rw [lg_entry_eq]
  generalize (lg_sl ([.ref (ad 0), .int x1]) ++ List.replicate (5 - (lg_sl ([.ref (ad 0), .int x1])).length) Slot.unset).toArray = ls at hl ⊢
  have hl : lv_has ls 5 [(0, .ref (ad 0)), (1, .int x1)] := hl
  unfold f_payFor at hF
  replace hF : ((fun σ1 : St => ((fun σ2 : St => ((fun σ3 : St => (f_payFor_L55 x1 128 σ3 (0 : Int32))) (up σ2 (6 + (σ.1 (34 + x1.toNatClampNeg) 1).toNatClampNeg) 8 ((σ2.1 (6 + (σ.1 (34 + x1.toNatClampNeg) 1).toNatClampNeg) 8) + (1 : Int32))))) (up σ1 (6 + (σ.1 (34 + x1.toNatClampNeg) 1).toNatClampNeg) 7 ((σ1.1 (6 + (σ.1 (34 + x1.toNatClampNeg) 1).toNatClampNeg) 7) + ((50 : Int32) + (f_energyOf σ x1)))))) (f_tire σ ((σ.1 (34 + x1.toNatClampNeg) 1).toNatClampNeg) ((f_energyOf σ x1) / (10 : Int32)))) = F := hF
  refine lv_aload_n hx hb dX3_payFor_0 rfl (lv_at hl 0 rfl) ?_
  refine lv_iload_n hx hb dX3_payFor_1 rfl (lv_at hl 1 rfl) ?_
  refine k_energyOf X hP hS ⟨Nat.le_of_ble_eq_true rfl, Nat.le_of_ble_eq_true rfl⟩ ⟨Nat.zero_le _, Nat.zero_le _⟩ wd174 hl.1 (Nat.le_of_ble_eq_true rfl) dX3_payFor_2 x1 hwf hg (fun H locs hP hS => ?_)
  refine lv_istore_n (lv' := [(2, .int (f_energyOf σ x1)), (0, .ref (ad 0)), (1, .int x1)]) hx hb dX3_payFor_5 rfl hl (by decide) rfl (fun ls hl => ?_)
  refine lv_aload_n hx hb dX3_payFor_6 rfl (lv_at hl 1 rfl) ?_
  refine q_getM (v := .ref (ad 1)) X hP 0 (by decide) (hts _ wd11) rfl dX3_payFor_7 ?_
  refine lv_aload_n hx hb dX3_payFor_10 rfl (lv_at hl 1 rfl) ?_
  refine q_getM (v := .ref (ad 3)) X hP 2 (by decide) (hts _ wd15) rfl dX3_payFor_11 ?_
  refine lv_iload_n hx hb dX3_payFor_14 rfl (lv_at hl 2 rfl) ?_
  refine q_aldG X hP hg dX3_payFor_15 ?_
  refine q_getG (v := .int (σ.1 (34 + x1.toNatClampNeg) 1)) X hP x1.toNatClampNeg (ix_lt hg) 1 (by decide) (hts _ wd98) rfl dX3_payFor_16 ?_
  refine q_aldP X hP (WF.gp hwf hg) dX3_payFor_19 ?_
  refine lv_astore_n (lv' := [(3, .ref (ad (6 + (σ.1 (34 + x1.toNatClampNeg) 1).toNatClampNeg))), (2, .int (f_energyOf σ x1)), (0, .ref (ad 0)), (1, .int x1)]) hx hb dX3_payFor_20 rfl hl (by decide) rfl (fun ls hl => ?_)
  refine lv_aload_n hx hb dX3_payFor_21 rfl (lv_at hl 0 rfl) ?_
  refine lv_iload_n hx hb dX3_payFor_22 rfl (lv_at hl 1 rfl) ?_
  refine lv_bipush (v := (10 : Int32)) hx hb dX3_payFor_23 (by decide) ?_
  refine lv_idiv hx hb dX3_payFor_25 (by decide) ?_
  refine k_tire X hP hS ⟨Nat.le_of_ble_eq_true rfl, Nat.le_of_ble_eq_true rfl⟩ ⟨Nat.zero_le _, Nat.zero_le _⟩ wd292 hl.1 (Nat.le_of_ble_eq_true rfl) dX3_payFor_26 ((σ.1 (34 + x1.toNatClampNeg) 1).toNatClampNeg) ((f_energyOf σ x1) / (10 : Int32)) hwf (ix_lt (WF.gp hwf hg)) (fun H locs hP hS => ?_)
  have hw_σ1 : WF (f_tire σ ((σ.1 (34 + x1.toNatClampNeg) 1).toNatClampNeg) ((f_energyOf σ x1) / (10 : Int32))) := wf_tire hwf (ix_lt (WF.gp hwf hg))
  generalize hs_σ1 : (f_tire σ ((σ.1 (34 + x1.toNatClampNeg) 1).toNatClampNeg) ((f_energyOf σ x1) / (10 : Int32))) = σ1 at hP hw_σ1 hF
  replace hF : ((fun σ2 : St => ((fun σ3 : St => (f_payFor_L55 x1 128 σ3 (0 : Int32))) (up σ2 (6 + (σ.1 (34 + x1.toNatClampNeg) 1).toNatClampNeg) 8 ((σ2.1 (6 + (σ.1 (34 + x1.toNatClampNeg) 1).toNatClampNeg) 8) + (1 : Int32))))) (up σ1 (6 + (σ.1 (34 + x1.toNatClampNeg) 1).toNatClampNeg) 7 ((σ1.1 (6 + (σ.1 (34 + x1.toNatClampNeg) 1).toNatClampNeg) 7) + ((50 : Int32) + (f_energyOf σ x1))))) = F := hF
  refine lv_aload_n hx hb dX3_payFor_29 rfl (lv_at hl 0 rfl) ?_
  refine lv_dup hx hb dX3_payFor_30 rfl ?_
  refine q_getP (v := .int (σ1.1 (6 + (σ.1 (34 + x1.toNatClampNeg) 1).toNatClampNeg) 7)) X hP ((σ.1 (34 + x1.toNatClampNeg) 1).toNatClampNeg) (ix_lt (WF.gp hwf hg)) 7 (by decide) (hts _ wd278) rfl dX3_payFor_31 ?_
  refine lv_bipush (v := (50 : Int32)) hx hb dX3_payFor_34 (by decide) ?_
  refine lv_iload_n hx hb dX3_payFor_36 rfl (lv_at hl 1 rfl) ?_
  refine lv_iadd hx hb dX3_payFor_37 ?_
  refine lv_iadd hx hb dX3_payFor_38 ?_
  refine q_putP (ty := .int) X hP hS ((σ.1 (34 + x1.toNatClampNeg) 1).toNatClampNeg) (ix_lt (WF.gp hwf hg)) 7 (by decide) (by decide) (hts _ wd278) rfl (by decide +kernel) rfl rfl dX3_payFor_39 (fun H locs hP hS => ?_)
  have hw_σ2 : WF (up σ1 (6 + (σ.1 (34 + x1.toNatClampNeg) 1).toNatClampNeg) 7 ((σ1.1 (6 + (σ.1 (34 + x1.toNatClampNeg) 1).toNatClampNeg) 7) + ((50 : Int32) + (f_energyOf σ x1)))) := wf_up hw_σ1 (fun h => absurd h (by omega)) (fun h => absurd h (by have q9 : (σ.1 (34 + x1.toNatClampNeg) 1).toNatClampNeg < 8 := (ix_lt (WF.gp hwf hg)); omega)) (fun h h2 => absurd h (by have q9 : (σ.1 (34 + x1.toNatClampNeg) 1).toNatClampNeg < 8 := (ix_lt (WF.gp hwf hg)); omega))
  generalize hs_σ2 : (up σ1 (6 + (σ.1 (34 + x1.toNatClampNeg) 1).toNatClampNeg) 7 ((σ1.1 (6 + (σ.1 (34 + x1.toNatClampNeg) 1).toNatClampNeg) 7) + ((50 : Int32) + (f_energyOf σ x1)))) = σ2 at hP hw_σ2 hF
  replace hF : ((fun σ3 : St => (f_payFor_L55 x1 128 σ3 (0 : Int32))) (up σ2 (6 + (σ.1 (34 + x1.toNatClampNeg) 1).toNatClampNeg) 8 ((σ2.1 (6 + (σ.1 (34 + x1.toNatClampNeg) 1).toNatClampNeg) 8) + (1 : Int32)))) = F := hF
  refine lv_aload_n hx hb dX3_payFor_42 rfl (lv_at hl 0 rfl) ?_
  refine lv_dup hx hb dX3_payFor_43 rfl ?_
  refine q_getP (v := .int (σ2.1 (6 + (σ.1 (34 + x1.toNatClampNeg) 1).toNatClampNeg) 8)) X hP ((σ.1 (34 + x1.toNatClampNeg) 1).toNatClampNeg) (ix_lt (WF.gp hwf hg)) 8 (by decide) (hts _ wd279) rfl dX3_payFor_44 ?_
  refine lv_iconst (v := (1 : Int32)) hx hb dX3_payFor_47 (by decide) ?_
  refine lv_iadd hx hb dX3_payFor_48 ?_
  refine q_putP (ty := .int) X hP hS ((σ.1 (34 + x1.toNatClampNeg) 1).toNatClampNeg) (ix_lt (WF.gp hwf hg)) 8 (by decide) (by decide) (hts _ wd279) rfl (by decide +kernel) rfl rfl dX3_payFor_49 (fun H locs hP hS => ?_)
  have hw_σ3 : WF (up σ2 (6 + (σ.1 (34 + x1.toNatClampNeg) 1).toNatClampNeg) 8 ((σ2.1 (6 + (σ.1 (34 + x1.toNatClampNeg) 1).toNatClampNeg) 8) + (1 : Int32))) := wf_up hw_σ2 (fun h => absurd h (by omega)) (fun h => absurd h (by have q9 : (σ.1 (34 + x1.toNatClampNeg) 1).toNatClampNeg < 8 := (ix_lt (WF.gp hwf hg)); omega)) (fun h h2 => absurd h (by have q9 : (σ.1 (34 + x1.toNatClampNeg) 1).toNatClampNeg < 8 := (ix_lt (WF.gp hwf hg)); omega))
  generalize hs_σ3 : (up σ2 (6 + (σ.1 (34 + x1.toNatClampNeg) 1).toNatClampNeg) 8 ((σ2.1 (6 + (σ.1 (34 + x1.toNatClampNeg) 1).toNatClampNeg) 8) + (1 : Int32))) = σ3 at hP hw_σ3 hF
  replace hF : (f_payFor_L55 x1 128 σ3 (0 : Int32)) = F := hF
  refine lv_iconst (v := (0 : Int32)) hx hb dX3_payFor_52 (by decide) ?_
  refine lv_istore (lv' := [(4, .int (0 : Int32)), (3, .ref (ad (6 + (σ.1 (34 + x1.toNatClampNeg) 1).toNatClampNeg))), (2, .int (f_energyOf σ x1)), (0, .ref (ad 0)), (1, .int x1)]) hx hb dX3_payFor_53 hl (by decide) rfl (fun ls hl => ?_)
  have L_55 : ∀ (n_55 : Nat) (σ_55 : St) (y4_55 : Int32) (H : Heap) (locs : List Loc) (ls : Array Slot), WF σ_55 → lpI 8 y4_55 n_55 → va_P D vwCl (wl ad ca σ_55) H → va_S (Aw ad) s.heap H locs → lv_has ls 5 [(4, .int y4_55), (3, .ref (ad (6 + (σ.1 (34 + x1.toNatClampNeg) 1).toNatClampNeg))), (2, .int (f_energyOf σ x1)), (0, .ref (ad 0)), (1, .int x1)] → f_payFor_L55 x1 (n_55) σ_55 y4_55 = F → W p l e (headSpec (wm yX3_payFor cX3_payFor 5 none) ({ frames := 3, cells := 0, slots := 0, locals := 64 } : Room)).room s m ([.ref (ad 0), .int x1] : List Value).toArray below meth c H locs 0 0 (MQ below (va_Qv (fun u => u = F) (wB D ad ca) (Aw ad)) ([.ref (ad 0), .int x1] : List Value).toArray s 0 0 (Aw ad)) (F0 m 55 ls []) := by
    intro n_55
    induction n_55 with
    | zero => intro σ_55 y4_55 H locs ls hw_55 hi_55 _ _ _ _; exact absurd hi_55 (fun h => lp_0 h)
    | succ n_55 ih_55 =>
      intro σ_55 y4_55 H locs ls hw_55 hi_55 hP hS hl hF
      rw [f_payFor_L55] at hF
      refine lv_iload hx hb dX3_payFor_55 (lv_at hl 0 rfl) ?_
      refine lv_aload_n hx hb dX3_payFor_57 rfl (lv_at hl 3 rfl) ?_
      refine q_getM (v := .int (σ_55.1 0 3)) X hP 3 (by decide) (hts _ wd16) rfl dX3_payFor_58 ?_
      refine lv_icmp_ge (tgt := 97) hx hb dX3_payFor_61 (by decide) (fun c_61 => ?_) (fun c_61 => ?_)
      · rw [if_pos c_61] at hF
        exact W.vret hx hb hr (fun t ht hW => ⟨⟨σ_55, rfl, hF, wB_of ht hP⟩, hS.F ht⟩) hS.2.2 dX3_payFor_97
      · have hlt_55 : y4_55.toInt < 8 := lt_nle c_61 hw_55.1.2
        rw [if_neg c_61] at hF
        refine lv_aload_n hx hb dX3_payFor_64 rfl (lv_at hl 3 rfl) ?_
        refine lv_iload hx hb dX3_payFor_65 (lv_at hl 0 rfl) ?_
        refine lv_iload_n hx hb dX3_payFor_67 rfl (lv_at hl 4 rfl) ?_
        refine k_isReadyMedic X hP hS ⟨Nat.le_of_ble_eq_true rfl, Nat.le_of_ble_eq_true rfl⟩ ⟨Nat.zero_le _, Nat.zero_le _⟩ wd236 hl.1 (Nat.le_of_ble_eq_true rfl) dX3_payFor_68 y4_55 x1 hw_55 (lp_i hi_55 hlt_55) hg (fun H locs hP hS => ?_)
        refine lv_if_eq (tgt := 91) hx hb dX3_payFor_71 (by decide) (fun c_71 => ?_) (fun c_71 => ?_)
        · rw [if_pos c_71] at hF
          refine lv_iinc (v := (y4_55 + (1 : Int32))) (lv' := [(4, .int (y4_55 + (1 : Int32))), (3, .ref (ad (6 + (σ.1 (34 + x1.toNatClampNeg) 1).toNatClampNeg))), (2, .int (f_energyOf σ x1)), (0, .ref (ad 0)), (1, .int x1)]) hx hb dX3_payFor_91 hl (k := 0) rfl rfl (by decide) rfl (fun ls hl => ?_)
          refine lv_goto (tgt := 55) hx hb dX3_payFor_94 (by decide) ?_
          exact ih_55 σ_55 (y4_55 + (1 : Int32)) _ _ _ hw_55 (lp_s hi_55 hlt_55) hP hS (lv_sub hl [0, 1, 2, 3, 4] rfl) hF
        · rw [if_neg c_71] at hF
          refine lv_aload_n hx hb dX3_payFor_74 rfl (lv_at hl 3 rfl) ?_
          refine q_getM (v := .ref (ad 1)) X hP 0 (by decide) (hts _ wd11) rfl dX3_payFor_75 ?_
          refine lv_iload hx hb dX3_payFor_78 (lv_at hl 0 rfl) ?_
          refine q_aldP X hP (lp_i hi_55 hlt_55) dX3_payFor_80 ?_
          refine lv_dup hx hb dX3_payFor_81 rfl ?_
          refine q_getP (v := .int (σ_55.1 (6 + y4_55.toNatClampNeg) 7)) X hP y4_55.toNatClampNeg (ix_lt (lp_i hi_55 hlt_55)) 7 (by decide) (hts _ wd278) rfl dX3_payFor_82 ?_
          refine lv_bipush (v := (20 : Int32)) hx hb dX3_payFor_85 (by decide) ?_
          refine lv_iadd hx hb dX3_payFor_87 ?_
          refine q_putP (ty := .int) X hP hS y4_55.toNatClampNeg (ix_lt (lp_i hi_55 hlt_55)) 7 (by decide) (by decide) (hts _ wd278) rfl (by decide +kernel) rfl rfl dX3_payFor_88 (fun H locs hP hS => ?_)
          have hw_σ4 : WF (up σ_55 (6 + y4_55.toNatClampNeg) 7 ((σ_55.1 (6 + y4_55.toNatClampNeg) 7) + (20 : Int32))) := wf_up hw_55 (fun h => absurd h (by omega)) (fun h => absurd h (by have q9 : y4_55.toNatClampNeg < 8 := (ix_lt (lp_i hi_55 hlt_55)); omega)) (fun h h2 => absurd h (by have q9 : y4_55.toNatClampNeg < 8 := (ix_lt (lp_i hi_55 hlt_55)); omega))
          generalize hs_σ4 : (up σ_55 (6 + y4_55.toNatClampNeg) 7 ((σ_55.1 (6 + y4_55.toNatClampNeg) 7) + (20 : Int32))) = σ4 at hP hw_σ4 hF
          replace hF : (f_payFor_L55 x1 n_55 σ4 (y4_55 + (1 : Int32))) = F := hF
          refine lv_iinc (v := (y4_55 + (1 : Int32))) (lv' := [(4, .int (y4_55 + (1 : Int32))), (3, .ref (ad (6 + (σ.1 (34 + x1.toNatClampNeg) 1).toNatClampNeg))), (2, .int (f_energyOf σ x1)), (0, .ref (ad 0)), (1, .int x1)]) hx hb dX3_payFor_91 hl (k := 0) rfl rfl (by decide) rfl (fun ls hl => ?_)
          refine lv_goto (tgt := 55) hx hb dX3_payFor_94 (by decide) ?_
          exact ih_55 σ4 (y4_55 + (1 : Int32)) _ _ _ hw_σ4 (lp_s hi_55 hlt_55) hP hS (lv_sub hl [0, 1, 2, 3, 4] rfl) hF
  exact L_55 128 σ3 (0 : Int32) _ _ _ hw_σ3 (lp_z (by decide)) hP hS hl hF
theorem k_payFor {p : Program} {l : Launch} {e : Env} {R : Room} {s : State} {m : MethodId} {args : Array Value} {below : List Frame} {meth : Method} {c : Code} {H : Heap} {locs : List Loc} {cells slots : Nat} {Q : State → Prop} {cc : ByteArray} {pc : Nat} {ls : Array Slot} {rest : List Value} {D : va_G} {A : Nat → Prop} {ad : Nat → Nat} {ca : Nat → ClassId} {tw nL : Nat} {σ : St} {own : String} {index : Nat} (X : Cx p s m args c own cc nL D ad ca tw A) (hP : va_P D vwCl (wl ad ca σ) H) (hS : va_S A s.heap H locs) (hR : 4 ≤ R.frames ∧ 88 ≤ R.locals) (hcap : cells ≤ R.cells ∧ slots ≤ R.slots) (hlk : Cond.methodLink own index yX3_payFor ∈ wsL_law0) (hsz : ls.size = nL) (hrs : (rest.map fun v => v.category).sum ≤ 8) (hdg : decode cc pc = .ok (.invokevirtual index, 3)) (x1 : Int32) (hwf : WF σ) (hg : vp_in x1 6)
    (kk : ∀ (H1 : Heap) (locs1 : List Loc), va_P D vwCl (wl ad ca (f_payFor σ x1)) H1 → va_S A s.heap H1 locs1 → W p l e R s m args below meth c H1 locs1 cells slots Q (F0 m (pc + 3) ls (rest))) : W p l e R s m args below meth c H locs cells slots Q (F0 m pc ls (.int x1 :: .ref (ad 0) :: rest)) := by
  refine q_bv X hS (q_runV (as := [.int x1]) X hP hS (q_cwV (rm := ({ frames := 3, cells := 0, slots := 0, locals := 64 } : Room)) (k := 1) X.2.2.2.2.1 hlk wd324 wd325 wd2 wd326 rfl rfl (by decide +kernel) rfl ⟨hR.1, hR.2⟩) (c_payFor l D ad ca tw X.2.2.2.2.2.2.1 σ x1 hwf hg) rfl hsz rfl hrs hdg hcap) (fun u H1 locs1 h1 h2 h3 => ?_)
  subst h1
  exact kk H1 locs1 h2 h3
set_option maxHeartbeats 4000000 in
set_option maxRecDepth 100000 in
theorem c_passOneDay (l : Launch) (D : va_G) (ad : Nat → Nat) (ca : Nat → ClassId) (tw : Nat) (hI : ∀ i j, i < 40 → j < 40 → ad i = ad j → i = j) (σ : St) (hwf : WF σ)  : Met l yX3_passOneDay (wm yX3_passOneDay cX3_passOneDay 3 none) ({ frames := 1, cells := 0, slots := 0, locals := 21 } : Room) (va_Pc [.ref (ad 0)] (wPre D ad ca tw σ)) (va_Qv (fun u => u = f_passOneDay σ) (wB D ad ca) (Aw ad)) 0 0 (Aw ad) := by
  generalize hF : f_passOneDay σ = F
  refine Met.ofW (cc := cX3_passOneDay) (maxL := 3) (ret := none) (by decide) rfl ?_
  intro p e s m args below meth c s₁ B hml hv
  obtain ⟨rfl, hv⟩ := hv
  have X := q_open (own := RX3) B rfl hml hI hv
  have hx := X.1
  have hb := X.2.1
  have hts := X.2.2.2.2.1
  have hr := B.returns
  have hlocks := B.notSynchronized
  have hP := hv.1
  have hS : va_S (Aw ad) s.heap s.heap [] := va_S.rf
  have hl := lv_entry ([.ref (ad 0)]) (n := 3) (Nat.le_of_ble_eq_true rfl)
  rw [lg_entry_eq]
  generalize (lg_sl ([.ref (ad 0)]) ++ List.replicate (3 - (lg_sl ([.ref (ad 0)])).length) Slot.unset).toArray = ls at hl ⊢
  have hl : lv_has ls 3 [(0, .ref (ad 0))] := hl
  unfold f_passOneDay at hF
  replace hF : ((fun σ1 : St => (f_passOneDay_L12 128 σ1 (0 : Int32))) (up σ 0 8 ((σ.1 0 8) + (1 : Int32)))) = F := hF
  refine lv_aload_n hx hb dX3_passOneDay_0 rfl (lv_at hl 0 rfl) ?_
  refine lv_dup hx hb dX3_passOneDay_1 rfl ?_
  refine q_getM (v := .int (σ.1 0 8)) X hP 8 (by decide) (hts _ wd21) rfl dX3_passOneDay_2 ?_
  refine lv_iconst (v := (1 : Int32)) hx hb dX3_passOneDay_5 (by decide) ?_
  refine lv_iadd hx hb dX3_passOneDay_6 ?_
  refine q_putM (ty := .int) X hP hS 8 (by decide) (hts _ wd21) rfl (by decide +kernel) rfl rfl dX3_passOneDay_7 (fun H locs hP hS => ?_)
  have hw_σ1 : WF (up σ 0 8 ((σ.1 0 8) + (1 : Int32))) := wf_up hwf (fun _ => by decide) (fun h => absurd h (by decide)) (fun h => absurd h (by decide))
  generalize hs_σ1 : (up σ 0 8 ((σ.1 0 8) + (1 : Int32))) = σ1 at hP hw_σ1 hF
  replace hF : (f_passOneDay_L12 128 σ1 (0 : Int32)) = F := hF
  refine lv_iconst (v := (0 : Int32)) hx hb dX3_passOneDay_10 (by decide) ?_
  refine lv_istore_n (lv' := [(1, .int (0 : Int32)), (0, .ref (ad 0))]) hx hb dX3_passOneDay_11 rfl hl (by decide) rfl (fun ls hl => ?_)
  have L_12 : ∀ (n_12 : Nat) (σ_12 : St) (y1_12 : Int32) (H : Heap) (locs : List Loc) (ls : Array Slot), WF σ_12 → lpI 8 y1_12 n_12 → va_P D vwCl (wl ad ca σ_12) H → va_S (Aw ad) s.heap H locs → lv_has ls 3 [(1, .int y1_12), (0, .ref (ad 0))] → f_passOneDay_L12 (n_12) σ_12 y1_12 = F → W p l e (headSpec (wm yX3_passOneDay cX3_passOneDay 3 none) ({ frames := 1, cells := 0, slots := 0, locals := 21 } : Room)).room s m ([.ref (ad 0)] : List Value).toArray below meth c H locs 0 0 (MQ below (va_Qv (fun u => u = F) (wB D ad ca) (Aw ad)) ([.ref (ad 0)] : List Value).toArray s 0 0 (Aw ad)) (F0 m 12 ls []) := by
    intro n_12
    induction n_12 with
    | zero => intro σ_12 y1_12 H locs ls hw_12 hi_12 _ _ _ _; exact absurd hi_12 (fun h => lp_0 h)
    | succ n_12 ih_12 =>
      intro σ_12 y1_12 H locs ls hw_12 hi_12 hP hS hl hF
      rw [f_passOneDay_L12] at hF
      refine lv_iload_n hx hb dX3_passOneDay_12 rfl (lv_at hl 0 rfl) ?_
      refine lv_aload_n hx hb dX3_passOneDay_13 rfl (lv_at hl 1 rfl) ?_
      refine q_getM (v := .int (σ_12.1 0 3)) X hP 3 (by decide) (hts _ wd16) rfl dX3_passOneDay_14 ?_
      refine lv_icmp_ge (tgt := 73) hx hb dX3_passOneDay_17 (by decide) (fun c_17 => ?_) (fun c_17 => ?_)
      · rw [if_pos c_17] at hF
        refine lv_iconst (v := (0 : Int32)) hx hb dX3_passOneDay_73 (by decide) ?_
        refine lv_istore_n (lv' := [(1, .int (0 : Int32)), (0, .ref (ad 0))]) hx hb dX3_passOneDay_74 rfl hl (by decide) rfl (fun ls hl => ?_)
        have L_75 : ∀ (n_75 : Nat) (σ_75 : St) (y1_75 : Int32) (H : Heap) (locs : List Loc) (ls : Array Slot), WF σ_75 → lpI 4 y1_75 n_75 → va_P D vwCl (wl ad ca σ_75) H → va_S (Aw ad) s.heap H locs → lv_has ls 3 [(1, .int y1_75), (0, .ref (ad 0))] → f_passOneDay_L75 (n_75) σ_75 y1_75 = F → W p l e (headSpec (wm yX3_passOneDay cX3_passOneDay 3 none) ({ frames := 1, cells := 0, slots := 0, locals := 21 } : Room)).room s m ([.ref (ad 0)] : List Value).toArray below meth c H locs 0 0 (MQ below (va_Qv (fun u => u = F) (wB D ad ca) (Aw ad)) ([.ref (ad 0)] : List Value).toArray s 0 0 (Aw ad)) (F0 m 75 ls []) := by
          intro n_75
          induction n_75 with
          | zero => intro σ_75 y1_75 H locs ls hw_75 hi_75 _ _ _ _; exact absurd hi_75 (fun h => lp_0 h)
          | succ n_75 ih_75 =>
            intro σ_75 y1_75 H locs ls hw_75 hi_75 hP hS hl hF
            rw [f_passOneDay_L75] at hF
            refine lv_iload_n hx hb dX3_passOneDay_75 rfl (lv_at hl 0 rfl) ?_
            refine lv_iconst (v := (4 : Int32)) hx hb dX3_passOneDay_76 (by decide) ?_
            refine lv_icmp_ge (tgt := 104) hx hb dX3_passOneDay_77 (by decide) (fun c_77 => ?_) (fun c_77 => ?_)
            · rw [if_pos c_77] at hF
              exact W.vret hx hb hr (fun t ht hW => ⟨⟨σ_75, rfl, hF, wB_of ht hP⟩, hS.F ht⟩) hS.2.2 dX3_passOneDay_104
            · have hlt_75 : y1_75.toInt < 4 := lt_nle c_77 (by decide)
              rw [if_neg c_77] at hF
              refine lv_aload_n hx hb dX3_passOneDay_80 rfl (lv_at hl 1 rfl) ?_
              refine q_getM (v := .ref (ad 4)) X hP 6 (by decide) (hts _ wd19) rfl dX3_passOneDay_81 ?_
              refine lv_iload_n hx hb dX3_passOneDay_84 rfl (lv_at hl 0 rfl) ?_
              refine lv_iconst (v := (0 : Int32)) hx hb dX3_passOneDay_85 (by decide) ?_
              refine lv_aload_n hx hb dX3_passOneDay_86 rfl (lv_at hl 1 rfl) ?_
              refine q_getM (v := .ref (ad 4)) X hP 6 (by decide) (hts _ wd19) rfl dX3_passOneDay_87 ?_
              refine lv_iload_n hx hb dX3_passOneDay_90 rfl (lv_at hl 0 rfl) ?_
              refine q_iald X hP 4 (by decide) (lp_i hi_75 hlt_75) dX3_passOneDay_91 ?_
              refine lv_iconst (v := (1 : Int32)) hx hb dX3_passOneDay_92 (by decide) ?_
              refine lv_isub hx hb dX3_passOneDay_93 ?_
              refine va_mmax hx hb (X.2.2.1.trans hl.1.symm) X.2.2.2.1 (hts _ wd363) (hts _ wd364) (hts _ wd106) (hts _ wd365) (Nat.le_of_ble_eq_true rfl) (Nat.le_of_ble_eq_true rfl) (Nat.zero_le _) (Nat.zero_le _) dX3_passOneDay_94 ?_
              refine q_iast X hP hS 4 (by decide) (lp_i hi_75 hlt_75) dX3_passOneDay_97 (fun H locs hP hS => ?_)
              have hw_σ2 : WF (up σ_75 4 y1_75.toNatClampNeg (if (0 : Int32) < ((σ_75.1 4 y1_75.toNatClampNeg) - (1 : Int32)) then ((σ_75.1 4 y1_75.toNatClampNeg) - (1 : Int32)) else (0 : Int32))) := wf_up hw_75 (fun h => absurd h (by decide)) (fun h => absurd h (by decide)) (fun h => absurd h (by decide))
              generalize hs_σ2 : (up σ_75 4 y1_75.toNatClampNeg (if (0 : Int32) < ((σ_75.1 4 y1_75.toNatClampNeg) - (1 : Int32)) then ((σ_75.1 4 y1_75.toNatClampNeg) - (1 : Int32)) else (0 : Int32))) = σ2 at hP hw_σ2 hF
              replace hF : (f_passOneDay_L75 n_75 σ2 (y1_75 + (1 : Int32))) = F := hF
              refine lv_iinc (v := (y1_75 + (1 : Int32))) (lv' := [(1, .int (y1_75 + (1 : Int32))), (0, .ref (ad 0))]) hx hb dX3_passOneDay_98 hl (k := 0) rfl rfl (by decide) rfl (fun ls hl => ?_)
              refine lv_goto (tgt := 75) hx hb dX3_passOneDay_101 (by decide) ?_
              exact ih_75 σ2 (y1_75 + (1 : Int32)) _ _ _ hw_σ2 (lp_s hi_75 hlt_75) hP hS (lv_sub hl [0, 1] rfl) hF
        exact L_75 128 σ_12 (0 : Int32) _ _ _ hw_12 (lp_z (by decide)) hP hS hl hF
      · have hlt_12 : y1_12.toInt < 8 := lt_nle c_17 hw_12.1.2
        rw [if_neg c_17] at hF
        refine lv_aload_n hx hb dX3_passOneDay_20 rfl (lv_at hl 1 rfl) ?_
        refine q_getM (v := .ref (ad 1)) X hP 0 (by decide) (hts _ wd11) rfl dX3_passOneDay_21 ?_
        refine lv_iload_n hx hb dX3_passOneDay_24 rfl (lv_at hl 0 rfl) ?_
        refine q_aldP X hP (lp_i hi_12 hlt_12) dX3_passOneDay_25 ?_
        refine lv_astore_n (lv' := [(2, .ref (ad (6 + y1_12.toNatClampNeg))), (1, .int y1_12), (0, .ref (ad 0))]) hx hb dX3_passOneDay_26 rfl hl (by decide) rfl (fun ls hl => ?_)
        refine lv_aload_n hx hb dX3_passOneDay_27 rfl (lv_at hl 0 rfl) ?_
        refine lv_iconst (v := (0 : Int32)) hx hb dX3_passOneDay_28 (by decide) ?_
        refine lv_aload_n hx hb dX3_passOneDay_29 rfl (lv_at hl 0 rfl) ?_
        refine q_getP (v := .int (σ_12.1 (6 + y1_12.toNatClampNeg) 6)) X hP y1_12.toNatClampNeg (ix_lt (lp_i hi_12 hlt_12)) 6 (by decide) (hts _ wd203) rfl dX3_passOneDay_30 ?_
        refine lv_bipush (v := (30 : Int32)) hx hb dX3_passOneDay_33 (by decide) ?_
        refine lv_isub hx hb dX3_passOneDay_35 ?_
        refine va_mmax hx hb (X.2.2.1.trans hl.1.symm) X.2.2.2.1 (hts _ wd363) (hts _ wd364) (hts _ wd106) (hts _ wd365) (Nat.le_of_ble_eq_true rfl) (Nat.le_of_ble_eq_true rfl) (Nat.zero_le _) (Nat.zero_le _) dX3_passOneDay_36 ?_
        refine q_putP (ty := .int) X hP hS y1_12.toNatClampNeg (ix_lt (lp_i hi_12 hlt_12)) 6 (by decide) (by decide) (hts _ wd203) rfl (by decide +kernel) rfl rfl dX3_passOneDay_39 (fun H locs hP hS => ?_)
        have hw_σ3 : WF (up σ_12 (6 + y1_12.toNatClampNeg) 6 (if (0 : Int32) < ((σ_12.1 (6 + y1_12.toNatClampNeg) 6) - (30 : Int32)) then ((σ_12.1 (6 + y1_12.toNatClampNeg) 6) - (30 : Int32)) else (0 : Int32))) := wf_up hw_12 (fun h => absurd h (by omega)) (fun h => absurd h (by have q9 : y1_12.toNatClampNeg < 8 := (ix_lt (lp_i hi_12 hlt_12)); omega)) (fun h h2 => absurd h (by have q9 : y1_12.toNatClampNeg < 8 := (ix_lt (lp_i hi_12 hlt_12)); omega))
        generalize hs_σ3 : (up σ_12 (6 + y1_12.toNatClampNeg) 6 (if (0 : Int32) < ((σ_12.1 (6 + y1_12.toNatClampNeg) 6) - (30 : Int32)) then ((σ_12.1 (6 + y1_12.toNatClampNeg) 6) - (30 : Int32)) else (0 : Int32))) = σ3 at hP hw_σ3 hF
        replace hF : (if (σ3.1 (6 + y1_12.toNatClampNeg) 3) = (0 : Int32) then (f_passOneDay_L12 n_12 σ3 (y1_12 + (1 : Int32))) else (if ((σ3.1 0 8) - (σ3.1 (6 + y1_12.toNatClampNeg) 4)) < (5 : Int32) then (f_passOneDay_L12 n_12 σ3 (y1_12 + (1 : Int32))) else ((fun σ4 : St => (f_passOneDay_L12 n_12 σ4 (y1_12 + (1 : Int32)))) (up σ3 (6 + y1_12.toNatClampNeg) 3 (0 : Int32))))) = F := hF
        refine lv_aload_n hx hb dX3_passOneDay_42 rfl (lv_at hl 0 rfl) ?_
        refine q_getP (v := .int (σ3.1 (6 + y1_12.toNatClampNeg) 3)) X hP y1_12.toNatClampNeg (ix_lt (lp_i hi_12 hlt_12)) 3 (by decide) (hts _ wd211) rfl dX3_passOneDay_43 ?_
        refine lv_if_eq (tgt := 67) hx hb dX3_passOneDay_46 (by decide) (fun c_46 => ?_) (fun c_46 => ?_)
        · rw [if_pos c_46] at hF
          refine lv_iinc (v := (y1_12 + (1 : Int32))) (lv' := [(1, .int (y1_12 + (1 : Int32))), (2, .ref (ad (6 + y1_12.toNatClampNeg))), (0, .ref (ad 0))]) hx hb dX3_passOneDay_67 hl (k := 1) rfl rfl (by decide) rfl (fun ls hl => ?_)
          refine lv_goto (tgt := 12) hx hb dX3_passOneDay_70 (by decide) ?_
          exact ih_12 σ3 (y1_12 + (1 : Int32)) _ _ _ hw_σ3 (lp_s hi_12 hlt_12) hP hS (lv_sub hl [0, 2] rfl) hF
        · rw [if_neg c_46] at hF
          refine lv_aload_n hx hb dX3_passOneDay_49 rfl (lv_at hl 2 rfl) ?_
          refine q_getM (v := .int (σ3.1 0 8)) X hP 8 (by decide) (hts _ wd21) rfl dX3_passOneDay_50 ?_
          refine lv_aload_n hx hb dX3_passOneDay_53 rfl (lv_at hl 0 rfl) ?_
          refine q_getP (v := .int (σ3.1 (6 + y1_12.toNatClampNeg) 4)) X hP y1_12.toNatClampNeg (ix_lt (lp_i hi_12 hlt_12)) 4 (by decide) (hts _ wd318) rfl dX3_passOneDay_54 ?_
          refine lv_isub hx hb dX3_passOneDay_57 ?_
          refine lv_iconst (v := (5 : Int32)) hx hb dX3_passOneDay_58 (by decide) ?_
          refine lv_icmp_lt (tgt := 67) hx hb dX3_passOneDay_59 (by decide) (fun c_59 => ?_) (fun c_59 => ?_)
          · rw [if_pos c_59] at hF
            refine lv_iinc (v := (y1_12 + (1 : Int32))) (lv' := [(1, .int (y1_12 + (1 : Int32))), (2, .ref (ad (6 + y1_12.toNatClampNeg))), (0, .ref (ad 0))]) hx hb dX3_passOneDay_67 hl (k := 1) rfl rfl (by decide) rfl (fun ls hl => ?_)
            refine lv_goto (tgt := 12) hx hb dX3_passOneDay_70 (by decide) ?_
            exact ih_12 σ3 (y1_12 + (1 : Int32)) _ _ _ hw_σ3 (lp_s hi_12 hlt_12) hP hS (lv_sub hl [0, 2] rfl) hF
          · rw [if_neg c_59] at hF
            refine lv_aload_n hx hb dX3_passOneDay_62 rfl (lv_at hl 0 rfl) ?_
            refine lv_iconst (v := (0 : Int32)) hx hb dX3_passOneDay_63 (by decide) ?_
            refine q_putP (ty := .boolean) X hP hS y1_12.toNatClampNeg (ix_lt (lp_i hi_12 hlt_12)) 3 (by decide) (by decide) (hts _ wd211) rfl (by decide +kernel) rfl rfl dX3_passOneDay_64 (fun H locs hP hS => ?_)
            have hw_σ4 : WF (up σ3 (6 + y1_12.toNatClampNeg) 3 (0 : Int32)) := wf_up hw_σ3 (fun h => absurd h (by omega)) (fun h => absurd h (by have q9 : y1_12.toNatClampNeg < 8 := (ix_lt (lp_i hi_12 hlt_12)); omega)) (fun h h2 => absurd h (by have q9 : y1_12.toNatClampNeg < 8 := (ix_lt (lp_i hi_12 hlt_12)); omega))
            generalize hs_σ4 : (up σ3 (6 + y1_12.toNatClampNeg) 3 (0 : Int32)) = σ4 at hP hw_σ4 hF
            replace hF : (f_passOneDay_L12 n_12 σ4 (y1_12 + (1 : Int32))) = F := hF
            refine lv_iinc (v := (y1_12 + (1 : Int32))) (lv' := [(1, .int (y1_12 + (1 : Int32))), (2, .ref (ad (6 + y1_12.toNatClampNeg))), (0, .ref (ad 0))]) hx hb dX3_passOneDay_67 hl (k := 1) rfl rfl (by decide) rfl (fun ls hl => ?_)
            refine lv_goto (tgt := 12) hx hb dX3_passOneDay_70 (by decide) ?_
            exact ih_12 σ4 (y1_12 + (1 : Int32)) _ _ _ hw_σ4 (lp_s hi_12 hlt_12) hP hS (lv_sub hl [0, 2] rfl) hF
  exact L_12 128 σ1 (0 : Int32) _ _ _ hw_σ1 (lp_z (by decide)) hP hS hl hF
theorem k_passOneDay {p : Program} {l : Launch} {e : Env} {R : Room} {s : State} {m : MethodId} {args : Array Value} {below : List Frame} {meth : Method} {c : Code} {H : Heap} {locs : List Loc} {cells slots : Nat} {Q : State → Prop} {cc : ByteArray} {pc : Nat} {ls : Array Slot} {rest : List Value} {D : va_G} {A : Nat → Prop} {ad : Nat → Nat} {ca : Nat → ClassId} {tw nL : Nat} {σ : St} {own : String} {index : Nat} (X : Cx p s m args c own cc nL D ad ca tw A) (hP : va_P D vwCl (wl ad ca σ) H) (hS : va_S A s.heap H locs) (hR : 2 ≤ R.frames ∧ 43 ≤ R.locals) (hcap : cells ≤ R.cells ∧ slots ≤ R.slots) (hlk : Cond.methodLink own index yX3_passOneDay ∈ wsL_law0) (hsz : ls.size = nL) (hrs : (rest.map fun v => v.category).sum ≤ 8) (hdg : decode cc pc = .ok (.invokevirtual index, 3)) (hwf : WF σ) 
    (kk : ∀ (H1 : Heap) (locs1 : List Loc), va_P D vwCl (wl ad ca (f_passOneDay σ)) H1 → va_S A s.heap H1 locs1 → W p l e R s m args below meth c H1 locs1 cells slots Q (F0 m (pc + 3) ls (rest))) : W p l e R s m args below meth c H locs cells slots Q (F0 m pc ls (.ref (ad 0) :: rest)) := by
  refine q_bv X hS (q_runV (as := []) X hP hS (q_cwV (rm := ({ frames := 1, cells := 0, slots := 0, locals := 21 } : Room)) (k := 0) X.2.2.2.2.1 hlk wd360 wd361 wd2 wd362 rfl rfl (by decide +kernel) rfl ⟨hR.1, hR.2⟩) (c_passOneDay l D ad ca tw X.2.2.2.2.2.2.1 σ hwf ) rfl hsz rfl hrs hdg hcap) (fun u H1 locs1 h1 h2 h3 => ?_)
  subst h1
  exact kk H1 locs1 h2 h3
