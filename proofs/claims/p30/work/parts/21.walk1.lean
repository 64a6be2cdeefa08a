set_option maxHeartbeats 4000000 in
set_option maxRecDepth 100000 in
theorem c_standsInRing (l : Launch) (D : va_G) (ad : Nat → Nat) (ca : Nat → ClassId) (tw : Nat) (hI : ∀ i j, i < 40 → j < 40 → ad i = ad j → i = j) (σ : St) (x1 : Int32) (x2 : Int32) (hwf : WF σ) (hp : vp_in x1 8) (hg : vp_in x2 6) : Met l yX3_standsInRing (wm yX3_standsInRing cX3_standsInRing 3 (some .boolean)) ({ frames := 2, cells := 0, slots := 0, locals := 43 } : Room) (va_Pc [.ref (ad 0), .int x1, .int x2] (wPre D ad ca tw σ)) (va_Qi (fun r u => r = f_standsInRing σ x1 x2 ∧ u = σ) (wB D ad ca) (Aw ad)) 0 0 (Aw ad) := by
  generalize hF : f_standsInRing σ x1 x2 = F
  refine Met.ofW (cc := cX3_standsInRing) (maxL := 3) (ret := (some .boolean)) (by decide) rfl ?_
  intro p e s m args below meth c s₁ B hml hv
  obtain ⟨rfl, hv⟩ := hv
  have X := q_open (own := RX3) B rfl hml hI hv
  have hx := X.1
  have hb := X.2.1
  have hts := X.2.2.2.2.1
  have hr := B.returns
  have hlocks := B.notSynchronized
  have hP := hv.1
  have hS : va_S (Aw ad) s.heap s.heap [] := va_S.rf
  have hl := lv_entry ([.ref (ad 0), .int x1, .int x2]) (n := 3) (Nat.le_of_ble_eq_true rfl)
  rw [lg_entry_eq]
  generalize (lg_sl ([.ref (ad 0), .int x1, .int x2]) ++ List.replicate (3 - (lg_sl ([.ref (ad 0), .int x1, .int x2])).length) Slot.unset).toArray = ls at hl ⊢
  have hl : lv_has ls 3 [(0, .ref (ad 0)), (1, .int x1), (2, .int x2)] := hl
  unfold f_standsInRing at hF
  replace hF : (if x1 = (σ.1 (34 + x2.toNatClampNeg) 1) then (0 : Int32) else (if (f_ringOf σ x2) < (f_distance (σ.1 (6 + x1.toNatClampNeg) 5) (σ.1 (34 + x2.toNatClampNeg) 2)) then (0 : Int32) else (1 : Int32))) = F := hF
  refine lv_iload_n hx hb dX3_standsInRing_0 rfl (lv_at hl 1 rfl) ?_
  refine lv_aload_n hx hb dX3_standsInRing_1 rfl (lv_at hl 0 rfl) ?_
  refine q_getM (v := .ref (ad 3)) X hP 2 (by decide) (hts _ wd15) rfl dX3_standsInRing_2 ?_
  refine lv_iload_n hx hb dX3_standsInRing_5 rfl (lv_at hl 2 rfl) ?_
  refine q_aldG X hP hg dX3_standsInRing_6 ?_
  refine q_getG (v := .int (σ.1 (34 + x2.toNatClampNeg) 1)) X hP x2.toNatClampNeg (ix_lt hg) 1 (by decide) (hts _ wd98) rfl dX3_standsInRing_7 ?_
  refine lv_icmp_eq (tgt := 46) hx hb dX3_standsInRing_10 (by decide) (fun c_10 => ?_) (fun c_10 => ?_)
  · rw [if_pos c_10] at hF
    refine lv_iconst (v := (0 : Int32)) hx hb dX3_standsInRing_46 (by decide) ?_
    exact W.zret (ty := .boolean) (v := (0 : Int32)) hx hb hr rfl (fun t ht hW => ⟨⟨(0 : Int32), σ, rfl, ⟨hF, rfl⟩, wB_of ht hP⟩, hS.F ht⟩) hS.2.2 dX3_standsInRing_47
  · rw [if_neg c_10] at hF
    refine lv_aload_n hx hb dX3_standsInRing_13 rfl (lv_at hl 0 rfl) ?_
    refine q_getM (v := .ref (ad 1)) X hP 0 (by decide) (hts _ wd11) rfl dX3_standsInRing_14 ?_
    refine lv_iload_n hx hb dX3_standsInRing_17 rfl (lv_at hl 1 rfl) ?_
    refine q_aldP X hP hp dX3_standsInRing_18 ?_
    refine q_getP (v := .int (σ.1 (6 + x1.toNatClampNeg) 5)) X hP x1.toNatClampNeg (ix_lt hp) 5 (by decide) (hts _ wd99) rfl dX3_standsInRing_19 ?_
    refine lv_aload_n hx hb dX3_standsInRing_22 rfl (lv_at hl 0 rfl) ?_
    refine q_getM (v := .ref (ad 3)) X hP 2 (by decide) (hts _ wd15) rfl dX3_standsInRing_23 ?_
    refine lv_iload_n hx hb dX3_standsInRing_26 rfl (lv_at hl 2 rfl) ?_
    refine q_aldG X hP hg dX3_standsInRing_27 ?_
    refine q_getG (v := .int (σ.1 (34 + x2.toNatClampNeg) 2)) X hP x2.toNatClampNeg (ix_lt hg) 2 (by decide) (hts _ wd100) rfl dX3_standsInRing_28 ?_
    refine k_distance X hP hS ⟨Nat.le_of_ble_eq_true rfl, Nat.le_of_ble_eq_true rfl⟩ ⟨Nat.zero_le _, Nat.zero_le _⟩ wd101 hl.1 (Nat.le_of_ble_eq_true rfl) dX3_standsInRing_31 (σ.1 (6 + x1.toNatClampNeg) 5) (σ.1 (34 + x2.toNatClampNeg) 2) hwf  (fun H locs hP hS => ?_)
    refine lv_aload_n hx hb dX3_standsInRing_34 rfl (lv_at hl 0 rfl) ?_
    refine lv_iload_n hx hb dX3_standsInRing_35 rfl (lv_at hl 2 rfl) ?_
    refine k_ringOf X hP hS ⟨Nat.le_of_ble_eq_true rfl, Nat.le_of_ble_eq_true rfl⟩ ⟨Nat.zero_le _, Nat.zero_le _⟩ wd108 hl.1 (Nat.le_of_ble_eq_true rfl) dX3_standsInRing_36 x2 hwf hg (fun H locs hP hS => ?_)
    refine lv_icmp_gt (tgt := 46) hx hb dX3_standsInRing_39 (by decide) (fun c_39 => ?_) (fun c_39 => ?_)
    · rw [if_pos c_39] at hF
      refine lv_iconst (v := (0 : Int32)) hx hb dX3_standsInRing_46 (by decide) ?_
      exact W.zret (ty := .boolean) (v := (0 : Int32)) hx hb hr rfl (fun t ht hW => ⟨⟨(0 : Int32), σ, rfl, ⟨hF, rfl⟩, wB_of ht hP⟩, hS.F ht⟩) hS.2.2 dX3_standsInRing_47
    · rw [if_neg c_39] at hF
      refine lv_iconst (v := (1 : Int32)) hx hb dX3_standsInRing_42 (by decide) ?_
      refine lv_goto (tgt := 47) hx hb dX3_standsInRing_43 (by decide) ?_
      exact W.zret (ty := .boolean) (v := (1 : Int32)) hx hb hr rfl (fun t ht hW => ⟨⟨(1 : Int32), σ, rfl, ⟨hF, rfl⟩, wB_of ht hP⟩, hS.F ht⟩) hS.2.2 dX3_standsInRing_47
theorem k_standsInRing {p : Program} {l : Launch} {e : Env} {R : Room} {s : State} {m : MethodId} {args : Array Value} {below : List Frame} {meth : Method} {c : Code} {H : Heap} {locs : List Loc} {cells slots : Nat} {Q : State → Prop} {cc : ByteArray} {pc : Nat} {ls : Array Slot} {rest : List Value} {D : va_G} {A : Nat → Prop} {ad : Nat → Nat} {ca : Nat → ClassId} {tw nL : Nat} {σ : St} {own : String} {index : Nat} (X : Cx p s m args c own cc nL D ad ca tw A) (hP : va_P D vwCl (wl ad ca σ) H) (hS : va_S A s.heap H locs) (hR : 3 ≤ R.frames ∧ 65 ≤ R.locals) (hcap : cells ≤ R.cells ∧ slots ≤ R.slots) (hlk : Cond.methodLink own index yX3_standsInRing ∈ wsL_law0) (hsz : ls.size = nL) (hrs : (rest.map fun v => v.category).sum ≤ 8) (hdg : decode cc pc = .ok (.invokevirtual index, 3)) (x1 : Int32) (x2 : Int32) (hwf : WF σ) (hp : vp_in x1 8) (hg : vp_in x2 6)
    (kk : ∀ (H1 : Heap) (locs1 : List Loc), va_P D vwCl (wl ad ca σ) H1 → va_S A s.heap H1 locs1 → W p l e R s m args below meth c H1 locs1 cells slots Q (F0 m (pc + 3) ls (.int (f_standsInRing σ x1 x2) :: rest))) : W p l e R s m args below meth c H locs cells slots Q (F0 m pc ls (.int x2 :: .int x1 :: .ref (ad 0) :: rest)) := by
  refine q_bi X hS (q_runV (as := [.int x1, .int x2]) X hP hS (q_cwV (rm := ({ frames := 2, cells := 0, slots := 0, locals := 43 } : Room)) (k := 2) X.2.2.2.2.1 hlk wd95 wd96 wd2 wd97 rfl rfl (by decide +kernel) rfl ⟨hR.1, hR.2⟩) (c_standsInRing l D ad ca tw X.2.2.2.2.2.2.1 σ x1 x2 hwf hp hg) rfl hsz rfl hrs hdg hcap) (fun r u H1 locs1 h1 h2 h3 => ?_)
  obtain ⟨rfl, rfl⟩ := h1
  exact kk H1 locs1 h2 h3
set_option maxHeartbeats 4000000 in
set_option maxRecDepth 100000 in
theorem c_isOccupied (l : Launch) (D : va_G) (ad : Nat → Nat) (ca : Nat → ClassId) (tw : Nat) (hI : ∀ i j, i < 40 → j < 40 → ad i = ad j → i = j) (σ : St) (x1 : Int32) (hwf : WF σ) (hg : vp_in x1 6) : Met l yX3_isOccupied (wm yX3_isOccupied cX3_isOccupied 3 (some .boolean)) ({ frames := 3, cells := 0, slots := 0, locals := 65 } : Room) (va_Pc [.ref (ad 0), .int x1] (wPre D ad ca tw σ)) (va_Qi (fun r u => r = f_isOccupied σ x1 ∧ u = σ) (wB D ad ca) (Aw ad)) 0 0 (Aw ad) := by
  generalize hF : f_isOccupied σ x1 = F
  refine Met.ofW (cc := cX3_isOccupied) (maxL := 3) (ret := (some .boolean)) (by decide) rfl ?_
  intro p e s m args below meth c s₁ B hml hv
  obtain ⟨rfl, hv⟩ := hv
  have X := q_open (own := RX3) B rfl hml hI hv
  have hx := X.1
  have hb := X.2.1
  have hts := X.2.2.2.2.1
  have hr := B.returns
  have hlocks := B.notSynchronized
  have hP := hv.1
  have hS : va_S (Aw ad) s.heap s.heap [] := va_S.rf
  have hl := lv_entry ([.ref (ad 0), .int x1]) (n := 3) (Nat.le_of_ble_eq_true rfl)
  rw [lg_entry_eq]
  generalize (lg_sl ([.ref (ad 0), .int x1]) ++ List.replicate (3 - (lg_sl ([.ref (ad 0), .int x1])).length) Slot.unset).toArray = ls at hl ⊢
  have hl : lv_has ls 3 [(0, .ref (ad 0)), (1, .int x1)] := hl
  unfold f_isOccupied at hF
  replace hF : (f_isOccupied_L2 σ x1 128 (0 : Int32)) = F := hF
  refine lv_iconst (v := (0 : Int32)) hx hb dX3_isOccupied_0 (by decide) ?_
  refine lv_istore_n (lv' := [(2, .int (0 : Int32)), (0, .ref (ad 0)), (1, .int x1)]) hx hb dX3_isOccupied_1 rfl hl (by decide) rfl (fun ls hl => ?_)
  have L_2 : ∀ (n_2 : Nat) (y2_2 : Int32) (H : Heap) (locs : List Loc) (ls : Array Slot), lpI 8 y2_2 n_2 → va_P D vwCl (wl ad ca σ) H → va_S (Aw ad) s.heap H locs → lv_has ls 3 [(2, .int y2_2), (0, .ref (ad 0)), (1, .int x1)] → f_isOccupied_L2 σ x1 (n_2) y2_2 = F → W p l e (headSpec (wm yX3_isOccupied cX3_isOccupied 3 (some .boolean)) ({ frames := 3, cells := 0, slots := 0, locals := 65 } : Room)).room s m ([.ref (ad 0), .int x1] : List Value).toArray below meth c H locs 0 0 (MQ below (va_Qi (fun r u => r = F ∧ u = σ) (wB D ad ca) (Aw ad)) ([.ref (ad 0), .int x1] : List Value).toArray s 0 0 (Aw ad)) (F0 m 2 ls []) := by
    intro n_2
    induction n_2 with
    | zero => intro y2_2 H locs ls hi_2 _ _ _ _; exact absurd hi_2 (fun h => lp_0 h)
    | succ n_2 ih_2 =>
      intro y2_2 H locs ls hi_2 hP hS hl hF
      rw [f_isOccupied_L2] at hF
      refine lv_iload_n hx hb dX3_isOccupied_2 rfl (lv_at hl 0 rfl) ?_
      refine lv_aload_n hx hb dX3_isOccupied_3 rfl (lv_at hl 1 rfl) ?_
      refine q_getM (v := .int (σ.1 0 3)) X hP 3 (by decide) (hts _ wd16) rfl dX3_isOccupied_4 ?_
      refine lv_icmp_ge (tgt := 27) hx hb dX3_isOccupied_7 (by decide) (fun c_7 => ?_) (fun c_7 => ?_)
      · rw [if_pos c_7] at hF
        refine lv_iconst (v := (0 : Int32)) hx hb dX3_isOccupied_27 (by decide) ?_
        exact W.zret (ty := .boolean) (v := (0 : Int32)) hx hb hr rfl (fun t ht hW => ⟨⟨(0 : Int32), σ, rfl, ⟨hF, rfl⟩, wB_of ht hP⟩, hS.F ht⟩) hS.2.2 dX3_isOccupied_28
      · have hlt_2 : y2_2.toInt < 8 := lt_nle c_7 hwf.1.2
        rw [if_neg c_7] at hF
        refine lv_aload_n hx hb dX3_isOccupied_10 rfl (lv_at hl 1 rfl) ?_
        refine lv_iload_n hx hb dX3_isOccupied_11 rfl (lv_at hl 0 rfl) ?_
        refine lv_iload_n hx hb dX3_isOccupied_12 rfl (lv_at hl 2 rfl) ?_
        refine k_standsInRing X hP hS ⟨Nat.le_of_ble_eq_true rfl, Nat.le_of_ble_eq_true rfl⟩ ⟨Nat.zero_le _, Nat.zero_le _⟩ wd94 hl.1 (Nat.le_of_ble_eq_true rfl) dX3_isOccupied_13 y2_2 x1 hwf (lp_i hi_2 hlt_2) hg (fun H locs hP hS => ?_)
        refine lv_if_eq (tgt := 21) hx hb dX3_isOccupied_16 (by decide) (fun c_16 => ?_) (fun c_16 => ?_)
        · rw [if_pos c_16] at hF
          refine lv_iinc (v := (y2_2 + (1 : Int32))) (lv' := [(2, .int (y2_2 + (1 : Int32))), (0, .ref (ad 0)), (1, .int x1)]) hx hb dX3_isOccupied_21 hl (k := 0) rfl rfl (by decide) rfl (fun ls hl => ?_)
          refine lv_goto (tgt := 2) hx hb dX3_isOccupied_24 (by decide) ?_
          exact ih_2 (y2_2 + (1 : Int32)) _ _ _ (lp_s hi_2 hlt_2) hP hS (lv_sub hl [0, 1, 2] rfl) hF
        · rw [if_neg c_16] at hF
          refine lv_iconst (v := (1 : Int32)) hx hb dX3_isOccupied_19 (by decide) ?_
          exact W.zret (ty := .boolean) (v := (1 : Int32)) hx hb hr rfl (fun t ht hW => ⟨⟨(1 : Int32), σ, rfl, ⟨hF, rfl⟩, wB_of ht hP⟩, hS.F ht⟩) hS.2.2 dX3_isOccupied_20
  exact L_2 128 (0 : Int32) _ _ _ (lp_z (by decide)) hP hS hl hF
theorem k_isOccupied {p : Program} {l : Launch} {e : Env} {R : Room} {s : State} {m : MethodId} {args : Array Value} {below : List Frame} {meth : Method} {c : Code} {H : Heap} {locs : List Loc} {cells slots : Nat} {Q : State → Prop} {cc : ByteArray} {pc : Nat} {ls : Array Slot} {rest : List Value} {D : va_G} {A : Nat → Prop} {ad : Nat → Nat} {ca : Nat → ClassId} {tw nL : Nat} {σ : St} {own : String} {index : Nat} (X : Cx p s m args c own cc nL D ad ca tw A) (hP : va_P D vwCl (wl ad ca σ) H) (hS : va_S A s.heap H locs) (hR : 4 ≤ R.frames ∧ 87 ≤ R.locals) (hcap : cells ≤ R.cells ∧ slots ≤ R.slots) (hlk : Cond.methodLink own index yX3_isOccupied ∈ wsL_law0) (hsz : ls.size = nL) (hrs : (rest.map fun v => v.category).sum ≤ 8) (hdg : decode cc pc = .ok (.invokevirtual index, 3)) (x1 : Int32) (hwf : WF σ) (hg : vp_in x1 6)
    (kk : ∀ (H1 : Heap) (locs1 : List Loc), va_P D vwCl (wl ad ca σ) H1 → va_S A s.heap H1 locs1 → W p l e R s m args below meth c H1 locs1 cells slots Q (F0 m (pc + 3) ls (.int (f_isOccupied σ x1) :: rest))) : W p l e R s m args below meth c H locs cells slots Q (F0 m pc ls (.int x1 :: .ref (ad 0) :: rest)) := by
  refine q_bi X hS (q_runV (as := [.int x1]) X hP hS (q_cwV (rm := ({ frames := 3, cells := 0, slots := 0, locals := 65 } : Room)) (k := 1) X.2.2.2.2.1 hlk wd91 wd92 wd2 wd93 rfl rfl (by decide +kernel) rfl ⟨hR.1, hR.2⟩) (c_isOccupied l D ad ca tw X.2.2.2.2.2.2.1 σ x1 hwf hg) rfl hsz rfl hrs hdg hcap) (fun r u H1 locs1 h1 h2 h3 => ?_)
  obtain ⟨rfl, rfl⟩ := h1
  exact kk H1 locs1 h2 h3
set_option maxHeartbeats 4000000 in
set_option maxRecDepth 100000 in
theorem c_ringsAround (l : Launch) (D : va_G) (ad : Nat → Nat) (ca : Nat → ClassId) (tw : Nat) (hI : ∀ i j, i < 40 → j < 40 → ad i = ad j → i = j) (σ : St) (x1 : Int32) (hwf : WF σ) (hp : vp_in x1 8) : Met l yX3_ringsAround (wm yX3_ringsAround cX3_ringsAround 4 (some .int)) ({ frames := 3, cells := 0, slots := 0, locals := 65 } : Room) (va_Pc [.ref (ad 0), .int x1] (wPre D ad ca tw σ)) (va_Qi (fun r u => r = f_ringsAround σ x1 ∧ u = σ) (wB D ad ca) (Aw ad)) 0 0 (Aw ad) := by
  generalize hF : f_ringsAround σ x1 = F
  refine Met.ofW (cc := cX3_ringsAround) (maxL := 4) (ret := (some .int)) (by decide) rfl ?_
  intro p e s m args below meth c s₁ B hml hv
  obtain ⟨rfl, hv⟩ := hv
  have X := q_open (own := RX3) B rfl hml hI hv
  have hx := X.1
  have hb := X.2.1
  have hts := X.2.2.2.2.1
  have hr := B.returns
  have hlocks := B.notSynchronized
  have hP := hv.1
  have hS : va_S (Aw ad) s.heap s.heap [] := va_S.rf
  have hl := lv_entry ([.ref (ad 0), .int x1]) (n := 4) (Nat.le_of_ble_eq_true rfl)
  rw [lg_entry_eq]
  generalize (lg_sl ([.ref (ad 0), .int x1]) ++ List.replicate (4 - (lg_sl ([.ref (ad 0), .int x1])).length) Slot.unset).toArray = ls at hl ⊢
  have hl : lv_has ls 4 [(0, .ref (ad 0)), (1, .int x1)] := hl
  unfold f_ringsAround at hF
  replace hF : (f_ringsAround_L4 σ x1 128 (0 : Int32) (0 : Int32)) = F := hF
  refine lv_iconst (v := (0 : Int32)) hx hb dX3_ringsAround_0 (by decide) ?_
  refine lv_istore_n (lv' := [(2, .int (0 : Int32)), (0, .ref (ad 0)), (1, .int x1)]) hx hb dX3_ringsAround_1 rfl hl (by decide) rfl (fun ls hl => ?_)
  refine lv_iconst (v := (0 : Int32)) hx hb dX3_ringsAround_2 (by decide) ?_
  refine lv_istore_n (lv' := [(3, .int (0 : Int32)), (2, .int (0 : Int32)), (0, .ref (ad 0)), (1, .int x1)]) hx hb dX3_ringsAround_3 rfl hl (by decide) rfl (fun ls hl => ?_)
  have L_4 : ∀ (n_4 : Nat) (y3_4 : Int32) (y2_4 : Int32) (H : Heap) (locs : List Loc) (ls : Array Slot), lpI 6 y3_4 n_4 → va_P D vwCl (wl ad ca σ) H → va_S (Aw ad) s.heap H locs → lv_has ls 4 [(3, .int y3_4), (2, .int y2_4), (0, .ref (ad 0)), (1, .int x1)] → f_ringsAround_L4 σ x1 (n_4) y3_4 y2_4 = F → W p l e (headSpec (wm yX3_ringsAround cX3_ringsAround 4 (some .int)) ({ frames := 3, cells := 0, slots := 0, locals := 65 } : Room)).room s m ([.ref (ad 0), .int x1] : List Value).toArray below meth c H locs 0 0 (MQ below (va_Qi (fun r u => r = F ∧ u = σ) (wB D ad ca) (Aw ad)) ([.ref (ad 0), .int x1] : List Value).toArray s 0 0 (Aw ad)) (F0 m 4 ls []) := by
    intro n_4
    induction n_4 with
    | zero => intro y3_4 y2_4 H locs ls hi_4 _ _ _ _; exact absurd hi_4 (fun h => lp_0 h)
    | succ n_4 ih_4 =>
      intro y3_4 y2_4 H locs ls hi_4 hP hS hl hF
      rw [f_ringsAround_L4] at hF
      refine lv_iload_n hx hb dX3_ringsAround_4 rfl (lv_at hl 0 rfl) ?_
      refine lv_aload_n hx hb dX3_ringsAround_5 rfl (lv_at hl 2 rfl) ?_
      refine q_getM (v := .int (σ.1 0 5)) X hP 5 (by decide) (hts _ wd18) rfl dX3_ringsAround_6 ?_
      refine lv_icmp_ge (tgt := 33) hx hb dX3_ringsAround_9 (by decide) (fun c_9 => ?_) (fun c_9 => ?_)
      · rw [if_pos c_9] at hF
        refine lv_iload_n hx hb dX3_ringsAround_33 rfl (lv_at hl 1 rfl) ?_
        exact W.iret (v := y2_4) hx hb hr (fun t ht hW => ⟨⟨y2_4, σ, rfl, ⟨hF, rfl⟩, wB_of ht hP⟩, hS.F ht⟩) hS.2.2 dX3_ringsAround_34
      · have hlt_4 : y3_4.toInt < 6 := lt_nle c_9 hwf.2.2.1.2
        rw [if_neg c_9] at hF
        refine lv_aload_n hx hb dX3_ringsAround_12 rfl (lv_at hl 2 rfl) ?_
        refine lv_iload_n hx hb dX3_ringsAround_13 rfl (lv_at hl 3 rfl) ?_
        refine lv_iload_n hx hb dX3_ringsAround_14 rfl (lv_at hl 0 rfl) ?_
        refine k_standsInRing X hP hS ⟨Nat.le_of_ble_eq_true rfl, Nat.le_of_ble_eq_true rfl⟩ ⟨Nat.zero_le _, Nat.zero_le _⟩ wd94 hl.1 (Nat.le_of_ble_eq_true rfl) dX3_ringsAround_15 x1 y3_4 hwf hp (lp_i hi_4 hlt_4) (fun H locs hP hS => ?_)
        refine lv_if_eq (tgt := 27) hx hb dX3_ringsAround_18 (by decide) (fun c_18 => ?_) (fun c_18 => ?_)
        · rw [if_pos c_18] at hF
          refine lv_iinc (v := (y3_4 + (1 : Int32))) (lv' := [(3, .int (y3_4 + (1 : Int32))), (2, .int y2_4), (0, .ref (ad 0)), (1, .int x1)]) hx hb dX3_ringsAround_27 hl (k := 0) rfl rfl (by decide) rfl (fun ls hl => ?_)
          refine lv_goto (tgt := 4) hx hb dX3_ringsAround_30 (by decide) ?_
          exact ih_4 (y3_4 + (1 : Int32)) y2_4 _ _ _ (lp_s hi_4 hlt_4) hP hS (lv_sub hl [0, 1, 2, 3] rfl) hF
        · rw [if_neg c_18] at hF
          refine lv_iload_n hx hb dX3_ringsAround_21 rfl (lv_at hl 1 rfl) ?_
          refine lv_iconst (v := (1 : Int32)) hx hb dX3_ringsAround_22 (by decide) ?_
          refine lv_iload_n hx hb dX3_ringsAround_23 rfl (lv_at hl 0 rfl) ?_
          refine lv_ishl hx hb dX3_ringsAround_24 ?_
          refine lv_ior hx hb dX3_ringsAround_25 ?_
          refine lv_istore_n (lv' := [(2, .int (y2_4 ||| ((1 : Int32) <<< (y3_4 &&& (31 : Int32))))), (3, .int y3_4), (0, .ref (ad 0)), (1, .int x1)]) hx hb dX3_ringsAround_26 rfl hl (by decide) rfl (fun ls hl => ?_)
          refine lv_iinc (v := (y3_4 + (1 : Int32))) (lv' := [(3, .int (y3_4 + (1 : Int32))), (2, .int (y2_4 ||| ((1 : Int32) <<< (y3_4 &&& (31 : Int32))))), (0, .ref (ad 0)), (1, .int x1)]) hx hb dX3_ringsAround_27 hl (k := 1) rfl rfl (by decide) rfl (fun ls hl => ?_)
          refine lv_goto (tgt := 4) hx hb dX3_ringsAround_30 (by decide) ?_
          exact ih_4 (y3_4 + (1 : Int32)) (y2_4 ||| ((1 : Int32) <<< (y3_4 &&& (31 : Int32)))) _ _ _ (lp_s hi_4 hlt_4) hP hS (lv_sub hl [0, 1, 2, 3] rfl) hF
  exact L_4 128 (0 : Int32) (0 : Int32) _ _ _ (lp_z (by decide)) hP hS hl hF
theorem k_ringsAround {p : Program} {l : Launch} {e : Env} {R : Room} {s : State} {m : MethodId} {args : Array Value} {below : List Frame} {meth : Method} {c : Code} {H : Heap} {locs : List Loc} {cells slots : Nat} {Q : State → Prop} {cc : ByteArray} {pc : Nat} {ls : Array Slot} {rest : List Value} {D : va_G} {A : Nat → Prop} {ad : Nat → Nat} {ca : Nat → ClassId} {tw nL : Nat} {σ : St} {own : String} {index : Nat} (X : Cx p s m args c own cc nL D ad ca tw A) (hP : va_P D vwCl (wl ad ca σ) H) (hS : va_S A s.heap H locs) (hR : 4 ≤ R.frames ∧ 88 ≤ R.locals) (hcap : cells ≤ R.cells ∧ slots ≤ R.slots) (hlk : Cond.methodLink own index yX3_ringsAround ∈ wsL_law0) (hsz : ls.size = nL) (hrs : (rest.map fun v => v.category).sum ≤ 8) (hdg : decode cc pc = .ok (.invokevirtual index, 3)) (x1 : Int32) (hwf : WF σ) (hp : vp_in x1 8)
    (kk : ∀ (H1 : Heap) (locs1 : List Loc), va_P D vwCl (wl ad ca σ) H1 → va_S A s.heap H1 locs1 → W p l e R s m args below meth c H1 locs1 cells slots Q (F0 m (pc + 3) ls (.int (f_ringsAround σ x1) :: rest))) : W p l e R s m args below meth c H locs cells slots Q (F0 m pc ls (.int x1 :: .ref (ad 0) :: rest)) := by
  refine q_bi X hS (q_runV (as := [.int x1]) X hP hS (q_cwV (rm := ({ frames := 3, cells := 0, slots := 0, locals := 65 } : Room)) (k := 1) X.2.2.2.2.1 hlk wd281 wd282 wd2 wd283 rfl rfl (by decide +kernel) rfl ⟨hR.1, hR.2⟩) (c_ringsAround l D ad ca tw X.2.2.2.2.2.2.1 σ x1 hwf hp) rfl hsz rfl hrs hdg hcap) (fun r u H1 locs1 h1 h2 h3 => ?_)
  obtain ⟨rfl, rfl⟩ := h1
  exact kk H1 locs1 h2 h3
set_option maxHeartbeats 4000000 in
set_option maxRecDepth 100000 in
theorem c_isClearPlace (l : Launch) (D : va_G) (ad : Nat → Nat) (ca : Nat → ClassId) (tw : Nat) (hI : ∀ i j, i < 40 → j < 40 → ad i = ad j → i = j) (σ : St) (x1 : Int32) (hwf : WF σ)  : Met l yX3_isClearPlace (wm yX3_isClearPlace cX3_isClearPlace 3 (some .boolean)) ({ frames := 2, cells := 0, slots := 0, locals := 43 } : Room) (va_Pc [.ref (ad 0), .int x1] (wPre D ad ca tw σ)) (va_Qi (fun r u => r = f_isClearPlace σ x1 ∧ u = σ) (wB D ad ca) (Aw ad)) 0 0 (Aw ad) := by
  generalize hF : f_isClearPlace σ x1 = F
  refine Met.ofW (cc := cX3_isClearPlace) (maxL := 3) (ret := (some .boolean)) (by decide) rfl ?_
  intro p e s m args below meth c s₁ B hml hv
  obtain ⟨rfl, hv⟩ := hv
  have X := q_open (own := RX3) B rfl hml hI hv
  have hx := X.1
  have hb := X.2.1
  have hts := X.2.2.2.2.1
  have hr := B.returns
  have hlocks := B.notSynchronized
  have hP := hv.1
  have hS : va_S (Aw ad) s.heap s.heap [] := va_S.rf
  have hl := lv_entry ([.ref (ad 0), .int x1]) (n := 3) (Nat.le_of_ble_eq_true rfl)
  rw [lg_entry_eq]
  generalize (lg_sl ([.ref (ad 0), .int x1]) ++ List.replicate (3 - (lg_sl ([.ref (ad 0), .int x1])).length) Slot.unset).toArray = ls at hl ⊢
  have hl : lv_has ls 3 [(0, .ref (ad 0)), (1, .int x1)] := hl
  unfold f_isClearPlace at hF
  replace hF : (if x1 < (0 : Int32) then (0 : Int32) else (if x1 ≤ (99 : Int32) then (f_isClearPlace_L14 σ x1 128 (0 : Int32)) else (0 : Int32))) = F := hF
  refine lv_iload_n hx hb dX3_isClearPlace_0 rfl (lv_at hl 1 rfl) ?_
  refine lv_if_lt (tgt := 10) hx hb dX3_isClearPlace_1 (by decide) (fun c_1 => ?_) (fun c_1 => ?_)
  · rw [if_pos c_1] at hF
    refine lv_iconst (v := (0 : Int32)) hx hb dX3_isClearPlace_10 (by decide) ?_
    exact W.zret (ty := .boolean) (v := (0 : Int32)) hx hb hr rfl (fun t ht hW => ⟨⟨(0 : Int32), σ, rfl, ⟨hF, rfl⟩, wB_of ht hP⟩, hS.F ht⟩) hS.2.2 dX3_isClearPlace_11
  · rw [if_neg c_1] at hF
    refine lv_iload_n hx hb dX3_isClearPlace_4 rfl (lv_at hl 1 rfl) ?_
    refine lv_bipush (v := (99 : Int32)) hx hb dX3_isClearPlace_5 (by decide) ?_
    refine lv_icmp_le (tgt := 12) hx hb dX3_isClearPlace_7 (by decide) (fun c_7 => ?_) (fun c_7 => ?_)
    · rw [if_pos c_7] at hF
      refine lv_iconst (v := (0 : Int32)) hx hb dX3_isClearPlace_12 (by decide) ?_
      refine lv_istore_n (lv' := [(2, .int (0 : Int32)), (0, .ref (ad 0)), (1, .int x1)]) hx hb dX3_isClearPlace_13 rfl hl (by decide) rfl (fun ls hl => ?_)
      have L_14 : ∀ (n_14 : Nat) (y2_14 : Int32) (H : Heap) (locs : List Loc) (ls : Array Slot), lpI 6 y2_14 n_14 → va_P D vwCl (wl ad ca σ) H → va_S (Aw ad) s.heap H locs → lv_has ls 3 [(2, .int y2_14), (0, .ref (ad 0)), (1, .int x1)] → f_isClearPlace_L14 σ x1 (n_14) y2_14 = F → W p l e (headSpec (wm yX3_isClearPlace cX3_isClearPlace 3 (some .boolean)) ({ frames := 2, cells := 0, slots := 0, locals := 43 } : Room)).room s m ([.ref (ad 0), .int x1] : List Value).toArray below meth c H locs 0 0 (MQ below (va_Qi (fun r u => r = F ∧ u = σ) (wB D ad ca) (Aw ad)) ([.ref (ad 0), .int x1] : List Value).toArray s 0 0 (Aw ad)) (F0 m 14 ls []) := by
        intro n_14
        induction n_14 with
        | zero => intro y2_14 H locs ls hi_14 _ _ _ _; exact absurd hi_14 (fun h => lp_0 h)
        | succ n_14 ih_14 =>
          intro y2_14 H locs ls hi_14 hP hS hl hF
          rw [f_isClearPlace_L14] at hF
          refine lv_iload_n hx hb dX3_isClearPlace_14 rfl (lv_at hl 0 rfl) ?_
          refine lv_aload_n hx hb dX3_isClearPlace_15 rfl (lv_at hl 1 rfl) ?_
          refine q_getM (v := .int (σ.1 0 5)) X hP 5 (by decide) (hts _ wd18) rfl dX3_isClearPlace_16 ?_
          refine lv_icmp_ge (tgt := 63) hx hb dX3_isClearPlace_19 (by decide) (fun c_19 => ?_) (fun c_19 => ?_)
          · rw [if_pos c_19] at hF
            refine lv_iconst (v := (1 : Int32)) hx hb dX3_isClearPlace_63 (by decide) ?_
            exact W.zret (ty := .boolean) (v := (1 : Int32)) hx hb hr rfl (fun t ht hW => ⟨⟨(1 : Int32), σ, rfl, ⟨hF, rfl⟩, wB_of ht hP⟩, hS.F ht⟩) hS.2.2 dX3_isClearPlace_64
          · have hlt_14 : y2_14.toInt < 6 := lt_nle c_19 hwf.2.2.1.2
            rw [if_neg c_19] at hF
            refine lv_aload_n hx hb dX3_isClearPlace_22 rfl (lv_at hl 1 rfl) ?_
            refine q_getM (v := .ref (ad 3)) X hP 2 (by decide) (hts _ wd15) rfl dX3_isClearPlace_23 ?_
            refine lv_iload_n hx hb dX3_isClearPlace_26 rfl (lv_at hl 0 rfl) ?_
            refine q_aldG X hP (lp_i hi_14 hlt_14) dX3_isClearPlace_27 ?_
            refine q_getG (v := .int (σ.1 (34 + y2_14.toNatClampNeg) 8)) X hP y2_14.toNatClampNeg (ix_lt (lp_i hi_14 hlt_14)) 8 (by decide) (hts _ wd122) rfl dX3_isClearPlace_28 ?_
            refine lv_if_eq (tgt := 57) hx hb dX3_isClearPlace_31 (by decide) (fun c_31 => ?_) (fun c_31 => ?_)
            · rw [if_pos c_31] at hF
              refine lv_iinc (v := (y2_14 + (1 : Int32))) (lv' := [(2, .int (y2_14 + (1 : Int32))), (0, .ref (ad 0)), (1, .int x1)]) hx hb dX3_isClearPlace_57 hl (k := 0) rfl rfl (by decide) rfl (fun ls hl => ?_)
              refine lv_goto (tgt := 14) hx hb dX3_isClearPlace_60 (by decide) ?_
              exact ih_14 (y2_14 + (1 : Int32)) _ _ _ (lp_s hi_14 hlt_14) hP hS (lv_sub hl [0, 1, 2] rfl) hF
            · rw [if_neg c_31] at hF
              refine lv_iload_n hx hb dX3_isClearPlace_34 rfl (lv_at hl 2 rfl) ?_
              refine lv_aload_n hx hb dX3_isClearPlace_35 rfl (lv_at hl 1 rfl) ?_
              refine q_getM (v := .ref (ad 3)) X hP 2 (by decide) (hts _ wd15) rfl dX3_isClearPlace_36 ?_
              refine lv_iload_n hx hb dX3_isClearPlace_39 rfl (lv_at hl 0 rfl) ?_
              refine q_aldG X hP (lp_i hi_14 hlt_14) dX3_isClearPlace_40 ?_
              refine q_getG (v := .int (σ.1 (34 + y2_14.toNatClampNeg) 2)) X hP y2_14.toNatClampNeg (ix_lt (lp_i hi_14 hlt_14)) 2 (by decide) (hts _ wd100) rfl dX3_isClearPlace_41 ?_
              refine k_distance X hP hS ⟨Nat.le_of_ble_eq_true rfl, Nat.le_of_ble_eq_true rfl⟩ ⟨Nat.zero_le _, Nat.zero_le _⟩ wd101 hl.1 (Nat.le_of_ble_eq_true rfl) dX3_isClearPlace_44 x1 (σ.1 (34 + y2_14.toNatClampNeg) 2) hwf  (fun H locs hP hS => ?_)
              refine lv_aload_n hx hb dX3_isClearPlace_47 rfl (lv_at hl 1 rfl) ?_
              refine lv_iload_n hx hb dX3_isClearPlace_48 rfl (lv_at hl 0 rfl) ?_
              refine k_ringOf X hP hS ⟨Nat.le_of_ble_eq_true rfl, Nat.le_of_ble_eq_true rfl⟩ ⟨Nat.zero_le _, Nat.zero_le _⟩ wd108 hl.1 (Nat.le_of_ble_eq_true rfl) dX3_isClearPlace_49 y2_14 hwf (lp_i hi_14 hlt_14) (fun H locs hP hS => ?_)
              refine lv_icmp_gt (tgt := 57) hx hb dX3_isClearPlace_52 (by decide) (fun c_52 => ?_) (fun c_52 => ?_)
              · rw [if_pos c_52] at hF
                refine lv_iinc (v := (y2_14 + (1 : Int32))) (lv' := [(2, .int (y2_14 + (1 : Int32))), (0, .ref (ad 0)), (1, .int x1)]) hx hb dX3_isClearPlace_57 hl (k := 0) rfl rfl (by decide) rfl (fun ls hl => ?_)
                refine lv_goto (tgt := 14) hx hb dX3_isClearPlace_60 (by decide) ?_
                exact ih_14 (y2_14 + (1 : Int32)) _ _ _ (lp_s hi_14 hlt_14) hP hS (lv_sub hl [0, 1, 2] rfl) hF
              · rw [if_neg c_52] at hF
                refine lv_iconst (v := (0 : Int32)) hx hb dX3_isClearPlace_55 (by decide) ?_
                exact W.zret (ty := .boolean) (v := (0 : Int32)) hx hb hr rfl (fun t ht hW => ⟨⟨(0 : Int32), σ, rfl, ⟨hF, rfl⟩, wB_of ht hP⟩, hS.F ht⟩) hS.2.2 dX3_isClearPlace_56
      exact L_14 128 (0 : Int32) _ _ _ (lp_z (by decide)) hP hS hl hF
    · rw [if_neg c_7] at hF
      refine lv_iconst (v := (0 : Int32)) hx hb dX3_isClearPlace_10 (by decide) ?_
      exact W.zret (ty := .boolean) (v := (0 : Int32)) hx hb hr rfl (fun t ht hW => ⟨⟨(0 : Int32), σ, rfl, ⟨hF, rfl⟩, wB_of ht hP⟩, hS.F ht⟩) hS.2.2 dX3_isClearPlace_11
theorem k_isClearPlace {p : Program} {l : Launch} {e : Env} {R : Room} {s : State} {m : MethodId} {args : Array Value} {below : List Frame} {meth : Method} {c : Code} {H : Heap} {locs : List Loc} {cells slots : Nat} {Q : State → Prop} {cc : ByteArray} {pc : Nat} {ls : Array Slot} {rest : List Value} {D : va_G} {A : Nat → Prop} {ad : Nat → Nat} {ca : Nat → ClassId} {tw nL : Nat} {σ : St} {own : String} {index : Nat} (X : Cx p s m args c own cc nL D ad ca tw A) (hP : va_P D vwCl (wl ad ca σ) H) (hS : va_S A s.heap H locs) (hR : 3 ≤ R.frames ∧ 65 ≤ R.locals) (hcap : cells ≤ R.cells ∧ slots ≤ R.slots) (hlk : Cond.methodLink own index yX3_isClearPlace ∈ wsL_law0) (hsz : ls.size = nL) (hrs : (rest.map fun v => v.category).sum ≤ 8) (hdg : decode cc pc = .ok (.invokevirtual index, 3)) (x1 : Int32) (hwf : WF σ) 
    (kk : ∀ (H1 : Heap) (locs1 : List Loc), va_P D vwCl (wl ad ca σ) H1 → va_S A s.heap H1 locs1 → W p l e R s m args below meth c H1 locs1 cells slots Q (F0 m (pc + 3) ls (.int (f_isClearPlace σ x1) :: rest))) : W p l e R s m args below meth c H locs cells slots Q (F0 m pc ls (.int x1 :: .ref (ad 0) :: rest)) := by
  refine q_bi X hS (q_runV (as := [.int x1]) X hP hS (q_cwV (rm := ({ frames := 2, cells := 0, slots := 0, locals := 43 } : Room)) (k := 1) X.2.2.2.2.1 hlk wd407 wd408 wd2 wd409 rfl rfl (by decide +kernel) rfl ⟨hR.1, hR.2⟩) (c_isClearPlace l D ad ca tw X.2.2.2.2.2.2.1 σ x1 hwf ) rfl hsz rfl hrs hdg hcap) (fun r u H1 locs1 h1 h2 h3 => ?_)
  obtain ⟨rfl, rfl⟩ := h1
  exact kk H1 locs1 h2 h3
set_option maxHeartbeats 4000000 in
set_option maxRecDepth 100000 in
theorem c_isReadyMedic (l : Launch) (D : va_G) (ad : Nat → Nat) (ca : Nat → ClassId) (tw : Nat) (hI : ∀ i j, i < 40 → j < 40 → ad i = ad j → i = j) (σ : St) (x1 : Int32) (x2 : Int32) (hwf : WF σ) (hp : vp_in x1 8) (hg : vp_in x2 6) : Met l yX3_isReadyMedic (wm yX3_isReadyMedic cX3_isReadyMedic 3 (some .boolean)) ({ frames := 2, cells := 0, slots := 0, locals := 42 } : Room) (va_Pc [.ref (ad 0), .int x1, .int x2] (wPre D ad ca tw σ)) (va_Qi (fun r u => r = f_isReadyMedic σ x1 x2 ∧ u = σ) (wB D ad ca) (Aw ad)) 0 0 (Aw ad) := by
  generalize hF : f_isReadyMedic σ x1 x2 = F
  refine Met.ofW (cc := cX3_isReadyMedic) (maxL := 3) (ret := (some .boolean)) (by decide) rfl ?_
  intro p e s m args below meth c s₁ B hml hv
  obtain ⟨rfl, hv⟩ := hv
  have X := q_open (own := RX3) B rfl hml hI hv
  have hx := X.1
  have hb := X.2.1
  have hts := X.2.2.2.2.1
  have hr := B.returns
  have hlocks := B.notSynchronized
  have hP := hv.1
  have hS : va_S (Aw ad) s.heap s.heap [] := va_S.rf
  have hl := lv_entry ([.ref (ad 0), .int x1, .int x2]) (n := 3) (Nat.le_of_ble_eq_true rfl)
  rw [lg_entry_eq]
  generalize (lg_sl ([.ref (ad 0), .int x1, .int x2]) ++ List.replicate (3 - (lg_sl ([.ref (ad 0), .int x1, .int x2])).length) Slot.unset).toArray = ls at hl ⊢
  have hl : lv_has ls 3 [(0, .ref (ad 0)), (1, .int x1), (2, .int x2)] := hl
  unfold f_isReadyMedic at hF
  replace hF : (if (σ.1 (6 + x1.toNatClampNeg) 2) = (0 : Int32) then (0 : Int32) else (if (σ.1 (6 + x1.toNatClampNeg) 3) = (0 : Int32) then (if (25 : Int32) < (f_distance (σ.1 (6 + x1.toNatClampNeg) 5) (σ.1 (34 + x2.toNatClampNeg) 2)) then (0 : Int32) else (1 : Int32)) else (0 : Int32))) = F := hF
  refine lv_aload_n hx hb dX3_isReadyMedic_0 rfl (lv_at hl 0 rfl) ?_
  refine q_getM (v := .ref (ad 1)) X hP 0 (by decide) (hts _ wd11) rfl dX3_isReadyMedic_1 ?_
  refine lv_iload_n hx hb dX3_isReadyMedic_4 rfl (lv_at hl 1 rfl) ?_
  refine q_aldP X hP hp dX3_isReadyMedic_5 ?_
  refine q_getP (v := .int (σ.1 (6 + x1.toNatClampNeg) 2)) X hP x1.toNatClampNeg (ix_lt hp) 2 (by decide) (hts _ wd85) rfl dX3_isReadyMedic_6 ?_
  refine lv_if_eq (tgt := 54) hx hb dX3_isReadyMedic_9 (by decide) (fun c_9 => ?_) (fun c_9 => ?_)
  · rw [if_pos c_9] at hF
    refine lv_iconst (v := (0 : Int32)) hx hb dX3_isReadyMedic_54 (by decide) ?_
    exact W.zret (ty := .boolean) (v := (0 : Int32)) hx hb hr rfl (fun t ht hW => ⟨⟨(0 : Int32), σ, rfl, ⟨hF, rfl⟩, wB_of ht hP⟩, hS.F ht⟩) hS.2.2 dX3_isReadyMedic_55
  · rw [if_neg c_9] at hF
    refine lv_aload_n hx hb dX3_isReadyMedic_12 rfl (lv_at hl 0 rfl) ?_
    refine q_getM (v := .ref (ad 1)) X hP 0 (by decide) (hts _ wd11) rfl dX3_isReadyMedic_13 ?_
    refine lv_iload_n hx hb dX3_isReadyMedic_16 rfl (lv_at hl 1 rfl) ?_
    refine q_aldP X hP hp dX3_isReadyMedic_17 ?_
    refine q_getP (v := .int (σ.1 (6 + x1.toNatClampNeg) 3)) X hP x1.toNatClampNeg (ix_lt hp) 3 (by decide) (hts _ wd211) rfl dX3_isReadyMedic_18 ?_
    refine lv_if_ne (tgt := 54) hx hb dX3_isReadyMedic_21 (by decide) (fun c_21 => ?_) (fun c_21 => ?_)
    · rw [if_neg c_21] at hF
      refine lv_iconst (v := (0 : Int32)) hx hb dX3_isReadyMedic_54 (by decide) ?_
      exact W.zret (ty := .boolean) (v := (0 : Int32)) hx hb hr rfl (fun t ht hW => ⟨⟨(0 : Int32), σ, rfl, ⟨hF, rfl⟩, wB_of ht hP⟩, hS.F ht⟩) hS.2.2 dX3_isReadyMedic_55
    · rw [if_pos c_21] at hF
      refine lv_aload_n hx hb dX3_isReadyMedic_24 rfl (lv_at hl 0 rfl) ?_
      refine q_getM (v := .ref (ad 1)) X hP 0 (by decide) (hts _ wd11) rfl dX3_isReadyMedic_25 ?_
      refine lv_iload_n hx hb dX3_isReadyMedic_28 rfl (lv_at hl 1 rfl) ?_
      refine q_aldP X hP hp dX3_isReadyMedic_29 ?_
      refine q_getP (v := .int (σ.1 (6 + x1.toNatClampNeg) 5)) X hP x1.toNatClampNeg (ix_lt hp) 5 (by decide) (hts _ wd99) rfl dX3_isReadyMedic_30 ?_
      refine lv_aload_n hx hb dX3_isReadyMedic_33 rfl (lv_at hl 0 rfl) ?_
      refine q_getM (v := .ref (ad 3)) X hP 2 (by decide) (hts _ wd15) rfl dX3_isReadyMedic_34 ?_
      refine lv_iload_n hx hb dX3_isReadyMedic_37 rfl (lv_at hl 2 rfl) ?_
      refine q_aldG X hP hg dX3_isReadyMedic_38 ?_
      refine q_getG (v := .int (σ.1 (34 + x2.toNatClampNeg) 2)) X hP x2.toNatClampNeg (ix_lt hg) 2 (by decide) (hts _ wd100) rfl dX3_isReadyMedic_39 ?_
      refine k_distance X hP hS ⟨Nat.le_of_ble_eq_true rfl, Nat.le_of_ble_eq_true rfl⟩ ⟨Nat.zero_le _, Nat.zero_le _⟩ wd101 hl.1 (Nat.le_of_ble_eq_true rfl) dX3_isReadyMedic_42 (σ.1 (6 + x1.toNatClampNeg) 5) (σ.1 (34 + x2.toNatClampNeg) 2) hwf  (fun H locs hP hS => ?_)
      refine lv_bipush (v := (25 : Int32)) hx hb dX3_isReadyMedic_45 (by decide) ?_
      refine lv_icmp_gt (tgt := 54) hx hb dX3_isReadyMedic_47 (by decide) (fun c_47 => ?_) (fun c_47 => ?_)
      · rw [if_pos c_47] at hF
        refine lv_iconst (v := (0 : Int32)) hx hb dX3_isReadyMedic_54 (by decide) ?_
        exact W.zret (ty := .boolean) (v := (0 : Int32)) hx hb hr rfl (fun t ht hW => ⟨⟨(0 : Int32), σ, rfl, ⟨hF, rfl⟩, wB_of ht hP⟩, hS.F ht⟩) hS.2.2 dX3_isReadyMedic_55
      · rw [if_neg c_47] at hF
        refine lv_iconst (v := (1 : Int32)) hx hb dX3_isReadyMedic_50 (by decide) ?_
        refine lv_goto (tgt := 55) hx hb dX3_isReadyMedic_51 (by decide) ?_
        exact W.zret (ty := .boolean) (v := (1 : Int32)) hx hb hr rfl (fun t ht hW => ⟨⟨(1 : Int32), σ, rfl, ⟨hF, rfl⟩, wB_of ht hP⟩, hS.F ht⟩) hS.2.2 dX3_isReadyMedic_55
theorem k_isReadyMedic {p : Program} {l : Launch} {e : Env} {R : Room} {s : State} {m : MethodId} {args : Array Value} {below : List Frame} {meth : Method} {c : Code} {H : Heap} {locs : List Loc} {cells slots : Nat} {Q : State → Prop} {cc : ByteArray} {pc : Nat} {ls : Array Slot} {rest : List Value} {D : va_G} {A : Nat → Prop} {ad : Nat → Nat} {ca : Nat → ClassId} {tw nL : Nat} {σ : St} {own : String} {index : Nat} (X : Cx p s m args c own cc nL D ad ca tw A) (hP : va_P D vwCl (wl ad ca σ) H) (hS : va_S A s.heap H locs) (hR : 3 ≤ R.frames ∧ 64 ≤ R.locals) (hcap : cells ≤ R.cells ∧ slots ≤ R.slots) (hlk : Cond.methodLink own index yX3_isReadyMedic ∈ wsL_law0) (hsz : ls.size = nL) (hrs : (rest.map fun v => v.category).sum ≤ 8) (hdg : decode cc pc = .ok (.invokevirtual index, 3)) (x1 : Int32) (x2 : Int32) (hwf : WF σ) (hp : vp_in x1 8) (hg : vp_in x2 6)
    (kk : ∀ (H1 : Heap) (locs1 : List Loc), va_P D vwCl (wl ad ca σ) H1 → va_S A s.heap H1 locs1 → W p l e R s m args below meth c H1 locs1 cells slots Q (F0 m (pc + 3) ls (.int (f_isReadyMedic σ x1 x2) :: rest))) : W p l e R s m args below meth c H locs cells slots Q (F0 m pc ls (.int x2 :: .int x1 :: .ref (ad 0) :: rest)) := by
  refine q_bi X hS (q_runV (as := [.int x1, .int x2]) X hP hS (q_cwV (rm := ({ frames := 2, cells := 0, slots := 0, locals := 42 } : Room)) (k := 2) X.2.2.2.2.1 hlk wd237 wd238 wd2 wd239 rfl rfl (by decide +kernel) rfl ⟨hR.1, hR.2⟩) (c_isReadyMedic l D ad ca tw X.2.2.2.2.2.2.1 σ x1 x2 hwf hp hg) rfl hsz rfl hrs hdg hcap) (fun r u H1 locs1 h1 h2 h3 => ?_)
  obtain ⟨rfl, rfl⟩ := h1
  exact kk H1 locs1 h2 h3
set_option maxHeartbeats 4000000 in
set_option maxRecDepth 100000 in
theorem c_isTooYoung (l : Launch) (D : va_G) (ad : Nat → Nat) (ca : Nat → ClassId) (tw : Nat) (hI : ∀ i j, i < 40 → j < 40 → ad i = ad j → i = j) (σ : St) (x1 : Int32) (x2 : Int32) (hwf : WF σ) (hp : vp_in x1 8) (hg : vp_in x2 6) : Met l yX3_isTooYoung (wm yX3_isTooYoung cX3_isTooYoung 3 (some .boolean)) ({ frames := 2, cells := 0, slots := 0, locals := 43 } : Room) (va_Pc [.ref (ad 0), .int x1, .int x2] (wPre D ad ca tw σ)) (va_Qi (fun r u => r = f_isTooYoung σ x1 x2 ∧ u = σ) (wB D ad ca) (Aw ad)) 0 0 (Aw ad) := by
  generalize hF : f_isTooYoung σ x1 x2 = F
  refine Met.ofW (cc := cX3_isTooYoung) (maxL := 3) (ret := (some .boolean)) (by decide) rfl ?_
  intro p e s m args below meth c s₁ B hml hv
  obtain ⟨rfl, hv⟩ := hv
  have X := q_open (own := RX3) B rfl hml hI hv
  have hx := X.1
  have hb := X.2.1
  have hts := X.2.2.2.2.1
  have hr := B.returns
  have hlocks := B.notSynchronized
  have hP := hv.1
  have hS : va_S (Aw ad) s.heap s.heap [] := va_S.rf
  have hl := lv_entry ([.ref (ad 0), .int x1, .int x2]) (n := 3) (Nat.le_of_ble_eq_true rfl)
  rw [lg_entry_eq]
  generalize (lg_sl ([.ref (ad 0), .int x1, .int x2]) ++ List.replicate (3 - (lg_sl ([.ref (ad 0), .int x1, .int x2])).length) Slot.unset).toArray = ls at hl ⊢
  have hl : lv_has ls 3 [(0, .ref (ad 0)), (1, .int x1), (2, .int x2)] := hl
  unfold f_isTooYoung at hF
  replace hF : (if (σ.1 (6 + x1.toNatClampNeg) 1) = (0 : Int32) then (0 : Int32) else (if (σ.1 (34 + x2.toNatClampNeg) 0) = (1 : Int32) then (1 : Int32) else (if (f_energyOf σ x2) ≤ (60 : Int32) then (0 : Int32) else (1 : Int32)))) = F := hF
  refine lv_aload_n hx hb dX3_isTooYoung_0 rfl (lv_at hl 0 rfl) ?_
  refine q_getM (v := .ref (ad 1)) X hP 0 (by decide) (hts _ wd11) rfl dX3_isTooYoung_1 ?_
  refine lv_iload_n hx hb dX3_isTooYoung_4 rfl (lv_at hl 1 rfl) ?_
  refine q_aldP X hP hp dX3_isTooYoung_5 ?_
  refine q_getP (v := .int (σ.1 (6 + x1.toNatClampNeg) 1)) X hP x1.toNatClampNeg (ix_lt hp) 1 (by decide) (hts _ wd84) rfl dX3_isTooYoung_6 ?_
  refine lv_if_eq (tgt := 39) hx hb dX3_isTooYoung_9 (by decide) (fun c_9 => ?_) (fun c_9 => ?_)
  · rw [if_pos c_9] at hF
    refine lv_iconst (v := (0 : Int32)) hx hb dX3_isTooYoung_39 (by decide) ?_
    exact W.zret (ty := .boolean) (v := (0 : Int32)) hx hb hr rfl (fun t ht hW => ⟨⟨(0 : Int32), σ, rfl, ⟨hF, rfl⟩, wB_of ht hP⟩, hS.F ht⟩) hS.2.2 dX3_isTooYoung_40
  · rw [if_neg c_9] at hF
    refine lv_aload_n hx hb dX3_isTooYoung_12 rfl (lv_at hl 0 rfl) ?_
    refine q_getM (v := .ref (ad 3)) X hP 2 (by decide) (hts _ wd15) rfl dX3_isTooYoung_13 ?_
    refine lv_iload_n hx hb dX3_isTooYoung_16 rfl (lv_at hl 2 rfl) ?_
    refine q_aldG X hP hg dX3_isTooYoung_17 ?_
    refine q_getG (v := .int (σ.1 (34 + x2.toNatClampNeg) 0)) X hP x2.toNatClampNeg (ix_lt hg) 0 (by decide) (hts _ wd112) rfl dX3_isTooYoung_18 ?_
    refine lv_iconst (v := (1 : Int32)) hx hb dX3_isTooYoung_21 (by decide) ?_
    refine lv_icmp_eq (tgt := 35) hx hb dX3_isTooYoung_22 (by decide) (fun c_22 => ?_) (fun c_22 => ?_)
    · rw [if_pos c_22] at hF
      refine lv_iconst (v := (1 : Int32)) hx hb dX3_isTooYoung_35 (by decide) ?_
      refine lv_goto (tgt := 40) hx hb dX3_isTooYoung_36 (by decide) ?_
      exact W.zret (ty := .boolean) (v := (1 : Int32)) hx hb hr rfl (fun t ht hW => ⟨⟨(1 : Int32), σ, rfl, ⟨hF, rfl⟩, wB_of ht hP⟩, hS.F ht⟩) hS.2.2 dX3_isTooYoung_40
    · rw [if_neg c_22] at hF
      refine lv_aload_n hx hb dX3_isTooYoung_25 rfl (lv_at hl 0 rfl) ?_
      refine lv_iload_n hx hb dX3_isTooYoung_26 rfl (lv_at hl 2 rfl) ?_
      refine k_energyOf X hP hS ⟨Nat.le_of_ble_eq_true rfl, Nat.le_of_ble_eq_true rfl⟩ ⟨Nat.zero_le _, Nat.zero_le _⟩ wd174 hl.1 (Nat.le_of_ble_eq_true rfl) dX3_isTooYoung_27 x2 hwf hg (fun H locs hP hS => ?_)
      refine lv_bipush (v := (60 : Int32)) hx hb dX3_isTooYoung_30 (by decide) ?_
      refine lv_icmp_le (tgt := 39) hx hb dX3_isTooYoung_32 (by decide) (fun c_32 => ?_) (fun c_32 => ?_)
      · rw [if_pos c_32] at hF
        refine lv_iconst (v := (0 : Int32)) hx hb dX3_isTooYoung_39 (by decide) ?_
        exact W.zret (ty := .boolean) (v := (0 : Int32)) hx hb hr rfl (fun t ht hW => ⟨⟨(0 : Int32), σ, rfl, ⟨hF, rfl⟩, wB_of ht hP⟩, hS.F ht⟩) hS.2.2 dX3_isTooYoung_40
      · rw [if_neg c_32] at hF
        refine lv_iconst (v := (1 : Int32)) hx hb dX3_isTooYoung_35 (by decide) ?_
        refine lv_goto (tgt := 40) hx hb dX3_isTooYoung_36 (by decide) ?_
        exact W.zret (ty := .boolean) (v := (1 : Int32)) hx hb hr rfl (fun t ht hW => ⟨⟨(1 : Int32), σ, rfl, ⟨hF, rfl⟩, wB_of ht hP⟩, hS.F ht⟩) hS.2.2 dX3_isTooYoung_40
theorem k_isTooYoung {p : Program} {l : Launch} {e : Env} {R : Room} {s : State} {m : MethodId} {args : Array Value} {below : List Frame} {meth : Method} {c : Code} {H : Heap} {locs : List Loc} {cells slots : Nat} {Q : State → Prop} {cc : ByteArray} {pc : Nat} {ls : Array Slot} {rest : List Value} {D : va_G} {A : Nat → Prop} {ad : Nat → Nat} {ca : Nat → ClassId} {tw nL : Nat} {σ : St} {own : String} {index : Nat} (X : Cx p s m args c own cc nL D ad ca tw A) (hP : va_P D vwCl (wl ad ca σ) H) (hS : va_S A s.heap H locs) (hR : 3 ≤ R.frames ∧ 65 ≤ R.locals) (hcap : cells ≤ R.cells ∧ slots ≤ R.slots) (hlk : Cond.methodLink own index yX3_isTooYoung ∈ wsL_law0) (hsz : ls.size = nL) (hrs : (rest.map fun v => v.category).sum ≤ 8) (hdg : decode cc pc = .ok (.invokevirtual index, 3)) (x1 : Int32) (x2 : Int32) (hwf : WF σ) (hp : vp_in x1 8) (hg : vp_in x2 6)
    (kk : ∀ (H1 : Heap) (locs1 : List Loc), va_P D vwCl (wl ad ca σ) H1 → va_S A s.heap H1 locs1 → W p l e R s m args below meth c H1 locs1 cells slots Q (F0 m (pc + 3) ls (.int (f_isTooYoung σ x1 x2) :: rest))) : W p l e R s m args below meth c H locs cells slots Q (F0 m pc ls (.int x2 :: .int x1 :: .ref (ad 0) :: rest)) := by
  refine q_bi X hS (q_runV (as := [.int x1, .int x2]) X hP hS (q_cwV (rm := ({ frames := 2, cells := 0, slots := 0, locals := 43 } : Room)) (k := 2) X.2.2.2.2.1 hlk wd220 wd221 wd2 wd222 rfl rfl (by decide +kernel) rfl ⟨hR.1, hR.2⟩) (c_isTooYoung l D ad ca tw X.2.2.2.2.2.2.1 σ x1 x2 hwf hp hg) rfl hsz rfl hrs hdg hcap) (fun r u H1 locs1 h1 h2 h3 => ?_)
  obtain ⟨rfl, rfl⟩ := h1
  exact kk H1 locs1 h2 h3
set_option maxHeartbeats 4000000 in
set_option maxRecDepth 100000 in
theorem c_windBars (l : Launch) (D : va_G) (ad : Nat → Nat) (ca : Nat → ClassId) (tw : Nat) (hI : ∀ i j, i < 40 → j < 40 → ad i = ad j → i = j) (σ : St) (x1 : Int32) (hwf : WF σ) (hg : vp_in x1 6) : Met l yX3_windBars (wm yX3_windBars cX3_windBars 2 (some .boolean)) ({ frames := 0, cells := 0, slots := 0, locals := 0 } : Room) (va_Pc [.ref (ad 0), .int x1] (wPre D ad ca tw σ)) (va_Qi (fun r u => r = f_windBars σ x1 ∧ u = σ) (wB D ad ca) (Aw ad)) 0 0 (Aw ad) := by
  generalize hF : f_windBars σ x1 = F
  refine Met.ofW (cc := cX3_windBars) (maxL := 2) (ret := (some .boolean)) (by decide) rfl ?_
  intro p e s m args below meth c s₁ B hml hv
  obtain ⟨rfl, hv⟩ := hv
  have X := q_open (own := RX3) B rfl hml hI hv
  have hx := X.1
  have hb := X.2.1
  have hts := X.2.2.2.2.1
  have hr := B.returns
  have hlocks := B.notSynchronized
  have hP := hv.1
  have hS : va_S (Aw ad) s.heap s.heap [] := va_S.rf
  have hl := lv_entry ([.ref (ad 0), .int x1]) (n := 2) (Nat.le_of_ble_eq_true rfl)
  rw [lg_entry_eq]
  generalize (lg_sl ([.ref (ad 0), .int x1]) ++ List.replicate (2 - (lg_sl ([.ref (ad 0), .int x1])).length) Slot.unset).toArray = ls at hl ⊢
  have hl : lv_has ls 2 [(0, .ref (ad 0)), (1, .int x1)] := hl
  unfold f_windBars at hF
  replace hF : (if (σ.1 0 9) ≤ (wnd (σ.1 (34 + x1.toNatClampNeg) 0).toNatClampNeg) then (0 : Int32) else (1 : Int32)) = F := hF
  refine lv_aload_n hx hb dX3_windBars_0 rfl (lv_at hl 0 rfl) ?_
  refine q_getM (v := .int (σ.1 0 9)) X hP 9 (by decide) (hts _ wd22) rfl dX3_windBars_1 ?_
  refine q_wind X hS (hts _ wd227) dX3_windBars_4 ?_
  refine lv_aload_n hx hb dX3_windBars_7 rfl (lv_at hl 0 rfl) ?_
  refine q_getM (v := .ref (ad 3)) X hP 2 (by decide) (hts _ wd15) rfl dX3_windBars_8 ?_
  refine lv_iload_n hx hb dX3_windBars_11 rfl (lv_at hl 1 rfl) ?_
  refine q_aldG X hP hg dX3_windBars_12 ?_
  refine q_getG (v := .int (σ.1 (34 + x1.toNatClampNeg) 0)) X hP x1.toNatClampNeg (ix_lt hg) 0 (by decide) (hts _ wd112) rfl dX3_windBars_13 ?_
  refine q_wald X hS (WF.gk hwf hg) dX3_windBars_16 ?_
  refine lv_icmp_le (tgt := 24) hx hb dX3_windBars_17 (by decide) (fun c_17 => ?_) (fun c_17 => ?_)
  · rw [if_pos c_17] at hF
    refine lv_iconst (v := (0 : Int32)) hx hb dX3_windBars_24 (by decide) ?_
    exact W.zret (ty := .boolean) (v := (0 : Int32)) hx hb hr rfl (fun t ht hW => ⟨⟨(0 : Int32), σ, rfl, ⟨hF, rfl⟩, wB_of ht hP⟩, hS.F ht⟩) hS.2.2 dX3_windBars_25
  · rw [if_neg c_17] at hF
    refine lv_iconst (v := (1 : Int32)) hx hb dX3_windBars_20 (by decide) ?_
    refine lv_goto (tgt := 25) hx hb dX3_windBars_21 (by decide) ?_
    exact W.zret (ty := .boolean) (v := (1 : Int32)) hx hb hr rfl (fun t ht hW => ⟨⟨(1 : Int32), σ, rfl, ⟨hF, rfl⟩, wB_of ht hP⟩, hS.F ht⟩) hS.2.2 dX3_windBars_25
theorem k_windBars {p : Program} {l : Launch} {e : Env} {R : Room} {s : State} {m : MethodId} {args : Array Value} {below : List Frame} {meth : Method} {c : Code} {H : Heap} {locs : List Loc} {cells slots : Nat} {Q : State → Prop} {cc : ByteArray} {pc : Nat} {ls : Array Slot} {rest : List Value} {D : va_G} {A : Nat → Prop} {ad : Nat → Nat} {ca : Nat → ClassId} {tw nL : Nat} {σ : St} {own : String} {index : Nat} (X : Cx p s m args c own cc nL D ad ca tw A) (hP : va_P D vwCl (wl ad ca σ) H) (hS : va_S A s.heap H locs) (hR : 1 ≤ R.frames ∧ 21 ≤ R.locals) (hcap : cells ≤ R.cells ∧ slots ≤ R.slots) (hlk : Cond.methodLink own index yX3_windBars ∈ wsL_law0) (hsz : ls.size = nL) (hrs : (rest.map fun v => v.category).sum ≤ 8) (hdg : decode cc pc = .ok (.invokevirtual index, 3)) (x1 : Int32) (hwf : WF σ) (hg : vp_in x1 6)
    (kk : ∀ (H1 : Heap) (locs1 : List Loc), va_P D vwCl (wl ad ca σ) H1 → va_S A s.heap H1 locs1 → W p l e R s m args below meth c H1 locs1 cells slots Q (F0 m (pc + 3) ls (.int (f_windBars σ x1) :: rest))) : W p l e R s m args below meth c H locs cells slots Q (F0 m pc ls (.int x1 :: .ref (ad 0) :: rest)) := by
  refine q_bi X hS (q_runV (as := [.int x1]) X hP hS (q_cwV (rm := ({ frames := 0, cells := 0, slots := 0, locals := 0 } : Room)) (k := 1) X.2.2.2.2.1 hlk wd224 wd225 wd2 wd226 rfl rfl (by decide +kernel) rfl ⟨hR.1, hR.2⟩) (c_windBars l D ad ca tw X.2.2.2.2.2.2.1 σ x1 hwf hg) rfl hsz rfl hrs hdg hcap) (fun r u H1 locs1 h1 h2 h3 => ?_)
  obtain ⟨rfl, rfl⟩ := h1
  exact kk H1 locs1 h2 h3
set_option maxHeartbeats 4000000 in
set_option maxRecDepth 100000 in
theorem c_darkBars (l : Launch) (D : va_G) (ad : Nat → Nat) (ca : Nat → ClassId) (tw : Nat) (hI : ∀ i j, i < 40 → j < 40 → ad i = ad j → i = j) (σ : St) (x1 : Int32) (hwf : WF σ) (hg : vp_in x1 6) : Met l yX3_darkBars (wm yX3_darkBars cX3_darkBars 2 (some .boolean)) ({ frames := 0, cells := 0, slots := 0, locals := 0 } : Room) (va_Pc [.ref (ad 0), .int x1] (wPre D ad ca tw σ)) (va_Qi (fun r u => r = f_darkBars σ x1 ∧ u = σ) (wB D ad ca) (Aw ad)) 0 0 (Aw ad) := by
  generalize hF : f_darkBars σ x1 = F
  refine Met.ofW (cc := cX3_darkBars) (maxL := 2) (ret := (some .boolean)) (by decide) rfl ?_
  intro p e s m args below meth c s₁ B hml hv
  obtain ⟨rfl, hv⟩ := hv
  have X := q_open (own := RX3) B rfl hml hI hv
  have hx := X.1
  have hb := X.2.1
  have hts := X.2.2.2.2.1
  have hr := B.returns
  have hlocks := B.notSynchronized
  have hP := hv.1
  have hS : va_S (Aw ad) s.heap s.heap [] := va_S.rf
  have hl := lv_entry ([.ref (ad 0), .int x1]) (n := 2) (Nat.le_of_ble_eq_true rfl)
  rw [lg_entry_eq]
  generalize (lg_sl ([.ref (ad 0), .int x1]) ++ List.replicate (2 - (lg_sl ([.ref (ad 0), .int x1])).length) Slot.unset).toArray = ls at hl ⊢
  have hl : lv_has ls 2 [(0, .ref (ad 0)), (1, .int x1)] := hl
  unfold f_darkBars at hF
  replace hF : (if (σ.1 0 10) = (0 : Int32) then (if (σ.1 (34 + x1.toNatClampNeg) 0) = (1 : Int32) then (0 : Int32) else (1 : Int32)) else (0 : Int32)) = F := hF
  refine lv_aload_n hx hb dX3_darkBars_0 rfl (lv_at hl 0 rfl) ?_
  refine q_getM (v := .int (σ.1 0 10)) X hP 10 (by decide) (hts _ wd23) rfl dX3_darkBars_1 ?_
  refine lv_if_ne (tgt := 24) hx hb dX3_darkBars_4 (by decide) (fun c_4 => ?_) (fun c_4 => ?_)
  · rw [if_neg c_4] at hF
    refine lv_iconst (v := (0 : Int32)) hx hb dX3_darkBars_24 (by decide) ?_
    exact W.zret (ty := .boolean) (v := (0 : Int32)) hx hb hr rfl (fun t ht hW => ⟨⟨(0 : Int32), σ, rfl, ⟨hF, rfl⟩, wB_of ht hP⟩, hS.F ht⟩) hS.2.2 dX3_darkBars_25
  · rw [if_pos c_4] at hF
    refine lv_aload_n hx hb dX3_darkBars_7 rfl (lv_at hl 0 rfl) ?_
    refine q_getM (v := .ref (ad 3)) X hP 2 (by decide) (hts _ wd15) rfl dX3_darkBars_8 ?_
    refine lv_iload_n hx hb dX3_darkBars_11 rfl (lv_at hl 1 rfl) ?_
    refine q_aldG X hP hg dX3_darkBars_12 ?_
    refine q_getG (v := .int (σ.1 (34 + x1.toNatClampNeg) 0)) X hP x1.toNatClampNeg (ix_lt hg) 0 (by decide) (hts _ wd112) rfl dX3_darkBars_13 ?_
    refine lv_iconst (v := (1 : Int32)) hx hb dX3_darkBars_16 (by decide) ?_
    refine lv_icmp_eq (tgt := 24) hx hb dX3_darkBars_17 (by decide) (fun c_17 => ?_) (fun c_17 => ?_)
    · rw [if_pos c_17] at hF
      refine lv_iconst (v := (0 : Int32)) hx hb dX3_darkBars_24 (by decide) ?_
      exact W.zret (ty := .boolean) (v := (0 : Int32)) hx hb hr rfl (fun t ht hW => ⟨⟨(0 : Int32), σ, rfl, ⟨hF, rfl⟩, wB_of ht hP⟩, hS.F ht⟩) hS.2.2 dX3_darkBars_25
    · rw [if_neg c_17] at hF
      refine lv_iconst (v := (1 : Int32)) hx hb dX3_darkBars_20 (by decide) ?_
      refine lv_goto (tgt := 25) hx hb dX3_darkBars_21 (by decide) ?_
      exact W.zret (ty := .boolean) (v := (1 : Int32)) hx hb hr rfl (fun t ht hW => ⟨⟨(1 : Int32), σ, rfl, ⟨hF, rfl⟩, wB_of ht hP⟩, hS.F ht⟩) hS.2.2 dX3_darkBars_25
theorem k_darkBars {p : Program} {l : Launch} {e : Env} {R : Room} {s : State} {m : MethodId} {args : Array Value} {below : List Frame} {meth : Method} {c : Code} {H : Heap} {locs : List Loc} {cells slots : Nat} {Q : State → Prop} {cc : ByteArray} {pc : Nat} {ls : Array Slot} {rest : List Value} {D : va_G} {A : Nat → Prop} {ad : Nat → Nat} {ca : Nat → ClassId} {tw nL : Nat} {σ : St} {own : String} {index : Nat} (X : Cx p s m args c own cc nL D ad ca tw A) (hP : va_P D vwCl (wl ad ca σ) H) (hS : va_S A s.heap H locs) (hR : 1 ≤ R.frames ∧ 21 ≤ R.locals) (hcap : cells ≤ R.cells ∧ slots ≤ R.slots) (hlk : Cond.methodLink own index yX3_darkBars ∈ wsL_law0) (hsz : ls.size = nL) (hrs : (rest.map fun v => v.category).sum ≤ 8) (hdg : decode cc pc = .ok (.invokevirtual index, 3)) (x1 : Int32) (hwf : WF σ) (hg : vp_in x1 6)
    (kk : ∀ (H1 : Heap) (locs1 : List Loc), va_P D vwCl (wl ad ca σ) H1 → va_S A s.heap H1 locs1 → W p l e R s m args below meth c H1 locs1 cells slots Q (F0 m (pc + 3) ls (.int (f_darkBars σ x1) :: rest))) : W p l e R s m args below meth c H locs cells slots Q (F0 m pc ls (.int x1 :: .ref (ad 0) :: rest)) := by
  refine q_bi X hS (q_runV (as := [.int x1]) X hP hS (q_cwV (rm := ({ frames := 0, cells := 0, slots := 0, locals := 0 } : Room)) (k := 1) X.2.2.2.2.1 hlk wd229 wd230 wd2 wd231 rfl rfl (by decide +kernel) rfl ⟨hR.1, hR.2⟩) (c_darkBars l D ad ca tw X.2.2.2.2.2.2.1 σ x1 hwf hg) rfl hsz rfl hrs hdg hcap) (fun r u H1 locs1 h1 h2 h3 => ?_)
  obtain ⟨rfl, rfl⟩ := h1
  exact kk H1 locs1 h2 h3
set_option maxHeartbeats 4000000 in
set_option maxRecDepth 100000 in
theorem c_hasMedicAtHand (l : Launch) (D : va_G) (ad : Nat → Nat) (ca : Nat → ClassId) (tw : Nat) (hI : ∀ i j, i < 40 → j < 40 → ad i = ad j → i = j) (σ : St) (x1 : Int32) (hwf : WF σ) (hg : vp_in x1 6) : Met l yX3_hasMedicAtHand (wm yX3_hasMedicAtHand cX3_hasMedicAtHand 4 (some .boolean)) ({ frames := 3, cells := 0, slots := 0, locals := 64 } : Room) (va_Pc [.ref (ad 0), .int x1] (wPre D ad ca tw σ)) (va_Qi (fun r u => r = f_hasMedicAtHand σ x1 ∧ u = σ) (wB D ad ca) (Aw ad)) 0 0 (Aw ad) := by
  generalize hF : f_hasMedicAtHand σ x1 = F
  refine Met.ofW (cc := cX3_hasMedicAtHand) (maxL := 4) (ret := (some .boolean)) (by decide) rfl ?_
  intro p e s m args below meth c s₁ B hml hv
  obtain ⟨rfl, hv⟩ := hv
  have X := q_open (own := RX3) B rfl hml hI hv
  have hx := X.1
  have hb := X.2.1
  have hts := X.2.2.2.2.1
  have hr := B.returns
  have hlocks := B.notSynchronized
  have hP := hv.1
  have hS : va_S (Aw ad) s.heap s.heap [] := va_S.rf
  have hl := lv_entry ([.ref (ad 0), .int x1]) (n := 4) (Nat.le_of_ble_eq_true rfl)
  rw [lg_entry_eq]
  generalize (lg_sl ([.ref (ad 0), .int x1]) ++ List.replicate (4 - (lg_sl ([.ref (ad 0), .int x1])).length) Slot.unset).toArray = ls at hl ⊢
  have hl : lv_has ls 4 [(0, .ref (ad 0)), (1, .int x1)] := hl
  unfold f_hasMedicAtHand at hF
  replace hF : (f_hasMedicAtHand_L8 σ x1 128 (0 : Int32)) = F := hF
  refine lv_aload_n hx hb dX3_hasMedicAtHand_0 rfl (lv_at hl 0 rfl) ?_
  refine lv_iload_n hx hb dX3_hasMedicAtHand_1 rfl (lv_at hl 1 rfl) ?_
  refine k_ringOf X hP hS ⟨Nat.le_of_ble_eq_true rfl, Nat.le_of_ble_eq_true rfl⟩ ⟨Nat.zero_le _, Nat.zero_le _⟩ wd108 hl.1 (Nat.le_of_ble_eq_true rfl) dX3_hasMedicAtHand_2 x1 hwf hg (fun H locs hP hS => ?_)
  refine lv_istore_n (lv' := [(2, .int (f_ringOf σ x1)), (0, .ref (ad 0)), (1, .int x1)]) hx hb dX3_hasMedicAtHand_5 rfl hl (by decide) rfl (fun ls hl => ?_)
  refine lv_iconst (v := (0 : Int32)) hx hb dX3_hasMedicAtHand_6 (by decide) ?_
  refine lv_istore_n (lv' := [(3, .int (0 : Int32)), (2, .int (f_ringOf σ x1)), (0, .ref (ad 0)), (1, .int x1)]) hx hb dX3_hasMedicAtHand_7 rfl hl (by decide) rfl (fun ls hl => ?_)
  have L_8 : ∀ (n_8 : Nat) (y3_8 : Int32) (H : Heap) (locs : List Loc) (ls : Array Slot), lpI 8 y3_8 n_8 → va_P D vwCl (wl ad ca σ) H → va_S (Aw ad) s.heap H locs → lv_has ls 4 [(3, .int y3_8), (2, .int (f_ringOf σ x1)), (0, .ref (ad 0)), (1, .int x1)] → f_hasMedicAtHand_L8 σ x1 (n_8) y3_8 = F → W p l e (headSpec (wm yX3_hasMedicAtHand cX3_hasMedicAtHand 4 (some .boolean)) ({ frames := 3, cells := 0, slots := 0, locals := 64 } : Room)).room s m ([.ref (ad 0), .int x1] : List Value).toArray below meth c H locs 0 0 (MQ below (va_Qi (fun r u => r = F ∧ u = σ) (wB D ad ca) (Aw ad)) ([.ref (ad 0), .int x1] : List Value).toArray s 0 0 (Aw ad)) (F0 m 8 ls []) := by
    intro n_8
    induction n_8 with
    | zero => intro y3_8 H locs ls hi_8 _ _ _ _; exact absurd hi_8 (fun h => lp_0 h)
    | succ n_8 ih_8 =>
      intro y3_8 H locs ls hi_8 hP hS hl hF
      rw [f_hasMedicAtHand_L8] at hF
      refine lv_iload_n hx hb dX3_hasMedicAtHand_8 rfl (lv_at hl 0 rfl) ?_
      refine lv_aload_n hx hb dX3_hasMedicAtHand_9 rfl (lv_at hl 2 rfl) ?_
      refine q_getM (v := .int (σ.1 0 3)) X hP 3 (by decide) (hts _ wd16) rfl dX3_hasMedicAtHand_10 ?_
      refine lv_icmp_ge (tgt := 71) hx hb dX3_hasMedicAtHand_13 (by decide) (fun c_13 => ?_) (fun c_13 => ?_)
      · rw [if_pos c_13] at hF
        refine lv_iconst (v := (0 : Int32)) hx hb dX3_hasMedicAtHand_71 (by decide) ?_
        exact W.zret (ty := .boolean) (v := (0 : Int32)) hx hb hr rfl (fun t ht hW => ⟨⟨(0 : Int32), σ, rfl, ⟨hF, rfl⟩, wB_of ht hP⟩, hS.F ht⟩) hS.2.2 dX3_hasMedicAtHand_72
      · have hlt_8 : y3_8.toInt < 8 := lt_nle c_13 hwf.1.2
        rw [if_neg c_13] at hF
        refine lv_iload_n hx hb dX3_hasMedicAtHand_16 rfl (lv_at hl 0 rfl) ?_
        refine lv_aload_n hx hb dX3_hasMedicAtHand_17 rfl (lv_at hl 2 rfl) ?_
        refine q_getM (v := .ref (ad 3)) X hP 2 (by decide) (hts _ wd15) rfl dX3_hasMedicAtHand_18 ?_
        refine lv_iload_n hx hb dX3_hasMedicAtHand_21 rfl (lv_at hl 3 rfl) ?_
        refine q_aldG X hP hg dX3_hasMedicAtHand_22 ?_
        refine q_getG (v := .int (σ.1 (34 + x1.toNatClampNeg) 1)) X hP x1.toNatClampNeg (ix_lt hg) 1 (by decide) (hts _ wd98) rfl dX3_hasMedicAtHand_23 ?_
        refine lv_icmp_eq (tgt := 65) hx hb dX3_hasMedicAtHand_26 (by decide) (fun c_26 => ?_) (fun c_26 => ?_)
        · rw [if_pos c_26] at hF
          refine lv_iinc (v := (y3_8 + (1 : Int32))) (lv' := [(3, .int (y3_8 + (1 : Int32))), (2, .int (f_ringOf σ x1)), (0, .ref (ad 0)), (1, .int x1)]) hx hb dX3_hasMedicAtHand_65 hl (k := 0) rfl rfl (by decide) rfl (fun ls hl => ?_)
          refine lv_goto (tgt := 8) hx hb dX3_hasMedicAtHand_68 (by decide) ?_
          exact ih_8 (y3_8 + (1 : Int32)) _ _ _ (lp_s hi_8 hlt_8) hP hS (lv_sub hl [0, 1, 2, 3] rfl) hF
        · rw [if_neg c_26] at hF
          refine lv_aload_n hx hb dX3_hasMedicAtHand_29 rfl (lv_at hl 2 rfl) ?_
          refine lv_iload_n hx hb dX3_hasMedicAtHand_30 rfl (lv_at hl 0 rfl) ?_
          refine lv_iload_n hx hb dX3_hasMedicAtHand_31 rfl (lv_at hl 3 rfl) ?_
          refine k_isReadyMedic X hP hS ⟨Nat.le_of_ble_eq_true rfl, Nat.le_of_ble_eq_true rfl⟩ ⟨Nat.zero_le _, Nat.zero_le _⟩ wd236 hl.1 (Nat.le_of_ble_eq_true rfl) dX3_hasMedicAtHand_32 y3_8 x1 hwf (lp_i hi_8 hlt_8) hg (fun H locs hP hS => ?_)
          refine lv_if_eq (tgt := 65) hx hb dX3_hasMedicAtHand_35 (by decide) (fun c_35 => ?_) (fun c_35 => ?_)
          · rw [if_pos c_35] at hF
            refine lv_iinc (v := (y3_8 + (1 : Int32))) (lv' := [(3, .int (y3_8 + (1 : Int32))), (2, .int (f_ringOf σ x1)), (0, .ref (ad 0)), (1, .int x1)]) hx hb dX3_hasMedicAtHand_65 hl (k := 0) rfl rfl (by decide) rfl (fun ls hl => ?_)
            refine lv_goto (tgt := 8) hx hb dX3_hasMedicAtHand_68 (by decide) ?_
            exact ih_8 (y3_8 + (1 : Int32)) _ _ _ (lp_s hi_8 hlt_8) hP hS (lv_sub hl [0, 1, 2, 3] rfl) hF
          · rw [if_neg c_35] at hF
            refine lv_aload_n hx hb dX3_hasMedicAtHand_38 rfl (lv_at hl 2 rfl) ?_
            refine q_getM (v := .ref (ad 1)) X hP 0 (by decide) (hts _ wd11) rfl dX3_hasMedicAtHand_39 ?_
            refine lv_iload_n hx hb dX3_hasMedicAtHand_42 rfl (lv_at hl 0 rfl) ?_
            refine q_aldP X hP (lp_i hi_8 hlt_8) dX3_hasMedicAtHand_43 ?_
            refine q_getP (v := .int (σ.1 (6 + y3_8.toNatClampNeg) 5)) X hP y3_8.toNatClampNeg (ix_lt (lp_i hi_8 hlt_8)) 5 (by decide) (hts _ wd99) rfl dX3_hasMedicAtHand_44 ?_
            refine lv_aload_n hx hb dX3_hasMedicAtHand_47 rfl (lv_at hl 2 rfl) ?_
            refine q_getM (v := .ref (ad 3)) X hP 2 (by decide) (hts _ wd15) rfl dX3_hasMedicAtHand_48 ?_
            refine lv_iload_n hx hb dX3_hasMedicAtHand_51 rfl (lv_at hl 3 rfl) ?_
            refine q_aldG X hP hg dX3_hasMedicAtHand_52 ?_
            refine q_getG (v := .int (σ.1 (34 + x1.toNatClampNeg) 2)) X hP x1.toNatClampNeg (ix_lt hg) 2 (by decide) (hts _ wd100) rfl dX3_hasMedicAtHand_53 ?_
            refine k_distance X hP hS ⟨Nat.le_of_ble_eq_true rfl, Nat.le_of_ble_eq_true rfl⟩ ⟨Nat.zero_le _, Nat.zero_le _⟩ wd101 hl.1 (Nat.le_of_ble_eq_true rfl) dX3_hasMedicAtHand_56 (σ.1 (6 + y3_8.toNatClampNeg) 5) (σ.1 (34 + x1.toNatClampNeg) 2) hwf  (fun H locs hP hS => ?_)
            refine lv_iload_n hx hb dX3_hasMedicAtHand_59 rfl (lv_at hl 1 rfl) ?_
            refine lv_icmp_le (tgt := 65) hx hb dX3_hasMedicAtHand_60 (by decide) (fun c_60 => ?_) (fun c_60 => ?_)
            · rw [if_pos c_60] at hF
              refine lv_iinc (v := (y3_8 + (1 : Int32))) (lv' := [(3, .int (y3_8 + (1 : Int32))), (2, .int (f_ringOf σ x1)), (0, .ref (ad 0)), (1, .int x1)]) hx hb dX3_hasMedicAtHand_65 hl (k := 0) rfl rfl (by decide) rfl (fun ls hl => ?_)
              refine lv_goto (tgt := 8) hx hb dX3_hasMedicAtHand_68 (by decide) ?_
              exact ih_8 (y3_8 + (1 : Int32)) _ _ _ (lp_s hi_8 hlt_8) hP hS (lv_sub hl [0, 1, 2, 3] rfl) hF
            · rw [if_neg c_60] at hF
              refine lv_iconst (v := (1 : Int32)) hx hb dX3_hasMedicAtHand_63 (by decide) ?_
              exact W.zret (ty := .boolean) (v := (1 : Int32)) hx hb hr rfl (fun t ht hW => ⟨⟨(1 : Int32), σ, rfl, ⟨hF, rfl⟩, wB_of ht hP⟩, hS.F ht⟩) hS.2.2 dX3_hasMedicAtHand_64
  exact L_8 128 (0 : Int32) _ _ _ (lp_z (by decide)) hP hS hl hF
theorem k_hasMedicAtHand {p : Program} {l : Launch} {e : Env} {R : Room} {s : State} {m : MethodId} {args : Array Value} {below : List Frame} {meth : Method} {c : Code} {H : Heap} {locs : List Loc} {cells slots : Nat} {Q : State → Prop} {cc : ByteArray} {pc : Nat} {ls : Array Slot} {rest : List Value} {D : va_G} {A : Nat → Prop} {ad : Nat → Nat} {ca : Nat → ClassId} {tw nL : Nat} {σ : St} {own : String} {index : Nat} (X : Cx p s m args c own cc nL D ad ca tw A) (hP : va_P D vwCl (wl ad ca σ) H) (hS : va_S A s.heap H locs) (hR : 4 ≤ R.frames ∧ 87 ≤ R.locals) (hcap : cells ≤ R.cells ∧ slots ≤ R.slots) (hlk : Cond.methodLink own index yX3_hasMedicAtHand ∈ wsL_law0) (hsz : ls.size = nL) (hrs : (rest.map fun v => v.category).sum ≤ 8) (hdg : decode cc pc = .ok (.invokevirtual index, 3)) (x1 : Int32) (hwf : WF σ) (hg : vp_in x1 6)
    (kk : ∀ (H1 : Heap) (locs1 : List Loc), va_P D vwCl (wl ad ca σ) H1 → va_S A s.heap H1 locs1 → W p l e R s m args below meth c H1 locs1 cells slots Q (F0 m (pc + 3) ls (.int (f_hasMedicAtHand σ x1) :: rest))) : W p l e R s m args below meth c H locs cells slots Q (F0 m pc ls (.int x1 :: .ref (ad 0) :: rest)) := by
  refine q_bi X hS (q_runV (as := [.int x1]) X hP hS (q_cwV (rm := ({ frames := 3, cells := 0, slots := 0, locals := 64 } : Room)) (k := 1) X.2.2.2.2.1 hlk wd233 wd234 wd2 wd235 rfl rfl (by decide +kernel) rfl ⟨hR.1, hR.2⟩) (c_hasMedicAtHand l D ad ca tw X.2.2.2.2.2.2.1 σ x1 hwf hg) rfl hsz rfl hrs hdg hcap) (fun r u H1 locs1 h1 h2 h3 => ?_)
  obtain ⟨rfl, rfl⟩ := h1
  exact kk H1 locs1 h2 h3
set_option maxHeartbeats 4000000 in
set_option maxRecDepth 100000 in
theorem c_isNearArmed (l : Launch) (D : va_G) (ad : Nat → Nat) (ca : Nat → ClassId) (tw : Nat) (hI : ∀ i j, i < 40 → j < 40 → ad i = ad j → i = j) (σ : St) (x1 : Int32) (hwf : WF σ) (hg : vp_in x1 6) : Met l yX3_isNearArmed (wm yX3_isNearArmed cX3_isNearArmed 3 (some .boolean)) ({ frames := 2, cells := 0, slots := 0, locals := 43 } : Room) (va_Pc [.ref (ad 0), .int x1] (wPre D ad ca tw σ)) (va_Qi (fun r u => r = f_isNearArmed σ x1 ∧ u = σ) (wB D ad ca) (Aw ad)) 0 0 (Aw ad) := by
  generalize hF : f_isNearArmed σ x1 = F
  refine Met.ofW (cc := cX3_isNearArmed) (maxL := 3) (ret := (some .boolean)) (by decide) rfl ?_
  intro p e s m args below meth c s₁ B hml hv
  obtain ⟨rfl, hv⟩ := hv
  have X := q_open (own := RX3) B rfl hml hI hv
  have hx := X.1
  have hb := X.2.1
  have hts := X.2.2.2.2.1
  have hr := B.returns
  have hlocks := B.notSynchronized
  have hP := hv.1
  have hS : va_S (Aw ad) s.heap s.heap [] := va_S.rf
  have hl := lv_entry ([.ref (ad 0), .int x1]) (n := 3) (Nat.le_of_ble_eq_true rfl)
  rw [lg_entry_eq]
  generalize (lg_sl ([.ref (ad 0), .int x1]) ++ List.replicate (3 - (lg_sl ([.ref (ad 0), .int x1])).length) Slot.unset).toArray = ls at hl ⊢
  have hl : lv_has ls 3 [(0, .ref (ad 0)), (1, .int x1)] := hl
  unfold f_isNearArmed at hF
  replace hF : (f_isNearArmed_L2 σ x1 128 (0 : Int32)) = F := hF
  refine lv_iconst (v := (0 : Int32)) hx hb dX3_isNearArmed_0 (by decide) ?_
  refine lv_istore_n (lv' := [(2, .int (0 : Int32)), (0, .ref (ad 0)), (1, .int x1)]) hx hb dX3_isNearArmed_1 rfl hl (by decide) rfl (fun ls hl => ?_)
  have L_2 : ∀ (n_2 : Nat) (y2_2 : Int32) (H : Heap) (locs : List Loc) (ls : Array Slot), lpI 6 y2_2 n_2 → va_P D vwCl (wl ad ca σ) H → va_S (Aw ad) s.heap H locs → lv_has ls 3 [(2, .int y2_2), (0, .ref (ad 0)), (1, .int x1)] → f_isNearArmed_L2 σ x1 (n_2) y2_2 = F → W p l e (headSpec (wm yX3_isNearArmed cX3_isNearArmed 3 (some .boolean)) ({ frames := 2, cells := 0, slots := 0, locals := 43 } : Room)).room s m ([.ref (ad 0), .int x1] : List Value).toArray below meth c H locs 0 0 (MQ below (va_Qi (fun r u => r = F ∧ u = σ) (wB D ad ca) (Aw ad)) ([.ref (ad 0), .int x1] : List Value).toArray s 0 0 (Aw ad)) (F0 m 2 ls []) := by
    intro n_2
    induction n_2 with
    | zero => intro y2_2 H locs ls hi_2 _ _ _ _; exact absurd hi_2 (fun h => lp_0 h)
    | succ n_2 ih_2 =>
      intro y2_2 H locs ls hi_2 hP hS hl hF
      rw [f_isNearArmed_L2] at hF
      refine lv_iload_n hx hb dX3_isNearArmed_2 rfl (lv_at hl 0 rfl) ?_
      refine lv_aload_n hx hb dX3_isNearArmed_3 rfl (lv_at hl 1 rfl) ?_
      refine q_getM (v := .int (σ.1 0 5)) X hP 5 (by decide) (hts _ wd18) rfl dX3_isNearArmed_4 ?_
      refine lv_icmp_ge (tgt := 70) hx hb dX3_isNearArmed_7 (by decide) (fun c_7 => ?_) (fun c_7 => ?_)
      · rw [if_pos c_7] at hF
        refine lv_iconst (v := (0 : Int32)) hx hb dX3_isNearArmed_70 (by decide) ?_
        exact W.zret (ty := .boolean) (v := (0 : Int32)) hx hb hr rfl (fun t ht hW => ⟨⟨(0 : Int32), σ, rfl, ⟨hF, rfl⟩, wB_of ht hP⟩, hS.F ht⟩) hS.2.2 dX3_isNearArmed_71
      · have hlt_2 : y2_2.toInt < 6 := lt_nle c_7 hwf.2.2.1.2
        rw [if_neg c_7] at hF
        refine lv_iload_n hx hb dX3_isNearArmed_10 rfl (lv_at hl 0 rfl) ?_
        refine lv_iload_n hx hb dX3_isNearArmed_11 rfl (lv_at hl 2 rfl) ?_
        refine lv_icmp_eq (tgt := 64) hx hb dX3_isNearArmed_12 (by decide) (fun c_12 => ?_) (fun c_12 => ?_)
        · rw [if_pos c_12] at hF
          refine lv_iinc (v := (y2_2 + (1 : Int32))) (lv' := [(2, .int (y2_2 + (1 : Int32))), (0, .ref (ad 0)), (1, .int x1)]) hx hb dX3_isNearArmed_64 hl (k := 0) rfl rfl (by decide) rfl (fun ls hl => ?_)
          refine lv_goto (tgt := 2) hx hb dX3_isNearArmed_67 (by decide) ?_
          exact ih_2 (y2_2 + (1 : Int32)) _ _ _ (lp_s hi_2 hlt_2) hP hS (lv_sub hl [0, 1, 2] rfl) hF
        · rw [if_neg c_12] at hF
          refine lv_aload_n hx hb dX3_isNearArmed_15 rfl (lv_at hl 1 rfl) ?_
          refine q_getM (v := .ref (ad 3)) X hP 2 (by decide) (hts _ wd15) rfl dX3_isNearArmed_16 ?_
          refine lv_iload_n hx hb dX3_isNearArmed_19 rfl (lv_at hl 0 rfl) ?_
          refine q_aldG X hP (lp_i hi_2 hlt_2) dX3_isNearArmed_20 ?_
          refine q_getG (v := .int (σ.1 (34 + y2_2.toNatClampNeg) 8)) X hP y2_2.toNatClampNeg (ix_lt (lp_i hi_2 hlt_2)) 8 (by decide) (hts _ wd122) rfl dX3_isNearArmed_21 ?_
          refine lv_if_eq (tgt := 64) hx hb dX3_isNearArmed_24 (by decide) (fun c_24 => ?_) (fun c_24 => ?_)
          · rw [if_pos c_24] at hF
            refine lv_iinc (v := (y2_2 + (1 : Int32))) (lv' := [(2, .int (y2_2 + (1 : Int32))), (0, .ref (ad 0)), (1, .int x1)]) hx hb dX3_isNearArmed_64 hl (k := 0) rfl rfl (by decide) rfl (fun ls hl => ?_)
            refine lv_goto (tgt := 2) hx hb dX3_isNearArmed_67 (by decide) ?_
            exact ih_2 (y2_2 + (1 : Int32)) _ _ _ (lp_s hi_2 hlt_2) hP hS (lv_sub hl [0, 1, 2] rfl) hF
          · rw [if_neg c_24] at hF
            refine lv_aload_n hx hb dX3_isNearArmed_27 rfl (lv_at hl 1 rfl) ?_
            refine q_getM (v := .ref (ad 3)) X hP 2 (by decide) (hts _ wd15) rfl dX3_isNearArmed_28 ?_
            refine lv_iload_n hx hb dX3_isNearArmed_31 rfl (lv_at hl 0 rfl) ?_
            refine q_aldG X hP (lp_i hi_2 hlt_2) dX3_isNearArmed_32 ?_
            refine q_getG (v := .int (σ.1 (34 + y2_2.toNatClampNeg) 2)) X hP y2_2.toNatClampNeg (ix_lt (lp_i hi_2 hlt_2)) 2 (by decide) (hts _ wd100) rfl dX3_isNearArmed_33 ?_
            refine lv_aload_n hx hb dX3_isNearArmed_36 rfl (lv_at hl 1 rfl) ?_
            refine q_getM (v := .ref (ad 3)) X hP 2 (by decide) (hts _ wd15) rfl dX3_isNearArmed_37 ?_
            refine lv_iload_n hx hb dX3_isNearArmed_40 rfl (lv_at hl 2 rfl) ?_
            refine q_aldG X hP hg dX3_isNearArmed_41 ?_
            refine q_getG (v := .int (σ.1 (34 + x1.toNatClampNeg) 2)) X hP x1.toNatClampNeg (ix_lt hg) 2 (by decide) (hts _ wd100) rfl dX3_isNearArmed_42 ?_
            refine k_distance X hP hS ⟨Nat.le_of_ble_eq_true rfl, Nat.le_of_ble_eq_true rfl⟩ ⟨Nat.zero_le _, Nat.zero_le _⟩ wd101 hl.1 (Nat.le_of_ble_eq_true rfl) dX3_isNearArmed_45 (σ.1 (34 + y2_2.toNatClampNeg) 2) (σ.1 (34 + x1.toNatClampNeg) 2) hwf  (fun H locs hP hS => ?_)
            refine lv_aload_n hx hb dX3_isNearArmed_48 rfl (lv_at hl 1 rfl) ?_
            refine lv_iload_n hx hb dX3_isNearArmed_49 rfl (lv_at hl 0 rfl) ?_
            refine k_ringOf X hP hS ⟨Nat.le_of_ble_eq_true rfl, Nat.le_of_ble_eq_true rfl⟩ ⟨Nat.zero_le _, Nat.zero_le _⟩ wd108 hl.1 (Nat.le_of_ble_eq_true rfl) dX3_isNearArmed_50 y2_2 hwf (lp_i hi_2 hlt_2) (fun H locs hP hS => ?_)
            refine lv_aload_n hx hb dX3_isNearArmed_53 rfl (lv_at hl 1 rfl) ?_
            refine lv_iload_n hx hb dX3_isNearArmed_54 rfl (lv_at hl 2 rfl) ?_
            refine k_ringOf X hP hS ⟨Nat.le_of_ble_eq_true rfl, Nat.le_of_ble_eq_true rfl⟩ ⟨Nat.zero_le _, Nat.zero_le _⟩ wd108 hl.1 (Nat.le_of_ble_eq_true rfl) dX3_isNearArmed_55 x1 hwf hg (fun H locs hP hS => ?_)
            refine lv_iadd hx hb dX3_isNearArmed_58 ?_
            refine lv_icmp_gt (tgt := 64) hx hb dX3_isNearArmed_59 (by decide) (fun c_59 => ?_) (fun c_59 => ?_)
            · rw [if_pos c_59] at hF
              refine lv_iinc (v := (y2_2 + (1 : Int32))) (lv' := [(2, .int (y2_2 + (1 : Int32))), (0, .ref (ad 0)), (1, .int x1)]) hx hb dX3_isNearArmed_64 hl (k := 0) rfl rfl (by decide) rfl (fun ls hl => ?_)
              refine lv_goto (tgt := 2) hx hb dX3_isNearArmed_67 (by decide) ?_
              exact ih_2 (y2_2 + (1 : Int32)) _ _ _ (lp_s hi_2 hlt_2) hP hS (lv_sub hl [0, 1, 2] rfl) hF
            · rw [if_neg c_59] at hF
              refine lv_iconst (v := (1 : Int32)) hx hb dX3_isNearArmed_62 (by decide) ?_
              exact W.zret (ty := .boolean) (v := (1 : Int32)) hx hb hr rfl (fun t ht hW => ⟨⟨(1 : Int32), σ, rfl, ⟨hF, rfl⟩, wB_of ht hP⟩, hS.F ht⟩) hS.2.2 dX3_isNearArmed_63
  exact L_2 128 (0 : Int32) _ _ _ (lp_z (by decide)) hP hS hl hF
theorem k_isNearArmed {p : Program} {l : Launch} {e : Env} {R : Room} {s : State} {m : MethodId} {args : Array Value} {below : List Frame} {meth : Method} {c : Code} {H : Heap} {locs : List Loc} {cells slots : Nat} {Q : State → Prop} {cc : ByteArray} {pc : Nat} {ls : Array Slot} {rest : List Value} {D : va_G} {A : Nat → Prop} {ad : Nat → Nat} {ca : Nat → ClassId} {tw nL : Nat} {σ : St} {own : String} {index : Nat} (X : Cx p s m args c own cc nL D ad ca tw A) (hP : va_P D vwCl (wl ad ca σ) H) (hS : va_S A s.heap H locs) (hR : 3 ≤ R.frames ∧ 65 ≤ R.locals) (hcap : cells ≤ R.cells ∧ slots ≤ R.slots) (hlk : Cond.methodLink own index yX3_isNearArmed ∈ wsL_law0) (hsz : ls.size = nL) (hrs : (rest.map fun v => v.category).sum ≤ 8) (hdg : decode cc pc = .ok (.invokevirtual index, 3)) (x1 : Int32) (hwf : WF σ) (hg : vp_in x1 6)
    (kk : ∀ (H1 : Heap) (locs1 : List Loc), va_P D vwCl (wl ad ca σ) H1 → va_S A s.heap H1 locs1 → W p l e R s m args below meth c H1 locs1 cells slots Q (F0 m (pc + 3) ls (.int (f_isNearArmed σ x1) :: rest))) : W p l e R s m args below meth c H locs cells slots Q (F0 m pc ls (.int x1 :: .ref (ad 0) :: rest)) := by
  refine q_bi X hS (q_runV (as := [.int x1]) X hP hS (q_cwV (rm := ({ frames := 2, cells := 0, slots := 0, locals := 43 } : Room)) (k := 1) X.2.2.2.2.1 hlk wd241 wd242 wd2 wd243 rfl rfl (by decide +kernel) rfl ⟨hR.1, hR.2⟩) (c_isNearArmed l D ad ca tw X.2.2.2.2.2.2.1 σ x1 hwf hg) rfl hsz rfl hrs hdg hcap) (fun r u H1 locs1 h1 h2 h3 => ?_)
  obtain ⟨rfl, rfl⟩ := h1
  exact kk H1 locs1 h2 h3
set_option maxHeartbeats 4000000 in
set_option maxRecDepth 100000 in
theorem c_whatBars (l : Launch) (D : va_G) (ad : Nat → Nat) (ca : Nat → ClassId) (tw : Nat) (hI : ∀ i j, i < 40 → j < 40 → ad i = ad j → i = j) (σ : St) (x1 : Int32) (hwf : WF σ) (hg : vp_in x1 6) : Met l yX3_whatBars (wm yX3_whatBars cX3_whatBars 2 (some .int)) ({ frames := 4, cells := 0, slots := 0, locals := 88 } : Room) (va_Pc [.ref (ad 0), .int x1] (wPre D ad ca tw σ)) (va_Qi (fun r u => r = f_whatBars σ x1 ∧ u = σ) (wB D ad ca) (Aw ad)) 0 0 (Aw ad) := by
  generalize hF : f_whatBars σ x1 = F
  refine Met.ofW (cc := cX3_whatBars) (maxL := 2) (ret := (some .int)) (by decide) rfl ?_
  intro p e s m args below meth c s₁ B hml hv
  obtain ⟨rfl, hv⟩ := hv
  have X := q_open (own := RX3) B rfl hml hI hv
  have hx := X.1
  have hb := X.2.1
  have hts := X.2.2.2.2.1
  have hr := B.returns
  have hlocks := B.notSynchronized
  have hP := hv.1
  have hS : va_S (Aw ad) s.heap s.heap [] := va_S.rf
  have hl := lv_entry ([.ref (ad 0), .int x1]) (n := 2) (Nat.le_of_ble_eq_true rfl)
  rw [lg_entry_eq]
  generalize (lg_sl ([.ref (ad 0), .int x1]) ++ List.replicate (2 - (lg_sl ([.ref (ad 0), .int x1])).length) Slot.unset).toArray = ls at hl ⊢
  have hl : lv_has ls 2 [(0, .ref (ad 0)), (1, .int x1)] := hl
  unfold f_whatBars at hF
  replace hF : (if (σ.1 (6 + (σ.1 (34 + x1.toNatClampNeg) 1).toNatClampNeg) 3) = (0 : Int32) then (if (σ.1 (34 + x1.toNatClampNeg) 6) = (0 : Int32) then (if (4 : Int32) ≤ (σ.1 (34 + x1.toNatClampNeg) 4) then (if (3 : Int32) ≤ (f_bitCount (σ.1 (34 + x1.toNatClampNeg) 5)) then (if (0 : Int32) ≤ (f_marginOf σ x1) then (if (f_isTooYoung σ (σ.1 (34 + x1.toNatClampNeg) 1) x1) = (0 : Int32) then (if (f_windBars σ x1) = (0 : Int32) then (if (f_darkBars σ x1) = (0 : Int32) then (if (f_hasMedicAtHand σ x1) = (0 : Int32) then (9 : Int32) else (if (f_isOccupied σ x1) = (0 : Int32) then (if (f_isNearArmed σ x1) = (0 : Int32) then (0 : Int32) else (11 : Int32)) else (10 : Int32))) else (8 : Int32)) else (7 : Int32)) else (6 : Int32)) else (5 : Int32)) else (4 : Int32)) else (3 : Int32)) else (2 : Int32)) else (1 : Int32)) = F := hF
  refine lv_aload_n hx hb dX3_whatBars_0 rfl (lv_at hl 0 rfl) ?_
  refine q_getM (v := .ref (ad 1)) X hP 0 (by decide) (hts _ wd11) rfl dX3_whatBars_1 ?_
  refine lv_aload_n hx hb dX3_whatBars_4 rfl (lv_at hl 0 rfl) ?_
  refine q_getM (v := .ref (ad 3)) X hP 2 (by decide) (hts _ wd15) rfl dX3_whatBars_5 ?_
  refine lv_iload_n hx hb dX3_whatBars_8 rfl (lv_at hl 1 rfl) ?_
  refine q_aldG X hP hg dX3_whatBars_9 ?_
  refine q_getG (v := .int (σ.1 (34 + x1.toNatClampNeg) 1)) X hP x1.toNatClampNeg (ix_lt hg) 1 (by decide) (hts _ wd98) rfl dX3_whatBars_10 ?_
  refine q_aldP X hP (WF.gp hwf hg) dX3_whatBars_13 ?_
  refine q_getP (v := .int (σ.1 (6 + (σ.1 (34 + x1.toNatClampNeg) 1).toNatClampNeg) 3)) X hP ((σ.1 (34 + x1.toNatClampNeg) 1).toNatClampNeg) (ix_lt (WF.gp hwf hg)) 3 (by decide) (hts _ wd211) rfl dX3_whatBars_14 ?_
  refine lv_if_eq (tgt := 22) hx hb dX3_whatBars_17 (by decide) (fun c_17 => ?_) (fun c_17 => ?_)
  · rw [if_pos c_17] at hF
    refine lv_aload_n hx hb dX3_whatBars_22 rfl (lv_at hl 0 rfl) ?_
    refine q_getM (v := .ref (ad 3)) X hP 2 (by decide) (hts _ wd15) rfl dX3_whatBars_23 ?_
    refine lv_iload_n hx hb dX3_whatBars_26 rfl (lv_at hl 1 rfl) ?_
    refine q_aldG X hP hg dX3_whatBars_27 ?_
    refine q_getG (v := .int (σ.1 (34 + x1.toNatClampNeg) 6)) X hP x1.toNatClampNeg (ix_lt hg) 6 (by decide) (hts _ wd168) rfl dX3_whatBars_28 ?_
    refine lv_if_eq (tgt := 36) hx hb dX3_whatBars_31 (by decide) (fun c_31 => ?_) (fun c_31 => ?_)
    · rw [if_pos c_31] at hF
      refine lv_aload_n hx hb dX3_whatBars_36 rfl (lv_at hl 0 rfl) ?_
      refine q_getM (v := .ref (ad 3)) X hP 2 (by decide) (hts _ wd15) rfl dX3_whatBars_37 ?_
      refine lv_iload_n hx hb dX3_whatBars_40 rfl (lv_at hl 1 rfl) ?_
      refine q_aldG X hP hg dX3_whatBars_41 ?_
      refine q_getG (v := .int (σ.1 (34 + x1.toNatClampNeg) 4)) X hP x1.toNatClampNeg (ix_lt hg) 4 (by decide) (hts _ wd167) rfl dX3_whatBars_42 ?_
      refine lv_iconst (v := (4 : Int32)) hx hb dX3_whatBars_45 (by decide) ?_
      refine lv_icmp_ge (tgt := 51) hx hb dX3_whatBars_46 (by decide) (fun c_46 => ?_) (fun c_46 => ?_)
      · rw [if_pos c_46] at hF
        refine lv_aload_n hx hb dX3_whatBars_51 rfl (lv_at hl 0 rfl) ?_
        refine q_getM (v := .ref (ad 3)) X hP 2 (by decide) (hts _ wd15) rfl dX3_whatBars_52 ?_
        refine lv_iload_n hx hb dX3_whatBars_55 rfl (lv_at hl 1 rfl) ?_
        refine q_aldG X hP hg dX3_whatBars_56 ?_
        refine q_getG (v := .int (σ.1 (34 + x1.toNatClampNeg) 5)) X hP x1.toNatClampNeg (ix_lt hg) 5 (by decide) (hts _ wd158) rfl dX3_whatBars_57 ?_
        refine k_bitCount X hP hS ⟨Nat.le_of_ble_eq_true rfl, Nat.le_of_ble_eq_true rfl⟩ ⟨Nat.zero_le _, Nat.zero_le _⟩ wd212 hl.1 (Nat.le_of_ble_eq_true rfl) dX3_whatBars_60 (σ.1 (34 + x1.toNatClampNeg) 5) (fun H locs hP hS => ?_)
        refine lv_iconst (v := (3 : Int32)) hx hb dX3_whatBars_63 (by decide) ?_
        refine lv_icmp_ge (tgt := 69) hx hb dX3_whatBars_64 (by decide) (fun c_64 => ?_) (fun c_64 => ?_)
        · rw [if_pos c_64] at hF
          refine lv_aload_n hx hb dX3_whatBars_69 rfl (lv_at hl 0 rfl) ?_
          refine lv_iload_n hx hb dX3_whatBars_70 rfl (lv_at hl 1 rfl) ?_
          refine k_marginOf X hP hS ⟨Nat.le_of_ble_eq_true rfl, Nat.le_of_ble_eq_true rfl⟩ ⟨Nat.zero_le _, Nat.zero_le _⟩ wd195 hl.1 (Nat.le_of_ble_eq_true rfl) dX3_whatBars_71 x1 hwf hg (fun H locs hP hS => ?_)
          refine lv_if_ge (tgt := 79) hx hb dX3_whatBars_74 (by decide) (fun c_74 => ?_) (fun c_74 => ?_)
          · rw [if_pos c_74] at hF
            refine lv_aload_n hx hb dX3_whatBars_79 rfl (lv_at hl 0 rfl) ?_
            refine lv_aload_n hx hb dX3_whatBars_80 rfl (lv_at hl 0 rfl) ?_
            refine q_getM (v := .ref (ad 3)) X hP 2 (by decide) (hts _ wd15) rfl dX3_whatBars_81 ?_
            refine lv_iload_n hx hb dX3_whatBars_84 rfl (lv_at hl 1 rfl) ?_
            refine q_aldG X hP hg dX3_whatBars_85 ?_
            refine q_getG (v := .int (σ.1 (34 + x1.toNatClampNeg) 1)) X hP x1.toNatClampNeg (ix_lt hg) 1 (by decide) (hts _ wd98) rfl dX3_whatBars_86 ?_
            refine lv_iload_n hx hb dX3_whatBars_89 rfl (lv_at hl 1 rfl) ?_
            refine k_isTooYoung X hP hS ⟨Nat.le_of_ble_eq_true rfl, Nat.le_of_ble_eq_true rfl⟩ ⟨Nat.zero_le _, Nat.zero_le _⟩ wd219 hl.1 (Nat.le_of_ble_eq_true rfl) dX3_whatBars_90 (σ.1 (34 + x1.toNatClampNeg) 1) x1 hwf (WF.gp hwf hg) hg (fun H locs hP hS => ?_)
            refine lv_if_eq (tgt := 99) hx hb dX3_whatBars_93 (by decide) (fun c_93 => ?_) (fun c_93 => ?_)
            · rw [if_pos c_93] at hF
              refine lv_aload_n hx hb dX3_whatBars_99 rfl (lv_at hl 0 rfl) ?_
              refine lv_iload_n hx hb dX3_whatBars_100 rfl (lv_at hl 1 rfl) ?_
              refine k_windBars X hP hS ⟨Nat.le_of_ble_eq_true rfl, Nat.le_of_ble_eq_true rfl⟩ ⟨Nat.zero_le _, Nat.zero_le _⟩ wd223 hl.1 (Nat.le_of_ble_eq_true rfl) dX3_whatBars_101 x1 hwf hg (fun H locs hP hS => ?_)
              refine lv_if_eq (tgt := 110) hx hb dX3_whatBars_104 (by decide) (fun c_104 => ?_) (fun c_104 => ?_)
              · rw [if_pos c_104] at hF
                refine lv_aload_n hx hb dX3_whatBars_110 rfl (lv_at hl 0 rfl) ?_
                refine lv_iload_n hx hb dX3_whatBars_111 rfl (lv_at hl 1 rfl) ?_
                refine k_darkBars X hP hS ⟨Nat.le_of_ble_eq_true rfl, Nat.le_of_ble_eq_true rfl⟩ ⟨Nat.zero_le _, Nat.zero_le _⟩ wd228 hl.1 (Nat.le_of_ble_eq_true rfl) dX3_whatBars_112 x1 hwf hg (fun H locs hP hS => ?_)
                refine lv_if_eq (tgt := 121) hx hb dX3_whatBars_115 (by decide) (fun c_115 => ?_) (fun c_115 => ?_)
                · rw [if_pos c_115] at hF
                  refine lv_aload_n hx hb dX3_whatBars_121 rfl (lv_at hl 0 rfl) ?_
                  refine lv_iload_n hx hb dX3_whatBars_122 rfl (lv_at hl 1 rfl) ?_
                  refine k_hasMedicAtHand X hP hS ⟨Nat.le_of_ble_eq_true rfl, Nat.le_of_ble_eq_true rfl⟩ ⟨Nat.zero_le _, Nat.zero_le _⟩ wd232 hl.1 (Nat.le_of_ble_eq_true rfl) dX3_whatBars_123 x1 hwf hg (fun H locs hP hS => ?_)
                  refine lv_if_ne (tgt := 132) hx hb dX3_whatBars_126 (by decide) (fun c_126 => ?_) (fun c_126 => ?_)
                  · rw [if_neg c_126] at hF
                    refine lv_aload_n hx hb dX3_whatBars_132 rfl (lv_at hl 0 rfl) ?_
                    refine lv_iload_n hx hb dX3_whatBars_133 rfl (lv_at hl 1 rfl) ?_
                    refine k_isOccupied X hP hS ⟨Nat.le_of_ble_eq_true rfl, Nat.le_of_ble_eq_true rfl⟩ ⟨Nat.zero_le _, Nat.zero_le _⟩ wd90 hl.1 (Nat.le_of_ble_eq_true rfl) dX3_whatBars_134 x1 hwf hg (fun H locs hP hS => ?_)
                    refine lv_if_eq (tgt := 143) hx hb dX3_whatBars_137 (by decide) (fun c_137 => ?_) (fun c_137 => ?_)
                    · rw [if_pos c_137] at hF
                      refine lv_aload_n hx hb dX3_whatBars_143 rfl (lv_at hl 0 rfl) ?_
                      refine lv_iload_n hx hb dX3_whatBars_144 rfl (lv_at hl 1 rfl) ?_
                      refine k_isNearArmed X hP hS ⟨Nat.le_of_ble_eq_true rfl, Nat.le_of_ble_eq_true rfl⟩ ⟨Nat.zero_le _, Nat.zero_le _⟩ wd240 hl.1 (Nat.le_of_ble_eq_true rfl) dX3_whatBars_145 x1 hwf hg (fun H locs hP hS => ?_)
                      refine lv_if_eq (tgt := 156) hx hb dX3_whatBars_148 (by decide) (fun c_148 => ?_) (fun c_148 => ?_)
                      · rw [if_pos c_148] at hF
                        refine lv_iconst (v := (0 : Int32)) hx hb dX3_whatBars_156 (by decide) ?_
                        exact W.iret (v := (0 : Int32)) hx hb hr (fun t ht hW => ⟨⟨(0 : Int32), σ, rfl, ⟨hF, rfl⟩, wB_of ht hP⟩, hS.F ht⟩) hS.2.2 dX3_whatBars_157
                      · rw [if_neg c_148] at hF
                        refine lv_bipush (v := (11 : Int32)) hx hb dX3_whatBars_151 (by decide) ?_
                        refine lv_goto (tgt := 157) hx hb dX3_whatBars_153 (by decide) ?_
                        exact W.iret (v := (11 : Int32)) hx hb hr (fun t ht hW => ⟨⟨(11 : Int32), σ, rfl, ⟨hF, rfl⟩, wB_of ht hP⟩, hS.F ht⟩) hS.2.2 dX3_whatBars_157
                    · rw [if_neg c_137] at hF
                      refine lv_bipush (v := (10 : Int32)) hx hb dX3_whatBars_140 (by decide) ?_
                      exact W.iret (v := (10 : Int32)) hx hb hr (fun t ht hW => ⟨⟨(10 : Int32), σ, rfl, ⟨hF, rfl⟩, wB_of ht hP⟩, hS.F ht⟩) hS.2.2 dX3_whatBars_142
                  · rw [if_pos c_126] at hF
                    refine lv_bipush (v := (9 : Int32)) hx hb dX3_whatBars_129 (by decide) ?_
                    exact W.iret (v := (9 : Int32)) hx hb hr (fun t ht hW => ⟨⟨(9 : Int32), σ, rfl, ⟨hF, rfl⟩, wB_of ht hP⟩, hS.F ht⟩) hS.2.2 dX3_whatBars_131
                · rw [if_neg c_115] at hF
                  refine lv_bipush (v := (8 : Int32)) hx hb dX3_whatBars_118 (by decide) ?_
                  exact W.iret (v := (8 : Int32)) hx hb hr (fun t ht hW => ⟨⟨(8 : Int32), σ, rfl, ⟨hF, rfl⟩, wB_of ht hP⟩, hS.F ht⟩) hS.2.2 dX3_whatBars_120
              · rw [if_neg c_104] at hF
                refine lv_bipush (v := (7 : Int32)) hx hb dX3_whatBars_107 (by decide) ?_
                exact W.iret (v := (7 : Int32)) hx hb hr (fun t ht hW => ⟨⟨(7 : Int32), σ, rfl, ⟨hF, rfl⟩, wB_of ht hP⟩, hS.F ht⟩) hS.2.2 dX3_whatBars_109
            · rw [if_neg c_93] at hF
              refine lv_bipush (v := (6 : Int32)) hx hb dX3_whatBars_96 (by decide) ?_
              exact W.iret (v := (6 : Int32)) hx hb hr (fun t ht hW => ⟨⟨(6 : Int32), σ, rfl, ⟨hF, rfl⟩, wB_of ht hP⟩, hS.F ht⟩) hS.2.2 dX3_whatBars_98
          · rw [if_neg c_74] at hF
            refine lv_iconst (v := (5 : Int32)) hx hb dX3_whatBars_77 (by decide) ?_
            exact W.iret (v := (5 : Int32)) hx hb hr (fun t ht hW => ⟨⟨(5 : Int32), σ, rfl, ⟨hF, rfl⟩, wB_of ht hP⟩, hS.F ht⟩) hS.2.2 dX3_whatBars_78
        · rw [if_neg c_64] at hF
          refine lv_iconst (v := (4 : Int32)) hx hb dX3_whatBars_67 (by decide) ?_
          exact W.iret (v := (4 : Int32)) hx hb hr (fun t ht hW => ⟨⟨(4 : Int32), σ, rfl, ⟨hF, rfl⟩, wB_of ht hP⟩, hS.F ht⟩) hS.2.2 dX3_whatBars_68
      · rw [if_neg c_46] at hF
        refine lv_iconst (v := (3 : Int32)) hx hb dX3_whatBars_49 (by decide) ?_
        exact W.iret (v := (3 : Int32)) hx hb hr (fun t ht hW => ⟨⟨(3 : Int32), σ, rfl, ⟨hF, rfl⟩, wB_of ht hP⟩, hS.F ht⟩) hS.2.2 dX3_whatBars_50
    · rw [if_neg c_31] at hF
      refine lv_iconst (v := (2 : Int32)) hx hb dX3_whatBars_34 (by decide) ?_
      exact W.iret (v := (2 : Int32)) hx hb hr (fun t ht hW => ⟨⟨(2 : Int32), σ, rfl, ⟨hF, rfl⟩, wB_of ht hP⟩, hS.F ht⟩) hS.2.2 dX3_whatBars_35
  · rw [if_neg c_17] at hF
    refine lv_iconst (v := (1 : Int32)) hx hb dX3_whatBars_20 (by decide) ?_
    exact W.iret (v := (1 : Int32)) hx hb hr (fun t ht hW => ⟨⟨(1 : Int32), σ, rfl, ⟨hF, rfl⟩, wB_of ht hP⟩, hS.F ht⟩) hS.2.2 dX3_whatBars_21
theorem k_whatBars {p : Program} {l : Launch} {e : Env} {R : Room} {s : State} {m : MethodId} {args : Array Value} {below : List Frame} {meth : Method} {c : Code} {H : Heap} {locs : List Loc} {cells slots : Nat} {Q : State → Prop} {cc : ByteArray} {pc : Nat} {ls : Array Slot} {rest : List Value} {D : va_G} {A : Nat → Prop} {ad : Nat → Nat} {ca : Nat → ClassId} {tw nL : Nat} {σ : St} {own : String} {index : Nat} (X : Cx p s m args c own cc nL D ad ca tw A) (hP : va_P D vwCl (wl ad ca σ) H) (hS : va_S A s.heap H locs) (hR : 5 ≤ R.frames ∧ 109 ≤ R.locals) (hcap : cells ≤ R.cells ∧ slots ≤ R.slots) (hlk : Cond.methodLink own index yX3_whatBars ∈ wsL_law0) (hsz : ls.size = nL) (hrs : (rest.map fun v => v.category).sum ≤ 8) (hdg : decode cc pc = .ok (.invokevirtual index, 3)) (x1 : Int32) (hwf : WF σ) (hg : vp_in x1 6)
    (kk : ∀ (H1 : Heap) (locs1 : List Loc), va_P D vwCl (wl ad ca σ) H1 → va_S A s.heap H1 locs1 → W p l e R s m args below meth c H1 locs1 cells slots Q (F0 m (pc + 3) ls (.int (f_whatBars σ x1) :: rest))) : W p l e R s m args below meth c H locs cells slots Q (F0 m pc ls (.int x1 :: .ref (ad 0) :: rest)) := by
  refine q_bi X hS (q_runV (as := [.int x1]) X hP hS (q_cwV (rm := ({ frames := 4, cells := 0, slots := 0, locals := 88 } : Room)) (k := 1) X.2.2.2.2.1 hlk wd208 wd209 wd2 wd210 rfl rfl (by decide +kernel) rfl ⟨hR.1, hR.2⟩) (c_whatBars l D ad ca tw X.2.2.2.2.2.2.1 σ x1 hwf hg) rfl hsz rfl hrs hdg hcap) (fun r u H1 locs1 h1 h2 h3 => ?_)
  obtain ⟨rfl, rfl⟩ := h1
  exact kk H1 locs1 h2 h3
