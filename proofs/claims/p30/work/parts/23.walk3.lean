set_option maxHeartbeats 4000000 in
set_option maxRecDepth 100000 in
theorem c_armedSet (l : Launch) (D : va_G) (ad : Nat → Nat) (ca : Nat → ClassId) (tw : Nat) (hI : ∀ i j, i < 40 → j < 40 → ad i = ad j → i = j) (σ : St) (hwf : WF σ)  : Met l yX3_armedSet (wm yX3_armedSet cX3_armedSet 3 (some .int)) ({ frames := 0, cells := 0, slots := 0, locals := 0 } : Room) (va_Pc [.ref (ad 0)] (wPre D ad ca tw σ)) (va_Qi (fun r u => r = f_armedSet σ ∧ u = σ) (wB D ad ca) (Aw ad)) 0 0 (Aw ad) := by
  generalize hF : f_armedSet σ = F
  refine Met.ofW (cc := cX3_armedSet) (maxL := 3) (ret := (some .int)) (by decide) rfl ?_
  intro p e s m args below meth c s₁ B hml hv
  obtain ⟨rfl, hv⟩ := hv
  have X := q_open (own := RX3) B rfl hml hI hv
  have hx := X.1
  have hb := X.2.1
  have hts := X.2.2.2.2.1
  have hr := B.returns
  have hlocks := B.notSynchronized
  have hP := hv.1
  have hS : va_S (Aw ad) s.heap s.heap [] := va_S.rf
  have hl := lv_entry ([.ref (ad 0)]) (n := 3) (Nat.le_of_ble_eq_true rfl)
  rw [lg_entry_eq]
  generalize (lg_sl ([.ref (ad 0)]) ++ List.replicate (3 - (lg_sl ([.ref (ad 0)])).length) Slot.unset).toArray = ls at hl ⊢
  have hl : lv_has ls 3 [(0, .ref (ad 0))] := hl
  unfold f_armedSet at hF
  replace hF : (f_armedSet_L4 σ 128 (0 : Int32) (0 : Int32)) = F := hF
  refine lv_iconst (v := (0 : Int32)) hx hb dX3_armedSet_0 (by decide) ?_
  refine lv_istore_n (lv' := [(1, .int (0 : Int32)), (0, .ref (ad 0))]) hx hb dX3_armedSet_1 rfl hl (by decide) rfl (fun ls hl => ?_)
  refine lv_iconst (v := (0 : Int32)) hx hb dX3_armedSet_2 (by decide) ?_
  refine lv_istore_n (lv' := [(2, .int (0 : Int32)), (1, .int (0 : Int32)), (0, .ref (ad 0))]) hx hb dX3_armedSet_3 rfl hl (by decide) rfl (fun ls hl => ?_)
  have L_4 : ∀ (n_4 : Nat) (y2_4 : Int32) (y1_4 : Int32) (H : Heap) (locs : List Loc) (ls : Array Slot), lpI 6 y2_4 n_4 → va_P D vwCl (wl ad ca σ) H → va_S (Aw ad) s.heap H locs → lv_has ls 3 [(2, .int y2_4), (1, .int y1_4), (0, .ref (ad 0))] → f_armedSet_L4 σ (n_4) y2_4 y1_4 = F → W p l e (headSpec (wm yX3_armedSet cX3_armedSet 3 (some .int)) ({ frames := 0, cells := 0, slots := 0, locals := 0 } : Room)).room s m ([.ref (ad 0)] : List Value).toArray below meth c H locs 0 0 (MQ below (va_Qi (fun r u => r = F ∧ u = σ) (wB D ad ca) (Aw ad)) ([.ref (ad 0)] : List Value).toArray s 0 0 (Aw ad)) (F0 m 4 ls []) := by
    intro n_4
    induction n_4 with
    | zero => intro y2_4 y1_4 H locs ls hi_4 _ _ _ _; exact absurd hi_4 (fun h => lp_0 h)
    | succ n_4 ih_4 =>
      intro y2_4 y1_4 H locs ls hi_4 hP hS hl hF
      rw [f_armedSet_L4] at hF
      refine lv_iload_n hx hb dX3_armedSet_4 rfl (lv_at hl 0 rfl) ?_
      refine lv_aload_n hx hb dX3_armedSet_5 rfl (lv_at hl 2 rfl) ?_
      refine q_getM (v := .int (σ.1 0 5)) X hP 5 (by decide) (hts _ wd18) rfl dX3_armedSet_6 ?_
      refine lv_icmp_ge (tgt := 36) hx hb dX3_armedSet_9 (by decide) (fun c_9 => ?_) (fun c_9 => ?_)
      · rw [if_pos c_9] at hF
        refine lv_iload_n hx hb dX3_armedSet_36 rfl (lv_at hl 1 rfl) ?_
        exact W.iret (v := y1_4) hx hb hr (fun t ht hW => ⟨⟨y1_4, σ, rfl, ⟨hF, rfl⟩, wB_of ht hP⟩, hS.F ht⟩) hS.2.2 dX3_armedSet_37
      · have hlt_4 : y2_4.toInt < 6 := lt_nle c_9 hwf.2.2.1.2
        rw [if_neg c_9] at hF
        refine lv_aload_n hx hb dX3_armedSet_12 rfl (lv_at hl 2 rfl) ?_
        refine q_getM (v := .ref (ad 3)) X hP 2 (by decide) (hts _ wd15) rfl dX3_armedSet_13 ?_
        refine lv_iload_n hx hb dX3_armedSet_16 rfl (lv_at hl 0 rfl) ?_
        refine q_aldG X hP (lp_i hi_4 hlt_4) dX3_armedSet_17 ?_
        refine q_getG (v := .int (σ.1 (34 + y2_4.toNatClampNeg) 8)) X hP y2_4.toNatClampNeg (ix_lt (lp_i hi_4 hlt_4)) 8 (by decide) (hts _ wd122) rfl dX3_armedSet_18 ?_
        refine lv_if_eq (tgt := 30) hx hb dX3_armedSet_21 (by decide) (fun c_21 => ?_) (fun c_21 => ?_)
        · rw [if_pos c_21] at hF
          refine lv_iinc (v := (y2_4 + (1 : Int32))) (lv' := [(2, .int (y2_4 + (1 : Int32))), (1, .int y1_4), (0, .ref (ad 0))]) hx hb dX3_armedSet_30 hl (k := 0) rfl rfl (by decide) rfl (fun ls hl => ?_)
          refine lv_goto (tgt := 4) hx hb dX3_armedSet_33 (by decide) ?_
          exact ih_4 (y2_4 + (1 : Int32)) y1_4 _ _ _ (lp_s hi_4 hlt_4) hP hS (lv_sub hl [0, 1, 2] rfl) hF
        · rw [if_neg c_21] at hF
          refine lv_iload_n hx hb dX3_armedSet_24 rfl (lv_at hl 1 rfl) ?_
          refine lv_iconst (v := (1 : Int32)) hx hb dX3_armedSet_25 (by decide) ?_
          refine lv_iload_n hx hb dX3_armedSet_26 rfl (lv_at hl 0 rfl) ?_
          refine lv_ishl hx hb dX3_armedSet_27 ?_
          refine lv_ior hx hb dX3_armedSet_28 ?_
          refine lv_istore_n (lv' := [(1, .int (y1_4 ||| ((1 : Int32) <<< (y2_4 &&& (31 : Int32))))), (2, .int y2_4), (0, .ref (ad 0))]) hx hb dX3_armedSet_29 rfl hl (by decide) rfl (fun ls hl => ?_)
          refine lv_iinc (v := (y2_4 + (1 : Int32))) (lv' := [(2, .int (y2_4 + (1 : Int32))), (1, .int (y1_4 ||| ((1 : Int32) <<< (y2_4 &&& (31 : Int32))))), (0, .ref (ad 0))]) hx hb dX3_armedSet_30 hl (k := 1) rfl rfl (by decide) rfl (fun ls hl => ?_)
          refine lv_goto (tgt := 4) hx hb dX3_armedSet_33 (by decide) ?_
          exact ih_4 (y2_4 + (1 : Int32)) (y1_4 ||| ((1 : Int32) <<< (y2_4 &&& (31 : Int32)))) _ _ _ (lp_s hi_4 hlt_4) hP hS (lv_sub hl [0, 1, 2] rfl) hF
  exact L_4 128 (0 : Int32) (0 : Int32) _ _ _ (lp_z (by decide)) hP hS hl hF
theorem k_armedSet {p : Program} {l : Launch} {e : Env} {R : Room} {s : State} {m : MethodId} {args : Array Value} {below : List Frame} {meth : Method} {c : Code} {H : Heap} {locs : List Loc} {cells slots : Nat} {Q : State → Prop} {cc : ByteArray} {pc : Nat} {ls : Array Slot} {rest : List Value} {D : va_G} {A : Nat → Prop} {ad : Nat → Nat} {ca : Nat → ClassId} {tw nL : Nat} {σ : St} {own : String} {index : Nat} (X : Cx p s m args c own cc nL D ad ca tw A) (hP : va_P D vwCl (wl ad ca σ) H) (hS : va_S A s.heap H locs) (hR : 1 ≤ R.frames ∧ 22 ≤ R.locals) (hcap : cells ≤ R.cells ∧ slots ≤ R.slots) (hlk : Cond.methodLink own index yX3_armedSet ∈ wsL_law0) (hsz : ls.size = nL) (hrs : (rest.map fun v => v.category).sum ≤ 8) (hdg : decode cc pc = .ok (.invokevirtual index, 3)) (hwf : WF σ) 
    (kk : ∀ (H1 : Heap) (locs1 : List Loc), va_P D vwCl (wl ad ca σ) H1 → va_S A s.heap H1 locs1 → W p l e R s m args below meth c H1 locs1 cells slots Q (F0 m (pc + 3) ls (.int (f_armedSet σ) :: rest))) : W p l e R s m args below meth c H locs cells slots Q (F0 m pc ls (.ref (ad 0) :: rest)) := by
  refine q_bi X hS (q_runV (as := []) X hP hS (q_cwV (rm := ({ frames := 0, cells := 0, slots := 0, locals := 0 } : Room)) (k := 0) X.2.2.2.2.1 hlk wd147 wd148 wd2 wd149 rfl rfl (by decide +kernel) rfl ⟨hR.1, hR.2⟩) (c_armedSet l D ad ca tw X.2.2.2.2.2.2.1 σ hwf ) rfl hsz rfl hrs hdg hcap) (fun r u H1 locs1 h1 h2 h3 => ?_)
  obtain ⟨rfl, rfl⟩ := h1
  exact kk H1 locs1 h2 h3
set_option maxHeartbeats 4000000 in
set_option maxRecDepth 100000 in
theorem c_fitCount (l : Launch) (D : va_G) (ad : Nat → Nat) (ca : Nat → ClassId) (tw : Nat) (hI : ∀ i j, i < 40 → j < 40 → ad i = ad j → i = j) (σ : St) (hwf : WF σ)  : Met l yX3_fitCount (wm yX3_fitCount cX3_fitCount 3 (some .int)) ({ frames := 1, cells := 0, slots := 0, locals := 22 } : Room) (va_Pc [.ref (ad 0)] (wPre D ad ca tw σ)) (va_Qi (fun r u => r = f_fitCount σ ∧ u = σ) (wB D ad ca) (Aw ad)) 0 0 (Aw ad) := by
  generalize hF : f_fitCount σ = F
  refine Met.ofW (cc := cX3_fitCount) (maxL := 3) (ret := (some .int)) (by decide) rfl ?_
  intro p e s m args below meth c s₁ B hml hv
  obtain ⟨rfl, hv⟩ := hv
  have X := q_open (own := RX3) B rfl hml hI hv
  have hx := X.1
  have hb := X.2.1
  have hts := X.2.2.2.2.1
  have hr := B.returns
  have hlocks := B.notSynchronized
  have hP := hv.1
  have hS : va_S (Aw ad) s.heap s.heap [] := va_S.rf
  have hl := lv_entry ([.ref (ad 0)]) (n := 3) (Nat.le_of_ble_eq_true rfl)
  rw [lg_entry_eq]
  generalize (lg_sl ([.ref (ad 0)]) ++ List.replicate (3 - (lg_sl ([.ref (ad 0)])).length) Slot.unset).toArray = ls at hl ⊢
  have hl : lv_has ls 3 [(0, .ref (ad 0))] := hl
  unfold f_fitCount at hF
  replace hF : (f_fitCount_L4 σ 128 (0 : Int32) (0 : Int32)) = F := hF
  refine lv_iconst (v := (0 : Int32)) hx hb dX3_fitCount_0 (by decide) ?_
  refine lv_istore_n (lv' := [(1, .int (0 : Int32)), (0, .ref (ad 0))]) hx hb dX3_fitCount_1 rfl hl (by decide) rfl (fun ls hl => ?_)
  refine lv_iconst (v := (0 : Int32)) hx hb dX3_fitCount_2 (by decide) ?_
  refine lv_istore_n (lv' := [(2, .int (0 : Int32)), (1, .int (0 : Int32)), (0, .ref (ad 0))]) hx hb dX3_fitCount_3 rfl hl (by decide) rfl (fun ls hl => ?_)
  have L_4 : ∀ (n_4 : Nat) (y2_4 : Int32) (y1_4 : Int32) (H : Heap) (locs : List Loc) (ls : Array Slot), lpI 12 y2_4 n_4 → va_P D vwCl (wl ad ca σ) H → va_S (Aw ad) s.heap H locs → lv_has ls 3 [(2, .int y2_4), (1, .int y1_4), (0, .ref (ad 0))] → f_fitCount_L4 σ (n_4) y2_4 y1_4 = F → W p l e (headSpec (wm yX3_fitCount cX3_fitCount 3 (some .int)) ({ frames := 1, cells := 0, slots := 0, locals := 22 } : Room)).room s m ([.ref (ad 0)] : List Value).toArray below meth c H locs 0 0 (MQ below (va_Qi (fun r u => r = F ∧ u = σ) (wB D ad ca) (Aw ad)) ([.ref (ad 0)] : List Value).toArray s 0 0 (Aw ad)) (F0 m 4 ls []) := by
    intro n_4
    induction n_4 with
    | zero => intro y2_4 y1_4 H locs ls hi_4 _ _ _ _; exact absurd hi_4 (fun h => lp_0 h)
    | succ n_4 ih_4 =>
      intro y2_4 y1_4 H locs ls hi_4 hP hS hl hF
      rw [f_fitCount_L4] at hF
      refine lv_iload_n hx hb dX3_fitCount_4 rfl (lv_at hl 0 rfl) ?_
      refine lv_aload_n hx hb dX3_fitCount_5 rfl (lv_at hl 2 rfl) ?_
      refine q_getM (v := .int (σ.1 0 4)) X hP 4 (by decide) (hts _ wd17) rfl dX3_fitCount_6 ?_
      refine lv_icmp_ge (tgt := 29) hx hb dX3_fitCount_9 (by decide) (fun c_9 => ?_) (fun c_9 => ?_)
      · rw [if_pos c_9] at hF
        refine lv_iload_n hx hb dX3_fitCount_29 rfl (lv_at hl 1 rfl) ?_
        exact W.iret (v := y1_4) hx hb hr (fun t ht hW => ⟨⟨y1_4, σ, rfl, ⟨hF, rfl⟩, wB_of ht hP⟩, hS.F ht⟩) hS.2.2 dX3_fitCount_30
      · have hlt_4 : y2_4.toInt < 12 := lt_nle c_9 hwf.2.1.2
        rw [if_neg c_9] at hF
        refine lv_iload_n hx hb dX3_fitCount_12 rfl (lv_at hl 1 rfl) ?_
        refine lv_aload_n hx hb dX3_fitCount_13 rfl (lv_at hl 2 rfl) ?_
        refine lv_iload_n hx hb dX3_fitCount_14 rfl (lv_at hl 0 rfl) ?_
        refine k_isFit X hP hS ⟨Nat.le_of_ble_eq_true rfl, Nat.le_of_ble_eq_true rfl⟩ ⟨Nat.zero_le _, Nat.zero_le _⟩ wd189 hl.1 (Nat.le_of_ble_eq_true rfl) dX3_fitCount_15 y2_4 hwf (lp_i hi_4 hlt_4) (fun H locs hP hS => ?_)
        refine k_oneIf X hP hS ⟨Nat.le_of_ble_eq_true rfl, Nat.le_of_ble_eq_true rfl⟩ ⟨Nat.zero_le _, Nat.zero_le _⟩ wd204 hl.1 (Nat.le_of_ble_eq_true rfl) dX3_fitCount_18 (f_isFit σ y2_4) hwf  (fun H locs hP hS => ?_)
        refine lv_iadd hx hb dX3_fitCount_21 ?_
        refine lv_istore_n (lv' := [(1, .int (y1_4 + (f_oneIf (f_isFit σ y2_4)))), (2, .int y2_4), (0, .ref (ad 0))]) hx hb dX3_fitCount_22 rfl hl (by decide) rfl (fun ls hl => ?_)
        refine lv_iinc (v := (y2_4 + (1 : Int32))) (lv' := [(2, .int (y2_4 + (1 : Int32))), (1, .int (y1_4 + (f_oneIf (f_isFit σ y2_4)))), (0, .ref (ad 0))]) hx hb dX3_fitCount_23 hl (k := 1) rfl rfl (by decide) rfl (fun ls hl => ?_)
        refine lv_goto (tgt := 4) hx hb dX3_fitCount_26 (by decide) ?_
        exact ih_4 (y2_4 + (1 : Int32)) (y1_4 + (f_oneIf (f_isFit σ y2_4))) _ _ _ (lp_s hi_4 hlt_4) hP hS (lv_sub hl [0, 1, 2] rfl) hF
  exact L_4 128 (0 : Int32) (0 : Int32) _ _ _ (lp_z (by decide)) hP hS hl hF
theorem k_fitCount {p : Program} {l : Launch} {e : Env} {R : Room} {s : State} {m : MethodId} {args : Array Value} {below : List Frame} {meth : Method} {c : Code} {H : Heap} {locs : List Loc} {cells slots : Nat} {Q : State → Prop} {cc : ByteArray} {pc : Nat} {ls : Array Slot} {rest : List Value} {D : va_G} {A : Nat → Prop} {ad : Nat → Nat} {ca : Nat → ClassId} {tw nL : Nat} {σ : St} {own : String} {index : Nat} (X : Cx p s m args c own cc nL D ad ca tw A) (hP : va_P D vwCl (wl ad ca σ) H) (hS : va_S A s.heap H locs) (hR : 2 ≤ R.frames ∧ 44 ≤ R.locals) (hcap : cells ≤ R.cells ∧ slots ≤ R.slots) (hlk : Cond.methodLink own index yX3_fitCount ∈ wsL_law0) (hsz : ls.size = nL) (hrs : (rest.map fun v => v.category).sum ≤ 8) (hdg : decode cc pc = .ok (.invokevirtual index, 3)) (hwf : WF σ) 
    (kk : ∀ (H1 : Heap) (locs1 : List Loc), va_P D vwCl (wl ad ca σ) H1 → va_S A s.heap H1 locs1 → W p l e R s m args below meth c H1 locs1 cells slots Q (F0 m (pc + 3) ls (.int (f_fitCount σ) :: rest))) : W p l e R s m args below meth c H locs cells slots Q (F0 m pc ls (.ref (ad 0) :: rest)) := by
  refine q_bi X hS (q_runV (as := []) X hP hS (q_cwV (rm := ({ frames := 1, cells := 0, slots := 0, locals := 22 } : Room)) (k := 0) X.2.2.2.2.1 hlk wd340 wd341 wd2 wd342 rfl rfl (by decide +kernel) rfl ⟨hR.1, hR.2⟩) (c_fitCount l D ad ca tw X.2.2.2.2.2.2.1 σ hwf ) rfl hsz rfl hrs hdg hcap) (fun r u H1 locs1 h1 h2 h3 => ?_)
  obtain ⟨rfl, rfl⟩ := h1
  exact kk H1 locs1 h2 h3
set_option maxHeartbeats 4000000 in
set_option maxRecDepth 100000 in
theorem c_hurtCount (l : Launch) (D : va_G) (ad : Nat → Nat) (ca : Nat → ClassId) (tw : Nat) (hI : ∀ i j, i < 40 → j < 40 → ad i = ad j → i = j) (σ : St) (hwf : WF σ)  : Met l yX3_hurtCount (wm yX3_hurtCount cX3_hurtCount 3 (some .int)) ({ frames := 1, cells := 0, slots := 0, locals := 20 } : Room) (va_Pc [.ref (ad 0)] (wPre D ad ca tw σ)) (va_Qi (fun r u => r = f_hurtCount σ ∧ u = σ) (wB D ad ca) (Aw ad)) 0 0 (Aw ad) := by
  generalize hF : f_hurtCount σ = F
  refine Met.ofW (cc := cX3_hurtCount) (maxL := 3) (ret := (some .int)) (by decide) rfl ?_
  intro p e s m args below meth c s₁ B hml hv
  obtain ⟨rfl, hv⟩ := hv
  have X := q_open (own := RX3) B rfl hml hI hv
  have hx := X.1
  have hb := X.2.1
  have hts := X.2.2.2.2.1
  have hr := B.returns
  have hlocks := B.notSynchronized
  have hP := hv.1
  have hS : va_S (Aw ad) s.heap s.heap [] := va_S.rf
  have hl := lv_entry ([.ref (ad 0)]) (n := 3) (Nat.le_of_ble_eq_true rfl)
  rw [lg_entry_eq]
  generalize (lg_sl ([.ref (ad 0)]) ++ List.replicate (3 - (lg_sl ([.ref (ad 0)])).length) Slot.unset).toArray = ls at hl ⊢
  have hl : lv_has ls 3 [(0, .ref (ad 0))] := hl
  unfold f_hurtCount at hF
  replace hF : (f_hurtCount_L4 σ 128 (0 : Int32) (0 : Int32)) = F := hF
  refine lv_iconst (v := (0 : Int32)) hx hb dX3_hurtCount_0 (by decide) ?_
  refine lv_istore_n (lv' := [(1, .int (0 : Int32)), (0, .ref (ad 0))]) hx hb dX3_hurtCount_1 rfl hl (by decide) rfl (fun ls hl => ?_)
  refine lv_iconst (v := (0 : Int32)) hx hb dX3_hurtCount_2 (by decide) ?_
  refine lv_istore_n (lv' := [(2, .int (0 : Int32)), (1, .int (0 : Int32)), (0, .ref (ad 0))]) hx hb dX3_hurtCount_3 rfl hl (by decide) rfl (fun ls hl => ?_)
  have L_4 : ∀ (n_4 : Nat) (y2_4 : Int32) (y1_4 : Int32) (H : Heap) (locs : List Loc) (ls : Array Slot), lpI 8 y2_4 n_4 → va_P D vwCl (wl ad ca σ) H → va_S (Aw ad) s.heap H locs → lv_has ls 3 [(2, .int y2_4), (1, .int y1_4), (0, .ref (ad 0))] → f_hurtCount_L4 σ (n_4) y2_4 y1_4 = F → W p l e (headSpec (wm yX3_hurtCount cX3_hurtCount 3 (some .int)) ({ frames := 1, cells := 0, slots := 0, locals := 20 } : Room)).room s m ([.ref (ad 0)] : List Value).toArray below meth c H locs 0 0 (MQ below (va_Qi (fun r u => r = F ∧ u = σ) (wB D ad ca) (Aw ad)) ([.ref (ad 0)] : List Value).toArray s 0 0 (Aw ad)) (F0 m 4 ls []) := by
    intro n_4
    induction n_4 with
    | zero => intro y2_4 y1_4 H locs ls hi_4 _ _ _ _; exact absurd hi_4 (fun h => lp_0 h)
    | succ n_4 ih_4 =>
      intro y2_4 y1_4 H locs ls hi_4 hP hS hl hF
      rw [f_hurtCount_L4] at hF
      refine lv_iload_n hx hb dX3_hurtCount_4 rfl (lv_at hl 0 rfl) ?_
      refine lv_aload_n hx hb dX3_hurtCount_5 rfl (lv_at hl 2 rfl) ?_
      refine q_getM (v := .int (σ.1 0 3)) X hP 3 (by decide) (hts _ wd16) rfl dX3_hurtCount_6 ?_
      refine lv_icmp_ge (tgt := 33) hx hb dX3_hurtCount_9 (by decide) (fun c_9 => ?_) (fun c_9 => ?_)
      · rw [if_pos c_9] at hF
        refine lv_iload_n hx hb dX3_hurtCount_33 rfl (lv_at hl 1 rfl) ?_
        exact W.iret (v := y1_4) hx hb hr (fun t ht hW => ⟨⟨y1_4, σ, rfl, ⟨hF, rfl⟩, wB_of ht hP⟩, hS.F ht⟩) hS.2.2 dX3_hurtCount_34
      · have hlt_4 : y2_4.toInt < 8 := lt_nle c_9 hwf.1.2
        rw [if_neg c_9] at hF
        refine lv_iload_n hx hb dX3_hurtCount_12 rfl (lv_at hl 1 rfl) ?_
        refine lv_aload_n hx hb dX3_hurtCount_13 rfl (lv_at hl 2 rfl) ?_
        refine q_getM (v := .ref (ad 1)) X hP 0 (by decide) (hts _ wd11) rfl dX3_hurtCount_14 ?_
        refine lv_iload_n hx hb dX3_hurtCount_17 rfl (lv_at hl 0 rfl) ?_
        refine q_aldP X hP (lp_i hi_4 hlt_4) dX3_hurtCount_18 ?_
        refine q_getP (v := .int (σ.1 (6 + y2_4.toNatClampNeg) 3)) X hP y2_4.toNatClampNeg (ix_lt (lp_i hi_4 hlt_4)) 3 (by decide) (hts _ wd211) rfl dX3_hurtCount_19 ?_
        refine k_oneIf X hP hS ⟨Nat.le_of_ble_eq_true rfl, Nat.le_of_ble_eq_true rfl⟩ ⟨Nat.zero_le _, Nat.zero_le _⟩ wd204 hl.1 (Nat.le_of_ble_eq_true rfl) dX3_hurtCount_22 (σ.1 (6 + y2_4.toNatClampNeg) 3) hwf  (fun H locs hP hS => ?_)
        refine lv_iadd hx hb dX3_hurtCount_25 ?_
        refine lv_istore_n (lv' := [(1, .int (y1_4 + (f_oneIf (σ.1 (6 + y2_4.toNatClampNeg) 3)))), (2, .int y2_4), (0, .ref (ad 0))]) hx hb dX3_hurtCount_26 rfl hl (by decide) rfl (fun ls hl => ?_)
        refine lv_iinc (v := (y2_4 + (1 : Int32))) (lv' := [(2, .int (y2_4 + (1 : Int32))), (1, .int (y1_4 + (f_oneIf (σ.1 (6 + y2_4.toNatClampNeg) 3)))), (0, .ref (ad 0))]) hx hb dX3_hurtCount_27 hl (k := 1) rfl rfl (by decide) rfl (fun ls hl => ?_)
        refine lv_goto (tgt := 4) hx hb dX3_hurtCount_30 (by decide) ?_
        exact ih_4 (y2_4 + (1 : Int32)) (y1_4 + (f_oneIf (σ.1 (6 + y2_4.toNatClampNeg) 3))) _ _ _ (lp_s hi_4 hlt_4) hP hS (lv_sub hl [0, 1, 2] rfl) hF
  exact L_4 128 (0 : Int32) (0 : Int32) _ _ _ (lp_z (by decide)) hP hS hl hF
theorem k_hurtCount {p : Program} {l : Launch} {e : Env} {R : Room} {s : State} {m : MethodId} {args : Array Value} {below : List Frame} {meth : Method} {c : Code} {H : Heap} {locs : List Loc} {cells slots : Nat} {Q : State → Prop} {cc : ByteArray} {pc : Nat} {ls : Array Slot} {rest : List Value} {D : va_G} {A : Nat → Prop} {ad : Nat → Nat} {ca : Nat → ClassId} {tw nL : Nat} {σ : St} {own : String} {index : Nat} (X : Cx p s m args c own cc nL D ad ca tw A) (hP : va_P D vwCl (wl ad ca σ) H) (hS : va_S A s.heap H locs) (hR : 2 ≤ R.frames ∧ 42 ≤ R.locals) (hcap : cells ≤ R.cells ∧ slots ≤ R.slots) (hlk : Cond.methodLink own index yX3_hurtCount ∈ wsL_law0) (hsz : ls.size = nL) (hrs : (rest.map fun v => v.category).sum ≤ 8) (hdg : decode cc pc = .ok (.invokevirtual index, 3)) (hwf : WF σ) 
    (kk : ∀ (H1 : Heap) (locs1 : List Loc), va_P D vwCl (wl ad ca σ) H1 → va_S A s.heap H1 locs1 → W p l e R s m args below meth c H1 locs1 cells slots Q (F0 m (pc + 3) ls (.int (f_hurtCount σ) :: rest))) : W p l e R s m args below meth c H locs cells slots Q (F0 m pc ls (.ref (ad 0) :: rest)) := by
  refine q_bi X hS (q_runV (as := []) X hP hS (q_cwV (rm := ({ frames := 1, cells := 0, slots := 0, locals := 20 } : Room)) (k := 0) X.2.2.2.2.1 hlk wd348 wd349 wd2 wd350 rfl rfl (by decide +kernel) rfl ⟨hR.1, hR.2⟩) (c_hurtCount l D ad ca tw X.2.2.2.2.2.2.1 σ hwf ) rfl hsz rfl hrs hdg hcap) (fun r u H1 locs1 h1 h2 h3 => ?_)
  obtain ⟨rfl, rfl⟩ := h1
  exact kk H1 locs1 h2 h3
set_option maxHeartbeats 4000000 in
set_option maxRecDepth 100000 in
theorem c_payOfAll (l : Launch) (D : va_G) (ad : Nat → Nat) (ca : Nat → ClassId) (tw : Nat) (hI : ∀ i j, i < 40 → j < 40 → ad i = ad j → i = j) (σ : St) (hwf : WF σ)  : Met l yX3_payOfAll (wm yX3_payOfAll cX3_payOfAll 3 (some .int)) ({ frames := 0, cells := 0, slots := 0, locals := 0 } : Room) (va_Pc [.ref (ad 0)] (wPre D ad ca tw σ)) (va_Qi (fun r u => r = f_payOfAll σ ∧ u = σ) (wB D ad ca) (Aw ad)) 0 0 (Aw ad) := by
  generalize hF : f_payOfAll σ = F
  refine Met.ofW (cc := cX3_payOfAll) (maxL := 3) (ret := (some .int)) (by decide) rfl ?_
  intro p e s m args below meth c s₁ B hml hv
  obtain ⟨rfl, hv⟩ := hv
  have X := q_open (own := RX3) B rfl hml hI hv
  have hx := X.1
  have hb := X.2.1
  have hts := X.2.2.2.2.1
  have hr := B.returns
  have hlocks := B.notSynchronized
  have hP := hv.1
  have hS : va_S (Aw ad) s.heap s.heap [] := va_S.rf
  have hl := lv_entry ([.ref (ad 0)]) (n := 3) (Nat.le_of_ble_eq_true rfl)
  rw [lg_entry_eq]
  generalize (lg_sl ([.ref (ad 0)]) ++ List.replicate (3 - (lg_sl ([.ref (ad 0)])).length) Slot.unset).toArray = ls at hl ⊢
  have hl : lv_has ls 3 [(0, .ref (ad 0))] := hl
  unfold f_payOfAll at hF
  replace hF : (f_payOfAll_L4 σ 128 (0 : Int32) (0 : Int32)) = F := hF
  refine lv_iconst (v := (0 : Int32)) hx hb dX3_payOfAll_0 (by decide) ?_
  refine lv_istore_n (lv' := [(1, .int (0 : Int32)), (0, .ref (ad 0))]) hx hb dX3_payOfAll_1 rfl hl (by decide) rfl (fun ls hl => ?_)
  refine lv_iconst (v := (0 : Int32)) hx hb dX3_payOfAll_2 (by decide) ?_
  refine lv_istore_n (lv' := [(2, .int (0 : Int32)), (1, .int (0 : Int32)), (0, .ref (ad 0))]) hx hb dX3_payOfAll_3 rfl hl (by decide) rfl (fun ls hl => ?_)
  have L_4 : ∀ (n_4 : Nat) (y2_4 : Int32) (y1_4 : Int32) (H : Heap) (locs : List Loc) (ls : Array Slot), lpI 8 y2_4 n_4 → va_P D vwCl (wl ad ca σ) H → va_S (Aw ad) s.heap H locs → lv_has ls 3 [(2, .int y2_4), (1, .int y1_4), (0, .ref (ad 0))] → f_payOfAll_L4 σ (n_4) y2_4 y1_4 = F → W p l e (headSpec (wm yX3_payOfAll cX3_payOfAll 3 (some .int)) ({ frames := 0, cells := 0, slots := 0, locals := 0 } : Room)).room s m ([.ref (ad 0)] : List Value).toArray below meth c H locs 0 0 (MQ below (va_Qi (fun r u => r = F ∧ u = σ) (wB D ad ca) (Aw ad)) ([.ref (ad 0)] : List Value).toArray s 0 0 (Aw ad)) (F0 m 4 ls []) := by
    intro n_4
    induction n_4 with
    | zero => intro y2_4 y1_4 H locs ls hi_4 _ _ _ _; exact absurd hi_4 (fun h => lp_0 h)
    | succ n_4 ih_4 =>
      intro y2_4 y1_4 H locs ls hi_4 hP hS hl hF
      rw [f_payOfAll_L4] at hF
      refine lv_iload_n hx hb dX3_payOfAll_4 rfl (lv_at hl 0 rfl) ?_
      refine lv_aload_n hx hb dX3_payOfAll_5 rfl (lv_at hl 2 rfl) ?_
      refine q_getM (v := .int (σ.1 0 3)) X hP 3 (by decide) (hts _ wd16) rfl dX3_payOfAll_6 ?_
      refine lv_icmp_ge (tgt := 30) hx hb dX3_payOfAll_9 (by decide) (fun c_9 => ?_) (fun c_9 => ?_)
      · rw [if_pos c_9] at hF
        refine lv_iload_n hx hb dX3_payOfAll_30 rfl (lv_at hl 1 rfl) ?_
        exact W.iret (v := y1_4) hx hb hr (fun t ht hW => ⟨⟨y1_4, σ, rfl, ⟨hF, rfl⟩, wB_of ht hP⟩, hS.F ht⟩) hS.2.2 dX3_payOfAll_31
      · have hlt_4 : y2_4.toInt < 8 := lt_nle c_9 hwf.1.2
        rw [if_neg c_9] at hF
        refine lv_iload_n hx hb dX3_payOfAll_12 rfl (lv_at hl 1 rfl) ?_
        refine lv_aload_n hx hb dX3_payOfAll_13 rfl (lv_at hl 2 rfl) ?_
        refine q_getM (v := .ref (ad 1)) X hP 0 (by decide) (hts _ wd11) rfl dX3_payOfAll_14 ?_
        refine lv_iload_n hx hb dX3_payOfAll_17 rfl (lv_at hl 0 rfl) ?_
        refine q_aldP X hP (lp_i hi_4 hlt_4) dX3_payOfAll_18 ?_
        refine q_getP (v := .int (σ.1 (6 + y2_4.toNatClampNeg) 7)) X hP y2_4.toNatClampNeg (ix_lt (lp_i hi_4 hlt_4)) 7 (by decide) (hts _ wd278) rfl dX3_payOfAll_19 ?_
        refine lv_iadd hx hb dX3_payOfAll_22 ?_
        refine lv_istore_n (lv' := [(1, .int (y1_4 + (σ.1 (6 + y2_4.toNatClampNeg) 7))), (2, .int y2_4), (0, .ref (ad 0))]) hx hb dX3_payOfAll_23 rfl hl (by decide) rfl (fun ls hl => ?_)
        refine lv_iinc (v := (y2_4 + (1 : Int32))) (lv' := [(2, .int (y2_4 + (1 : Int32))), (1, .int (y1_4 + (σ.1 (6 + y2_4.toNatClampNeg) 7))), (0, .ref (ad 0))]) hx hb dX3_payOfAll_24 hl (k := 1) rfl rfl (by decide) rfl (fun ls hl => ?_)
        refine lv_goto (tgt := 4) hx hb dX3_payOfAll_27 (by decide) ?_
        exact ih_4 (y2_4 + (1 : Int32)) (y1_4 + (σ.1 (6 + y2_4.toNatClampNeg) 7)) _ _ _ (lp_s hi_4 hlt_4) hP hS (lv_sub hl [0, 1, 2] rfl) hF
  exact L_4 128 (0 : Int32) (0 : Int32) _ _ _ (lp_z (by decide)) hP hS hl hF
theorem k_payOfAll {p : Program} {l : Launch} {e : Env} {R : Room} {s : State} {m : MethodId} {args : Array Value} {below : List Frame} {meth : Method} {c : Code} {H : Heap} {locs : List Loc} {cells slots : Nat} {Q : State → Prop} {cc : ByteArray} {pc : Nat} {ls : Array Slot} {rest : List Value} {D : va_G} {A : Nat → Prop} {ad : Nat → Nat} {ca : Nat → ClassId} {tw nL : Nat} {σ : St} {own : String} {index : Nat} (X : Cx p s m args c own cc nL D ad ca tw A) (hP : va_P D vwCl (wl ad ca σ) H) (hS : va_S A s.heap H locs) (hR : 1 ≤ R.frames ∧ 22 ≤ R.locals) (hcap : cells ≤ R.cells ∧ slots ≤ R.slots) (hlk : Cond.methodLink own index yX3_payOfAll ∈ wsL_law0) (hsz : ls.size = nL) (hrs : (rest.map fun v => v.category).sum ≤ 8) (hdg : decode cc pc = .ok (.invokevirtual index, 3)) (hwf : WF σ) 
    (kk : ∀ (H1 : Heap) (locs1 : List Loc), va_P D vwCl (wl ad ca σ) H1 → va_S A s.heap H1 locs1 → W p l e R s m args below meth c H1 locs1 cells slots Q (F0 m (pc + 3) ls (.int (f_payOfAll σ) :: rest))) : W p l e R s m args below meth c H locs cells slots Q (F0 m pc ls (.ref (ad 0) :: rest)) := by
  refine q_bi X hS (q_runV (as := []) X hP hS (q_cwV (rm := ({ frames := 0, cells := 0, slots := 0, locals := 0 } : Room)) (k := 0) X.2.2.2.2.1 hlk wd352 wd353 wd2 wd354 rfl rfl (by decide +kernel) rfl ⟨hR.1, hR.2⟩) (c_payOfAll l D ad ca tw X.2.2.2.2.2.2.1 σ hwf ) rfl hsz rfl hrs hdg hcap) (fun r u H1 locs1 h1 h2 h3 => ?_)
  obtain ⟨rfl, rfl⟩ := h1
  exact kk H1 locs1 h2 h3
set_option maxHeartbeats 4000000 in
set_option maxRecDepth 100000 in
theorem c_missesOfAll (l : Launch) (D : va_G) (ad : Nat → Nat) (ca : Nat → ClassId) (tw : Nat) (hI : ∀ i j, i < 40 → j < 40 → ad i = ad j → i = j) (σ : St) (hwf : WF σ)  : Met l yX3_missesOfAll (wm yX3_missesOfAll cX3_missesOfAll 3 (some .int)) ({ frames := 0, cells := 0, slots := 0, locals := 0 } : Room) (va_Pc [.ref (ad 0)] (wPre D ad ca tw σ)) (va_Qi (fun r u => r = f_missesOfAll σ ∧ u = σ) (wB D ad ca) (Aw ad)) 0 0 (Aw ad) := by
  generalize hF : f_missesOfAll σ = F
  refine Met.ofW (cc := cX3_missesOfAll) (maxL := 3) (ret := (some .int)) (by decide) rfl ?_
  intro p e s m args below meth c s₁ B hml hv
  obtain ⟨rfl, hv⟩ := hv
  have X := q_open (own := RX3) B rfl hml hI hv
  have hx := X.1
  have hb := X.2.1
  have hts := X.2.2.2.2.1
  have hr := B.returns
  have hlocks := B.notSynchronized
  have hP := hv.1
  have hS : va_S (Aw ad) s.heap s.heap [] := va_S.rf
  have hl := lv_entry ([.ref (ad 0)]) (n := 3) (Nat.le_of_ble_eq_true rfl)
  rw [lg_entry_eq]
  generalize (lg_sl ([.ref (ad 0)]) ++ List.replicate (3 - (lg_sl ([.ref (ad 0)])).length) Slot.unset).toArray = ls at hl ⊢
  have hl : lv_has ls 3 [(0, .ref (ad 0))] := hl
  unfold f_missesOfAll at hF
  replace hF : (f_missesOfAll_L4 σ 128 (0 : Int32) (0 : Int32)) = F := hF
  refine lv_iconst (v := (0 : Int32)) hx hb dX3_missesOfAll_0 (by decide) ?_
  refine lv_istore_n (lv' := [(1, .int (0 : Int32)), (0, .ref (ad 0))]) hx hb dX3_missesOfAll_1 rfl hl (by decide) rfl (fun ls hl => ?_)
  refine lv_iconst (v := (0 : Int32)) hx hb dX3_missesOfAll_2 (by decide) ?_
  refine lv_istore_n (lv' := [(2, .int (0 : Int32)), (1, .int (0 : Int32)), (0, .ref (ad 0))]) hx hb dX3_missesOfAll_3 rfl hl (by decide) rfl (fun ls hl => ?_)
  have L_4 : ∀ (n_4 : Nat) (y2_4 : Int32) (y1_4 : Int32) (H : Heap) (locs : List Loc) (ls : Array Slot), lpI 4 y2_4 n_4 → va_P D vwCl (wl ad ca σ) H → va_S (Aw ad) s.heap H locs → lv_has ls 3 [(2, .int y2_4), (1, .int y1_4), (0, .ref (ad 0))] → f_missesOfAll_L4 σ (n_4) y2_4 y1_4 = F → W p l e (headSpec (wm yX3_missesOfAll cX3_missesOfAll 3 (some .int)) ({ frames := 0, cells := 0, slots := 0, locals := 0 } : Room)).room s m ([.ref (ad 0)] : List Value).toArray below meth c H locs 0 0 (MQ below (va_Qi (fun r u => r = F ∧ u = σ) (wB D ad ca) (Aw ad)) ([.ref (ad 0)] : List Value).toArray s 0 0 (Aw ad)) (F0 m 4 ls []) := by
    intro n_4
    induction n_4 with
    | zero => intro y2_4 y1_4 H locs ls hi_4 _ _ _ _; exact absurd hi_4 (fun h => lp_0 h)
    | succ n_4 ih_4 =>
      intro y2_4 y1_4 H locs ls hi_4 hP hS hl hF
      rw [f_missesOfAll_L4] at hF
      refine lv_iload_n hx hb dX3_missesOfAll_4 rfl (lv_at hl 0 rfl) ?_
      refine lv_iconst (v := (4 : Int32)) hx hb dX3_missesOfAll_5 (by decide) ?_
      refine lv_icmp_ge (tgt := 24) hx hb dX3_missesOfAll_6 (by decide) (fun c_6 => ?_) (fun c_6 => ?_)
      · rw [if_pos c_6] at hF
        refine lv_iload_n hx hb dX3_missesOfAll_24 rfl (lv_at hl 1 rfl) ?_
        exact W.iret (v := y1_4) hx hb hr (fun t ht hW => ⟨⟨y1_4, σ, rfl, ⟨hF, rfl⟩, wB_of ht hP⟩, hS.F ht⟩) hS.2.2 dX3_missesOfAll_25
      · have hlt_4 : y2_4.toInt < 4 := lt_nle c_6 (by decide)
        rw [if_neg c_6] at hF
        refine lv_iload_n hx hb dX3_missesOfAll_9 rfl (lv_at hl 1 rfl) ?_
        refine lv_aload_n hx hb dX3_missesOfAll_10 rfl (lv_at hl 2 rfl) ?_
        refine q_getM (v := .ref (ad 5)) X hP 7 (by decide) (hts _ wd20) rfl dX3_missesOfAll_11 ?_
        refine lv_iload_n hx hb dX3_missesOfAll_14 rfl (lv_at hl 0 rfl) ?_
        refine q_iald X hP 5 (by decide) (lp_i hi_4 hlt_4) dX3_missesOfAll_15 ?_
        refine lv_iadd hx hb dX3_missesOfAll_16 ?_
        refine lv_istore_n (lv' := [(1, .int (y1_4 + (σ.1 5 y2_4.toNatClampNeg))), (2, .int y2_4), (0, .ref (ad 0))]) hx hb dX3_missesOfAll_17 rfl hl (by decide) rfl (fun ls hl => ?_)
        refine lv_iinc (v := (y2_4 + (1 : Int32))) (lv' := [(2, .int (y2_4 + (1 : Int32))), (1, .int (y1_4 + (σ.1 5 y2_4.toNatClampNeg))), (0, .ref (ad 0))]) hx hb dX3_missesOfAll_18 hl (k := 1) rfl rfl (by decide) rfl (fun ls hl => ?_)
        refine lv_goto (tgt := 4) hx hb dX3_missesOfAll_21 (by decide) ?_
        exact ih_4 (y2_4 + (1 : Int32)) (y1_4 + (σ.1 5 y2_4.toNatClampNeg)) _ _ _ (lp_s hi_4 hlt_4) hP hS (lv_sub hl [0, 1, 2] rfl) hF
  exact L_4 128 (0 : Int32) (0 : Int32) _ _ _ (lp_z (by decide)) hP hS hl hF
theorem k_missesOfAll {p : Program} {l : Launch} {e : Env} {R : Room} {s : State} {m : MethodId} {args : Array Value} {below : List Frame} {meth : Method} {c : Code} {H : Heap} {locs : List Loc} {cells slots : Nat} {Q : State → Prop} {cc : ByteArray} {pc : Nat} {ls : Array Slot} {rest : List Value} {D : va_G} {A : Nat → Prop} {ad : Nat → Nat} {ca : Nat → ClassId} {tw nL : Nat} {σ : St} {own : String} {index : Nat} (X : Cx p s m args c own cc nL D ad ca tw A) (hP : va_P D vwCl (wl ad ca σ) H) (hS : va_S A s.heap H locs) (hR : 1 ≤ R.frames ∧ 22 ≤ R.locals) (hcap : cells ≤ R.cells ∧ slots ≤ R.slots) (hlk : Cond.methodLink own index yX3_missesOfAll ∈ wsL_law0) (hsz : ls.size = nL) (hrs : (rest.map fun v => v.category).sum ≤ 8) (hdg : decode cc pc = .ok (.invokevirtual index, 3)) (hwf : WF σ) 
    (kk : ∀ (H1 : Heap) (locs1 : List Loc), va_P D vwCl (wl ad ca σ) H1 → va_S A s.heap H1 locs1 → W p l e R s m args below meth c H1 locs1 cells slots Q (F0 m (pc + 3) ls (.int (f_missesOfAll σ) :: rest))) : W p l e R s m args below meth c H locs cells slots Q (F0 m pc ls (.ref (ad 0) :: rest)) := by
  refine q_bi X hS (q_runV (as := []) X hP hS (q_cwV (rm := ({ frames := 0, cells := 0, slots := 0, locals := 0 } : Room)) (k := 0) X.2.2.2.2.1 hlk wd344 wd345 wd2 wd346 rfl rfl (by decide +kernel) rfl ⟨hR.1, hR.2⟩) (c_missesOfAll l D ad ca tw X.2.2.2.2.2.2.1 σ hwf ) rfl hsz rfl hrs hdg hcap) (fun r u H1 locs1 h1 h2 h3 => ?_)
  obtain ⟨rfl, rfl⟩ := h1
  exact kk H1 locs1 h2 h3
set_option maxHeartbeats 4000000 in
set_option maxRecDepth 100000 in
theorem c_bestFreePiece (l : Launch) (D : va_G) (ad : Nat → Nat) (ca : Nat → ClassId) (tw : Nat) (hI : ∀ i j, i < 40 → j < 40 → ad i = ad j → i = j) (σ : St) (x1 : Int32) (x2 : Int32) (hwf : WF σ)  : Met l yX3_bestFreePiece (wm yX3_bestFreePiece cX3_bestFreePiece 6 (some .int)) ({ frames := 1, cells := 0, slots := 0, locals := 22 } : Room) (va_Pc [.ref (ad 0), .int x1, .int x2] (wPre D ad ca tw σ)) (va_Qi (fun r u => r = f_bestFreePiece σ x1 x2 ∧ u = σ) (wB D ad ca) (Aw ad)) 0 0 (Aw ad) := by
  generalize hF : f_bestFreePiece σ x1 x2 = F
  refine Met.ofW (cc := cX3_bestFreePiece) (maxL := 6) (ret := (some .int)) (by decide) rfl ?_
  intro p e s m args below meth c s₁ B hml hv
  obtain ⟨rfl, hv⟩ := hv
  have X := q_open (own := RX3) B rfl hml hI hv
  have hx := X.1
  have hb := X.2.1
  have hts := X.2.2.2.2.1
  have hr := B.returns
  have hlocks := B.notSynchronized
  have hP := hv.1
  have hS : va_S (Aw ad) s.heap s.heap [] := va_S.rf
  have hl := lv_entry ([.ref (ad 0), .int x1, .int x2]) (n := 6) (Nat.le_of_ble_eq_true rfl)
  rw [lg_entry_eq]
  generalize (lg_sl ([.ref (ad 0), .int x1, .int x2]) ++ List.replicate (6 - (lg_sl ([.ref (ad 0), .int x1, .int x2])).length) Slot.unset).toArray = ls at hl ⊢
  have hl : lv_has ls 6 [(0, .ref (ad 0)), (1, .int x1), (2, .int x2)] := hl
  unfold f_bestFreePiece at hF
  replace hF : (f_bestFreePiece_L5 σ x1 x2 128 (0 : Int32) (-1 : Int32)) = F := hF
  refine lv_iconst (v := (-1 : Int32)) hx hb dX3_bestFreePiece_0 (by decide) ?_
  refine lv_istore_n (lv' := [(3, .int (-1 : Int32)), (0, .ref (ad 0)), (1, .int x1), (2, .int x2)]) hx hb dX3_bestFreePiece_1 rfl hl (by decide) rfl (fun ls hl => ?_)
  refine lv_iconst (v := (0 : Int32)) hx hb dX3_bestFreePiece_2 (by decide) ?_
  refine lv_istore (lv' := [(4, .int (0 : Int32)), (3, .int (-1 : Int32)), (0, .ref (ad 0)), (1, .int x1), (2, .int x2)]) hx hb dX3_bestFreePiece_3 hl (by decide) rfl (fun ls hl => ?_)
  have L_5 : ∀ (n_5 : Nat) (y4_5 : Int32) (y3_5 : Int32) (H : Heap) (locs : List Loc) (ls : Array Slot), lpI 12 y4_5 n_5 → (y3_5 = (-1 : Int32) ∨ vp_in y3_5 12) → va_P D vwCl (wl ad ca σ) H → va_S (Aw ad) s.heap H locs → lv_has ls 6 [(4, .int y4_5), (3, .int y3_5), (0, .ref (ad 0)), (1, .int x1), (2, .int x2)] → f_bestFreePiece_L5 σ x1 x2 (n_5) y4_5 y3_5 = F → W p l e (headSpec (wm yX3_bestFreePiece cX3_bestFreePiece 6 (some .int)) ({ frames := 1, cells := 0, slots := 0, locals := 22 } : Room)).room s m ([.ref (ad 0), .int x1, .int x2] : List Value).toArray below meth c H locs 0 0 (MQ below (va_Qi (fun r u => r = F ∧ u = σ) (wB D ad ca) (Aw ad)) ([.ref (ad 0), .int x1, .int x2] : List Value).toArray s 0 0 (Aw ad)) (F0 m 5 ls []) := by
    intro n_5
    induction n_5 with
    | zero => intro y4_5 y3_5 H locs ls hi_5 hbest _ _ _ _; exact absurd hi_5 (fun h => lp_0 h)
    | succ n_5 ih_5 =>
      intro y4_5 y3_5 H locs ls hi_5 hbest hP hS hl hF
      rw [f_bestFreePiece_L5] at hF
      refine lv_iload hx hb dX3_bestFreePiece_5 (lv_at hl 0 rfl) ?_
      refine lv_aload_n hx hb dX3_bestFreePiece_7 rfl (lv_at hl 2 rfl) ?_
      refine q_getM (v := .int (σ.1 0 4)) X hP 4 (by decide) (hts _ wd17) rfl dX3_bestFreePiece_8 ?_
      refine lv_icmp_ge (tgt := 108) hx hb dX3_bestFreePiece_11 (by decide) (fun c_11 => ?_) (fun c_11 => ?_)
      · rw [if_pos c_11] at hF
        refine lv_iload_n hx hb dX3_bestFreePiece_108 rfl (lv_at hl 1 rfl) ?_
        exact W.iret (v := y3_5) hx hb hr (fun t ht hW => ⟨⟨y3_5, σ, rfl, ⟨hF, rfl⟩, wB_of ht hP⟩, hS.F ht⟩) hS.2.2 dX3_bestFreePiece_109
      · have hlt_5 : y4_5.toInt < 12 := lt_nle c_11 hwf.2.1.2
        rw [if_neg c_11] at hF
        refine lv_aload_n hx hb dX3_bestFreePiece_14 rfl (lv_at hl 2 rfl) ?_
        refine q_getM (v := .ref (ad 2)) X hP 1 (by decide) (hts _ wd13) rfl dX3_bestFreePiece_15 ?_
        refine lv_iload hx hb dX3_bestFreePiece_18 (lv_at hl 0 rfl) ?_
        refine q_aldK X hP (lp_i hi_5 hlt_5) dX3_bestFreePiece_20 ?_
        refine q_getK (v := .int (σ.1 (22 + y4_5.toNatClampNeg) 0)) X hP y4_5.toNatClampNeg (ix_lt (lp_i hi_5 hlt_5)) 0 (by decide) (hts _ wd188) rfl dX3_bestFreePiece_21 ?_
        refine lv_iload_n hx hb dX3_bestFreePiece_24 rfl (lv_at hl 3 rfl) ?_
        refine lv_icmp_ne (tgt := 64) hx hb dX3_bestFreePiece_25 (by decide) (fun c_25 => ?_) (fun c_25 => ?_)
        · rw [if_neg c_25] at hF
          refine lv_iconst (v := (0 : Int32)) hx hb dX3_bestFreePiece_64 (by decide) ?_
          refine lv_istore (lv' := [(5, .int (0 : Int32)), (4, .int y4_5), (3, .int y3_5), (0, .ref (ad 0)), (1, .int x1), (2, .int x2)]) hx hb dX3_bestFreePiece_65 hl (by decide) rfl (fun ls hl => ?_)
          refine lv_iload hx hb dX3_bestFreePiece_67 (lv_at hl 0 rfl) ?_
          refine lv_if_eq (tgt := 102) hx hb dX3_bestFreePiece_69 (by decide) (fun c_69 => ?_) (fun c_69 => ?_)
          · refine lv_iinc (v := (y4_5 + (1 : Int32))) (lv' := [(4, .int (y4_5 + (1 : Int32))), (5, .int (0 : Int32)), (3, .int y3_5), (0, .ref (ad 0)), (1, .int x1), (2, .int x2)]) hx hb dX3_bestFreePiece_102 hl (k := 1) rfl rfl (by decide) rfl (fun ls hl => ?_)
            refine lv_goto (tgt := 5) hx hb dX3_bestFreePiece_105 (by decide) ?_
            exact ih_5 (y4_5 + (1 : Int32)) y3_5 _ _ _ (lp_s hi_5 hlt_5) hbest hP hS (lv_sub hl [0, 2, 3, 4, 5] rfl) hF
          · exact absurd c_69 (by decide)
        · rw [if_pos c_25] at hF
          refine lv_aload_n hx hb dX3_bestFreePiece_28 rfl (lv_at hl 2 rfl) ?_
          refine q_getM (v := .ref (ad 2)) X hP 1 (by decide) (hts _ wd13) rfl dX3_bestFreePiece_29 ?_
          refine lv_iload hx hb dX3_bestFreePiece_32 (lv_at hl 0 rfl) ?_
          refine q_aldK X hP (lp_i hi_5 hlt_5) dX3_bestFreePiece_34 ?_
          refine q_getK (v := .int (σ.1 (22 + y4_5.toNatClampNeg) 4)) X hP y4_5.toNatClampNeg (ix_lt (lp_i hi_5 hlt_5)) 4 (by decide) (hts _ wd187) rfl dX3_bestFreePiece_35 ?_
          refine lv_iconst (v := (-1 : Int32)) hx hb dX3_bestFreePiece_38 (by decide) ?_
          refine lv_icmp_ne (tgt := 64) hx hb dX3_bestFreePiece_39 (by decide) (fun c_39 => ?_) (fun c_39 => ?_)
          · rw [if_neg c_39] at hF
            refine lv_iconst (v := (0 : Int32)) hx hb dX3_bestFreePiece_64 (by decide) ?_
            refine lv_istore (lv' := [(5, .int (0 : Int32)), (4, .int y4_5), (3, .int y3_5), (0, .ref (ad 0)), (1, .int x1), (2, .int x2)]) hx hb dX3_bestFreePiece_65 hl (by decide) rfl (fun ls hl => ?_)
            refine lv_iload hx hb dX3_bestFreePiece_67 (lv_at hl 0 rfl) ?_
            refine lv_if_eq (tgt := 102) hx hb dX3_bestFreePiece_69 (by decide) (fun c_69 => ?_) (fun c_69 => ?_)
            · refine lv_iinc (v := (y4_5 + (1 : Int32))) (lv' := [(4, .int (y4_5 + (1 : Int32))), (5, .int (0 : Int32)), (3, .int y3_5), (0, .ref (ad 0)), (1, .int x1), (2, .int x2)]) hx hb dX3_bestFreePiece_102 hl (k := 1) rfl rfl (by decide) rfl (fun ls hl => ?_)
              refine lv_goto (tgt := 5) hx hb dX3_bestFreePiece_105 (by decide) ?_
              exact ih_5 (y4_5 + (1 : Int32)) y3_5 _ _ _ (lp_s hi_5 hlt_5) hbest hP hS (lv_sub hl [0, 2, 3, 4, 5] rfl) hF
            · exact absurd c_69 (by decide)
          · rw [if_pos c_39] at hF
            refine lv_aload_n hx hb dX3_bestFreePiece_42 rfl (lv_at hl 2 rfl) ?_
            refine lv_iload hx hb dX3_bestFreePiece_43 (lv_at hl 0 rfl) ?_
            refine k_isFit X hP hS ⟨Nat.le_of_ble_eq_true rfl, Nat.le_of_ble_eq_true rfl⟩ ⟨Nat.zero_le _, Nat.zero_le _⟩ wd189 hl.1 (Nat.le_of_ble_eq_true rfl) dX3_bestFreePiece_45 y4_5 hwf (lp_i hi_5 hlt_5) (fun H locs hP hS => ?_)
            refine lv_if_eq (tgt := 64) hx hb dX3_bestFreePiece_48 (by decide) (fun c_48 => ?_) (fun c_48 => ?_)
            · rw [if_pos c_48] at hF
              refine lv_iconst (v := (0 : Int32)) hx hb dX3_bestFreePiece_64 (by decide) ?_
              refine lv_istore (lv' := [(5, .int (0 : Int32)), (4, .int y4_5), (3, .int y3_5), (0, .ref (ad 0)), (1, .int x1), (2, .int x2)]) hx hb dX3_bestFreePiece_65 hl (by decide) rfl (fun ls hl => ?_)
              refine lv_iload hx hb dX3_bestFreePiece_67 (lv_at hl 0 rfl) ?_
              refine lv_if_eq (tgt := 102) hx hb dX3_bestFreePiece_69 (by decide) (fun c_69 => ?_) (fun c_69 => ?_)
              · refine lv_iinc (v := (y4_5 + (1 : Int32))) (lv' := [(4, .int (y4_5 + (1 : Int32))), (5, .int (0 : Int32)), (3, .int y3_5), (0, .ref (ad 0)), (1, .int x1), (2, .int x2)]) hx hb dX3_bestFreePiece_102 hl (k := 1) rfl rfl (by decide) rfl (fun ls hl => ?_)
                refine lv_goto (tgt := 5) hx hb dX3_bestFreePiece_105 (by decide) ?_
                exact ih_5 (y4_5 + (1 : Int32)) y3_5 _ _ _ (lp_s hi_5 hlt_5) hbest hP hS (lv_sub hl [0, 2, 3, 4, 5] rfl) hF
              · exact absurd c_69 (by decide)
            · rw [if_neg c_48] at hF
              refine lv_iload_n hx hb dX3_bestFreePiece_51 rfl (lv_at hl 4 rfl) ?_
              refine lv_iload hx hb dX3_bestFreePiece_52 (lv_at hl 0 rfl) ?_
              refine k_isInSet X hP hS ⟨Nat.le_of_ble_eq_true rfl, Nat.le_of_ble_eq_true rfl⟩ ⟨Nat.zero_le _, Nat.zero_le _⟩ wd299 hl.1 (Nat.le_of_ble_eq_true rfl) dX3_bestFreePiece_54 x2 y4_5 hwf  (fun H locs hP hS => ?_)
              refine lv_if_ne (tgt := 64) hx hb dX3_bestFreePiece_57 (by decide) (fun c_57 => ?_) (fun c_57 => ?_)
              · rw [if_neg c_57] at hF
                refine lv_iconst (v := (0 : Int32)) hx hb dX3_bestFreePiece_64 (by decide) ?_
                refine lv_istore (lv' := [(5, .int (0 : Int32)), (4, .int y4_5), (3, .int y3_5), (0, .ref (ad 0)), (1, .int x1), (2, .int x2)]) hx hb dX3_bestFreePiece_65 hl (by decide) rfl (fun ls hl => ?_)
                refine lv_iload hx hb dX3_bestFreePiece_67 (lv_at hl 0 rfl) ?_
                refine lv_if_eq (tgt := 102) hx hb dX3_bestFreePiece_69 (by decide) (fun c_69 => ?_) (fun c_69 => ?_)
                · refine lv_iinc (v := (y4_5 + (1 : Int32))) (lv' := [(4, .int (y4_5 + (1 : Int32))), (5, .int (0 : Int32)), (3, .int y3_5), (0, .ref (ad 0)), (1, .int x1), (2, .int x2)]) hx hb dX3_bestFreePiece_102 hl (k := 1) rfl rfl (by decide) rfl (fun ls hl => ?_)
                  refine lv_goto (tgt := 5) hx hb dX3_bestFreePiece_105 (by decide) ?_
                  exact ih_5 (y4_5 + (1 : Int32)) y3_5 _ _ _ (lp_s hi_5 hlt_5) hbest hP hS (lv_sub hl [0, 2, 3, 4, 5] rfl) hF
                · exact absurd c_69 (by decide)
              · rw [if_pos c_57] at hF
                refine lv_iconst (v := (1 : Int32)) hx hb dX3_bestFreePiece_60 (by decide) ?_
                refine lv_goto (tgt := 65) hx hb dX3_bestFreePiece_61 (by decide) ?_
                refine lv_istore (lv' := [(5, .int (1 : Int32)), (4, .int y4_5), (3, .int y3_5), (0, .ref (ad 0)), (1, .int x1), (2, .int x2)]) hx hb dX3_bestFreePiece_65 hl (by decide) rfl (fun ls hl => ?_)
                refine lv_iload hx hb dX3_bestFreePiece_67 (lv_at hl 0 rfl) ?_
                refine lv_if_eq (tgt := 102) hx hb dX3_bestFreePiece_69 (by decide) (fun c_69 => ?_) (fun c_69 => ?_)
                · exact absurd c_69 (by decide)
                · refine lv_iload_n hx hb dX3_bestFreePiece_72 rfl (lv_at hl 2 rfl) ?_
                  refine lv_iconst (v := (-1 : Int32)) hx hb dX3_bestFreePiece_73 (by decide) ?_
                  refine lv_icmp_eq (tgt := 99) hx hb dX3_bestFreePiece_74 (by decide) (fun c_74 => ?_) (fun c_74 => ?_)
                  · rw [if_pos c_74] at hF
                    refine lv_iload hx hb dX3_bestFreePiece_99 (lv_at hl 1 rfl) ?_
                    refine lv_istore_n (lv' := [(3, .int y4_5), (5, .int (1 : Int32)), (4, .int y4_5), (0, .ref (ad 0)), (1, .int x1), (2, .int x2)]) hx hb dX3_bestFreePiece_101 rfl hl (by decide) rfl (fun ls hl => ?_)
                    refine lv_iinc (v := (y4_5 + (1 : Int32))) (lv' := [(4, .int (y4_5 + (1 : Int32))), (3, .int y4_5), (5, .int (1 : Int32)), (0, .ref (ad 0)), (1, .int x1), (2, .int x2)]) hx hb dX3_bestFreePiece_102 hl (k := 2) rfl rfl (by decide) rfl (fun ls hl => ?_)
                    refine lv_goto (tgt := 5) hx hb dX3_bestFreePiece_105 (by decide) ?_
                    exact ih_5 (y4_5 + (1 : Int32)) y4_5 _ _ _ (lp_s hi_5 hlt_5) (Or.inr (lp_i hi_5 hlt_5)) hP hS (lv_sub hl [0, 1, 3, 4, 5] rfl) hF
                  · rw [if_neg c_74] at hF
                    refine lv_aload_n hx hb dX3_bestFreePiece_77 rfl (lv_at hl 3 rfl) ?_
                    refine q_getM (v := .ref (ad 2)) X hP 1 (by decide) (hts _ wd13) rfl dX3_bestFreePiece_78 ?_
                    refine lv_iload hx hb dX3_bestFreePiece_81 (lv_at hl 1 rfl) ?_
                    refine q_aldK X hP (lp_i hi_5 hlt_5) dX3_bestFreePiece_83 ?_
                    refine q_getK (v := .int (σ.1 (22 + y4_5.toNatClampNeg) 1)) X hP y4_5.toNatClampNeg (ix_lt (lp_i hi_5 hlt_5)) 1 (by decide) (hts _ wd182) rfl dX3_bestFreePiece_84 ?_
                    refine lv_aload_n hx hb dX3_bestFreePiece_87 rfl (lv_at hl 3 rfl) ?_
                    refine q_getM (v := .ref (ad 2)) X hP 1 (by decide) (hts _ wd13) rfl dX3_bestFreePiece_88 ?_
                    refine lv_iload_n hx hb dX3_bestFreePiece_91 rfl (lv_at hl 2 rfl) ?_
                    refine q_aldK X hP (hbest.resolve_left c_74) dX3_bestFreePiece_92 ?_
                    refine q_getK (v := .int (σ.1 (22 + y3_5.toNatClampNeg) 1)) X hP y3_5.toNatClampNeg (ix_lt (hbest.resolve_left c_74)) 1 (by decide) (hts _ wd182) rfl dX3_bestFreePiece_93 ?_
                    refine lv_icmp_le (tgt := 102) hx hb dX3_bestFreePiece_96 (by decide) (fun c_96 => ?_) (fun c_96 => ?_)
                    · rw [if_pos c_96] at hF
                      refine lv_iinc (v := (y4_5 + (1 : Int32))) (lv' := [(4, .int (y4_5 + (1 : Int32))), (5, .int (1 : Int32)), (3, .int y3_5), (0, .ref (ad 0)), (1, .int x1), (2, .int x2)]) hx hb dX3_bestFreePiece_102 hl (k := 1) rfl rfl (by decide) rfl (fun ls hl => ?_)
                      refine lv_goto (tgt := 5) hx hb dX3_bestFreePiece_105 (by decide) ?_
                      exact ih_5 (y4_5 + (1 : Int32)) y3_5 _ _ _ (lp_s hi_5 hlt_5) hbest hP hS (lv_sub hl [0, 2, 3, 4, 5] rfl) hF
                    · rw [if_neg c_96] at hF
                      refine lv_iload hx hb dX3_bestFreePiece_99 (lv_at hl 1 rfl) ?_
                      refine lv_istore_n (lv' := [(3, .int y4_5), (5, .int (1 : Int32)), (4, .int y4_5), (0, .ref (ad 0)), (1, .int x1), (2, .int x2)]) hx hb dX3_bestFreePiece_101 rfl hl (by decide) rfl (fun ls hl => ?_)
                      refine lv_iinc (v := (y4_5 + (1 : Int32))) (lv' := [(4, .int (y4_5 + (1 : Int32))), (3, .int y4_5), (5, .int (1 : Int32)), (0, .ref (ad 0)), (1, .int x1), (2, .int x2)]) hx hb dX3_bestFreePiece_102 hl (k := 2) rfl rfl (by decide) rfl (fun ls hl => ?_)
                      refine lv_goto (tgt := 5) hx hb dX3_bestFreePiece_105 (by decide) ?_
                      exact ih_5 (y4_5 + (1 : Int32)) y4_5 _ _ _ (lp_s hi_5 hlt_5) (Or.inr (lp_i hi_5 hlt_5)) hP hS (lv_sub hl [0, 1, 3, 4, 5] rfl) hF
  exact L_5 128 (0 : Int32) (-1 : Int32) _ _ _ (lp_z (by decide)) (Or.inl rfl) hP hS hl hF
theorem k_bestFreePiece {p : Program} {l : Launch} {e : Env} {R : Room} {s : State} {m : MethodId} {args : Array Value} {below : List Frame} {meth : Method} {c : Code} {H : Heap} {locs : List Loc} {cells slots : Nat} {Q : State → Prop} {cc : ByteArray} {pc : Nat} {ls : Array Slot} {rest : List Value} {D : va_G} {A : Nat → Prop} {ad : Nat → Nat} {ca : Nat → ClassId} {tw nL : Nat} {σ : St} {own : String} {index : Nat} (X : Cx p s m args c own cc nL D ad ca tw A) (hP : va_P D vwCl (wl ad ca σ) H) (hS : va_S A s.heap H locs) (hR : 2 ≤ R.frames ∧ 47 ≤ R.locals) (hcap : cells ≤ R.cells ∧ slots ≤ R.slots) (hlk : Cond.methodLink own index yX3_bestFreePiece ∈ wsL_law0) (hsz : ls.size = nL) (hrs : (rest.map fun v => v.category).sum ≤ 8) (hdg : decode cc pc = .ok (.invokevirtual index, 3)) (x1 : Int32) (x2 : Int32) (hwf : WF σ) 
    (kk : ∀ (H1 : Heap) (locs1 : List Loc), va_P D vwCl (wl ad ca σ) H1 → va_S A s.heap H1 locs1 → W p l e R s m args below meth c H1 locs1 cells slots Q (F0 m (pc + 3) ls (.int (f_bestFreePiece σ x1 x2) :: rest))) : W p l e R s m args below meth c H locs cells slots Q (F0 m pc ls (.int x2 :: .int x1 :: .ref (ad 0) :: rest)) := by
  refine q_bi X hS (q_runV (as := [.int x1, .int x2]) X hP hS (q_cwV (rm := ({ frames := 1, cells := 0, slots := 0, locals := 22 } : Room)) (k := 2) X.2.2.2.2.1 hlk wd399 wd400 wd2 wd401 rfl rfl (by decide +kernel) rfl ⟨hR.1, hR.2⟩) (c_bestFreePiece l D ad ca tw X.2.2.2.2.2.2.1 σ x1 x2 hwf ) rfl hsz rfl hrs hdg hcap) (fun r u H1 locs1 h1 h2 h3 => ?_)
  obtain ⟨rfl, rfl⟩ := h1
  exact kk H1 locs1 h2 h3
set_option maxHeartbeats 4000000 in
set_option maxRecDepth 100000 in
theorem c_ofPerson (l : Launch) (D : va_G) (ad : Nat → Nat) (ca : Nat → ClassId) (tw : Nat) (hI : ∀ i j, i < 40 → j < 40 → ad i = ad j → i = j) (σ : St) (x1 : Int32) (x2 : Int32) (hwf : WF σ) (hp : inr x1 (σ.1 0 3)) (hw : (0 : Int32).toInt ≤ x2.toInt ∧ x2.toInt ≤ (11 : Int32).toInt) : Met l yX3_ofPerson (wm yX3_ofPerson cX3_ofPerson 4 (some .int)) ({ frames := 4, cells := 0, slots := 0, locals := 88 } : Room) (va_Pc [.ref (ad 0), .int x1, .int x2] (wPre D ad ca tw σ)) (va_Qi (fun r u => r = f_ofPerson σ x1 x2 ∧ u = σ) (wB D ad ca) (Aw ad)) 0 0 (Aw ad) := by
  generalize hF : f_ofPerson σ x1 x2 = F
  refine Met.ofW (cc := cX3_ofPerson) (maxL := 4) (ret := (some .int)) (by decide) rfl ?_
  intro p e s m args below meth c s₁ B hml hv
  obtain ⟨rfl, hv⟩ := hv
  have X := q_open (own := RX3) B rfl hml hI hv
  have hx := X.1
  have hb := X.2.1
  have hts := X.2.2.2.2.1
  have hr := B.returns
  have hlocks := B.notSynchronized
  have hP := hv.1
  have hS : va_S (Aw ad) s.heap s.heap [] := va_S.rf
  have hl := lv_entry ([.ref (ad 0), .int x1, .int x2]) (n := 4) (Nat.le_of_ble_eq_true rfl)
  rw [lg_entry_eq]
  generalize (lg_sl ([.ref (ad 0), .int x1, .int x2]) ++ List.replicate (4 - (lg_sl ([.ref (ad 0), .int x1, .int x2])).length) Slot.unset).toArray = ls at hl ⊢
  have hl : lv_has ls 4 [(0, .ref (ad 0)), (1, .int x1), (2, .int x2)] := hl
  unfold f_ofPerson at hF
  replace hF : (if x2 = (4 : Int32) then (f_oneIf (σ.1 (6 + x1.toNatClampNeg) 1)) else (if x2 = (5 : Int32) then (f_oneIf (σ.1 (6 + x1.toNatClampNeg) 2)) else (if x2 = (6 : Int32) then (σ.1 (6 + x1.toNatClampNeg) 5) else (if x2 = (7 : Int32) then (σ.1 (6 + x1.toNatClampNeg) 6) else (if x2 = (8 : Int32) then (f_oneIf (σ.1 (6 + x1.toNatClampNeg) 3)) else (if x2 = (9 : Int32) then (σ.1 (6 + x1.toNatClampNeg) 7) else (if x2 = (10 : Int32) then (σ.1 (6 + x1.toNatClampNeg) 8) else (if x2 = (11 : Int32) then (f_ringsAround σ x1) else (σ.1 (6 + x1.toNatClampNeg + 8) x2.toNatClampNeg))))))))) = F := hF
  refine lv_aload_n hx hb dX3_ofPerson_0 rfl (lv_at hl 0 rfl) ?_
  refine lv_iload_n hx hb dX3_ofPerson_1 rfl (lv_at hl 1 rfl) ?_
  refine k_requirePerson X hP hS ⟨Nat.le_of_ble_eq_true rfl, Nat.le_of_ble_eq_true rfl⟩ ⟨Nat.zero_le _, Nat.zero_le _⟩ wd128 hl.1 (Nat.le_of_ble_eq_true rfl) dX3_ofPerson_2 x1 hwf hp (fun H locs hP hS => ?_)
  refine lv_iload_n hx hb dX3_ofPerson_5 rfl (lv_at hl 2 rfl) ?_
  refine lv_iconst (v := (0 : Int32)) hx hb dX3_ofPerson_6 (by decide) ?_
  refine lv_bipush (v := (11 : Int32)) hx hb dX3_ofPerson_7 (by decide) ?_
  refine k_requireRange X hP hS ⟨Nat.le_of_ble_eq_true rfl, Nat.le_of_ble_eq_true rfl⟩ ⟨Nat.zero_le _, Nat.zero_le _⟩ wd137 hl.1 (Nat.le_of_ble_eq_true rfl) dX3_ofPerson_9 x2 (0 : Int32) (11 : Int32) hwf hw (fun H locs hP hS => ?_)
  refine lv_aload_n hx hb dX3_ofPerson_12 rfl (lv_at hl 0 rfl) ?_
  refine q_getM (v := .ref (ad 1)) X hP 0 (by decide) (hts _ wd11) rfl dX3_ofPerson_13 ?_
  refine lv_iload_n hx hb dX3_ofPerson_16 rfl (lv_at hl 1 rfl) ?_
  refine q_aldP X hP (WF.p8 hwf hp) dX3_ofPerson_17 ?_
  refine lv_astore_n (lv' := [(3, .ref (ad (6 + x1.toNatClampNeg))), (0, .ref (ad 0)), (1, .int x1), (2, .int x2)]) hx hb dX3_ofPerson_18 rfl hl (by decide) rfl (fun ls hl => ?_)
  refine lv_iload_n hx hb dX3_ofPerson_19 rfl (lv_at hl 3 rfl) ?_
  by_cases c_20_4 : x2 = (4 : Int32)
  · rw [if_pos c_20_4] at hF
    refine lv_tableIn (off := 48) (tgt := 68) hx hb dX3_ofPerson_20 (by rw [c_20_4]; decide) (by rw [c_20_4]; decide) (by rw [c_20_4]; rfl) (by decide) ?_
    refine lv_aload_n hx hb dX3_ofPerson_68 rfl (lv_at hl 0 rfl) ?_
    refine q_getP (v := .int (σ.1 (6 + x1.toNatClampNeg) 1)) X hP x1.toNatClampNeg (ix_lt (WF.p8 hwf hp)) 1 (by decide) (hts _ wd84) rfl dX3_ofPerson_69 ?_
    refine k_oneIf X hP hS ⟨Nat.le_of_ble_eq_true rfl, Nat.le_of_ble_eq_true rfl⟩ ⟨Nat.zero_le _, Nat.zero_le _⟩ wd204 hl.1 (Nat.le_of_ble_eq_true rfl) dX3_ofPerson_72 (σ.1 (6 + x1.toNatClampNeg) 1) hwf  (fun H locs hP hS => ?_)
    exact W.iret (v := (f_oneIf (σ.1 (6 + x1.toNatClampNeg) 1))) hx hb hr (fun t ht hW => ⟨⟨(f_oneIf (σ.1 (6 + x1.toNatClampNeg) 1)), σ, rfl, ⟨hF, rfl⟩, wB_of ht hP⟩, hS.F ht⟩) hS.2.2 dX3_ofPerson_75
  · rw [if_neg c_20_4] at hF
    by_cases c_20_5 : x2 = (5 : Int32)
    · rw [if_pos c_20_5] at hF
      refine lv_tableIn (off := 56) (tgt := 76) hx hb dX3_ofPerson_20 (by rw [c_20_5]; decide) (by rw [c_20_5]; decide) (by rw [c_20_5]; rfl) (by decide) ?_
      refine lv_aload_n hx hb dX3_ofPerson_76 rfl (lv_at hl 0 rfl) ?_
      refine q_getP (v := .int (σ.1 (6 + x1.toNatClampNeg) 2)) X hP x1.toNatClampNeg (ix_lt (WF.p8 hwf hp)) 2 (by decide) (hts _ wd85) rfl dX3_ofPerson_77 ?_
      refine k_oneIf X hP hS ⟨Nat.le_of_ble_eq_true rfl, Nat.le_of_ble_eq_true rfl⟩ ⟨Nat.zero_le _, Nat.zero_le _⟩ wd204 hl.1 (Nat.le_of_ble_eq_true rfl) dX3_ofPerson_80 (σ.1 (6 + x1.toNatClampNeg) 2) hwf  (fun H locs hP hS => ?_)
      exact W.iret (v := (f_oneIf (σ.1 (6 + x1.toNatClampNeg) 2))) hx hb hr (fun t ht hW => ⟨⟨(f_oneIf (σ.1 (6 + x1.toNatClampNeg) 2)), σ, rfl, ⟨hF, rfl⟩, wB_of ht hP⟩, hS.F ht⟩) hS.2.2 dX3_ofPerson_83
    · rw [if_neg c_20_5] at hF
      by_cases c_20_6 : x2 = (6 : Int32)
      · rw [if_pos c_20_6] at hF
        refine lv_tableIn (off := 64) (tgt := 84) hx hb dX3_ofPerson_20 (by rw [c_20_6]; decide) (by rw [c_20_6]; decide) (by rw [c_20_6]; rfl) (by decide) ?_
        refine lv_aload_n hx hb dX3_ofPerson_84 rfl (lv_at hl 0 rfl) ?_
        refine q_getP (v := .int (σ.1 (6 + x1.toNatClampNeg) 5)) X hP x1.toNatClampNeg (ix_lt (WF.p8 hwf hp)) 5 (by decide) (hts _ wd99) rfl dX3_ofPerson_85 ?_
        exact W.iret (v := (σ.1 (6 + x1.toNatClampNeg) 5)) hx hb hr (fun t ht hW => ⟨⟨(σ.1 (6 + x1.toNatClampNeg) 5), σ, rfl, ⟨hF, rfl⟩, wB_of ht hP⟩, hS.F ht⟩) hS.2.2 dX3_ofPerson_88
      · rw [if_neg c_20_6] at hF
        by_cases c_20_7 : x2 = (7 : Int32)
        · rw [if_pos c_20_7] at hF
          refine lv_tableIn (off := 69) (tgt := 89) hx hb dX3_ofPerson_20 (by rw [c_20_7]; decide) (by rw [c_20_7]; decide) (by rw [c_20_7]; rfl) (by decide) ?_
          refine lv_aload_n hx hb dX3_ofPerson_89 rfl (lv_at hl 0 rfl) ?_
          refine q_getP (v := .int (σ.1 (6 + x1.toNatClampNeg) 6)) X hP x1.toNatClampNeg (ix_lt (WF.p8 hwf hp)) 6 (by decide) (hts _ wd203) rfl dX3_ofPerson_90 ?_
          exact W.iret (v := (σ.1 (6 + x1.toNatClampNeg) 6)) hx hb hr (fun t ht hW => ⟨⟨(σ.1 (6 + x1.toNatClampNeg) 6), σ, rfl, ⟨hF, rfl⟩, wB_of ht hP⟩, hS.F ht⟩) hS.2.2 dX3_ofPerson_93
        · rw [if_neg c_20_7] at hF
          by_cases c_20_8 : x2 = (8 : Int32)
          · rw [if_pos c_20_8] at hF
            refine lv_tableIn (off := 74) (tgt := 94) hx hb dX3_ofPerson_20 (by rw [c_20_8]; decide) (by rw [c_20_8]; decide) (by rw [c_20_8]; rfl) (by decide) ?_
            refine lv_aload_n hx hb dX3_ofPerson_94 rfl (lv_at hl 0 rfl) ?_
            refine q_getP (v := .int (σ.1 (6 + x1.toNatClampNeg) 3)) X hP x1.toNatClampNeg (ix_lt (WF.p8 hwf hp)) 3 (by decide) (hts _ wd211) rfl dX3_ofPerson_95 ?_
            refine k_oneIf X hP hS ⟨Nat.le_of_ble_eq_true rfl, Nat.le_of_ble_eq_true rfl⟩ ⟨Nat.zero_le _, Nat.zero_le _⟩ wd204 hl.1 (Nat.le_of_ble_eq_true rfl) dX3_ofPerson_98 (σ.1 (6 + x1.toNatClampNeg) 3) hwf  (fun H locs hP hS => ?_)
            exact W.iret (v := (f_oneIf (σ.1 (6 + x1.toNatClampNeg) 3))) hx hb hr (fun t ht hW => ⟨⟨(f_oneIf (σ.1 (6 + x1.toNatClampNeg) 3)), σ, rfl, ⟨hF, rfl⟩, wB_of ht hP⟩, hS.F ht⟩) hS.2.2 dX3_ofPerson_101
          · rw [if_neg c_20_8] at hF
            by_cases c_20_9 : x2 = (9 : Int32)
            · rw [if_pos c_20_9] at hF
              refine lv_tableIn (off := 82) (tgt := 102) hx hb dX3_ofPerson_20 (by rw [c_20_9]; decide) (by rw [c_20_9]; decide) (by rw [c_20_9]; rfl) (by decide) ?_
              refine lv_aload_n hx hb dX3_ofPerson_102 rfl (lv_at hl 0 rfl) ?_
              refine q_getP (v := .int (σ.1 (6 + x1.toNatClampNeg) 7)) X hP x1.toNatClampNeg (ix_lt (WF.p8 hwf hp)) 7 (by decide) (hts _ wd278) rfl dX3_ofPerson_103 ?_
              exact W.iret (v := (σ.1 (6 + x1.toNatClampNeg) 7)) hx hb hr (fun t ht hW => ⟨⟨(σ.1 (6 + x1.toNatClampNeg) 7), σ, rfl, ⟨hF, rfl⟩, wB_of ht hP⟩, hS.F ht⟩) hS.2.2 dX3_ofPerson_106
            · rw [if_neg c_20_9] at hF
              by_cases c_20_10 : x2 = (10 : Int32)
              · rw [if_pos c_20_10] at hF
                refine lv_tableIn (off := 87) (tgt := 107) hx hb dX3_ofPerson_20 (by rw [c_20_10]; decide) (by rw [c_20_10]; decide) (by rw [c_20_10]; rfl) (by decide) ?_
                refine lv_aload_n hx hb dX3_ofPerson_107 rfl (lv_at hl 0 rfl) ?_
                refine q_getP (v := .int (σ.1 (6 + x1.toNatClampNeg) 8)) X hP x1.toNatClampNeg (ix_lt (WF.p8 hwf hp)) 8 (by decide) (hts _ wd279) rfl dX3_ofPerson_108 ?_
                exact W.iret (v := (σ.1 (6 + x1.toNatClampNeg) 8)) hx hb hr (fun t ht hW => ⟨⟨(σ.1 (6 + x1.toNatClampNeg) 8), σ, rfl, ⟨hF, rfl⟩, wB_of ht hP⟩, hS.F ht⟩) hS.2.2 dX3_ofPerson_111
              · rw [if_neg c_20_10] at hF
                by_cases c_20_11 : x2 = (11 : Int32)
                · rw [if_pos c_20_11] at hF
                  refine lv_tableIn (off := 92) (tgt := 112) hx hb dX3_ofPerson_20 (by rw [c_20_11]; decide) (by rw [c_20_11]; decide) (by rw [c_20_11]; rfl) (by decide) ?_
                  refine lv_aload_n hx hb dX3_ofPerson_112 rfl (lv_at hl 1 rfl) ?_
                  refine lv_iload_n hx hb dX3_ofPerson_113 rfl (lv_at hl 2 rfl) ?_
                  refine k_ringsAround X hP hS ⟨Nat.le_of_ble_eq_true rfl, Nat.le_of_ble_eq_true rfl⟩ ⟨Nat.zero_le _, Nat.zero_le _⟩ wd280 hl.1 (Nat.le_of_ble_eq_true rfl) dX3_ofPerson_114 x1 hwf (WF.p8 hwf hp) (fun H locs hP hS => ?_)
                  exact W.iret (v := (f_ringsAround σ x1)) hx hb hr (fun t ht hW => ⟨⟨(f_ringsAround σ x1), σ, rfl, ⟨hF, rfl⟩, wB_of ht hP⟩, hS.F ht⟩) hS.2.2 dX3_ofPerson_117
                · rw [if_neg c_20_11] at hF
                  refine lv_tableOut (tgt := 118) hx hb dX3_ofPerson_20 (by have h4 := lv_neT c_20_4 (a := 4) (by decide); have h5 := lv_neT c_20_5 (a := 5) (by decide); have h6 := lv_neT c_20_6 (a := 6) (by decide); have h7 := lv_neT c_20_7 (a := 7) (by decide); have h8 := lv_neT c_20_8 (a := 8) (by decide); have h9 := lv_neT c_20_9 (a := 9) (by decide); have h10 := lv_neT c_20_10 (a := 10) (by decide); have h11 := lv_neT c_20_11 (a := 11) (by decide); omega) (by decide) ?_
                  refine lv_aload_n hx hb dX3_ofPerson_118 rfl (lv_at hl 0 rfl) ?_
                  refine q_getP (v := .ref (ad (6 + x1.toNatClampNeg + 8))) X hP x1.toNatClampNeg (ix_lt (WF.p8 hwf hp)) 0 (by decide) (hts _ wd127) rfl dX3_ofPerson_119 ?_
                  refine lv_iload_n hx hb dX3_ofPerson_122 rfl (lv_at hl 3 rfl) ?_
                  refine q_iald X hP (6 + x1.toNatClampNeg + 8) (Or.inr (by have := (ix_lt (WF.p8 hwf hp)); omega)) (vp_to hw.1 (by have q := hw.2; rw [show (11 : Int32).toInt = 11 from rfl] at q; have h4 := lv_neT c_20_4 (a := 4) (by decide); have h5 := lv_neT c_20_5 (a := 5) (by decide); have h6 := lv_neT c_20_6 (a := 6) (by decide); have h7 := lv_neT c_20_7 (a := 7) (by decide); have h8 := lv_neT c_20_8 (a := 8) (by decide); have h9 := lv_neT c_20_9 (a := 9) (by decide); have h10 := lv_neT c_20_10 (a := 10) (by decide); have h11 := lv_neT c_20_11 (a := 11) (by decide); omega)) dX3_ofPerson_123 ?_
                  exact W.iret (v := (σ.1 (6 + x1.toNatClampNeg + 8) x2.toNatClampNeg)) hx hb hr (fun t ht hW => ⟨⟨(σ.1 (6 + x1.toNatClampNeg + 8) x2.toNatClampNeg), σ, rfl, ⟨hF, rfl⟩, wB_of ht hP⟩, hS.F ht⟩) hS.2.2 dX3_ofPerson_124
theorem k_ofPerson {p : Program} {l : Launch} {e : Env} {R : Room} {s : State} {m : MethodId} {args : Array Value} {below : List Frame} {meth : Method} {c : Code} {H : Heap} {locs : List Loc} {cells slots : Nat} {Q : State → Prop} {cc : ByteArray} {pc : Nat} {ls : Array Slot} {rest : List Value} {D : va_G} {A : Nat → Prop} {ad : Nat → Nat} {ca : Nat → ClassId} {tw nL : Nat} {σ : St} {own : String} {index : Nat} (X : Cx p s m args c own cc nL D ad ca tw A) (hP : va_P D vwCl (wl ad ca σ) H) (hS : va_S A s.heap H locs) (hR : 5 ≤ R.frames ∧ 111 ≤ R.locals) (hcap : cells ≤ R.cells ∧ slots ≤ R.slots) (hlk : Cond.methodLink own index yX3_ofPerson ∈ wsL_law0) (hsz : ls.size = nL) (hrs : (rest.map fun v => v.category).sum ≤ 8) (hdg : decode cc pc = .ok (.invokevirtual index, 3)) (x1 : Int32) (x2 : Int32) (hwf : WF σ) (hp : inr x1 (σ.1 0 3)) (hw : (0 : Int32).toInt ≤ x2.toInt ∧ x2.toInt ≤ (11 : Int32).toInt)
    (kk : ∀ (H1 : Heap) (locs1 : List Loc), va_P D vwCl (wl ad ca σ) H1 → va_S A s.heap H1 locs1 → W p l e R s m args below meth c H1 locs1 cells slots Q (F0 m (pc + 3) ls (.int (f_ofPerson σ x1 x2) :: rest))) : W p l e R s m args below meth c H locs cells slots Q (F0 m pc ls (.int x2 :: .int x1 :: .ref (ad 0) :: rest)) := by
  refine q_bi X hS (q_runV (as := [.int x1, .int x2]) X hP hS (q_cwV (rm := ({ frames := 4, cells := 0, slots := 0, locals := 88 } : Room)) (k := 2) X.2.2.2.2.1 hlk wd275 wd276 wd2 wd277 rfl rfl (by decide +kernel) rfl ⟨hR.1, hR.2⟩) (c_ofPerson l D ad ca tw X.2.2.2.2.2.2.1 σ x1 x2 hwf hp hw) rfl hsz rfl hrs hdg hcap) (fun r u H1 locs1 h1 h2 h3 => ?_)
  obtain ⟨rfl, rfl⟩ := h1
  exact kk H1 locs1 h2 h3
set_option maxHeartbeats 4000000 in
set_option maxRecDepth 100000 in
theorem c_ofKit (l : Launch) (D : va_G) (ad : Nat → Nat) (ca : Nat → ClassId) (tw : Nat) (hI : ∀ i j, i < 40 → j < 40 → ad i = ad j → i = j) (σ : St) (x1 : Int32) (x2 : Int32) (hwf : WF σ) (hk : inr x1 (σ.1 0 4)) (hw : (0 : Int32).toInt ≤ x2.toInt ∧ x2.toInt ≤ (5 : Int32).toInt) : Met l yX3_ofKit (wm yX3_ofKit cX3_ofKit 4 (some .int)) ({ frames := 1, cells := 0, slots := 0, locals := 22 } : Room) (va_Pc [.ref (ad 0), .int x1, .int x2] (wPre D ad ca tw σ)) (va_Qi (fun r u => r = f_ofKit σ x1 x2 ∧ u = σ) (wB D ad ca) (Aw ad)) 0 0 (Aw ad) := by
  generalize hF : f_ofKit σ x1 x2 = F
  refine Met.ofW (cc := cX3_ofKit) (maxL := 4) (ret := (some .int)) (by decide) rfl ?_
  intro p e s m args below meth c s₁ B hml hv
  obtain ⟨rfl, hv⟩ := hv
  have X := q_open (own := RX3) B rfl hml hI hv
  have hx := X.1
  have hb := X.2.1
  have hts := X.2.2.2.2.1
  have hr := B.returns
  have hlocks := B.notSynchronized
  have hP := hv.1
  have hS : va_S (Aw ad) s.heap s.heap [] := va_S.rf
  have hl := lv_entry ([.ref (ad 0), .int x1, .int x2]) (n := 4) (Nat.le_of_ble_eq_true rfl)
  rw [lg_entry_eq]
  generalize (lg_sl ([.ref (ad 0), .int x1, .int x2]) ++ List.replicate (4 - (lg_sl ([.ref (ad 0), .int x1, .int x2])).length) Slot.unset).toArray = ls at hl ⊢
  have hl : lv_has ls 4 [(0, .ref (ad 0)), (1, .int x1), (2, .int x2)] := hl
  unfold f_ofKit at hF
  replace hF : (if x2 = (0 : Int32) then (σ.1 (22 + x1.toNatClampNeg) 0) else (if x2 = (1 : Int32) then (σ.1 (22 + x1.toNatClampNeg) 1) else (if x2 = (2 : Int32) then (σ.1 (22 + x1.toNatClampNeg) 2) else (if x2 = (3 : Int32) then (σ.1 (22 + x1.toNatClampNeg) 3) else (if x2 = (4 : Int32) then (σ.1 (22 + x1.toNatClampNeg) 4) else (f_oneIf (f_isFit σ x1))))))) = F := hF
  refine lv_aload_n hx hb dX3_ofKit_0 rfl (lv_at hl 0 rfl) ?_
  refine lv_iload_n hx hb dX3_ofKit_1 rfl (lv_at hl 1 rfl) ?_
  refine k_requirePiece X hP hS ⟨Nat.le_of_ble_eq_true rfl, Nat.le_of_ble_eq_true rfl⟩ ⟨Nat.zero_le _, Nat.zero_le _⟩ wd252 hl.1 (Nat.le_of_ble_eq_true rfl) dX3_ofKit_2 x1 hwf hk (fun H locs hP hS => ?_)
  refine lv_iload_n hx hb dX3_ofKit_5 rfl (lv_at hl 2 rfl) ?_
  refine lv_iconst (v := (0 : Int32)) hx hb dX3_ofKit_6 (by decide) ?_
  refine lv_iconst (v := (5 : Int32)) hx hb dX3_ofKit_7 (by decide) ?_
  refine k_requireRange X hP hS ⟨Nat.le_of_ble_eq_true rfl, Nat.le_of_ble_eq_true rfl⟩ ⟨Nat.zero_le _, Nat.zero_le _⟩ wd137 hl.1 (Nat.le_of_ble_eq_true rfl) dX3_ofKit_8 x2 (0 : Int32) (5 : Int32) hwf hw (fun H locs hP hS => ?_)
  refine lv_aload_n hx hb dX3_ofKit_11 rfl (lv_at hl 0 rfl) ?_
  refine q_getM (v := .ref (ad 2)) X hP 1 (by decide) (hts _ wd13) rfl dX3_ofKit_12 ?_
  refine lv_iload_n hx hb dX3_ofKit_15 rfl (lv_at hl 1 rfl) ?_
  refine q_aldK X hP (WF.k12 hwf hk) dX3_ofKit_16 ?_
  refine lv_astore_n (lv' := [(3, .ref (ad (22 + x1.toNatClampNeg))), (0, .ref (ad 0)), (1, .int x1), (2, .int x2)]) hx hb dX3_ofKit_17 rfl hl (by decide) rfl (fun ls hl => ?_)
  refine lv_iload_n hx hb dX3_ofKit_18 rfl (lv_at hl 3 rfl) ?_
  by_cases c_19_0 : x2 = (0 : Int32)
  · rw [if_pos c_19_0] at hF
    refine lv_tableIn (off := 33) (tgt := 52) hx hb dX3_ofKit_19 (by rw [c_19_0]; decide) (by rw [c_19_0]; decide) (by rw [c_19_0]; rfl) (by decide) ?_
    refine lv_aload_n hx hb dX3_ofKit_52 rfl (lv_at hl 0 rfl) ?_
    refine q_getK (v := .int (σ.1 (22 + x1.toNatClampNeg) 0)) X hP x1.toNatClampNeg (ix_lt (WF.k12 hwf hk)) 0 (by decide) (hts _ wd188) rfl dX3_ofKit_53 ?_
    exact W.iret (v := (σ.1 (22 + x1.toNatClampNeg) 0)) hx hb hr (fun t ht hW => ⟨⟨(σ.1 (22 + x1.toNatClampNeg) 0), σ, rfl, ⟨hF, rfl⟩, wB_of ht hP⟩, hS.F ht⟩) hS.2.2 dX3_ofKit_56
  · rw [if_neg c_19_0] at hF
    by_cases c_19_1 : x2 = (1 : Int32)
    · rw [if_pos c_19_1] at hF
      refine lv_tableIn (off := 38) (tgt := 57) hx hb dX3_ofKit_19 (by rw [c_19_1]; decide) (by rw [c_19_1]; decide) (by rw [c_19_1]; rfl) (by decide) ?_
      refine lv_aload_n hx hb dX3_ofKit_57 rfl (lv_at hl 0 rfl) ?_
      refine q_getK (v := .int (σ.1 (22 + x1.toNatClampNeg) 1)) X hP x1.toNatClampNeg (ix_lt (WF.k12 hwf hk)) 1 (by decide) (hts _ wd182) rfl dX3_ofKit_58 ?_
      exact W.iret (v := (σ.1 (22 + x1.toNatClampNeg) 1)) hx hb hr (fun t ht hW => ⟨⟨(σ.1 (22 + x1.toNatClampNeg) 1), σ, rfl, ⟨hF, rfl⟩, wB_of ht hP⟩, hS.F ht⟩) hS.2.2 dX3_ofKit_61
    · rw [if_neg c_19_1] at hF
      by_cases c_19_2 : x2 = (2 : Int32)
      · rw [if_pos c_19_2] at hF
        refine lv_tableIn (off := 43) (tgt := 62) hx hb dX3_ofKit_19 (by rw [c_19_2]; decide) (by rw [c_19_2]; decide) (by rw [c_19_2]; rfl) (by decide) ?_
        refine lv_aload_n hx hb dX3_ofKit_62 rfl (lv_at hl 0 rfl) ?_
        refine q_getK (v := .int (σ.1 (22 + x1.toNatClampNeg) 2)) X hP x1.toNatClampNeg (ix_lt (WF.k12 hwf hk)) 2 (by decide) (hts _ wd193) rfl dX3_ofKit_63 ?_
        exact W.iret (v := (σ.1 (22 + x1.toNatClampNeg) 2)) hx hb hr (fun t ht hW => ⟨⟨(σ.1 (22 + x1.toNatClampNeg) 2), σ, rfl, ⟨hF, rfl⟩, wB_of ht hP⟩, hS.F ht⟩) hS.2.2 dX3_ofKit_66
      · rw [if_neg c_19_2] at hF
        by_cases c_19_3 : x2 = (3 : Int32)
        · rw [if_pos c_19_3] at hF
          refine lv_tableIn (off := 48) (tgt := 67) hx hb dX3_ofKit_19 (by rw [c_19_3]; decide) (by rw [c_19_3]; decide) (by rw [c_19_3]; rfl) (by decide) ?_
          refine lv_aload_n hx hb dX3_ofKit_67 rfl (lv_at hl 0 rfl) ?_
          refine q_getK (v := .int (σ.1 (22 + x1.toNatClampNeg) 3)) X hP x1.toNatClampNeg (ix_lt (WF.k12 hwf hk)) 3 (by decide) (hts _ wd194) rfl dX3_ofKit_68 ?_
          exact W.iret (v := (σ.1 (22 + x1.toNatClampNeg) 3)) hx hb hr (fun t ht hW => ⟨⟨(σ.1 (22 + x1.toNatClampNeg) 3), σ, rfl, ⟨hF, rfl⟩, wB_of ht hP⟩, hS.F ht⟩) hS.2.2 dX3_ofKit_71
        · rw [if_neg c_19_3] at hF
          by_cases c_19_4 : x2 = (4 : Int32)
          · rw [if_pos c_19_4] at hF
            refine lv_tableIn (off := 53) (tgt := 72) hx hb dX3_ofKit_19 (by rw [c_19_4]; decide) (by rw [c_19_4]; decide) (by rw [c_19_4]; rfl) (by decide) ?_
            refine lv_aload_n hx hb dX3_ofKit_72 rfl (lv_at hl 0 rfl) ?_
            refine q_getK (v := .int (σ.1 (22 + x1.toNatClampNeg) 4)) X hP x1.toNatClampNeg (ix_lt (WF.k12 hwf hk)) 4 (by decide) (hts _ wd187) rfl dX3_ofKit_73 ?_
            exact W.iret (v := (σ.1 (22 + x1.toNatClampNeg) 4)) hx hb hr (fun t ht hW => ⟨⟨(σ.1 (22 + x1.toNatClampNeg) 4), σ, rfl, ⟨hF, rfl⟩, wB_of ht hP⟩, hS.F ht⟩) hS.2.2 dX3_ofKit_76
          · rw [if_neg c_19_4] at hF
            refine lv_tableOut (tgt := 77) hx hb dX3_ofKit_19 (by have h0 := lv_neT c_19_0 (a := 0) (by decide); have h1 := lv_neT c_19_1 (a := 1) (by decide); have h2 := lv_neT c_19_2 (a := 2) (by decide); have h3 := lv_neT c_19_3 (a := 3) (by decide); have h4 := lv_neT c_19_4 (a := 4) (by decide); omega) (by decide) ?_
            refine lv_aload_n hx hb dX3_ofKit_77 rfl (lv_at hl 1 rfl) ?_
            refine lv_iload_n hx hb dX3_ofKit_78 rfl (lv_at hl 2 rfl) ?_
            refine k_isFit X hP hS ⟨Nat.le_of_ble_eq_true rfl, Nat.le_of_ble_eq_true rfl⟩ ⟨Nat.zero_le _, Nat.zero_le _⟩ wd189 hl.1 (Nat.le_of_ble_eq_true rfl) dX3_ofKit_79 x1 hwf (WF.k12 hwf hk) (fun H locs hP hS => ?_)
            refine k_oneIf X hP hS ⟨Nat.le_of_ble_eq_true rfl, Nat.le_of_ble_eq_true rfl⟩ ⟨Nat.zero_le _, Nat.zero_le _⟩ wd204 hl.1 (Nat.le_of_ble_eq_true rfl) dX3_ofKit_82 (f_isFit σ x1) hwf  (fun H locs hP hS => ?_)
            exact W.iret (v := (f_oneIf (f_isFit σ x1))) hx hb hr (fun t ht hW => ⟨⟨(f_oneIf (f_isFit σ x1)), σ, rfl, ⟨hF, rfl⟩, wB_of ht hP⟩, hS.F ht⟩) hS.2.2 dX3_ofKit_85
theorem k_ofKit {p : Program} {l : Launch} {e : Env} {R : Room} {s : State} {m : MethodId} {args : Array Value} {below : List Frame} {meth : Method} {c : Code} {H : Heap} {locs : List Loc} {cells slots : Nat} {Q : State → Prop} {cc : ByteArray} {pc : Nat} {ls : Array Slot} {rest : List Value} {D : va_G} {A : Nat → Prop} {ad : Nat → Nat} {ca : Nat → ClassId} {tw nL : Nat} {σ : St} {own : String} {index : Nat} (X : Cx p s m args c own cc nL D ad ca tw A) (hP : va_P D vwCl (wl ad ca σ) H) (hS : va_S A s.heap H locs) (hR : 2 ≤ R.frames ∧ 45 ≤ R.locals) (hcap : cells ≤ R.cells ∧ slots ≤ R.slots) (hlk : Cond.methodLink own index yX3_ofKit ∈ wsL_law0) (hsz : ls.size = nL) (hrs : (rest.map fun v => v.category).sum ≤ 8) (hdg : decode cc pc = .ok (.invokevirtual index, 3)) (x1 : Int32) (x2 : Int32) (hwf : WF σ) (hk : inr x1 (σ.1 0 4)) (hw : (0 : Int32).toInt ≤ x2.toInt ∧ x2.toInt ≤ (5 : Int32).toInt)
    (kk : ∀ (H1 : Heap) (locs1 : List Loc), va_P D vwCl (wl ad ca σ) H1 → va_S A s.heap H1 locs1 → W p l e R s m args below meth c H1 locs1 cells slots Q (F0 m (pc + 3) ls (.int (f_ofKit σ x1 x2) :: rest))) : W p l e R s m args below meth c H locs cells slots Q (F0 m pc ls (.int x2 :: .int x1 :: .ref (ad 0) :: rest)) := by
  refine q_bi X hS (q_runV (as := [.int x1, .int x2]) X hP hS (q_cwV (rm := ({ frames := 1, cells := 0, slots := 0, locals := 22 } : Room)) (k := 2) X.2.2.2.2.1 hlk wd268 wd269 wd2 wd270 rfl rfl (by decide +kernel) rfl ⟨hR.1, hR.2⟩) (c_ofKit l D ad ca tw X.2.2.2.2.2.2.1 σ x1 x2 hwf hk hw) rfl hsz rfl hrs hdg hcap) (fun r u H1 locs1 h1 h2 h3 => ?_)
  obtain ⟨rfl, rfl⟩ := h1
  exact kk H1 locs1 h2 h3
set_option maxHeartbeats 4000000 in
set_option maxRecDepth 100000 in
theorem c_ofGag (l : Launch) (D : va_G) (ad : Nat → Nat) (ca : Nat → ClassId) (tw : Nat) (hI : ∀ i j, i < 40 → j < 40 → ad i = ad j → i = j) (σ : St) (x1 : Int32) (x2 : Int32) (hwf : WF σ) (hg : inr x1 (σ.1 0 5)) (hw : (0 : Int32).toInt ≤ x2.toInt ∧ x2.toInt ≤ (13 : Int32).toInt) : Met l yX3_ofGag (wm yX3_ofGag cX3_ofGag 4 (some .int)) ({ frames := 5, cells := 0, slots := 0, locals := 109 } : Room) (va_Pc [.ref (ad 0), .int x1, .int x2] (wPre D ad ca tw σ)) (va_Qi (fun r u => r = f_ofGag σ x1 x2 ∧ u = σ) (wB D ad ca) (Aw ad)) 0 0 (Aw ad) := by
  generalize hF : f_ofGag σ x1 x2 = F
  refine Met.ofW (cc := cX3_ofGag) (maxL := 4) (ret := (some .int)) (by decide) rfl ?_
  intro p e s m args below meth c s₁ B hml hv
  obtain ⟨rfl, hv⟩ := hv
  have X := q_open (own := RX3) B rfl hml hI hv
  have hx := X.1
  have hb := X.2.1
  have hts := X.2.2.2.2.1
  have hr := B.returns
  have hlocks := B.notSynchronized
  have hP := hv.1
  have hS : va_S (Aw ad) s.heap s.heap [] := va_S.rf
  have hl := lv_entry ([.ref (ad 0), .int x1, .int x2]) (n := 4) (Nat.le_of_ble_eq_true rfl)
  rw [lg_entry_eq]
  generalize (lg_sl ([.ref (ad 0), .int x1, .int x2]) ++ List.replicate (4 - (lg_sl ([.ref (ad 0), .int x1, .int x2])).length) Slot.unset).toArray = ls at hl ⊢
  have hl : lv_has ls 4 [(0, .ref (ad 0)), (1, .int x1), (2, .int x2)] := hl
  unfold f_ofGag at hF
  replace hF : (if x2 = (0 : Int32) then (σ.1 (34 + x1.toNatClampNeg) 0) else (if x2 = (1 : Int32) then (σ.1 (34 + x1.toNatClampNeg) 1) else (if x2 = (2 : Int32) then (σ.1 (34 + x1.toNatClampNeg) 2) else (if x2 = (3 : Int32) then (σ.1 (34 + x1.toNatClampNeg) 3) else (if x2 = (4 : Int32) then (f_energyOf σ x1) else (if x2 = (5 : Int32) then (f_ringOf σ x1) else (if x2 = (6 : Int32) then (f_guardOf σ x1) else (if x2 = (7 : Int32) then (f_marginOf σ x1) else (if x2 = (8 : Int32) then (σ.1 (34 + x1.toNatClampNeg) 4) else (if x2 = (9 : Int32) then (σ.1 (34 + x1.toNatClampNeg) 5) else (if x2 = (10 : Int32) then (σ.1 (34 + x1.toNatClampNeg) 6) else (if x2 = (11 : Int32) then (f_oneIf (σ.1 (34 + x1.toNatClampNeg) 8)) else (if x2 = (12 : Int32) then (f_whatBars σ x1) else (σ.1 (34 + x1.toNatClampNeg) 7)))))))))))))) = F := hF
  refine lv_aload_n hx hb dX3_ofGag_0 rfl (lv_at hl 0 rfl) ?_
  refine lv_iload_n hx hb dX3_ofGag_1 rfl (lv_at hl 1 rfl) ?_
  refine k_requireGag X hP hS ⟨Nat.le_of_ble_eq_true rfl, Nat.le_of_ble_eq_true rfl⟩ ⟨Nat.zero_le _, Nat.zero_le _⟩ wd170 hl.1 (Nat.le_of_ble_eq_true rfl) dX3_ofGag_2 x1 hwf hg (fun H locs hP hS => ?_)
  refine lv_iload_n hx hb dX3_ofGag_5 rfl (lv_at hl 2 rfl) ?_
  refine lv_iconst (v := (0 : Int32)) hx hb dX3_ofGag_6 (by decide) ?_
  refine lv_bipush (v := (13 : Int32)) hx hb dX3_ofGag_7 (by decide) ?_
  refine k_requireRange X hP hS ⟨Nat.le_of_ble_eq_true rfl, Nat.le_of_ble_eq_true rfl⟩ ⟨Nat.zero_le _, Nat.zero_le _⟩ wd137 hl.1 (Nat.le_of_ble_eq_true rfl) dX3_ofGag_9 x2 (0 : Int32) (13 : Int32) hwf hw (fun H locs hP hS => ?_)
  refine lv_aload_n hx hb dX3_ofGag_12 rfl (lv_at hl 0 rfl) ?_
  refine q_getM (v := .ref (ad 3)) X hP 2 (by decide) (hts _ wd15) rfl dX3_ofGag_13 ?_
  refine lv_iload_n hx hb dX3_ofGag_16 rfl (lv_at hl 1 rfl) ?_
  refine q_aldG X hP (WF.g6 hwf hg) dX3_ofGag_17 ?_
  refine lv_astore_n (lv' := [(3, .ref (ad (34 + x1.toNatClampNeg))), (0, .ref (ad 0)), (1, .int x1), (2, .int x2)]) hx hb dX3_ofGag_18 rfl hl (by decide) rfl (fun ls hl => ?_)
  refine lv_iload_n hx hb dX3_ofGag_19 rfl (lv_at hl 3 rfl) ?_
  by_cases c_20_0 : x2 = (0 : Int32)
  · rw [if_pos c_20_0] at hF
    refine lv_tableIn (off := 68) (tgt := 88) hx hb dX3_ofGag_20 (by rw [c_20_0]; decide) (by rw [c_20_0]; decide) (by rw [c_20_0]; rfl) (by decide) ?_
    refine lv_aload_n hx hb dX3_ofGag_88 rfl (lv_at hl 0 rfl) ?_
    refine q_getG (v := .int (σ.1 (34 + x1.toNatClampNeg) 0)) X hP x1.toNatClampNeg (ix_lt (WF.g6 hwf hg)) 0 (by decide) (hts _ wd112) rfl dX3_ofGag_89 ?_
    exact W.iret (v := (σ.1 (34 + x1.toNatClampNeg) 0)) hx hb hr (fun t ht hW => ⟨⟨(σ.1 (34 + x1.toNatClampNeg) 0), σ, rfl, ⟨hF, rfl⟩, wB_of ht hP⟩, hS.F ht⟩) hS.2.2 dX3_ofGag_92
  · rw [if_neg c_20_0] at hF
    by_cases c_20_1 : x2 = (1 : Int32)
    · rw [if_pos c_20_1] at hF
      refine lv_tableIn (off := 73) (tgt := 93) hx hb dX3_ofGag_20 (by rw [c_20_1]; decide) (by rw [c_20_1]; decide) (by rw [c_20_1]; rfl) (by decide) ?_
      refine lv_aload_n hx hb dX3_ofGag_93 rfl (lv_at hl 0 rfl) ?_
      refine q_getG (v := .int (σ.1 (34 + x1.toNatClampNeg) 1)) X hP x1.toNatClampNeg (ix_lt (WF.g6 hwf hg)) 1 (by decide) (hts _ wd98) rfl dX3_ofGag_94 ?_
      exact W.iret (v := (σ.1 (34 + x1.toNatClampNeg) 1)) hx hb hr (fun t ht hW => ⟨⟨(σ.1 (34 + x1.toNatClampNeg) 1), σ, rfl, ⟨hF, rfl⟩, wB_of ht hP⟩, hS.F ht⟩) hS.2.2 dX3_ofGag_97
    · rw [if_neg c_20_1] at hF
      by_cases c_20_2 : x2 = (2 : Int32)
      · rw [if_pos c_20_2] at hF
        refine lv_tableIn (off := 78) (tgt := 98) hx hb dX3_ofGag_20 (by rw [c_20_2]; decide) (by rw [c_20_2]; decide) (by rw [c_20_2]; rfl) (by decide) ?_
        refine lv_aload_n hx hb dX3_ofGag_98 rfl (lv_at hl 0 rfl) ?_
        refine q_getG (v := .int (σ.1 (34 + x1.toNatClampNeg) 2)) X hP x1.toNatClampNeg (ix_lt (WF.g6 hwf hg)) 2 (by decide) (hts _ wd100) rfl dX3_ofGag_99 ?_
        exact W.iret (v := (σ.1 (34 + x1.toNatClampNeg) 2)) hx hb hr (fun t ht hW => ⟨⟨(σ.1 (34 + x1.toNatClampNeg) 2), σ, rfl, ⟨hF, rfl⟩, wB_of ht hP⟩, hS.F ht⟩) hS.2.2 dX3_ofGag_102
      · rw [if_neg c_20_2] at hF
        by_cases c_20_3 : x2 = (3 : Int32)
        · rw [if_pos c_20_3] at hF
          refine lv_tableIn (off := 83) (tgt := 103) hx hb dX3_ofGag_20 (by rw [c_20_3]; decide) (by rw [c_20_3]; decide) (by rw [c_20_3]; rfl) (by decide) ?_
          refine lv_aload_n hx hb dX3_ofGag_103 rfl (lv_at hl 0 rfl) ?_
          refine q_getG (v := .int (σ.1 (34 + x1.toNatClampNeg) 3)) X hP x1.toNatClampNeg (ix_lt (WF.g6 hwf hg)) 3 (by decide) (hts _ wd113) rfl dX3_ofGag_104 ?_
          exact W.iret (v := (σ.1 (34 + x1.toNatClampNeg) 3)) hx hb hr (fun t ht hW => ⟨⟨(σ.1 (34 + x1.toNatClampNeg) 3), σ, rfl, ⟨hF, rfl⟩, wB_of ht hP⟩, hS.F ht⟩) hS.2.2 dX3_ofGag_107
        · rw [if_neg c_20_3] at hF
          by_cases c_20_4 : x2 = (4 : Int32)
          · rw [if_pos c_20_4] at hF
            refine lv_tableIn (off := 88) (tgt := 108) hx hb dX3_ofGag_20 (by rw [c_20_4]; decide) (by rw [c_20_4]; decide) (by rw [c_20_4]; rfl) (by decide) ?_
            refine lv_aload_n hx hb dX3_ofGag_108 rfl (lv_at hl 1 rfl) ?_
            refine lv_iload_n hx hb dX3_ofGag_109 rfl (lv_at hl 2 rfl) ?_
            refine k_energyOf X hP hS ⟨Nat.le_of_ble_eq_true rfl, Nat.le_of_ble_eq_true rfl⟩ ⟨Nat.zero_le _, Nat.zero_le _⟩ wd174 hl.1 (Nat.le_of_ble_eq_true rfl) dX3_ofGag_110 x1 hwf (WF.g6 hwf hg) (fun H locs hP hS => ?_)
            exact W.iret (v := (f_energyOf σ x1)) hx hb hr (fun t ht hW => ⟨⟨(f_energyOf σ x1), σ, rfl, ⟨hF, rfl⟩, wB_of ht hP⟩, hS.F ht⟩) hS.2.2 dX3_ofGag_113
          · rw [if_neg c_20_4] at hF
            by_cases c_20_5 : x2 = (5 : Int32)
            · rw [if_pos c_20_5] at hF
              refine lv_tableIn (off := 94) (tgt := 114) hx hb dX3_ofGag_20 (by rw [c_20_5]; decide) (by rw [c_20_5]; decide) (by rw [c_20_5]; rfl) (by decide) ?_
              refine lv_aload_n hx hb dX3_ofGag_114 rfl (lv_at hl 1 rfl) ?_
              refine lv_iload_n hx hb dX3_ofGag_115 rfl (lv_at hl 2 rfl) ?_
              refine k_ringOf X hP hS ⟨Nat.le_of_ble_eq_true rfl, Nat.le_of_ble_eq_true rfl⟩ ⟨Nat.zero_le _, Nat.zero_le _⟩ wd108 hl.1 (Nat.le_of_ble_eq_true rfl) dX3_ofGag_116 x1 hwf (WF.g6 hwf hg) (fun H locs hP hS => ?_)
              exact W.iret (v := (f_ringOf σ x1)) hx hb hr (fun t ht hW => ⟨⟨(f_ringOf σ x1), σ, rfl, ⟨hF, rfl⟩, wB_of ht hP⟩, hS.F ht⟩) hS.2.2 dX3_ofGag_119
            · rw [if_neg c_20_5] at hF
              by_cases c_20_6 : x2 = (6 : Int32)
              · rw [if_pos c_20_6] at hF
                refine lv_tableIn (off := 100) (tgt := 120) hx hb dX3_ofGag_20 (by rw [c_20_6]; decide) (by rw [c_20_6]; decide) (by rw [c_20_6]; rfl) (by decide) ?_
                refine lv_aload_n hx hb dX3_ofGag_120 rfl (lv_at hl 1 rfl) ?_
                refine lv_iload_n hx hb dX3_ofGag_121 rfl (lv_at hl 2 rfl) ?_
                refine k_guardOf X hP hS ⟨Nat.le_of_ble_eq_true rfl, Nat.le_of_ble_eq_true rfl⟩ ⟨Nat.zero_le _, Nat.zero_le _⟩ wd178 hl.1 (Nat.le_of_ble_eq_true rfl) dX3_ofGag_122 x1 hwf (WF.g6 hwf hg) (fun H locs hP hS => ?_)
                exact W.iret (v := (f_guardOf σ x1)) hx hb hr (fun t ht hW => ⟨⟨(f_guardOf σ x1), σ, rfl, ⟨hF, rfl⟩, wB_of ht hP⟩, hS.F ht⟩) hS.2.2 dX3_ofGag_125
              · rw [if_neg c_20_6] at hF
                by_cases c_20_7 : x2 = (7 : Int32)
                · rw [if_pos c_20_7] at hF
                  refine lv_tableIn (off := 106) (tgt := 126) hx hb dX3_ofGag_20 (by rw [c_20_7]; decide) (by rw [c_20_7]; decide) (by rw [c_20_7]; rfl) (by decide) ?_
                  refine lv_aload_n hx hb dX3_ofGag_126 rfl (lv_at hl 1 rfl) ?_
                  refine lv_iload_n hx hb dX3_ofGag_127 rfl (lv_at hl 2 rfl) ?_
                  refine k_marginOf X hP hS ⟨Nat.le_of_ble_eq_true rfl, Nat.le_of_ble_eq_true rfl⟩ ⟨Nat.zero_le _, Nat.zero_le _⟩ wd195 hl.1 (Nat.le_of_ble_eq_true rfl) dX3_ofGag_128 x1 hwf (WF.g6 hwf hg) (fun H locs hP hS => ?_)
                  exact W.iret (v := (f_marginOf σ x1)) hx hb hr (fun t ht hW => ⟨⟨(f_marginOf σ x1), σ, rfl, ⟨hF, rfl⟩, wB_of ht hP⟩, hS.F ht⟩) hS.2.2 dX3_ofGag_131
                · rw [if_neg c_20_7] at hF
                  by_cases c_20_8 : x2 = (8 : Int32)
                  · rw [if_pos c_20_8] at hF
                    refine lv_tableIn (off := 112) (tgt := 132) hx hb dX3_ofGag_20 (by rw [c_20_8]; decide) (by rw [c_20_8]; decide) (by rw [c_20_8]; rfl) (by decide) ?_
                    refine lv_aload_n hx hb dX3_ofGag_132 rfl (lv_at hl 0 rfl) ?_
                    refine q_getG (v := .int (σ.1 (34 + x1.toNatClampNeg) 4)) X hP x1.toNatClampNeg (ix_lt (WF.g6 hwf hg)) 4 (by decide) (hts _ wd167) rfl dX3_ofGag_133 ?_
                    exact W.iret (v := (σ.1 (34 + x1.toNatClampNeg) 4)) hx hb hr (fun t ht hW => ⟨⟨(σ.1 (34 + x1.toNatClampNeg) 4), σ, rfl, ⟨hF, rfl⟩, wB_of ht hP⟩, hS.F ht⟩) hS.2.2 dX3_ofGag_136
                  · rw [if_neg c_20_8] at hF
                    by_cases c_20_9 : x2 = (9 : Int32)
                    · rw [if_pos c_20_9] at hF
                      refine lv_tableIn (off := 117) (tgt := 137) hx hb dX3_ofGag_20 (by rw [c_20_9]; decide) (by rw [c_20_9]; decide) (by rw [c_20_9]; rfl) (by decide) ?_
                      refine lv_aload_n hx hb dX3_ofGag_137 rfl (lv_at hl 0 rfl) ?_
                      refine q_getG (v := .int (σ.1 (34 + x1.toNatClampNeg) 5)) X hP x1.toNatClampNeg (ix_lt (WF.g6 hwf hg)) 5 (by decide) (hts _ wd158) rfl dX3_ofGag_138 ?_
                      exact W.iret (v := (σ.1 (34 + x1.toNatClampNeg) 5)) hx hb hr (fun t ht hW => ⟨⟨(σ.1 (34 + x1.toNatClampNeg) 5), σ, rfl, ⟨hF, rfl⟩, wB_of ht hP⟩, hS.F ht⟩) hS.2.2 dX3_ofGag_141
                    · rw [if_neg c_20_9] at hF
                      by_cases c_20_10 : x2 = (10 : Int32)
                      · rw [if_pos c_20_10] at hF
                        refine lv_tableIn (off := 122) (tgt := 142) hx hb dX3_ofGag_20 (by rw [c_20_10]; decide) (by rw [c_20_10]; decide) (by rw [c_20_10]; rfl) (by decide) ?_
                        refine lv_aload_n hx hb dX3_ofGag_142 rfl (lv_at hl 0 rfl) ?_
                        refine q_getG (v := .int (σ.1 (34 + x1.toNatClampNeg) 6)) X hP x1.toNatClampNeg (ix_lt (WF.g6 hwf hg)) 6 (by decide) (hts _ wd168) rfl dX3_ofGag_143 ?_
                        exact W.iret (v := (σ.1 (34 + x1.toNatClampNeg) 6)) hx hb hr (fun t ht hW => ⟨⟨(σ.1 (34 + x1.toNatClampNeg) 6), σ, rfl, ⟨hF, rfl⟩, wB_of ht hP⟩, hS.F ht⟩) hS.2.2 dX3_ofGag_146
                      · rw [if_neg c_20_10] at hF
                        by_cases c_20_11 : x2 = (11 : Int32)
                        · rw [if_pos c_20_11] at hF
                          refine lv_tableIn (off := 127) (tgt := 147) hx hb dX3_ofGag_20 (by rw [c_20_11]; decide) (by rw [c_20_11]; decide) (by rw [c_20_11]; rfl) (by decide) ?_
                          refine lv_aload_n hx hb dX3_ofGag_147 rfl (lv_at hl 0 rfl) ?_
                          refine q_getG (v := .int (σ.1 (34 + x1.toNatClampNeg) 8)) X hP x1.toNatClampNeg (ix_lt (WF.g6 hwf hg)) 8 (by decide) (hts _ wd122) rfl dX3_ofGag_148 ?_
                          refine k_oneIf X hP hS ⟨Nat.le_of_ble_eq_true rfl, Nat.le_of_ble_eq_true rfl⟩ ⟨Nat.zero_le _, Nat.zero_le _⟩ wd204 hl.1 (Nat.le_of_ble_eq_true rfl) dX3_ofGag_151 (σ.1 (34 + x1.toNatClampNeg) 8) hwf  (fun H locs hP hS => ?_)
                          exact W.iret (v := (f_oneIf (σ.1 (34 + x1.toNatClampNeg) 8))) hx hb hr (fun t ht hW => ⟨⟨(f_oneIf (σ.1 (34 + x1.toNatClampNeg) 8)), σ, rfl, ⟨hF, rfl⟩, wB_of ht hP⟩, hS.F ht⟩) hS.2.2 dX3_ofGag_154
                        · rw [if_neg c_20_11] at hF
                          by_cases c_20_12 : x2 = (12 : Int32)
                          · rw [if_pos c_20_12] at hF
                            refine lv_tableIn (off := 135) (tgt := 155) hx hb dX3_ofGag_20 (by rw [c_20_12]; decide) (by rw [c_20_12]; decide) (by rw [c_20_12]; rfl) (by decide) ?_
                            refine lv_aload_n hx hb dX3_ofGag_155 rfl (lv_at hl 1 rfl) ?_
                            refine lv_iload_n hx hb dX3_ofGag_156 rfl (lv_at hl 2 rfl) ?_
                            refine k_whatBars X hP hS ⟨Nat.le_of_ble_eq_true rfl, Nat.le_of_ble_eq_true rfl⟩ ⟨Nat.zero_le _, Nat.zero_le _⟩ wd207 hl.1 (Nat.le_of_ble_eq_true rfl) dX3_ofGag_157 x1 hwf (WF.g6 hwf hg) (fun H locs hP hS => ?_)
                            exact W.iret (v := (f_whatBars σ x1)) hx hb hr (fun t ht hW => ⟨⟨(f_whatBars σ x1), σ, rfl, ⟨hF, rfl⟩, wB_of ht hP⟩, hS.F ht⟩) hS.2.2 dX3_ofGag_160
                          · rw [if_neg c_20_12] at hF
                            refine lv_tableOut (tgt := 161) hx hb dX3_ofGag_20 (by have h0 := lv_neT c_20_0 (a := 0) (by decide); have h1 := lv_neT c_20_1 (a := 1) (by decide); have h2 := lv_neT c_20_2 (a := 2) (by decide); have h3 := lv_neT c_20_3 (a := 3) (by decide); have h4 := lv_neT c_20_4 (a := 4) (by decide); have h5 := lv_neT c_20_5 (a := 5) (by decide); have h6 := lv_neT c_20_6 (a := 6) (by decide); have h7 := lv_neT c_20_7 (a := 7) (by decide); have h8 := lv_neT c_20_8 (a := 8) (by decide); have h9 := lv_neT c_20_9 (a := 9) (by decide); have h10 := lv_neT c_20_10 (a := 10) (by decide); have h11 := lv_neT c_20_11 (a := 11) (by decide); have h12 := lv_neT c_20_12 (a := 12) (by decide); omega) (by decide) ?_
                            refine lv_aload_n hx hb dX3_ofGag_161 rfl (lv_at hl 0 rfl) ?_
                            refine q_getG (v := .int (σ.1 (34 + x1.toNatClampNeg) 7)) X hP x1.toNatClampNeg (ix_lt (WF.g6 hwf hg)) 7 (by decide) (hts _ wd169) rfl dX3_ofGag_162 ?_
                            exact W.iret (v := (σ.1 (34 + x1.toNatClampNeg) 7)) hx hb hr (fun t ht hW => ⟨⟨(σ.1 (34 + x1.toNatClampNeg) 7), σ, rfl, ⟨hF, rfl⟩, wB_of ht hP⟩, hS.F ht⟩) hS.2.2 dX3_ofGag_165
theorem k_ofGag {p : Program} {l : Launch} {e : Env} {R : Room} {s : State} {m : MethodId} {args : Array Value} {below : List Frame} {meth : Method} {c : Code} {H : Heap} {locs : List Loc} {cells slots : Nat} {Q : State → Prop} {cc : ByteArray} {pc : Nat} {ls : Array Slot} {rest : List Value} {D : va_G} {A : Nat → Prop} {ad : Nat → Nat} {ca : Nat → ClassId} {tw nL : Nat} {σ : St} {own : String} {index : Nat} (X : Cx p s m args c own cc nL D ad ca tw A) (hP : va_P D vwCl (wl ad ca σ) H) (hS : va_S A s.heap H locs) (hR : 6 ≤ R.frames ∧ 132 ≤ R.locals) (hcap : cells ≤ R.cells ∧ slots ≤ R.slots) (hlk : Cond.methodLink own index yX3_ofGag ∈ wsL_law0) (hsz : ls.size = nL) (hrs : (rest.map fun v => v.category).sum ≤ 8) (hdg : decode cc pc = .ok (.invokevirtual index, 3)) (x1 : Int32) (x2 : Int32) (hwf : WF σ) (hg : inr x1 (σ.1 0 5)) (hw : (0 : Int32).toInt ≤ x2.toInt ∧ x2.toInt ≤ (13 : Int32).toInt)
    (kk : ∀ (H1 : Heap) (locs1 : List Loc), va_P D vwCl (wl ad ca σ) H1 → va_S A s.heap H1 locs1 → W p l e R s m args below meth c H1 locs1 cells slots Q (F0 m (pc + 3) ls (.int (f_ofGag σ x1 x2) :: rest))) : W p l e R s m args below meth c H locs cells slots Q (F0 m pc ls (.int x2 :: .int x1 :: .ref (ad 0) :: rest)) := by
  refine q_bi X hS (q_runV (as := [.int x1, .int x2]) X hP hS (q_cwV (rm := ({ frames := 5, cells := 0, slots := 0, locals := 109 } : Room)) (k := 2) X.2.2.2.2.1 hlk wd164 wd165 wd2 wd166 rfl rfl (by decide +kernel) rfl ⟨hR.1, hR.2⟩) (c_ofGag l D ad ca tw X.2.2.2.2.2.2.1 σ x1 x2 hwf hg hw) rfl hsz rfl hrs hdg hcap) (fun r u H1 locs1 h1 h2 h3 => ?_)
  obtain ⟨rfl, rfl⟩ := h1
  exact kk H1 locs1 h2 h3
set_option maxHeartbeats 4000000 in
set_option maxRecDepth 100000 in
theorem c_ofKind (l : Launch) (D : va_G) (ad : Nat → Nat) (ca : Nat → ClassId) (tw : Nat) (hI : ∀ i j, i < 40 → j < 40 → ad i = ad j → i = j) (σ : St) (x1 : Int32) (x2 : Int32) (hwf : WF σ) (hk : vp_in x1 4) : Met l yX3_ofKind (wm yX3_ofKind cX3_ofKind 3 (some .int)) ({ frames := 1, cells := 0, slots := 0, locals := 20 } : Room) (va_Pc [.ref (ad 0), .int x1, .int x2] (wPre D ad ca tw σ)) (va_Qi (fun r u => r = f_ofKind σ x1 x2 ∧ u = σ) (wB D ad ca) (Aw ad)) 0 0 (Aw ad) := by
  generalize hF : f_ofKind σ x1 x2 = F
  refine Met.ofW (cc := cX3_ofKind) (maxL := 3) (ret := (some .int)) (by decide) rfl ?_
  intro p e s m args below meth c s₁ B hml hv
  obtain ⟨rfl, hv⟩ := hv
  have X := q_open (own := RX3) B rfl hml hI hv
  have hx := X.1
  have hb := X.2.1
  have hts := X.2.2.2.2.1
  have hr := B.returns
  have hlocks := B.notSynchronized
  have hP := hv.1
  have hS : va_S (Aw ad) s.heap s.heap [] := va_S.rf
  have hl := lv_entry ([.ref (ad 0), .int x1, .int x2]) (n := 3) (Nat.le_of_ble_eq_true rfl)
  rw [lg_entry_eq]
  generalize (lg_sl ([.ref (ad 0), .int x1, .int x2]) ++ List.replicate (3 - (lg_sl ([.ref (ad 0), .int x1, .int x2])).length) Slot.unset).toArray = ls at hl ⊢
  have hl : lv_has ls 3 [(0, .ref (ad 0)), (1, .int x1), (2, .int x2)] := hl
  unfold f_ofKind at hF
  replace hF : (if x2 = (0 : Int32) then (σ.1 5 x1.toNatClampNeg) else (σ.1 4 x1.toNatClampNeg)) = F := hF
  refine lv_iload_n hx hb dX3_ofKind_0 rfl (lv_at hl 1 rfl) ?_
  refine k_requireKind X hP hS ⟨Nat.le_of_ble_eq_true rfl, Nat.le_of_ble_eq_true rfl⟩ ⟨Nat.zero_le _, Nat.zero_le _⟩ wd134 hl.1 (Nat.le_of_ble_eq_true rfl) dX3_ofKind_1 x1 hwf hk (fun H locs hP hS => ?_)
  refine lv_iload_n hx hb dX3_ofKind_4 rfl (lv_at hl 2 rfl) ?_
  refine lv_if_eq (tgt := 17) hx hb dX3_ofKind_5 (by decide) (fun c_5 => ?_) (fun c_5 => ?_)
  · rw [if_pos c_5] at hF
    refine lv_aload_n hx hb dX3_ofKind_17 rfl (lv_at hl 0 rfl) ?_
    refine q_getM (v := .ref (ad 5)) X hP 7 (by decide) (hts _ wd20) rfl dX3_ofKind_18 ?_
    refine lv_iload_n hx hb dX3_ofKind_21 rfl (lv_at hl 1 rfl) ?_
    refine q_iald X hP 5 (by decide) hk dX3_ofKind_22 ?_
    exact W.iret (v := (σ.1 5 x1.toNatClampNeg)) hx hb hr (fun t ht hW => ⟨⟨(σ.1 5 x1.toNatClampNeg), σ, rfl, ⟨hF, rfl⟩, wB_of ht hP⟩, hS.F ht⟩) hS.2.2 dX3_ofKind_23
  · rw [if_neg c_5] at hF
    refine lv_aload_n hx hb dX3_ofKind_8 rfl (lv_at hl 0 rfl) ?_
    refine q_getM (v := .ref (ad 4)) X hP 6 (by decide) (hts _ wd19) rfl dX3_ofKind_9 ?_
    refine lv_iload_n hx hb dX3_ofKind_12 rfl (lv_at hl 1 rfl) ?_
    refine q_iald X hP 4 (by decide) hk dX3_ofKind_13 ?_
    refine lv_goto (tgt := 23) hx hb dX3_ofKind_14 (by decide) ?_
    exact W.iret (v := (σ.1 4 x1.toNatClampNeg)) hx hb hr (fun t ht hW => ⟨⟨(σ.1 4 x1.toNatClampNeg), σ, rfl, ⟨hF, rfl⟩, wB_of ht hP⟩, hS.F ht⟩) hS.2.2 dX3_ofKind_23
theorem k_ofKind {p : Program} {l : Launch} {e : Env} {R : Room} {s : State} {m : MethodId} {args : Array Value} {below : List Frame} {meth : Method} {c : Code} {H : Heap} {locs : List Loc} {cells slots : Nat} {Q : State → Prop} {cc : ByteArray} {pc : Nat} {ls : Array Slot} {rest : List Value} {D : va_G} {A : Nat → Prop} {ad : Nat → Nat} {ca : Nat → ClassId} {tw nL : Nat} {σ : St} {own : String} {index : Nat} (X : Cx p s m args c own cc nL D ad ca tw A) (hP : va_P D vwCl (wl ad ca σ) H) (hS : va_S A s.heap H locs) (hR : 2 ≤ R.frames ∧ 42 ≤ R.locals) (hcap : cells ≤ R.cells ∧ slots ≤ R.slots) (hlk : Cond.methodLink own index yX3_ofKind ∈ wsL_law0) (hsz : ls.size = nL) (hrs : (rest.map fun v => v.category).sum ≤ 8) (hdg : decode cc pc = .ok (.invokevirtual index, 3)) (x1 : Int32) (x2 : Int32) (hwf : WF σ) (hk : vp_in x1 4)
    (kk : ∀ (H1 : Heap) (locs1 : List Loc), va_P D vwCl (wl ad ca σ) H1 → va_S A s.heap H1 locs1 → W p l e R s m args below meth c H1 locs1 cells slots Q (F0 m (pc + 3) ls (.int (f_ofKind σ x1 x2) :: rest))) : W p l e R s m args below meth c H locs cells slots Q (F0 m pc ls (.int x2 :: .int x1 :: .ref (ad 0) :: rest)) := by
  refine q_bi X hS (q_runV (as := [.int x1, .int x2]) X hP hS (q_cwV (rm := ({ frames := 1, cells := 0, slots := 0, locals := 20 } : Room)) (k := 2) X.2.2.2.2.1 hlk wd411 wd412 wd2 wd413 rfl rfl (by decide +kernel) rfl ⟨hR.1, hR.2⟩) (c_ofKind l D ad ca tw X.2.2.2.2.2.2.1 σ x1 x2 hwf hk) rfl hsz rfl hrs hdg hcap) (fun r u H1 locs1 h1 h2 h3 => ?_)
  obtain ⟨rfl, rfl⟩ := h1
  exact kk H1 locs1 h2 h3
set_option maxHeartbeats 4000000 in
set_option maxRecDepth 100000 in
theorem c_many (l : Launch) (D : va_G) (ad : Nat → Nat) (ca : Nat → ClassId) (tw : Nat) (hI : ∀ i j, i < 40 → j < 40 → ad i = ad j → i = j) (σ : St) (x1 : Int32) (hwf : WF σ) (hw : (0 : Int32).toInt ≤ x1.toInt ∧ x1.toInt ≤ (13 : Int32).toInt) : Met l yX3_many (wm yX3_many cX3_many 2 (some .int)) ({ frames := 2, cells := 0, slots := 0, locals := 44 } : Room) (va_Pc [.ref (ad 0), .int x1] (wPre D ad ca tw σ)) (va_Qi (fun r u => r = f_many σ x1 ∧ u = σ) (wB D ad ca) (Aw ad)) 0 0 (Aw ad) := by
  generalize hF : f_many σ x1 = F
  refine Met.ofW (cc := cX3_many) (maxL := 2) (ret := (some .int)) (by decide) rfl ?_
  intro p e s m args below meth c s₁ B hml hv
  obtain ⟨rfl, hv⟩ := hv
  have X := q_open (own := RX3) B rfl hml hI hv
  have hx := X.1
  have hb := X.2.1
  have hts := X.2.2.2.2.1
  have hr := B.returns
  have hlocks := B.notSynchronized
  have hP := hv.1
  have hS : va_S (Aw ad) s.heap s.heap [] := va_S.rf
  have hl := lv_entry ([.ref (ad 0), .int x1]) (n := 2) (Nat.le_of_ble_eq_true rfl)
  rw [lg_entry_eq]
  generalize (lg_sl ([.ref (ad 0), .int x1]) ++ List.replicate (2 - (lg_sl ([.ref (ad 0), .int x1])).length) Slot.unset).toArray = ls at hl ⊢
  have hl : lv_has ls 2 [(0, .ref (ad 0)), (1, .int x1)] := hl
  unfold f_many at hF
  replace hF : (if x1 = (0 : Int32) then (σ.1 0 8) else (if x1 = (1 : Int32) then (σ.1 0 9) else (if x1 = (2 : Int32) then (f_oneIf (σ.1 0 10)) else (if x1 = (3 : Int32) then (σ.1 0 3) else (if x1 = (4 : Int32) then (σ.1 0 4) else (if x1 = (5 : Int32) then (f_fitCount σ) else (if x1 = (6 : Int32) then (σ.1 0 5) else (if x1 = (7 : Int32) then (f_armedSet σ) else (if x1 = (8 : Int32) then (f_missesOfAll σ) else (if x1 = (9 : Int32) then (f_hurtCount σ) else (if x1 = (10 : Int32) then (σ.1 0 11) else (if x1 = (11 : Int32) then (σ.1 0 12) else (if x1 = (12 : Int32) then (f_payOfAll σ) else (σ.1 0 13)))))))))))))) = F := hF
  refine lv_iload_n hx hb dX3_many_0 rfl (lv_at hl 1 rfl) ?_
  refine lv_iconst (v := (0 : Int32)) hx hb dX3_many_1 (by decide) ?_
  refine lv_bipush (v := (13 : Int32)) hx hb dX3_many_2 (by decide) ?_
  refine k_requireRange X hP hS ⟨Nat.le_of_ble_eq_true rfl, Nat.le_of_ble_eq_true rfl⟩ ⟨Nat.zero_le _, Nat.zero_le _⟩ wd137 hl.1 (Nat.le_of_ble_eq_true rfl) dX3_many_4 x1 (0 : Int32) (13 : Int32) hwf hw (fun H locs hP hS => ?_)
  refine lv_iload_n hx hb dX3_many_7 rfl (lv_at hl 1 rfl) ?_
  by_cases c_8_0 : x1 = (0 : Int32)
  · rw [if_pos c_8_0] at hF
    refine lv_tableIn (off := 68) (tgt := 76) hx hb dX3_many_8 (by rw [c_8_0]; decide) (by rw [c_8_0]; decide) (by rw [c_8_0]; rfl) (by decide) ?_
    refine lv_aload_n hx hb dX3_many_76 rfl (lv_at hl 0 rfl) ?_
    refine q_getM (v := .int (σ.1 0 8)) X hP 8 (by decide) (hts _ wd21) rfl dX3_many_77 ?_
    exact W.iret (v := (σ.1 0 8)) hx hb hr (fun t ht hW => ⟨⟨(σ.1 0 8), σ, rfl, ⟨hF, rfl⟩, wB_of ht hP⟩, hS.F ht⟩) hS.2.2 dX3_many_80
  · rw [if_neg c_8_0] at hF
    by_cases c_8_1 : x1 = (1 : Int32)
    · rw [if_pos c_8_1] at hF
      refine lv_tableIn (off := 73) (tgt := 81) hx hb dX3_many_8 (by rw [c_8_1]; decide) (by rw [c_8_1]; decide) (by rw [c_8_1]; rfl) (by decide) ?_
      refine lv_aload_n hx hb dX3_many_81 rfl (lv_at hl 0 rfl) ?_
      refine q_getM (v := .int (σ.1 0 9)) X hP 9 (by decide) (hts _ wd22) rfl dX3_many_82 ?_
      exact W.iret (v := (σ.1 0 9)) hx hb hr (fun t ht hW => ⟨⟨(σ.1 0 9), σ, rfl, ⟨hF, rfl⟩, wB_of ht hP⟩, hS.F ht⟩) hS.2.2 dX3_many_85
    · rw [if_neg c_8_1] at hF
      by_cases c_8_2 : x1 = (2 : Int32)
      · rw [if_pos c_8_2] at hF
        refine lv_tableIn (off := 78) (tgt := 86) hx hb dX3_many_8 (by rw [c_8_2]; decide) (by rw [c_8_2]; decide) (by rw [c_8_2]; rfl) (by decide) ?_
        refine lv_aload_n hx hb dX3_many_86 rfl (lv_at hl 0 rfl) ?_
        refine q_getM (v := .int (σ.1 0 10)) X hP 10 (by decide) (hts _ wd23) rfl dX3_many_87 ?_
        refine k_oneIf X hP hS ⟨Nat.le_of_ble_eq_true rfl, Nat.le_of_ble_eq_true rfl⟩ ⟨Nat.zero_le _, Nat.zero_le _⟩ wd204 hl.1 (Nat.le_of_ble_eq_true rfl) dX3_many_90 (σ.1 0 10) hwf  (fun H locs hP hS => ?_)
        exact W.iret (v := (f_oneIf (σ.1 0 10))) hx hb hr (fun t ht hW => ⟨⟨(f_oneIf (σ.1 0 10)), σ, rfl, ⟨hF, rfl⟩, wB_of ht hP⟩, hS.F ht⟩) hS.2.2 dX3_many_93
      · rw [if_neg c_8_2] at hF
        by_cases c_8_3 : x1 = (3 : Int32)
        · rw [if_pos c_8_3] at hF
          refine lv_tableIn (off := 86) (tgt := 94) hx hb dX3_many_8 (by rw [c_8_3]; decide) (by rw [c_8_3]; decide) (by rw [c_8_3]; rfl) (by decide) ?_
          refine lv_aload_n hx hb dX3_many_94 rfl (lv_at hl 0 rfl) ?_
          refine q_getM (v := .int (σ.1 0 3)) X hP 3 (by decide) (hts _ wd16) rfl dX3_many_95 ?_
          exact W.iret (v := (σ.1 0 3)) hx hb hr (fun t ht hW => ⟨⟨(σ.1 0 3), σ, rfl, ⟨hF, rfl⟩, wB_of ht hP⟩, hS.F ht⟩) hS.2.2 dX3_many_98
        · rw [if_neg c_8_3] at hF
          by_cases c_8_4 : x1 = (4 : Int32)
          · rw [if_pos c_8_4] at hF
            refine lv_tableIn (off := 91) (tgt := 99) hx hb dX3_many_8 (by rw [c_8_4]; decide) (by rw [c_8_4]; decide) (by rw [c_8_4]; rfl) (by decide) ?_
            refine lv_aload_n hx hb dX3_many_99 rfl (lv_at hl 0 rfl) ?_
            refine q_getM (v := .int (σ.1 0 4)) X hP 4 (by decide) (hts _ wd17) rfl dX3_many_100 ?_
            exact W.iret (v := (σ.1 0 4)) hx hb hr (fun t ht hW => ⟨⟨(σ.1 0 4), σ, rfl, ⟨hF, rfl⟩, wB_of ht hP⟩, hS.F ht⟩) hS.2.2 dX3_many_103
          · rw [if_neg c_8_4] at hF
            by_cases c_8_5 : x1 = (5 : Int32)
            · rw [if_pos c_8_5] at hF
              refine lv_tableIn (off := 96) (tgt := 104) hx hb dX3_many_8 (by rw [c_8_5]; decide) (by rw [c_8_5]; decide) (by rw [c_8_5]; rfl) (by decide) ?_
              refine lv_aload_n hx hb dX3_many_104 rfl (lv_at hl 0 rfl) ?_
              refine k_fitCount X hP hS ⟨Nat.le_of_ble_eq_true rfl, Nat.le_of_ble_eq_true rfl⟩ ⟨Nat.zero_le _, Nat.zero_le _⟩ wd339 hl.1 (Nat.le_of_ble_eq_true rfl) dX3_many_105  hwf  (fun H locs hP hS => ?_)
              exact W.iret (v := (f_fitCount σ)) hx hb hr (fun t ht hW => ⟨⟨(f_fitCount σ), σ, rfl, ⟨hF, rfl⟩, wB_of ht hP⟩, hS.F ht⟩) hS.2.2 dX3_many_108
            · rw [if_neg c_8_5] at hF
              by_cases c_8_6 : x1 = (6 : Int32)
              · rw [if_pos c_8_6] at hF
                refine lv_tableIn (off := 101) (tgt := 109) hx hb dX3_many_8 (by rw [c_8_6]; decide) (by rw [c_8_6]; decide) (by rw [c_8_6]; rfl) (by decide) ?_
                refine lv_aload_n hx hb dX3_many_109 rfl (lv_at hl 0 rfl) ?_
                refine q_getM (v := .int (σ.1 0 5)) X hP 5 (by decide) (hts _ wd18) rfl dX3_many_110 ?_
                exact W.iret (v := (σ.1 0 5)) hx hb hr (fun t ht hW => ⟨⟨(σ.1 0 5), σ, rfl, ⟨hF, rfl⟩, wB_of ht hP⟩, hS.F ht⟩) hS.2.2 dX3_many_113
              · rw [if_neg c_8_6] at hF
                by_cases c_8_7 : x1 = (7 : Int32)
                · rw [if_pos c_8_7] at hF
                  refine lv_tableIn (off := 106) (tgt := 114) hx hb dX3_many_8 (by rw [c_8_7]; decide) (by rw [c_8_7]; decide) (by rw [c_8_7]; rfl) (by decide) ?_
                  refine lv_aload_n hx hb dX3_many_114 rfl (lv_at hl 0 rfl) ?_
                  refine k_armedSet X hP hS ⟨Nat.le_of_ble_eq_true rfl, Nat.le_of_ble_eq_true rfl⟩ ⟨Nat.zero_le _, Nat.zero_le _⟩ wd146 hl.1 (Nat.le_of_ble_eq_true rfl) dX3_many_115  hwf  (fun H locs hP hS => ?_)
                  exact W.iret (v := (f_armedSet σ)) hx hb hr (fun t ht hW => ⟨⟨(f_armedSet σ), σ, rfl, ⟨hF, rfl⟩, wB_of ht hP⟩, hS.F ht⟩) hS.2.2 dX3_many_118
                · rw [if_neg c_8_7] at hF
                  by_cases c_8_8 : x1 = (8 : Int32)
                  · rw [if_pos c_8_8] at hF
                    refine lv_tableIn (off := 111) (tgt := 119) hx hb dX3_many_8 (by rw [c_8_8]; decide) (by rw [c_8_8]; decide) (by rw [c_8_8]; rfl) (by decide) ?_
                    refine lv_aload_n hx hb dX3_many_119 rfl (lv_at hl 0 rfl) ?_
                    refine k_missesOfAll X hP hS ⟨Nat.le_of_ble_eq_true rfl, Nat.le_of_ble_eq_true rfl⟩ ⟨Nat.zero_le _, Nat.zero_le _⟩ wd343 hl.1 (Nat.le_of_ble_eq_true rfl) dX3_many_120  hwf  (fun H locs hP hS => ?_)
                    exact W.iret (v := (f_missesOfAll σ)) hx hb hr (fun t ht hW => ⟨⟨(f_missesOfAll σ), σ, rfl, ⟨hF, rfl⟩, wB_of ht hP⟩, hS.F ht⟩) hS.2.2 dX3_many_123
                  · rw [if_neg c_8_8] at hF
                    by_cases c_8_9 : x1 = (9 : Int32)
                    · rw [if_pos c_8_9] at hF
                      refine lv_tableIn (off := 116) (tgt := 124) hx hb dX3_many_8 (by rw [c_8_9]; decide) (by rw [c_8_9]; decide) (by rw [c_8_9]; rfl) (by decide) ?_
                      refine lv_aload_n hx hb dX3_many_124 rfl (lv_at hl 0 rfl) ?_
                      refine k_hurtCount X hP hS ⟨Nat.le_of_ble_eq_true rfl, Nat.le_of_ble_eq_true rfl⟩ ⟨Nat.zero_le _, Nat.zero_le _⟩ wd347 hl.1 (Nat.le_of_ble_eq_true rfl) dX3_many_125  hwf  (fun H locs hP hS => ?_)
                      exact W.iret (v := (f_hurtCount σ)) hx hb hr (fun t ht hW => ⟨⟨(f_hurtCount σ), σ, rfl, ⟨hF, rfl⟩, wB_of ht hP⟩, hS.F ht⟩) hS.2.2 dX3_many_128
                    · rw [if_neg c_8_9] at hF
                      by_cases c_8_10 : x1 = (10 : Int32)
                      · rw [if_pos c_8_10] at hF
                        refine lv_tableIn (off := 121) (tgt := 129) hx hb dX3_many_8 (by rw [c_8_10]; decide) (by rw [c_8_10]; decide) (by rw [c_8_10]; rfl) (by decide) ?_
                        refine lv_aload_n hx hb dX3_many_129 rfl (lv_at hl 0 rfl) ?_
                        refine q_getM (v := .int (σ.1 0 11)) X hP 11 (by decide) (hts _ wd24) rfl dX3_many_130 ?_
                        exact W.iret (v := (σ.1 0 11)) hx hb hr (fun t ht hW => ⟨⟨(σ.1 0 11), σ, rfl, ⟨hF, rfl⟩, wB_of ht hP⟩, hS.F ht⟩) hS.2.2 dX3_many_133
                      · rw [if_neg c_8_10] at hF
                        by_cases c_8_11 : x1 = (11 : Int32)
                        · rw [if_pos c_8_11] at hF
                          refine lv_tableIn (off := 126) (tgt := 134) hx hb dX3_many_8 (by rw [c_8_11]; decide) (by rw [c_8_11]; decide) (by rw [c_8_11]; rfl) (by decide) ?_
                          refine lv_aload_n hx hb dX3_many_134 rfl (lv_at hl 0 rfl) ?_
                          refine q_getM (v := .int (σ.1 0 12)) X hP 12 (by decide) (hts _ wd25) rfl dX3_many_135 ?_
                          exact W.iret (v := (σ.1 0 12)) hx hb hr (fun t ht hW => ⟨⟨(σ.1 0 12), σ, rfl, ⟨hF, rfl⟩, wB_of ht hP⟩, hS.F ht⟩) hS.2.2 dX3_many_138
                        · rw [if_neg c_8_11] at hF
                          by_cases c_8_12 : x1 = (12 : Int32)
                          · rw [if_pos c_8_12] at hF
                            refine lv_tableIn (off := 131) (tgt := 139) hx hb dX3_many_8 (by rw [c_8_12]; decide) (by rw [c_8_12]; decide) (by rw [c_8_12]; rfl) (by decide) ?_
                            refine lv_aload_n hx hb dX3_many_139 rfl (lv_at hl 0 rfl) ?_
                            refine k_payOfAll X hP hS ⟨Nat.le_of_ble_eq_true rfl, Nat.le_of_ble_eq_true rfl⟩ ⟨Nat.zero_le _, Nat.zero_le _⟩ wd351 hl.1 (Nat.le_of_ble_eq_true rfl) dX3_many_140  hwf  (fun H locs hP hS => ?_)
                            exact W.iret (v := (f_payOfAll σ)) hx hb hr (fun t ht hW => ⟨⟨(f_payOfAll σ), σ, rfl, ⟨hF, rfl⟩, wB_of ht hP⟩, hS.F ht⟩) hS.2.2 dX3_many_143
                          · rw [if_neg c_8_12] at hF
                            refine lv_tableOut (tgt := 144) hx hb dX3_many_8 (by have h0 := lv_neT c_8_0 (a := 0) (by decide); have h1 := lv_neT c_8_1 (a := 1) (by decide); have h2 := lv_neT c_8_2 (a := 2) (by decide); have h3 := lv_neT c_8_3 (a := 3) (by decide); have h4 := lv_neT c_8_4 (a := 4) (by decide); have h5 := lv_neT c_8_5 (a := 5) (by decide); have h6 := lv_neT c_8_6 (a := 6) (by decide); have h7 := lv_neT c_8_7 (a := 7) (by decide); have h8 := lv_neT c_8_8 (a := 8) (by decide); have h9 := lv_neT c_8_9 (a := 9) (by decide); have h10 := lv_neT c_8_10 (a := 10) (by decide); have h11 := lv_neT c_8_11 (a := 11) (by decide); have h12 := lv_neT c_8_12 (a := 12) (by decide); omega) (by decide) ?_
                            refine lv_aload_n hx hb dX3_many_144 rfl (lv_at hl 0 rfl) ?_
                            refine q_getM (v := .int (σ.1 0 13)) X hP 13 (by decide) (hts _ wd26) rfl dX3_many_145 ?_
                            exact W.iret (v := (σ.1 0 13)) hx hb hr (fun t ht hW => ⟨⟨(σ.1 0 13), σ, rfl, ⟨hF, rfl⟩, wB_of ht hP⟩, hS.F ht⟩) hS.2.2 dX3_many_148
theorem k_many {p : Program} {l : Launch} {e : Env} {R : Room} {s : State} {m : MethodId} {args : Array Value} {below : List Frame} {meth : Method} {c : Code} {H : Heap} {locs : List Loc} {cells slots : Nat} {Q : State → Prop} {cc : ByteArray} {pc : Nat} {ls : Array Slot} {rest : List Value} {D : va_G} {A : Nat → Prop} {ad : Nat → Nat} {ca : Nat → ClassId} {tw nL : Nat} {σ : St} {own : String} {index : Nat} (X : Cx p s m args c own cc nL D ad ca tw A) (hP : va_P D vwCl (wl ad ca σ) H) (hS : va_S A s.heap H locs) (hR : 3 ≤ R.frames ∧ 65 ≤ R.locals) (hcap : cells ≤ R.cells ∧ slots ≤ R.slots) (hlk : Cond.methodLink own index yX3_many ∈ wsL_law0) (hsz : ls.size = nL) (hrs : (rest.map fun v => v.category).sum ≤ 8) (hdg : decode cc pc = .ok (.invokevirtual index, 3)) (x1 : Int32) (hwf : WF σ) (hw : (0 : Int32).toInt ≤ x1.toInt ∧ x1.toInt ≤ (13 : Int32).toInt)
    (kk : ∀ (H1 : Heap) (locs1 : List Loc), va_P D vwCl (wl ad ca σ) H1 → va_S A s.heap H1 locs1 → W p l e R s m args below meth c H1 locs1 cells slots Q (F0 m (pc + 3) ls (.int (f_many σ x1) :: rest))) : W p l e R s m args below meth c H locs cells slots Q (F0 m pc ls (.int x1 :: .ref (ad 0) :: rest)) := by
  refine q_bi X hS (q_runV (as := [.int x1]) X hP hS (q_cwV (rm := ({ frames := 2, cells := 0, slots := 0, locals := 44 } : Room)) (k := 1) X.2.2.2.2.1 hlk wd336 wd337 wd2 wd338 rfl rfl (by decide +kernel) rfl ⟨hR.1, hR.2⟩) (c_many l D ad ca tw X.2.2.2.2.2.2.1 σ x1 hwf hw) rfl hsz rfl hrs hdg hcap) (fun r u H1 locs1 h1 h2 h3 => ?_)
  obtain ⟨rfl, rfl⟩ := h1
  exact kk H1 locs1 h2 h3
