set_option maxHeartbeats 4000000 in
set_option maxRecDepth 100000 in
theorem c_mostLevel (l : Launch) (D : va_G) (ad : Nat → Nat) (ca : Nat → ClassId) (tw : Nat) (hI : ∀ i j, i < 40 → j < 40 → ad i = ad j → i = j) (σ : St) (x1 : Int32) (hwf : WF σ) (hg : inr x1 (σ.1 0 5)) : Met l yX3_mostLevel (wm yX3_mostLevel cX3_mostLevel 4 (some .int)) ({ frames := 5, cells := 0, slots := 0, locals := 109 } : Room) (va_Pc [.ref (ad 0), .int x1] (wPre D ad ca tw σ)) (va_Qi (fun r u => r = f_mostLevel σ x1 ∧ u = σ) (wB D ad ca) (Aw ad)) 0 0 (Aw ad) := by
  generalize hF : f_mostLevel σ x1 = F
  refine Met.ofW (cc := cX3_mostLevel) (maxL := 4) (ret := (some .int)) (by decide) rfl ?_
  intro p e s m args below meth c s₁ B hml hv
  obtain ⟨rfl, hv⟩ := hv
  have X := q_open (own := RX3) B rfl hml hI hv
  have hx := X.1
  have hb := X.2.1
  have hts := X.2.2.2.2.1
  have hr := B.returns
  have hlocks := B.notSynchronized
  have hP := hv.1
  have hS : va_S (Aw ad) s.heap s.heap [] := va_S.rf
  have hl := lv_entry ([.ref (ad 0), .int x1]) (n := 4) (Nat.le_of_ble_eq_true rfl)
  rw [lg_entry_eq]
  generalize (lg_sl ([.ref (ad 0), .int x1]) ++ List.replicate (4 - (lg_sl ([.ref (ad 0), .int x1])).length) Slot.unset).toArray = ls at hl ⊢
  have hl : lv_has ls 4 [(0, .ref (ad 0)), (1, .int x1)] := hl
  unfold f_mostLevel at hF
  replace hF : (f_mostLevel_L14 σ x1 128 (30 : Int32)) = F := hF
  refine lv_aload_n hx hb dX3_mostLevel_0 rfl (lv_at hl 0 rfl) ?_
  refine lv_iload_n hx hb dX3_mostLevel_1 rfl (lv_at hl 1 rfl) ?_
  refine k_requireGag X hP hS ⟨Nat.le_of_ble_eq_true rfl, Nat.le_of_ble_eq_true rfl⟩ ⟨Nat.zero_le _, Nat.zero_le _⟩ wd170 hl.1 (Nat.le_of_ble_eq_true rfl) dX3_mostLevel_2 x1 hwf hg (fun H locs hP hS => ?_)
  refine lv_aload_n hx hb dX3_mostLevel_5 rfl (lv_at hl 0 rfl) ?_
  refine lv_iload_n hx hb dX3_mostLevel_6 rfl (lv_at hl 1 rfl) ?_
  refine k_marginWithoutEnergy X hP hS ⟨Nat.le_of_ble_eq_true rfl, Nat.le_of_ble_eq_true rfl⟩ ⟨Nat.zero_le _, Nat.zero_le _⟩ wd288 hl.1 (Nat.le_of_ble_eq_true rfl) dX3_mostLevel_7 x1 hwf (WF.g6 hwf hg) (fun H locs hP hS => ?_)
  refine lv_istore_n (lv' := [(2, .int (f_marginWithoutEnergy σ x1)), (0, .ref (ad 0)), (1, .int x1)]) hx hb dX3_mostLevel_10 rfl hl (by decide) rfl (fun ls hl => ?_)
  refine lv_bipush (v := (30 : Int32)) hx hb dX3_mostLevel_11 (by decide) ?_
  refine lv_istore_n (lv' := [(3, .int (30 : Int32)), (2, .int (f_marginWithoutEnergy σ x1)), (0, .ref (ad 0)), (1, .int x1)]) hx hb dX3_mostLevel_13 rfl hl (by decide) rfl (fun ls hl => ?_)
  have L_14 : ∀ (n_14 : Nat) (y3_14 : Int32) (H : Heap) (locs : List Loc) (ls : Array Slot), (0 ≤ y3_14.toInt ∧ y3_14.toInt ≤ 30 ∧ y3_14.toInt + 1 ≤ (n_14 : Int)) → va_P D vwCl (wl ad ca σ) H → va_S (Aw ad) s.heap H locs → lv_has ls 4 [(3, .int y3_14), (2, .int (f_marginWithoutEnergy σ x1)), (0, .ref (ad 0)), (1, .int x1)] → f_mostLevel_L14 σ x1 (n_14) y3_14 = F → W p l e (headSpec (wm yX3_mostLevel cX3_mostLevel 4 (some .int)) ({ frames := 5, cells := 0, slots := 0, locals := 109 } : Room)).room s m ([.ref (ad 0), .int x1] : List Value).toArray below meth c H locs 0 0 (MQ below (va_Qi (fun r u => r = F ∧ u = σ) (wB D ad ca) (Aw ad)) ([.ref (ad 0), .int x1] : List Value).toArray s 0 0 (Aw ad)) (F0 m 14 ls []) := by
    intro n_14
    induction n_14 with
    | zero => intro y3_14 H locs ls hi_14 _ _ _ _; exact absurd hi_14 (fun h => by obtain ⟨h1, h2, h3⟩ := h; omega)
    | succ n_14 ih_14 =>
      intro y3_14 H locs ls hi_14 hP hS hl hF
      rw [f_mostLevel_L14] at hF
      refine lv_iload_n hx hb dX3_mostLevel_14 rfl (lv_at hl 0 rfl) ?_
      refine lv_iconst (v := (1 : Int32)) hx hb dX3_mostLevel_15 (by decide) ?_
      refine lv_icmp_lt (tgt := 45) hx hb dX3_mostLevel_16 (by decide) (fun c_16 => ?_) (fun c_16 => ?_)
      · rw [if_pos c_16] at hF
        refine lv_iconst (v := (-1 : Int32)) hx hb dX3_mostLevel_45 (by decide) ?_
        exact W.iret (v := (-1 : Int32)) hx hb hr (fun t ht hW => ⟨⟨(-1 : Int32), σ, rfl, ⟨hF, rfl⟩, wB_of ht hP⟩, hS.F ht⟩) hS.2.2 dX3_mostLevel_46
      · rw [if_neg c_16] at hF
        refine lv_aload_n hx hb dX3_mostLevel_19 rfl (lv_at hl 2 rfl) ?_
        refine lv_aload_n hx hb dX3_mostLevel_20 rfl (lv_at hl 2 rfl) ?_
        refine q_getM (v := .ref (ad 3)) X hP 2 (by decide) (hts _ wd15) rfl dX3_mostLevel_21 ?_
        refine lv_iload_n hx hb dX3_mostLevel_24 rfl (lv_at hl 3 rfl) ?_
        refine q_aldG X hP (WF.g6 hwf hg) dX3_mostLevel_25 ?_
        refine q_getG (v := .int (σ.1 (34 + x1.toNatClampNeg) 0)) X hP x1.toNatClampNeg (ix_lt (WF.g6 hwf hg)) 0 (by decide) (hts _ wd112) rfl dX3_mostLevel_26 ?_
        refine lv_iload_n hx hb dX3_mostLevel_29 rfl (lv_at hl 0 rfl) ?_
        refine k_energyAt X hP hS ⟨Nat.le_of_ble_eq_true rfl, Nat.le_of_ble_eq_true rfl⟩ ⟨Nat.zero_le _, Nat.zero_le _⟩ wd114 hl.1 (Nat.le_of_ble_eq_true rfl) dX3_mostLevel_30 (σ.1 (34 + x1.toNatClampNeg) 0) y3_14 hwf  (fun H locs hP hS => ?_)
        refine lv_iload_n hx hb dX3_mostLevel_33 rfl (lv_at hl 1 rfl) ?_
        refine lv_icmp_gt (tgt := 39) hx hb dX3_mostLevel_34 (by decide) (fun c_34 => ?_) (fun c_34 => ?_)
        · rw [if_pos c_34] at hF
          refine lv_iinc (v := (y3_14 + (-1 : Int32))) (lv' := [(3, .int (y3_14 + (-1 : Int32))), (2, .int (f_marginWithoutEnergy σ x1)), (0, .ref (ad 0)), (1, .int x1)]) hx hb dX3_mostLevel_39 hl (k := 0) rfl rfl (by decide) rfl (fun ls hl => ?_)
          refine lv_goto (tgt := 14) hx hb dX3_mostLevel_42 (by decide) ?_
          exact ih_14 (y3_14 + (-1 : Int32)) _ _ _ (lp_d hi_14 c_16) hP hS (lv_sub hl [0, 1, 2, 3] rfl) hF
        · rw [if_neg c_34] at hF
          refine lv_iload_n hx hb dX3_mostLevel_37 rfl (lv_at hl 0 rfl) ?_
          exact W.iret (v := y3_14) hx hb hr (fun t ht hW => ⟨⟨y3_14, σ, rfl, ⟨hF, rfl⟩, wB_of ht hP⟩, hS.F ht⟩) hS.2.2 dX3_mostLevel_38
  exact L_14 128 (30 : Int32) _ _ _ ⟨by decide, by decide, by decide⟩ hP hS hl hF
theorem k_mostLevel {p : Program} {l : Launch} {e : Env} {R : Room} {s : State} {m : MethodId} {args : Array Value} {below : List Frame} {meth : Method} {c : Code} {H : Heap} {locs : List Loc} {cells slots : Nat} {Q : State → Prop} {cc : ByteArray} {pc : Nat} {ls : Array Slot} {rest : List Value} {D : va_G} {A : Nat → Prop} {ad : Nat → Nat} {ca : Nat → ClassId} {tw nL : Nat} {σ : St} {own : String} {index : Nat} (X : Cx p s m args c own cc nL D ad ca tw A) (hP : va_P D vwCl (wl ad ca σ) H) (hS : va_S A s.heap H locs) (hR : 6 ≤ R.frames ∧ 132 ≤ R.locals) (hcap : cells ≤ R.cells ∧ slots ≤ R.slots) (hlk : Cond.methodLink own index yX3_mostLevel ∈ wsL_law0) (hsz : ls.size = nL) (hrs : (rest.map fun v => v.category).sum ≤ 8) (hdg : decode cc pc = .ok (.invokevirtual index, 3)) (x1 : Int32) (hwf : WF σ) (hg : inr x1 (σ.1 0 5))
    (kk : ∀ (H1 : Heap) (locs1 : List Loc), va_P D vwCl (wl ad ca σ) H1 → va_S A s.heap H1 locs1 → W p l e R s m args below meth c H1 locs1 cells slots Q (F0 m (pc + 3) ls (.int (f_mostLevel σ x1) :: rest))) : W p l e R s m args below meth c H locs cells slots Q (F0 m pc ls (.int x1 :: .ref (ad 0) :: rest)) := by
  refine q_bi X hS (q_runV (as := [.int x1]) X hP hS (q_cwV (rm := ({ frames := 5, cells := 0, slots := 0, locals := 109 } : Room)) (k := 1) X.2.2.2.2.1 hlk wd387 wd388 wd2 wd389 rfl rfl (by decide +kernel) rfl ⟨hR.1, hR.2⟩) (c_mostLevel l D ad ca tw X.2.2.2.2.2.2.1 σ x1 hwf hg) rfl hsz rfl hrs hdg hcap) (fun r u H1 locs1 h1 h2 h3 => ?_)
  obtain ⟨rfl, rfl⟩ := h1
  exact kk H1 locs1 h2 h3
set_option maxHeartbeats 4000000 in
set_option maxRecDepth 100000 in
theorem c_bestPerformer (l : Launch) (D : va_G) (ad : Nat → Nat) (ca : Nat → ClassId) (tw : Nat) (hI : ∀ i j, i < 40 → j < 40 → ad i = ad j → i = j) (σ : St) (x1 : Int32) (hwf : WF σ) (hg : inr x1 (σ.1 0 5)) : Met l yX3_bestPerformer (wm yX3_bestPerformer cX3_bestPerformer 6 (some .int)) ({ frames := 3, cells := 0, slots := 0, locals := 65 } : Room) (va_Pc [.ref (ad 0), .int x1] (wPre D ad ca tw σ)) (va_Qi (fun r u => r = f_bestPerformer σ x1 ∧ u = σ) (wB D ad ca) (Aw ad)) 0 0 (Aw ad) := by
  generalize hF : f_bestPerformer σ x1 = F
  refine Met.ofW (cc := cX3_bestPerformer) (maxL := 6) (ret := (some .int)) (by decide) rfl ?_
  intro p e s m args below meth c s₁ B hml hv
  obtain ⟨rfl, hv⟩ := hv
  have X := q_open (own := RX3) B rfl hml hI hv
  have hx := X.1
  have hb := X.2.1
  have hts := X.2.2.2.2.1
  have hr := B.returns
  have hlocks := B.notSynchronized
  have hP := hv.1
  have hS : va_S (Aw ad) s.heap s.heap [] := va_S.rf
  have hl := lv_entry ([.ref (ad 0), .int x1]) (n := 6) (Nat.le_of_ble_eq_true rfl)
  rw [lg_entry_eq]
  generalize (lg_sl ([.ref (ad 0), .int x1]) ++ List.replicate (6 - (lg_sl ([.ref (ad 0), .int x1])).length) Slot.unset).toArray = ls at hl ⊢
  have hl : lv_has ls 6 [(0, .ref (ad 0)), (1, .int x1)] := hl
  unfold f_bestPerformer at hF
  replace hF : (f_bestPerformer_L12 σ x1 128 (0 : Int32) (0 : Int32) (-1 : Int32)) = F := hF
  refine lv_aload_n hx hb dX3_bestPerformer_0 rfl (lv_at hl 0 rfl) ?_
  refine lv_iload_n hx hb dX3_bestPerformer_1 rfl (lv_at hl 1 rfl) ?_
  refine k_requireGag X hP hS ⟨Nat.le_of_ble_eq_true rfl, Nat.le_of_ble_eq_true rfl⟩ ⟨Nat.zero_le _, Nat.zero_le _⟩ wd170 hl.1 (Nat.le_of_ble_eq_true rfl) dX3_bestPerformer_2 x1 hwf hg (fun H locs hP hS => ?_)
  refine lv_iconst (v := (-1 : Int32)) hx hb dX3_bestPerformer_5 (by decide) ?_
  refine lv_istore_n (lv' := [(2, .int (-1 : Int32)), (0, .ref (ad 0)), (1, .int x1)]) hx hb dX3_bestPerformer_6 rfl hl (by decide) rfl (fun ls hl => ?_)
  refine lv_iconst (v := (0 : Int32)) hx hb dX3_bestPerformer_7 (by decide) ?_
  refine lv_istore_n (lv' := [(3, .int (0 : Int32)), (2, .int (-1 : Int32)), (0, .ref (ad 0)), (1, .int x1)]) hx hb dX3_bestPerformer_8 rfl hl (by decide) rfl (fun ls hl => ?_)
  refine lv_iconst (v := (0 : Int32)) hx hb dX3_bestPerformer_9 (by decide) ?_
  refine lv_istore (lv' := [(4, .int (0 : Int32)), (3, .int (0 : Int32)), (2, .int (-1 : Int32)), (0, .ref (ad 0)), (1, .int x1)]) hx hb dX3_bestPerformer_10 hl (by decide) rfl (fun ls hl => ?_)
  have L_12 : ∀ (n_12 : Nat) (y4_12 : Int32) (y3_12 : Int32) (y2_12 : Int32) (H : Heap) (locs : List Loc) (ls : Array Slot), lpI 8 y4_12 n_12 → va_P D vwCl (wl ad ca σ) H → va_S (Aw ad) s.heap H locs → lv_has ls 6 [(4, .int y4_12), (3, .int y3_12), (2, .int y2_12), (0, .ref (ad 0)), (1, .int x1)] → f_bestPerformer_L12 σ x1 (n_12) y4_12 y3_12 y2_12 = F → W p l e (headSpec (wm yX3_bestPerformer cX3_bestPerformer 6 (some .int)) ({ frames := 3, cells := 0, slots := 0, locals := 65 } : Room)).room s m ([.ref (ad 0), .int x1] : List Value).toArray below meth c H locs 0 0 (MQ below (va_Qi (fun r u => r = F ∧ u = σ) (wB D ad ca) (Aw ad)) ([.ref (ad 0), .int x1] : List Value).toArray s 0 0 (Aw ad)) (F0 m 12 ls []) := by
    intro n_12
    induction n_12 with
    | zero => intro y4_12 y3_12 y2_12 H locs ls hi_12 _ _ _ _; exact absurd hi_12 (fun h => lp_0 h)
    | succ n_12 ih_12 =>
      intro y4_12 y3_12 y2_12 H locs ls hi_12 hP hS hl hF
      rw [f_bestPerformer_L12] at hF
      refine lv_iload hx hb dX3_bestPerformer_12 (lv_at hl 0 rfl) ?_
      refine lv_aload_n hx hb dX3_bestPerformer_14 rfl (lv_at hl 3 rfl) ?_
      refine q_getM (v := .int (σ.1 0 3)) X hP 3 (by decide) (hts _ wd16) rfl dX3_bestPerformer_15 ?_
      refine lv_icmp_ge (tgt := 87) hx hb dX3_bestPerformer_18 (by decide) (fun c_18 => ?_) (fun c_18 => ?_)
      · rw [if_pos c_18] at hF
        refine lv_iload_n hx hb dX3_bestPerformer_87 rfl (lv_at hl 2 rfl) ?_
        exact W.iret (v := y2_12) hx hb hr (fun t ht hW => ⟨⟨y2_12, σ, rfl, ⟨hF, rfl⟩, wB_of ht hP⟩, hS.F ht⟩) hS.2.2 dX3_bestPerformer_88
      · have hlt_12 : y4_12.toInt < 8 := lt_nle c_18 hwf.1.2
        rw [if_neg c_18] at hF
        refine lv_aload_n hx hb dX3_bestPerformer_21 rfl (lv_at hl 3 rfl) ?_
        refine q_getM (v := .ref (ad 1)) X hP 0 (by decide) (hts _ wd11) rfl dX3_bestPerformer_22 ?_
        refine lv_iload hx hb dX3_bestPerformer_25 (lv_at hl 0 rfl) ?_
        refine q_aldP X hP (lp_i hi_12 hlt_12) dX3_bestPerformer_27 ?_
        refine q_getP (v := .int (σ.1 (6 + y4_12.toNatClampNeg) 3)) X hP y4_12.toNatClampNeg (ix_lt (lp_i hi_12 hlt_12)) 3 (by decide) (hts _ wd211) rfl dX3_bestPerformer_28 ?_
        refine lv_if_ne (tgt := 81) hx hb dX3_bestPerformer_31 (by decide) (fun c_31 => ?_) (fun c_31 => ?_)
        · rw [if_neg c_31] at hF
          refine lv_iinc (v := (y4_12 + (1 : Int32))) (lv' := [(4, .int (y4_12 + (1 : Int32))), (3, .int y3_12), (2, .int y2_12), (0, .ref (ad 0)), (1, .int x1)]) hx hb dX3_bestPerformer_81 hl (k := 0) rfl rfl (by decide) rfl (fun ls hl => ?_)
          refine lv_goto (tgt := 12) hx hb dX3_bestPerformer_84 (by decide) ?_
          exact ih_12 (y4_12 + (1 : Int32)) y3_12 y2_12 _ _ _ (lp_s hi_12 hlt_12) hP hS (lv_sub hl [0, 1, 2, 3, 4] rfl) hF
        · rw [if_pos c_31] at hF
          refine lv_aload_n hx hb dX3_bestPerformer_34 rfl (lv_at hl 3 rfl) ?_
          refine lv_iload hx hb dX3_bestPerformer_35 (lv_at hl 0 rfl) ?_
          refine lv_iload_n hx hb dX3_bestPerformer_37 rfl (lv_at hl 4 rfl) ?_
          refine k_isTooYoung X hP hS ⟨Nat.le_of_ble_eq_true rfl, Nat.le_of_ble_eq_true rfl⟩ ⟨Nat.zero_le _, Nat.zero_le _⟩ wd219 hl.1 (Nat.le_of_ble_eq_true rfl) dX3_bestPerformer_38 y4_12 x1 hwf (lp_i hi_12 hlt_12) (WF.g6 hwf hg) (fun H locs hP hS => ?_)
          refine lv_if_eq (tgt := 47) hx hb dX3_bestPerformer_41 (by decide) (fun c_41 => ?_) (fun c_41 => ?_)
          · rw [if_pos c_41] at hF
            refine lv_aload_n hx hb dX3_bestPerformer_47 rfl (lv_at hl 3 rfl) ?_
            refine lv_iload hx hb dX3_bestPerformer_48 (lv_at hl 0 rfl) ?_
            refine lv_aload_n hx hb dX3_bestPerformer_50 rfl (lv_at hl 3 rfl) ?_
            refine q_getM (v := .ref (ad 3)) X hP 2 (by decide) (hts _ wd15) rfl dX3_bestPerformer_51 ?_
            refine lv_iload_n hx hb dX3_bestPerformer_54 rfl (lv_at hl 4 rfl) ?_
            refine q_aldG X hP (WF.g6 hwf hg) dX3_bestPerformer_55 ?_
            refine q_getG (v := .int (σ.1 (34 + x1.toNatClampNeg) 0)) X hP x1.toNatClampNeg (ix_lt (WF.g6 hwf hg)) 0 (by decide) (hts _ wd112) rfl dX3_bestPerformer_56 ?_
            refine k_performersShare X hP hS ⟨Nat.le_of_ble_eq_true rfl, Nat.le_of_ble_eq_true rfl⟩ ⟨Nat.zero_le _, Nat.zero_le _⟩ wd199 hl.1 (Nat.le_of_ble_eq_true rfl) dX3_bestPerformer_59 y4_12 (σ.1 (34 + x1.toNatClampNeg) 0) hwf (lp_i hi_12 hlt_12) (WF.gk hwf (WF.g6 hwf hg)) (fun H locs hP hS => ?_)
            refine lv_istore (lv' := [(5, .int (f_performersShare σ y4_12 (σ.1 (34 + x1.toNatClampNeg) 0))), (4, .int y4_12), (3, .int y3_12), (2, .int y2_12), (0, .ref (ad 0)), (1, .int x1)]) hx hb dX3_bestPerformer_62 hl (by decide) rfl (fun ls hl => ?_)
            refine lv_iload_n hx hb dX3_bestPerformer_64 rfl (lv_at hl 3 rfl) ?_
            refine lv_iconst (v := (-1 : Int32)) hx hb dX3_bestPerformer_65 (by decide) ?_
            refine lv_icmp_eq (tgt := 75) hx hb dX3_bestPerformer_66 (by decide) (fun c_66 => ?_) (fun c_66 => ?_)
            · rw [if_pos c_66] at hF
              refine lv_iload hx hb dX3_bestPerformer_75 (lv_at hl 1 rfl) ?_
              refine lv_istore_n (lv' := [(2, .int y4_12), (5, .int (f_performersShare σ y4_12 (σ.1 (34 + x1.toNatClampNeg) 0))), (4, .int y4_12), (3, .int y3_12), (0, .ref (ad 0)), (1, .int x1)]) hx hb dX3_bestPerformer_77 rfl hl (by decide) rfl (fun ls hl => ?_)
              refine lv_iload hx hb dX3_bestPerformer_78 (lv_at hl 1 rfl) ?_
              refine lv_istore_n (lv' := [(3, .int (f_performersShare σ y4_12 (σ.1 (34 + x1.toNatClampNeg) 0))), (2, .int y4_12), (5, .int (f_performersShare σ y4_12 (σ.1 (34 + x1.toNatClampNeg) 0))), (4, .int y4_12), (0, .ref (ad 0)), (1, .int x1)]) hx hb dX3_bestPerformer_80 rfl hl (by decide) rfl (fun ls hl => ?_)
              refine lv_iinc (v := (y4_12 + (1 : Int32))) (lv' := [(4, .int (y4_12 + (1 : Int32))), (3, .int (f_performersShare σ y4_12 (σ.1 (34 + x1.toNatClampNeg) 0))), (2, .int y4_12), (5, .int (f_performersShare σ y4_12 (σ.1 (34 + x1.toNatClampNeg) 0))), (0, .ref (ad 0)), (1, .int x1)]) hx hb dX3_bestPerformer_81 hl (k := 3) rfl rfl (by decide) rfl (fun ls hl => ?_)
              refine lv_goto (tgt := 12) hx hb dX3_bestPerformer_84 (by decide) ?_
              exact ih_12 (y4_12 + (1 : Int32)) (f_performersShare σ y4_12 (σ.1 (34 + x1.toNatClampNeg) 0)) y4_12 _ _ _ (lp_s hi_12 hlt_12) hP hS (lv_sub hl [0, 1, 2, 4, 5] rfl) hF
            · rw [if_neg c_66] at hF
              refine lv_iload hx hb dX3_bestPerformer_69 (lv_at hl 0 rfl) ?_
              refine lv_iload_n hx hb dX3_bestPerformer_71 rfl (lv_at hl 2 rfl) ?_
              refine lv_icmp_le (tgt := 81) hx hb dX3_bestPerformer_72 (by decide) (fun c_72 => ?_) (fun c_72 => ?_)
              · rw [if_pos c_72] at hF
                refine lv_iinc (v := (y4_12 + (1 : Int32))) (lv' := [(4, .int (y4_12 + (1 : Int32))), (5, .int (f_performersShare σ y4_12 (σ.1 (34 + x1.toNatClampNeg) 0))), (3, .int y3_12), (2, .int y2_12), (0, .ref (ad 0)), (1, .int x1)]) hx hb dX3_bestPerformer_81 hl (k := 1) rfl rfl (by decide) rfl (fun ls hl => ?_)
                refine lv_goto (tgt := 12) hx hb dX3_bestPerformer_84 (by decide) ?_
                exact ih_12 (y4_12 + (1 : Int32)) y3_12 y2_12 _ _ _ (lp_s hi_12 hlt_12) hP hS (lv_sub hl [0, 2, 3, 4, 5] rfl) hF
              · rw [if_neg c_72] at hF
                refine lv_iload hx hb dX3_bestPerformer_75 (lv_at hl 1 rfl) ?_
                refine lv_istore_n (lv' := [(2, .int y4_12), (5, .int (f_performersShare σ y4_12 (σ.1 (34 + x1.toNatClampNeg) 0))), (4, .int y4_12), (3, .int y3_12), (0, .ref (ad 0)), (1, .int x1)]) hx hb dX3_bestPerformer_77 rfl hl (by decide) rfl (fun ls hl => ?_)
                refine lv_iload hx hb dX3_bestPerformer_78 (lv_at hl 1 rfl) ?_
                refine lv_istore_n (lv' := [(3, .int (f_performersShare σ y4_12 (σ.1 (34 + x1.toNatClampNeg) 0))), (2, .int y4_12), (5, .int (f_performersShare σ y4_12 (σ.1 (34 + x1.toNatClampNeg) 0))), (4, .int y4_12), (0, .ref (ad 0)), (1, .int x1)]) hx hb dX3_bestPerformer_80 rfl hl (by decide) rfl (fun ls hl => ?_)
                refine lv_iinc (v := (y4_12 + (1 : Int32))) (lv' := [(4, .int (y4_12 + (1 : Int32))), (3, .int (f_performersShare σ y4_12 (σ.1 (34 + x1.toNatClampNeg) 0))), (2, .int y4_12), (5, .int (f_performersShare σ y4_12 (σ.1 (34 + x1.toNatClampNeg) 0))), (0, .ref (ad 0)), (1, .int x1)]) hx hb dX3_bestPerformer_81 hl (k := 3) rfl rfl (by decide) rfl (fun ls hl => ?_)
                refine lv_goto (tgt := 12) hx hb dX3_bestPerformer_84 (by decide) ?_
                exact ih_12 (y4_12 + (1 : Int32)) (f_performersShare σ y4_12 (σ.1 (34 + x1.toNatClampNeg) 0)) y4_12 _ _ _ (lp_s hi_12 hlt_12) hP hS (lv_sub hl [0, 1, 2, 4, 5] rfl) hF
          · rw [if_neg c_41] at hF
            refine lv_goto (tgt := 81) hx hb dX3_bestPerformer_44 (by decide) ?_
            refine lv_iinc (v := (y4_12 + (1 : Int32))) (lv' := [(4, .int (y4_12 + (1 : Int32))), (3, .int y3_12), (2, .int y2_12), (0, .ref (ad 0)), (1, .int x1)]) hx hb dX3_bestPerformer_81 hl (k := 0) rfl rfl (by decide) rfl (fun ls hl => ?_)
            refine lv_goto (tgt := 12) hx hb dX3_bestPerformer_84 (by decide) ?_
            exact ih_12 (y4_12 + (1 : Int32)) y3_12 y2_12 _ _ _ (lp_s hi_12 hlt_12) hP hS (lv_sub hl [0, 1, 2, 3, 4] rfl) hF
  exact L_12 128 (0 : Int32) (0 : Int32) (-1 : Int32) _ _ _ (lp_z (by decide)) hP hS hl hF
theorem k_bestPerformer {p : Program} {l : Launch} {e : Env} {R : Room} {s : State} {m : MethodId} {args : Array Value} {below : List Frame} {meth : Method} {c : Code} {H : Heap} {locs : List Loc} {cells slots : Nat} {Q : State → Prop} {cc : ByteArray} {pc : Nat} {ls : Array Slot} {rest : List Value} {D : va_G} {A : Nat → Prop} {ad : Nat → Nat} {ca : Nat → ClassId} {tw nL : Nat} {σ : St} {own : String} {index : Nat} (X : Cx p s m args c own cc nL D ad ca tw A) (hP : va_P D vwCl (wl ad ca σ) H) (hS : va_S A s.heap H locs) (hR : 4 ≤ R.frames ∧ 90 ≤ R.locals) (hcap : cells ≤ R.cells ∧ slots ≤ R.slots) (hlk : Cond.methodLink own index yX3_bestPerformer ∈ wsL_law0) (hsz : ls.size = nL) (hrs : (rest.map fun v => v.category).sum ≤ 8) (hdg : decode cc pc = .ok (.invokevirtual index, 3)) (x1 : Int32) (hwf : WF σ) (hg : inr x1 (σ.1 0 5))
    (kk : ∀ (H1 : Heap) (locs1 : List Loc), va_P D vwCl (wl ad ca σ) H1 → va_S A s.heap H1 locs1 → W p l e R s m args below meth c H1 locs1 cells slots Q (F0 m (pc + 3) ls (.int (f_bestPerformer σ x1) :: rest))) : W p l e R s m args below meth c H locs cells slots Q (F0 m pc ls (.int x1 :: .ref (ad 0) :: rest)) := by
  refine q_bi X hS (q_runV (as := [.int x1]) X hP hS (q_cwV (rm := ({ frames := 3, cells := 0, slots := 0, locals := 65 } : Room)) (k := 1) X.2.2.2.2.1 hlk wd391 wd392 wd2 wd393 rfl rfl (by decide +kernel) rfl ⟨hR.1, hR.2⟩) (c_bestPerformer l D ad ca tw X.2.2.2.2.2.2.1 σ x1 hwf hg) rfl hsz rfl hrs hdg hcap) (fun r u H1 locs1 h1 h2 h3 => ?_)
  obtain ⟨rfl, rfl⟩ := h1
  exact kk H1 locs1 h2 h3
set_option maxHeartbeats 4000000 in
set_option maxRecDepth 100000 in
theorem c_needs (l : Launch) (D : va_G) (ad : Nat → Nat) (ca : Nat → ClassId) (tw : Nat) (hI : ∀ i j, i < 40 → j < 40 → ad i = ad j → i = j) (σ : St) (x1 : Int32) (hwf : WF σ) (hg : inr x1 (σ.1 0 5)) : Met l yX3_needs (wm yX3_needs cX3_needs 6 (some .int)) ({ frames := 4, cells := 0, slots := 0, locals := 88 } : Room) (va_Pc [.ref (ad 0), .int x1] (wPre D ad ca tw σ)) (va_Qi (fun r u => r = f_needs σ x1 ∧ u = σ) (wB D ad ca) (Aw ad)) 0 0 (Aw ad) := by
  generalize hF : f_needs σ x1 = F
  refine Met.ofW (cc := cX3_needs) (maxL := 6) (ret := (some .int)) (by decide) rfl ?_
  intro p e s m args below meth c s₁ B hml hv
  obtain ⟨rfl, hv⟩ := hv
  have X := q_open (own := RX3) B rfl hml hI hv
  have hx := X.1
  have hb := X.2.1
  have hts := X.2.2.2.2.1
  have hr := B.returns
  have hlocks := B.notSynchronized
  have hP := hv.1
  have hS : va_S (Aw ad) s.heap s.heap [] := va_S.rf
  have hl := lv_entry ([.ref (ad 0), .int x1]) (n := 6) (Nat.le_of_ble_eq_true rfl)
  rw [lg_entry_eq]
  generalize (lg_sl ([.ref (ad 0), .int x1]) ++ List.replicate (6 - (lg_sl ([.ref (ad 0), .int x1])).length) Slot.unset).toArray = ls at hl ⊢
  have hl : lv_has ls 6 [(0, .ref (ad 0)), (1, .int x1)] := hl
  unfold f_needs at hF
  replace hF : (f_needs_L16 σ x1 128 (0 : Int32) (0 : Int32) (f_marginOf σ x1)) = F := hF
  refine lv_aload_n hx hb dX3_needs_0 rfl (lv_at hl 0 rfl) ?_
  refine lv_iload_n hx hb dX3_needs_1 rfl (lv_at hl 1 rfl) ?_
  refine k_requireGag X hP hS ⟨Nat.le_of_ble_eq_true rfl, Nat.le_of_ble_eq_true rfl⟩ ⟨Nat.zero_le _, Nat.zero_le _⟩ wd170 hl.1 (Nat.le_of_ble_eq_true rfl) dX3_needs_2 x1 hwf hg (fun H locs hP hS => ?_)
  refine lv_aload_n hx hb dX3_needs_5 rfl (lv_at hl 0 rfl) ?_
  refine lv_iload_n hx hb dX3_needs_6 rfl (lv_at hl 1 rfl) ?_
  refine k_marginOf X hP hS ⟨Nat.le_of_ble_eq_true rfl, Nat.le_of_ble_eq_true rfl⟩ ⟨Nat.zero_le _, Nat.zero_le _⟩ wd195 hl.1 (Nat.le_of_ble_eq_true rfl) dX3_needs_7 x1 hwf (WF.g6 hwf hg) (fun H locs hP hS => ?_)
  refine lv_istore_n (lv' := [(2, .int (f_marginOf σ x1)), (0, .ref (ad 0)), (1, .int x1)]) hx hb dX3_needs_10 rfl hl (by decide) rfl (fun ls hl => ?_)
  refine lv_iconst (v := (0 : Int32)) hx hb dX3_needs_11 (by decide) ?_
  refine lv_istore_n (lv' := [(3, .int (0 : Int32)), (2, .int (f_marginOf σ x1)), (0, .ref (ad 0)), (1, .int x1)]) hx hb dX3_needs_12 rfl hl (by decide) rfl (fun ls hl => ?_)
  refine lv_iconst (v := (0 : Int32)) hx hb dX3_needs_13 (by decide) ?_
  refine lv_istore (lv' := [(4, .int (0 : Int32)), (3, .int (0 : Int32)), (2, .int (f_marginOf σ x1)), (0, .ref (ad 0)), (1, .int x1)]) hx hb dX3_needs_14 hl (by decide) rfl (fun ls hl => ?_)
  have L_16 : ∀ (n_16 : Nat) (y4_16 : Int32) (y3_16 : Int32) (y2_16 : Int32) (H : Heap) (locs : List Loc) (ls : Array Slot), lpI 12 y4_16 n_16 → va_P D vwCl (wl ad ca σ) H → va_S (Aw ad) s.heap H locs → lv_has ls 6 [(4, .int y4_16), (3, .int y3_16), (2, .int y2_16), (0, .ref (ad 0)), (1, .int x1)] → f_needs_L16 σ x1 (n_16) y4_16 y3_16 y2_16 = F → W p l e (headSpec (wm yX3_needs cX3_needs 6 (some .int)) ({ frames := 4, cells := 0, slots := 0, locals := 88 } : Room)).room s m ([.ref (ad 0), .int x1] : List Value).toArray below meth c H locs 0 0 (MQ below (va_Qi (fun r u => r = F ∧ u = σ) (wB D ad ca) (Aw ad)) ([.ref (ad 0), .int x1] : List Value).toArray s 0 0 (Aw ad)) (F0 m 16 ls []) := by
    intro n_16
    induction n_16 with
    | zero => intro y4_16 y3_16 y2_16 H locs ls hi_16 _ _ _ _; exact absurd hi_16 (fun h => lp_0 h)
    | succ n_16 ih_16 =>
      intro y4_16 y3_16 y2_16 H locs ls hi_16 hP hS hl hF
      rw [f_needs_L16] at hF
      refine lv_iload hx hb dX3_needs_16 (lv_at hl 0 rfl) ?_
      refine lv_aload_n hx hb dX3_needs_18 rfl (lv_at hl 3 rfl) ?_
      refine q_getM (v := .int (σ.1 0 4)) X hP 4 (by decide) (hts _ wd17) rfl dX3_needs_19 ?_
      refine lv_icmp_ge (tgt := 79) hx hb dX3_needs_22 (by decide) (fun c_22 => ?_) (fun c_22 => ?_)
      · rw [if_pos c_22] at hF
        refine lv_iload_n hx hb dX3_needs_79 rfl (lv_at hl 2 rfl) ?_
        refine lv_if_ge (tgt := 87) hx hb dX3_needs_80 (by decide) (fun c_80 => ?_) (fun c_80 => ?_)
        · rw [if_pos c_80] at hF
          refine lv_iload_n hx hb dX3_needs_87 rfl (lv_at hl 1 rfl) ?_
          exact W.iret (v := y3_16) hx hb hr (fun t ht hW => ⟨⟨y3_16, σ, rfl, ⟨hF, rfl⟩, wB_of ht hP⟩, hS.F ht⟩) hS.2.2 dX3_needs_88
        · rw [if_neg c_80] at hF
          refine lv_iconst (v := (0 : Int32)) hx hb dX3_needs_83 (by decide) ?_
          refine lv_goto (tgt := 88) hx hb dX3_needs_84 (by decide) ?_
          exact W.iret (v := (0 : Int32)) hx hb hr (fun t ht hW => ⟨⟨(0 : Int32), σ, rfl, ⟨hF, rfl⟩, wB_of ht hP⟩, hS.F ht⟩) hS.2.2 dX3_needs_88
      · have hlt_16 : y4_16.toInt < 12 := lt_nle c_22 hwf.2.1.2
        rw [if_neg c_22] at hF
        refine lv_iload_n hx hb dX3_needs_25 rfl (lv_at hl 2 rfl) ?_
        refine lv_if_ge (tgt := 79) hx hb dX3_needs_26 (by decide) (fun c_26 => ?_) (fun c_26 => ?_)
        · rw [if_pos c_26] at hF
          refine lv_iload_n hx hb dX3_needs_79 rfl (lv_at hl 2 rfl) ?_
          refine lv_if_ge (tgt := 87) hx hb dX3_needs_80 (by decide) (fun c_80 => ?_) (fun c_80 => ?_)
          · rw [if_pos c_80] at hF
            refine lv_iload_n hx hb dX3_needs_87 rfl (lv_at hl 1 rfl) ?_
            exact W.iret (v := y3_16) hx hb hr (fun t ht hW => ⟨⟨y3_16, σ, rfl, ⟨hF, rfl⟩, wB_of ht hP⟩, hS.F ht⟩) hS.2.2 dX3_needs_88
          · rw [if_neg c_80] at hF
            refine lv_iconst (v := (0 : Int32)) hx hb dX3_needs_83 (by decide) ?_
            refine lv_goto (tgt := 88) hx hb dX3_needs_84 (by decide) ?_
            exact W.iret (v := (0 : Int32)) hx hb hr (fun t ht hW => ⟨⟨(0 : Int32), σ, rfl, ⟨hF, rfl⟩, wB_of ht hP⟩, hS.F ht⟩) hS.2.2 dX3_needs_88
        · rw [if_neg c_26] at hF
          refine lv_aload_n hx hb dX3_needs_29 rfl (lv_at hl 3 rfl) ?_
          refine lv_aload_n hx hb dX3_needs_30 rfl (lv_at hl 3 rfl) ?_
          refine q_getM (v := .ref (ad 3)) X hP 2 (by decide) (hts _ wd15) rfl dX3_needs_31 ?_
          refine lv_iload_n hx hb dX3_needs_34 rfl (lv_at hl 4 rfl) ?_
          refine q_aldG X hP (WF.g6 hwf hg) dX3_needs_35 ?_
          refine q_getG (v := .int (σ.1 (34 + x1.toNatClampNeg) 0)) X hP x1.toNatClampNeg (ix_lt (WF.g6 hwf hg)) 0 (by decide) (hts _ wd112) rfl dX3_needs_36 ?_
          refine lv_iload_n hx hb dX3_needs_39 rfl (lv_at hl 1 rfl) ?_
          refine k_bestFreePiece X hP hS ⟨Nat.le_of_ble_eq_true rfl, Nat.le_of_ble_eq_true rfl⟩ ⟨Nat.zero_le _, Nat.zero_le _⟩ wd398 hl.1 (Nat.le_of_ble_eq_true rfl) dX3_needs_40 (σ.1 (34 + x1.toNatClampNeg) 0) y3_16 hwf  (fun H locs hP hS => ?_)
          refine lv_istore (lv' := [(5, .int (f_bestFreePiece σ (σ.1 (34 + x1.toNatClampNeg) 0) y3_16)), (4, .int y4_16), (3, .int y3_16), (2, .int y2_16), (0, .ref (ad 0)), (1, .int x1)]) hx hb dX3_needs_43 hl (by decide) rfl (fun ls hl => ?_)
          refine lv_iload hx hb dX3_needs_45 (lv_at hl 0 rfl) ?_
          refine lv_iconst (v := (-1 : Int32)) hx hb dX3_needs_47 (by decide) ?_
          refine lv_icmp_ne (tgt := 53) hx hb dX3_needs_48 (by decide) (fun c_48 => ?_) (fun c_48 => ?_)
          · rw [if_neg c_48] at hF
            refine lv_iload_n hx hb dX3_needs_53 rfl (lv_at hl 2 rfl) ?_
            refine lv_iconst (v := (1 : Int32)) hx hb dX3_needs_54 (by decide) ?_
            refine lv_iload hx hb dX3_needs_55 (lv_at hl 0 rfl) ?_
            refine lv_ishl hx hb dX3_needs_57 ?_
            refine lv_ior hx hb dX3_needs_58 ?_
            refine lv_istore_n (lv' := [(3, .int (y3_16 ||| ((1 : Int32) <<< ((f_bestFreePiece σ (σ.1 (34 + x1.toNatClampNeg) 0) y3_16) &&& (31 : Int32))))), (5, .int (f_bestFreePiece σ (σ.1 (34 + x1.toNatClampNeg) 0) y3_16)), (4, .int y4_16), (2, .int y2_16), (0, .ref (ad 0)), (1, .int x1)]) hx hb dX3_needs_59 rfl hl (by decide) rfl (fun ls hl => ?_)
            refine lv_iload_n hx hb dX3_needs_60 rfl (lv_at hl 3 rfl) ?_
            refine lv_aload_n hx hb dX3_needs_61 rfl (lv_at hl 4 rfl) ?_
            refine q_getM (v := .ref (ad 2)) X hP 1 (by decide) (hts _ wd13) rfl dX3_needs_62 ?_
            refine lv_iload hx hb dX3_needs_65 (lv_at hl 1 rfl) ?_
            refine q_aldK X hP ((bfp_in hwf _ _).resolve_left c_48) dX3_needs_67 ?_
            refine q_getK (v := .int (σ.1 (22 + (f_bestFreePiece σ (σ.1 (34 + x1.toNatClampNeg) 0) y3_16).toNatClampNeg) 1)) X hP ((f_bestFreePiece σ (σ.1 (34 + x1.toNatClampNeg) 0) y3_16).toNatClampNeg) (ix_lt ((bfp_in hwf _ _).resolve_left c_48)) 1 (by decide) (hts _ wd182) rfl dX3_needs_68 ?_
            refine lv_iadd hx hb dX3_needs_71 ?_
            refine lv_istore_n (lv' := [(2, .int (y2_16 + (σ.1 (22 + (f_bestFreePiece σ (σ.1 (34 + x1.toNatClampNeg) 0) y3_16).toNatClampNeg) 1))), (3, .int (y3_16 ||| ((1 : Int32) <<< ((f_bestFreePiece σ (σ.1 (34 + x1.toNatClampNeg) 0) y3_16) &&& (31 : Int32))))), (5, .int (f_bestFreePiece σ (σ.1 (34 + x1.toNatClampNeg) 0) y3_16)), (4, .int y4_16), (0, .ref (ad 0)), (1, .int x1)]) hx hb dX3_needs_72 rfl hl (by decide) rfl (fun ls hl => ?_)
            refine lv_iinc (v := (y4_16 + (1 : Int32))) (lv' := [(4, .int (y4_16 + (1 : Int32))), (2, .int (y2_16 + (σ.1 (22 + (f_bestFreePiece σ (σ.1 (34 + x1.toNatClampNeg) 0) y3_16).toNatClampNeg) 1))), (3, .int (y3_16 ||| ((1 : Int32) <<< ((f_bestFreePiece σ (σ.1 (34 + x1.toNatClampNeg) 0) y3_16) &&& (31 : Int32))))), (5, .int (f_bestFreePiece σ (σ.1 (34 + x1.toNatClampNeg) 0) y3_16)), (0, .ref (ad 0)), (1, .int x1)]) hx hb dX3_needs_73 hl (k := 3) rfl rfl (by decide) rfl (fun ls hl => ?_)
            refine lv_goto (tgt := 16) hx hb dX3_needs_76 (by decide) ?_
            exact ih_16 (y4_16 + (1 : Int32)) (y3_16 ||| ((1 : Int32) <<< ((f_bestFreePiece σ (σ.1 (34 + x1.toNatClampNeg) 0) y3_16) &&& (31 : Int32)))) (y2_16 + (σ.1 (22 + (f_bestFreePiece σ (σ.1 (34 + x1.toNatClampNeg) 0) y3_16).toNatClampNeg) 1)) _ _ _ (lp_s hi_16 hlt_16) hP hS (lv_sub hl [0, 2, 1, 4, 5] rfl) hF
          · rw [if_pos c_48] at hF
            refine lv_iconst (v := (0 : Int32)) hx hb dX3_needs_51 (by decide) ?_
            exact W.iret (v := (0 : Int32)) hx hb hr (fun t ht hW => ⟨⟨(0 : Int32), σ, rfl, ⟨hF, rfl⟩, wB_of ht hP⟩, hS.F ht⟩) hS.2.2 dX3_needs_52
  exact L_16 128 (0 : Int32) (0 : Int32) (f_marginOf σ x1) _ _ _ (lp_z (by decide)) hP hS hl hF
theorem k_needs {p : Program} {l : Launch} {e : Env} {R : Room} {s : State} {m : MethodId} {args : Array Value} {below : List Frame} {meth : Method} {c : Code} {H : Heap} {locs : List Loc} {cells slots : Nat} {Q : State → Prop} {cc : ByteArray} {pc : Nat} {ls : Array Slot} {rest : List Value} {D : va_G} {A : Nat → Prop} {ad : Nat → Nat} {ca : Nat → ClassId} {tw nL : Nat} {σ : St} {own : String} {index : Nat} (X : Cx p s m args c own cc nL D ad ca tw A) (hP : va_P D vwCl (wl ad ca σ) H) (hS : va_S A s.heap H locs) (hR : 5 ≤ R.frames ∧ 113 ≤ R.locals) (hcap : cells ≤ R.cells ∧ slots ≤ R.slots) (hlk : Cond.methodLink own index yX3_needs ∈ wsL_law0) (hsz : ls.size = nL) (hrs : (rest.map fun v => v.category).sum ≤ 8) (hdg : decode cc pc = .ok (.invokevirtual index, 3)) (x1 : Int32) (hwf : WF σ) (hg : inr x1 (σ.1 0 5))
    (kk : ∀ (H1 : Heap) (locs1 : List Loc), va_P D vwCl (wl ad ca σ) H1 → va_S A s.heap H1 locs1 → W p l e R s m args below meth c H1 locs1 cells slots Q (F0 m (pc + 3) ls (.int (f_needs σ x1) :: rest))) : W p l e R s m args below meth c H locs cells slots Q (F0 m pc ls (.int x1 :: .ref (ad 0) :: rest)) := by
  refine q_bi X hS (q_runV (as := [.int x1]) X hP hS (q_cwV (rm := ({ frames := 4, cells := 0, slots := 0, locals := 88 } : Room)) (k := 1) X.2.2.2.2.1 hlk wd395 wd396 wd2 wd397 rfl rfl (by decide +kernel) rfl ⟨hR.1, hR.2⟩) (c_needs l D ad ca tw X.2.2.2.2.2.2.1 σ x1 hwf hg) rfl hsz rfl hrs hdg hcap) (fun r u H1 locs1 h1 h2 h3 => ?_)
  obtain ⟨rfl, rfl⟩ := h1
  exact kk H1 locs1 h2 h3
set_option maxHeartbeats 4000000 in
set_option maxRecDepth 100000 in
theorem c_safeFrom (l : Launch) (D : va_G) (ad : Nat → Nat) (ca : Nat → ClassId) (tw : Nat) (hI : ∀ i j, i < 40 → j < 40 → ad i = ad j → i = j) (σ : St) (x1 : Int32) (hwf : WF σ) (hg : inr x1 (σ.1 0 5)) : Met l yX3_safeFrom (wm yX3_safeFrom cX3_safeFrom 4 (some .int)) ({ frames := 3, cells := 0, slots := 0, locals := 65 } : Room) (va_Pc [.ref (ad 0), .int x1] (wPre D ad ca tw σ)) (va_Qi (fun r u => r = f_safeFrom σ x1 ∧ u = σ) (wB D ad ca) (Aw ad)) 0 0 (Aw ad) := by
  generalize hF : f_safeFrom σ x1 = F
  refine Met.ofW (cc := cX3_safeFrom) (maxL := 4) (ret := (some .int)) (by decide) rfl ?_
  intro p e s m args below meth c s₁ B hml hv
  obtain ⟨rfl, hv⟩ := hv
  have X := q_open (own := RX3) B rfl hml hI hv
  have hx := X.1
  have hb := X.2.1
  have hts := X.2.2.2.2.1
  have hr := B.returns
  have hlocks := B.notSynchronized
  have hP := hv.1
  have hS : va_S (Aw ad) s.heap s.heap [] := va_S.rf
  have hl := lv_entry ([.ref (ad 0), .int x1]) (n := 4) (Nat.le_of_ble_eq_true rfl)
  rw [lg_entry_eq]
  generalize (lg_sl ([.ref (ad 0), .int x1]) ++ List.replicate (4 - (lg_sl ([.ref (ad 0), .int x1])).length) Slot.unset).toArray = ls at hl ⊢
  have hl : lv_has ls 4 [(0, .ref (ad 0)), (1, .int x1)] := hl
  unfold f_safeFrom at hF
  replace hF : (f_safeFrom_L23 σ x1 128 ((f_ringOf σ x1) + (1 : Int32))) = F := hF
  refine lv_aload_n hx hb dX3_safeFrom_0 rfl (lv_at hl 0 rfl) ?_
  refine lv_iload_n hx hb dX3_safeFrom_1 rfl (lv_at hl 1 rfl) ?_
  refine k_requireGag X hP hS ⟨Nat.le_of_ble_eq_true rfl, Nat.le_of_ble_eq_true rfl⟩ ⟨Nat.zero_le _, Nat.zero_le _⟩ wd170 hl.1 (Nat.le_of_ble_eq_true rfl) dX3_safeFrom_2 x1 hwf hg (fun H locs hP hS => ?_)
  refine lv_aload_n hx hb dX3_safeFrom_5 rfl (lv_at hl 0 rfl) ?_
  refine q_getM (v := .ref (ad 3)) X hP 2 (by decide) (hts _ wd15) rfl dX3_safeFrom_6 ?_
  refine lv_iload_n hx hb dX3_safeFrom_9 rfl (lv_at hl 1 rfl) ?_
  refine q_aldG X hP (WF.g6 hwf hg) dX3_safeFrom_10 ?_
  refine q_getG (v := .int (σ.1 (34 + x1.toNatClampNeg) 2)) X hP x1.toNatClampNeg (ix_lt (WF.g6 hwf hg)) 2 (by decide) (hts _ wd100) rfl dX3_safeFrom_11 ?_
  refine lv_istore_n (lv' := [(2, .int (σ.1 (34 + x1.toNatClampNeg) 2)), (0, .ref (ad 0)), (1, .int x1)]) hx hb dX3_safeFrom_14 rfl hl (by decide) rfl (fun ls hl => ?_)
  refine lv_aload_n hx hb dX3_safeFrom_15 rfl (lv_at hl 1 rfl) ?_
  refine lv_iload_n hx hb dX3_safeFrom_16 rfl (lv_at hl 2 rfl) ?_
  refine k_ringOf X hP hS ⟨Nat.le_of_ble_eq_true rfl, Nat.le_of_ble_eq_true rfl⟩ ⟨Nat.zero_le _, Nat.zero_le _⟩ wd108 hl.1 (Nat.le_of_ble_eq_true rfl) dX3_safeFrom_17 x1 hwf (WF.g6 hwf hg) (fun H locs hP hS => ?_)
  refine lv_iconst (v := (1 : Int32)) hx hb dX3_safeFrom_20 (by decide) ?_
  refine lv_iadd hx hb dX3_safeFrom_21 ?_
  refine lv_istore_n (lv' := [(3, .int ((f_ringOf σ x1) + (1 : Int32))), (2, .int (σ.1 (34 + x1.toNatClampNeg) 2)), (0, .ref (ad 0)), (1, .int x1)]) hx hb dX3_safeFrom_22 rfl hl (by decide) rfl (fun ls hl => ?_)
  have L_23 : ∀ (n_23 : Nat) (y3_23 : Int32) (H : Heap) (locs : List Loc) (ls : Array Slot), lpI 100 y3_23 n_23 → va_P D vwCl (wl ad ca σ) H → va_S (Aw ad) s.heap H locs → lv_has ls 4 [(3, .int y3_23), (2, .int (σ.1 (34 + x1.toNatClampNeg) 2)), (0, .ref (ad 0)), (1, .int x1)] → f_safeFrom_L23 σ x1 (n_23) y3_23 = F → W p l e (headSpec (wm yX3_safeFrom cX3_safeFrom 4 (some .int)) ({ frames := 3, cells := 0, slots := 0, locals := 65 } : Room)).room s m ([.ref (ad 0), .int x1] : List Value).toArray below meth c H locs 0 0 (MQ below (va_Qi (fun r u => r = F ∧ u = σ) (wB D ad ca) (Aw ad)) ([.ref (ad 0), .int x1] : List Value).toArray s 0 0 (Aw ad)) (F0 m 23 ls []) := by
    intro n_23
    induction n_23 with
    | zero => intro y3_23 H locs ls hi_23 _ _ _ _; exact absurd hi_23 (fun h => lp_0 h)
    | succ n_23 ih_23 =>
      intro y3_23 H locs ls hi_23 hP hS hl hF
      rw [f_safeFrom_L23] at hF
      refine lv_iload_n hx hb dX3_safeFrom_23 rfl (lv_at hl 0 rfl) ?_
      refine lv_bipush (v := (99 : Int32)) hx hb dX3_safeFrom_24 (by decide) ?_
      refine lv_icmp_gt (tgt := 57) hx hb dX3_safeFrom_26 (by decide) (fun c_26 => ?_) (fun c_26 => ?_)
      · rw [if_pos c_26] at hF
        refine lv_iconst (v := (-1 : Int32)) hx hb dX3_safeFrom_57 (by decide) ?_
        exact W.iret (v := (-1 : Int32)) hx hb hr (fun t ht hW => ⟨⟨(-1 : Int32), σ, rfl, ⟨hF, rfl⟩, wB_of ht hP⟩, hS.F ht⟩) hS.2.2 dX3_safeFrom_58
      · have hlt_23 : y3_23.toInt < 100 := lt_nlt c_26 (by decide)
        rw [if_neg c_26] at hF
        refine lv_aload_n hx hb dX3_safeFrom_29 rfl (lv_at hl 2 rfl) ?_
        refine lv_iload_n hx hb dX3_safeFrom_30 rfl (lv_at hl 1 rfl) ?_
        refine lv_iload_n hx hb dX3_safeFrom_31 rfl (lv_at hl 0 rfl) ?_
        refine lv_isub hx hb dX3_safeFrom_32 ?_
        refine k_isClearPlace X hP hS ⟨Nat.le_of_ble_eq_true rfl, Nat.le_of_ble_eq_true rfl⟩ ⟨Nat.zero_le _, Nat.zero_le _⟩ wd406 hl.1 (Nat.le_of_ble_eq_true rfl) dX3_safeFrom_33 ((σ.1 (34 + x1.toNatClampNeg) 2) - y3_23) hwf  (fun H locs hP hS => ?_)
        refine lv_if_ne (tgt := 49) hx hb dX3_safeFrom_36 (by decide) (fun c_36 => ?_) (fun c_36 => ?_)
        · rw [if_neg c_36] at hF
          refine lv_iload_n hx hb dX3_safeFrom_49 rfl (lv_at hl 0 rfl) ?_
          exact W.iret (v := y3_23) hx hb hr (fun t ht hW => ⟨⟨y3_23, σ, rfl, ⟨hF, rfl⟩, wB_of ht hP⟩, hS.F ht⟩) hS.2.2 dX3_safeFrom_50
        · rw [if_pos c_36] at hF
          refine lv_aload_n hx hb dX3_safeFrom_39 rfl (lv_at hl 2 rfl) ?_
          refine lv_iload_n hx hb dX3_safeFrom_40 rfl (lv_at hl 1 rfl) ?_
          refine lv_iload_n hx hb dX3_safeFrom_41 rfl (lv_at hl 0 rfl) ?_
          refine lv_iadd hx hb dX3_safeFrom_42 ?_
          refine k_isClearPlace X hP hS ⟨Nat.le_of_ble_eq_true rfl, Nat.le_of_ble_eq_true rfl⟩ ⟨Nat.zero_le _, Nat.zero_le _⟩ wd406 hl.1 (Nat.le_of_ble_eq_true rfl) dX3_safeFrom_43 ((σ.1 (34 + x1.toNatClampNeg) 2) + y3_23) hwf  (fun H locs hP hS => ?_)
          refine lv_if_eq (tgt := 51) hx hb dX3_safeFrom_46 (by decide) (fun c_46 => ?_) (fun c_46 => ?_)
          · rw [if_pos c_46] at hF
            refine lv_iinc (v := (y3_23 + (1 : Int32))) (lv' := [(3, .int (y3_23 + (1 : Int32))), (2, .int (σ.1 (34 + x1.toNatClampNeg) 2)), (0, .ref (ad 0)), (1, .int x1)]) hx hb dX3_safeFrom_51 hl (k := 0) rfl rfl (by decide) rfl (fun ls hl => ?_)
            refine lv_goto (tgt := 23) hx hb dX3_safeFrom_54 (by decide) ?_
            exact ih_23 (y3_23 + (1 : Int32)) _ _ _ (lp_s hi_23 hlt_23) hP hS (lv_sub hl [0, 1, 2, 3] rfl) hF
          · rw [if_neg c_46] at hF
            refine lv_iload_n hx hb dX3_safeFrom_49 rfl (lv_at hl 0 rfl) ?_
            exact W.iret (v := y3_23) hx hb hr (fun t ht hW => ⟨⟨y3_23, σ, rfl, ⟨hF, rfl⟩, wB_of ht hP⟩, hS.F ht⟩) hS.2.2 dX3_safeFrom_50
  exact L_23 128 ((f_ringOf σ x1) + (1 : Int32)) _ _ _ (lp_ring (ring_bd hwf (WF.g6 hwf hg))) hP hS hl hF
theorem k_safeFrom {p : Program} {l : Launch} {e : Env} {R : Room} {s : State} {m : MethodId} {args : Array Value} {below : List Frame} {meth : Method} {c : Code} {H : Heap} {locs : List Loc} {cells slots : Nat} {Q : State → Prop} {cc : ByteArray} {pc : Nat} {ls : Array Slot} {rest : List Value} {D : va_G} {A : Nat → Prop} {ad : Nat → Nat} {ca : Nat → ClassId} {tw nL : Nat} {σ : St} {own : String} {index : Nat} (X : Cx p s m args c own cc nL D ad ca tw A) (hP : va_P D vwCl (wl ad ca σ) H) (hS : va_S A s.heap H locs) (hR : 4 ≤ R.frames ∧ 88 ≤ R.locals) (hcap : cells ≤ R.cells ∧ slots ≤ R.slots) (hlk : Cond.methodLink own index yX3_safeFrom ∈ wsL_law0) (hsz : ls.size = nL) (hrs : (rest.map fun v => v.category).sum ≤ 8) (hdg : decode cc pc = .ok (.invokevirtual index, 3)) (x1 : Int32) (hwf : WF σ) (hg : inr x1 (σ.1 0 5))
    (kk : ∀ (H1 : Heap) (locs1 : List Loc), va_P D vwCl (wl ad ca σ) H1 → va_S A s.heap H1 locs1 → W p l e R s m args below meth c H1 locs1 cells slots Q (F0 m (pc + 3) ls (.int (f_safeFrom σ x1) :: rest))) : W p l e R s m args below meth c H locs cells slots Q (F0 m pc ls (.int x1 :: .ref (ad 0) :: rest)) := by
  refine q_bi X hS (q_runV (as := [.int x1]) X hP hS (q_cwV (rm := ({ frames := 3, cells := 0, slots := 0, locals := 65 } : Room)) (k := 1) X.2.2.2.2.1 hlk wd403 wd404 wd2 wd405 rfl rfl (by decide +kernel) rfl ⟨hR.1, hR.2⟩) (c_safeFrom l D ad ca tw X.2.2.2.2.2.2.1 σ x1 hwf hg) rfl hsz rfl hrs hdg hcap) (fun r u H1 locs1 h1 h2 h3 => ?_)
  obtain ⟨rfl, rfl⟩ := h1
  exact kk H1 locs1 h2 h3
