set_option maxHeartbeats 4000000 in
set_option maxRecDepth 100000 in
theorem c_rehearse (l : Launch) (D : va_G) (ad : Nat → Nat) (ca : Nat → ClassId) (tw : Nat) (hI : ∀ i j, i < 40 → j < 40 → ad i = ad j → i = j) (σ : St) (x1 : Int32) (hwf : WF σ) (hg : inr x1 (σ.1 0 5)) (hna : σ.1 (34 + x1.toNatClampNeg) 8 = 0) (hnh : σ.1 (6 + (σ.1 (34 + x1.toNatClampNeg) 1).toNatClampNeg) 3 = 0) : Met l yX3_rehearse (wm yX3_rehearse cX3_rehearse 6 (some .int)) ({ frames := 5, cells := 0, slots := 0, locals := 109 } : Room) (va_Pc [.ref (ad 0), .int x1] (wPre D ad ca tw σ)) (va_Qi (fun r u => (r, u) = f_rehearse σ x1) (wB D ad ca) (Aw ad)) 0 0 (Aw ad) := by
  generalize hF : f_rehearse σ x1 = F
  refine Met.ofW (cc := cX3_rehearse) (maxL := 6) (ret := (some .int)) (by decide) rfl ?_
  intro p e s m args below meth c s₁ B hml hv
  obtain ⟨rfl, hv⟩ := hv
  have X := q_open (own := RX3) B rfl hml hI hv
  have hx := X.1
  have hb := X.2.1
  have hts := X.2.2.2.2.1
  have hr := B.returns
  have hlocks := B.notSynchronized
  have hP := hv.1
  have hS : va_S (Aw ad) s.heap s.heap [] := va_S.rf
  have hl := lv_entry ([.ref (ad 0), .int x1]) (n := 6) (Nat.le_of_ble_eq_true rfl)
  rw [lg_entry_eq]
  generalize (lg_sl ([.ref (ad 0), .int x1]) ++ List.replicate (6 - (lg_sl ([.ref (ad 0), .int x1])).length) Slot.unset).toArray = ls at hl ⊢
  have hl : lv_has ls 6 [(0, .ref (ad 0)), (1, .int x1)] := hl
  unfold f_rehearse at hF
  replace hF : (if (f_marginWithoutEnergy σ x1) < (((if ((σ.1 (34 + x1.toNatClampNeg) 4) + (1 : Int32)) < (4 : Int32) then ((σ.1 (34 + x1.toNatClampNeg) 4) + (1 : Int32)) else (4 : Int32)) * (f_energyOf σ x1)) / (4 : Int32)) then ((fun σ1 : St => ((fun σ2 : St => ((fun σ3 : St => ((fun σ4 : St => ((σ4.1 (34 + x1.toNatClampNeg) 4), σ4)) (f_tire σ3 ((σ.1 (34 + x1.toNatClampNeg) 1).toNatClampNeg) (3 : Int32)))) (f_addMiss σ2 (σ2.1 (34 + x1.toNatClampNeg) 0)))) (f_loseSignatures σ1 x1))) (up σ (34 + x1.toNatClampNeg) 4 (0 : Int32))) else ((fun σ5 : St => ((fun σ6 : St => ((σ6.1 (34 + x1.toNatClampNeg) 4), σ6)) (f_tire σ5 ((σ.1 (34 + x1.toNatClampNeg) 1).toNatClampNeg) (3 : Int32)))) (up σ (34 + x1.toNatClampNeg) 4 (if ((σ.1 (34 + x1.toNatClampNeg) 4) + (1 : Int32)) < (4 : Int32) then ((σ.1 (34 + x1.toNatClampNeg) 4) + (1 : Int32)) else (4 : Int32))))) = F := hF
  refine lv_aload_n hx hb dX3_rehearse_0 rfl (lv_at hl 0 rfl) ?_
  refine lv_iload_n hx hb dX3_rehearse_1 rfl (lv_at hl 1 rfl) ?_
  refine k_requireGag X hP hS ⟨Nat.le_of_ble_eq_true rfl, Nat.le_of_ble_eq_true rfl⟩ ⟨Nat.zero_le _, Nat.zero_le _⟩ wd170 hl.1 (Nat.le_of_ble_eq_true rfl) dX3_rehearse_2 x1 hwf hg (fun H locs hP hS => ?_)
  refine lv_aload_n hx hb dX3_rehearse_5 rfl (lv_at hl 0 rfl) ?_
  refine q_getM (v := .ref (ad 3)) X hP 2 (by decide) (hts _ wd15) rfl dX3_rehearse_6 ?_
  refine lv_iload_n hx hb dX3_rehearse_9 rfl (lv_at hl 1 rfl) ?_
  refine q_aldG X hP (WF.g6 hwf hg) dX3_rehearse_10 ?_
  refine lv_astore_n (lv' := [(2, .ref (ad (34 + x1.toNatClampNeg))), (0, .ref (ad 0)), (1, .int x1)]) hx hb dX3_rehearse_11 rfl hl (by decide) rfl (fun ls hl => ?_)
  refine lv_aload_n hx hb dX3_rehearse_12 rfl (lv_at hl 1 rfl) ?_
  refine q_getM (v := .ref (ad 1)) X hP 0 (by decide) (hts _ wd11) rfl dX3_rehearse_13 ?_
  refine lv_aload_n hx hb dX3_rehearse_16 rfl (lv_at hl 0 rfl) ?_
  refine q_getG (v := .int (σ.1 (34 + x1.toNatClampNeg) 1)) X hP x1.toNatClampNeg (ix_lt (WF.g6 hwf hg)) 1 (by decide) (hts _ wd98) rfl dX3_rehearse_17 ?_
  refine q_aldP X hP (WF.gp hwf (WF.g6 hwf hg)) dX3_rehearse_20 ?_
  refine lv_astore_n (lv' := [(3, .ref (ad (6 + (σ.1 (34 + x1.toNatClampNeg) 1).toNatClampNeg))), (2, .ref (ad (34 + x1.toNatClampNeg))), (0, .ref (ad 0)), (1, .int x1)]) hx hb dX3_rehearse_21 rfl hl (by decide) rfl (fun ls hl => ?_)
  refine lv_aload_n hx hb dX3_rehearse_22 rfl (lv_at hl 1 rfl) ?_
  refine q_getG (v := .int (σ.1 (34 + x1.toNatClampNeg) 8)) X hP x1.toNatClampNeg (ix_lt (WF.g6 hwf hg)) 8 (by decide) (hts _ wd122) rfl dX3_rehearse_23 ?_
  refine lv_if_ne (tgt := 36) hx hb dX3_rehearse_26 (by decide) (fun c_26 => ?_) (fun c_26 => ?_)
  · first | exact absurd c_26 hg | exact absurd hg c_26 | exact absurd c_26 hna | exact absurd hna c_26 | exact absurd c_26 hnh | exact absurd hnh c_26
  · refine lv_aload_n hx hb dX3_rehearse_29 rfl (lv_at hl 0 rfl) ?_
    refine q_getP (v := .int (σ.1 (6 + (σ.1 (34 + x1.toNatClampNeg) 1).toNatClampNeg) 3)) X hP ((σ.1 (34 + x1.toNatClampNeg) 1).toNatClampNeg) (ix_lt (WF.gp hwf (WF.g6 hwf hg))) 3 (by decide) (hts _ wd211) rfl dX3_rehearse_30 ?_
    refine lv_if_eq (tgt := 46) hx hb dX3_rehearse_33 (by decide) (fun c_33 => ?_) (fun c_33 => ?_)
    · refine lv_iconst (v := (4 : Int32)) hx hb dX3_rehearse_46 (by decide) ?_
      refine lv_aload_n hx hb dX3_rehearse_47 rfl (lv_at hl 1 rfl) ?_
      refine q_getG (v := .int (σ.1 (34 + x1.toNatClampNeg) 4)) X hP x1.toNatClampNeg (ix_lt (WF.g6 hwf hg)) 4 (by decide) (hts _ wd167) rfl dX3_rehearse_48 ?_
      refine lv_iconst (v := (1 : Int32)) hx hb dX3_rehearse_51 (by decide) ?_
      refine lv_iadd hx hb dX3_rehearse_52 ?_
      refine va_mmin hx hb (X.2.2.1.trans hl.1.symm) X.2.2.2.1 (hts _ wd260) (hts _ wd261) (hts _ wd106) (hts _ wd262) (Nat.le_of_ble_eq_true rfl) (Nat.le_of_ble_eq_true rfl) (Nat.zero_le _) (Nat.zero_le _) dX3_rehearse_53 ?_
      refine lv_istore (lv' := [(4, .int (if ((σ.1 (34 + x1.toNatClampNeg) 4) + (1 : Int32)) < (4 : Int32) then ((σ.1 (34 + x1.toNatClampNeg) 4) + (1 : Int32)) else (4 : Int32))), (3, .ref (ad (6 + (σ.1 (34 + x1.toNatClampNeg) 1).toNatClampNeg))), (2, .ref (ad (34 + x1.toNatClampNeg))), (0, .ref (ad 0)), (1, .int x1)]) hx hb dX3_rehearse_56 hl (by decide) rfl (fun ls hl => ?_)
      refine lv_iload hx hb dX3_rehearse_58 (lv_at hl 0 rfl) ?_
      refine lv_aload_n hx hb dX3_rehearse_60 rfl (lv_at hl 3 rfl) ?_
      refine lv_iload_n hx hb dX3_rehearse_61 rfl (lv_at hl 4 rfl) ?_
      refine k_energyOf X hP hS ⟨Nat.le_of_ble_eq_true rfl, Nat.le_of_ble_eq_true rfl⟩ ⟨Nat.zero_le _, Nat.zero_le _⟩ wd174 hl.1 (Nat.le_of_ble_eq_true rfl) dX3_rehearse_62 x1 hwf (WF.g6 hwf hg) (fun H locs hP hS => ?_)
      refine lv_imul hx hb dX3_rehearse_65 ?_
      refine lv_iconst (v := (4 : Int32)) hx hb dX3_rehearse_66 (by decide) ?_
      refine lv_idiv hx hb dX3_rehearse_67 (by decide) ?_
      refine lv_istore (lv' := [(5, .int (((if ((σ.1 (34 + x1.toNatClampNeg) 4) + (1 : Int32)) < (4 : Int32) then ((σ.1 (34 + x1.toNatClampNeg) 4) + (1 : Int32)) else (4 : Int32)) * (f_energyOf σ x1)) / (4 : Int32))), (4, .int (if ((σ.1 (34 + x1.toNatClampNeg) 4) + (1 : Int32)) < (4 : Int32) then ((σ.1 (34 + x1.toNatClampNeg) 4) + (1 : Int32)) else (4 : Int32))), (3, .ref (ad (6 + (σ.1 (34 + x1.toNatClampNeg) 1).toNatClampNeg))), (2, .ref (ad (34 + x1.toNatClampNeg))), (0, .ref (ad 0)), (1, .int x1)]) hx hb dX3_rehearse_68 hl (by decide) rfl (fun ls hl => ?_)
      refine lv_aload_n hx hb dX3_rehearse_70 rfl (lv_at hl 4 rfl) ?_
      refine lv_iload_n hx hb dX3_rehearse_71 rfl (lv_at hl 5 rfl) ?_
      refine k_marginWithoutEnergy X hP hS ⟨Nat.le_of_ble_eq_true rfl, Nat.le_of_ble_eq_true rfl⟩ ⟨Nat.zero_le _, Nat.zero_le _⟩ wd288 hl.1 (Nat.le_of_ble_eq_true rfl) dX3_rehearse_72 x1 hwf (WF.g6 hwf hg) (fun H locs hP hS => ?_)
      refine lv_iload hx hb dX3_rehearse_75 (lv_at hl 0 rfl) ?_
      refine lv_icmp_lt (tgt := 89) hx hb dX3_rehearse_77 (by decide) (fun c_77 => ?_) (fun c_77 => ?_)
      · rw [if_pos c_77] at hF
        refine lv_aload_n hx hb dX3_rehearse_89 rfl (lv_at hl 3 rfl) ?_
        refine lv_iconst (v := (0 : Int32)) hx hb dX3_rehearse_90 (by decide) ?_
        refine q_putG (ty := .int) X hP hS x1.toNatClampNeg (ix_lt (WF.g6 hwf hg)) 4 (by decide) (hts _ wd167) rfl (by decide +kernel) rfl rfl dX3_rehearse_91 (fun H locs hP hS => ?_)
        have hw_σ1 : WF (up σ (34 + x1.toNatClampNeg) 4 (0 : Int32)) := wf_up hwf (fun h => absurd h (by omega)) (fun _ => ⟨by decide, by decide, by decide, fun h => absurd h (by decide)⟩) (fun h h2 => absurd h2 (by omega))
        generalize hs_σ1 : (up σ (34 + x1.toNatClampNeg) 4 (0 : Int32)) = σ1 at hP hw_σ1 hF
        replace hF : ((fun σ2 : St => ((fun σ3 : St => ((fun σ4 : St => ((σ4.1 (34 + x1.toNatClampNeg) 4), σ4)) (f_tire σ3 ((σ.1 (34 + x1.toNatClampNeg) 1).toNatClampNeg) (3 : Int32)))) (f_addMiss σ2 (σ2.1 (34 + x1.toNatClampNeg) 0)))) (f_loseSignatures σ1 x1)) = F := hF
        refine lv_aload_n hx hb dX3_rehearse_94 rfl (lv_at hl 4 rfl) ?_
        refine lv_iload_n hx hb dX3_rehearse_95 rfl (lv_at hl 5 rfl) ?_
        refine k_loseSignatures X hP hS ⟨Nat.le_of_ble_eq_true rfl, Nat.le_of_ble_eq_true rfl⟩ ⟨Nat.zero_le _, Nat.zero_le _⟩ wd154 hl.1 (Nat.le_of_ble_eq_true rfl) dX3_rehearse_96 x1 hw_σ1 (WF.g6 hwf hg) (fun H locs hP hS => ?_)
        have hw_σ2 : WF (f_loseSignatures σ1 x1) := wf_loseSignatures hw_σ1 (WF.g6 hwf hg)
        generalize hs_σ2 : (f_loseSignatures σ1 x1) = σ2 at hP hw_σ2 hF
        replace hF : ((fun σ3 : St => ((fun σ4 : St => ((σ4.1 (34 + x1.toNatClampNeg) 4), σ4)) (f_tire σ3 ((σ.1 (34 + x1.toNatClampNeg) 1).toNatClampNeg) (3 : Int32)))) (f_addMiss σ2 (σ2.1 (34 + x1.toNatClampNeg) 0))) = F := hF
        refine lv_aload_n hx hb dX3_rehearse_99 rfl (lv_at hl 4 rfl) ?_
        refine lv_aload_n hx hb dX3_rehearse_100 rfl (lv_at hl 3 rfl) ?_
        refine q_getG (v := .int (σ2.1 (34 + x1.toNatClampNeg) 0)) X hP x1.toNatClampNeg (ix_lt (WF.g6 hwf hg)) 0 (by decide) (hts _ wd112) rfl dX3_rehearse_101 ?_
        refine k_addMiss X hP hS ⟨Nat.le_of_ble_eq_true rfl, Nat.le_of_ble_eq_true rfl⟩ ⟨Nat.zero_le _, Nat.zero_le _⟩ wd150 hl.1 (Nat.le_of_ble_eq_true rfl) dX3_rehearse_104 (σ2.1 (34 + x1.toNatClampNeg) 0) hw_σ2 (WF.gk hw_σ2 (WF.g6 hwf hg)) (fun H locs hP hS => ?_)
        have hw_σ3 : WF (f_addMiss σ2 (σ2.1 (34 + x1.toNatClampNeg) 0)) := wf_addMiss hw_σ2 (WF.gk hw_σ2 (WF.g6 hwf hg))
        generalize hs_σ3 : (f_addMiss σ2 (σ2.1 (34 + x1.toNatClampNeg) 0)) = σ3 at hP hw_σ3 hF
        replace hF : ((fun σ4 : St => ((σ4.1 (34 + x1.toNatClampNeg) 4), σ4)) (f_tire σ3 ((σ.1 (34 + x1.toNatClampNeg) 1).toNatClampNeg) (3 : Int32))) = F := hF
        refine lv_aload_n hx hb dX3_rehearse_107 rfl (lv_at hl 2 rfl) ?_
        refine lv_iconst (v := (3 : Int32)) hx hb dX3_rehearse_108 (by decide) ?_
        refine k_tire X hP hS ⟨Nat.le_of_ble_eq_true rfl, Nat.le_of_ble_eq_true rfl⟩ ⟨Nat.zero_le _, Nat.zero_le _⟩ wd292 hl.1 (Nat.le_of_ble_eq_true rfl) dX3_rehearse_109 ((σ.1 (34 + x1.toNatClampNeg) 1).toNatClampNeg) (3 : Int32) hw_σ3 (ix_lt (WF.gp hwf (WF.g6 hwf hg))) (fun H locs hP hS => ?_)
        have hw_σ4 : WF (f_tire σ3 ((σ.1 (34 + x1.toNatClampNeg) 1).toNatClampNeg) (3 : Int32)) := wf_tire hw_σ3 (ix_lt (WF.gp hwf (WF.g6 hwf hg)))
        generalize hs_σ4 : (f_tire σ3 ((σ.1 (34 + x1.toNatClampNeg) 1).toNatClampNeg) (3 : Int32)) = σ4 at hP hw_σ4 hF
        replace hF : ((σ4.1 (34 + x1.toNatClampNeg) 4), σ4) = F := hF
        refine lv_aload_n hx hb dX3_rehearse_112 rfl (lv_at hl 3 rfl) ?_
        refine q_getG (v := .int (σ4.1 (34 + x1.toNatClampNeg) 4)) X hP x1.toNatClampNeg (ix_lt (WF.g6 hwf hg)) 4 (by decide) (hts _ wd167) rfl dX3_rehearse_113 ?_
        exact W.iret (v := (σ4.1 (34 + x1.toNatClampNeg) 4)) hx hb hr (fun t ht hW => ⟨⟨(σ4.1 (34 + x1.toNatClampNeg) 4), σ4, rfl, hF, wB_of ht hP⟩, hS.F ht⟩) hS.2.2 dX3_rehearse_116
      · rw [if_neg c_77] at hF
        refine lv_aload_n hx hb dX3_rehearse_80 rfl (lv_at hl 3 rfl) ?_
        refine lv_iload hx hb dX3_rehearse_81 (lv_at hl 1 rfl) ?_
        refine q_putG (ty := .int) X hP hS x1.toNatClampNeg (ix_lt (WF.g6 hwf hg)) 4 (by decide) (hts _ wd167) rfl (by decide +kernel) rfl rfl dX3_rehearse_83 (fun H locs hP hS => ?_)
        have hw_σ5 : WF (up σ (34 + x1.toNatClampNeg) 4 (if ((σ.1 (34 + x1.toNatClampNeg) 4) + (1 : Int32)) < (4 : Int32) then ((σ.1 (34 + x1.toNatClampNeg) 4) + (1 : Int32)) else (4 : Int32))) := wf_up hwf (fun h => absurd h (by omega)) (fun _ => ⟨by decide, by decide, by decide, fun h => absurd h (by decide)⟩) (fun h h2 => absurd h2 (by omega))
        generalize hs_σ5 : (up σ (34 + x1.toNatClampNeg) 4 (if ((σ.1 (34 + x1.toNatClampNeg) 4) + (1 : Int32)) < (4 : Int32) then ((σ.1 (34 + x1.toNatClampNeg) 4) + (1 : Int32)) else (4 : Int32))) = σ5 at hP hw_σ5 hF
        replace hF : ((fun σ6 : St => ((σ6.1 (34 + x1.toNatClampNeg) 4), σ6)) (f_tire σ5 ((σ.1 (34 + x1.toNatClampNeg) 1).toNatClampNeg) (3 : Int32))) = F := hF
        refine lv_goto (tgt := 107) hx hb dX3_rehearse_86 (by decide) ?_
        refine lv_aload_n hx hb dX3_rehearse_107 rfl (lv_at hl 2 rfl) ?_
        refine lv_iconst (v := (3 : Int32)) hx hb dX3_rehearse_108 (by decide) ?_
        refine k_tire X hP hS ⟨Nat.le_of_ble_eq_true rfl, Nat.le_of_ble_eq_true rfl⟩ ⟨Nat.zero_le _, Nat.zero_le _⟩ wd292 hl.1 (Nat.le_of_ble_eq_true rfl) dX3_rehearse_109 ((σ.1 (34 + x1.toNatClampNeg) 1).toNatClampNeg) (3 : Int32) hw_σ5 (ix_lt (WF.gp hwf (WF.g6 hwf hg))) (fun H locs hP hS => ?_)
        have hw_σ6 : WF (f_tire σ5 ((σ.1 (34 + x1.toNatClampNeg) 1).toNatClampNeg) (3 : Int32)) := wf_tire hw_σ5 (ix_lt (WF.gp hwf (WF.g6 hwf hg)))
        generalize hs_σ6 : (f_tire σ5 ((σ.1 (34 + x1.toNatClampNeg) 1).toNatClampNeg) (3 : Int32)) = σ6 at hP hw_σ6 hF
        replace hF : ((σ6.1 (34 + x1.toNatClampNeg) 4), σ6) = F := hF
        refine lv_aload_n hx hb dX3_rehearse_112 rfl (lv_at hl 3 rfl) ?_
        refine q_getG (v := .int (σ6.1 (34 + x1.toNatClampNeg) 4)) X hP x1.toNatClampNeg (ix_lt (WF.g6 hwf hg)) 4 (by decide) (hts _ wd167) rfl dX3_rehearse_113 ?_
        exact W.iret (v := (σ6.1 (34 + x1.toNatClampNeg) 4)) hx hb hr (fun t ht hW => ⟨⟨(σ6.1 (34 + x1.toNatClampNeg) 4), σ6, rfl, hF, wB_of ht hP⟩, hS.F ht⟩) hS.2.2 dX3_rehearse_116
    · first | exact absurd c_33 hg | exact absurd hg c_33 | exact absurd c_33 hna | exact absurd hna c_33 | exact absurd c_33 hnh | exact absurd hnh c_33
theorem k_rehearse {p : Program} {l : Launch} {e : Env} {R : Room} {s : State} {m : MethodId} {args : Array Value} {below : List Frame} {meth : Method} {c : Code} {H : Heap} {locs : List Loc} {cells slots : Nat} {Q : State → Prop} {cc : ByteArray} {pc : Nat} {ls : Array Slot} {rest : List Value} {D : va_G} {A : Nat → Prop} {ad : Nat → Nat} {ca : Nat → ClassId} {tw nL : Nat} {σ : St} {own : String} {index : Nat} (X : Cx p s m args c own cc nL D ad ca tw A) (hP : va_P D vwCl (wl ad ca σ) H) (hS : va_S A s.heap H locs) (hR : 6 ≤ R.frames ∧ 134 ≤ R.locals) (hcap : cells ≤ R.cells ∧ slots ≤ R.slots) (hlk : Cond.methodLink own index yX3_rehearse ∈ wsL_law0) (hsz : ls.size = nL) (hrs : (rest.map fun v => v.category).sum ≤ 8) (hdg : decode cc pc = .ok (.invokevirtual index, 3)) (x1 : Int32) (hwf : WF σ) (hg : inr x1 (σ.1 0 5)) (hna : σ.1 (34 + x1.toNatClampNeg) 8 = 0) (hnh : σ.1 (6 + (σ.1 (34 + x1.toNatClampNeg) 1).toNatClampNeg) 3 = 0)
    (kk : ∀ (H1 : Heap) (locs1 : List Loc), va_P D vwCl (wl ad ca (f_rehearse σ x1).2) H1 → va_S A s.heap H1 locs1 → W p l e R s m args below meth c H1 locs1 cells slots Q (F0 m (pc + 3) ls (.int (f_rehearse σ x1).1 :: rest))) : W p l e R s m args below meth c H locs cells slots Q (F0 m pc ls (.int x1 :: .ref (ad 0) :: rest)) := by
  refine q_bi X hS (q_runV (as := [.int x1]) X hP hS (q_cwV (rm := ({ frames := 5, cells := 0, slots := 0, locals := 109 } : Room)) (k := 1) X.2.2.2.2.1 hlk wd285 wd286 wd2 wd287 rfl rfl (by decide +kernel) rfl ⟨hR.1, hR.2⟩) (c_rehearse l D ad ca tw X.2.2.2.2.2.2.1 σ x1 hwf hg hna hnh) rfl hsz rfl hrs hdg hcap) (fun r u H1 locs1 h1 h2 h3 => ?_)
  have e1 := congrArg Prod.fst h1
  have e2 := congrArg Prod.snd h1
  dsimp only at e1 e2
  subst e1
  subst e2
  exact kk H1 locs1 h2 h3
set_option maxHeartbeats 4000000 in
set_option maxRecDepth 100000 in
theorem c_sign (l : Launch) (D : va_G) (ad : Nat → Nat) (ca : Nat → ClassId) (tw : Nat) (hI : ∀ i j, i < 40 → j < 40 → ad i = ad j → i = j) (σ : St) (x1 : Int32) (x2 : Int32) (hwf : WF σ) (hg : inr x1 (σ.1 0 5)) (hs : vp_in x2 3) (hst : ¬ σ.1 (34 + x1.toNatClampNeg) 4 < (4 : Int32)) (hns : f_isInSet (σ.1 (34 + x1.toNatClampNeg) 5) x2 = 0) : Met l yX3_sign (wm yX3_sign cX3_sign 4 (some .int)) ({ frames := 1, cells := 0, slots := 0, locals := 21 } : Room) (va_Pc [.ref (ad 0), .int x1, .int x2] (wPre D ad ca tw σ)) (va_Qi (fun r u => (r, u) = f_sign σ x1 x2) (wB D ad ca) (Aw ad)) 0 0 (Aw ad) := by
  generalize hF : f_sign σ x1 x2 = F
  refine Met.ofW (cc := cX3_sign) (maxL := 4) (ret := (some .int)) (by decide) rfl ?_
  intro p e s m args below meth c s₁ B hml hv
  obtain ⟨rfl, hv⟩ := hv
  have X := q_open (own := RX3) B rfl hml hI hv
  have hx := X.1
  have hb := X.2.1
  have hts := X.2.2.2.2.1
  have hr := B.returns
  have hlocks := B.notSynchronized
  have hP := hv.1
  have hS : va_S (Aw ad) s.heap s.heap [] := va_S.rf
  have hl := lv_entry ([.ref (ad 0), .int x1, .int x2]) (n := 4) (Nat.le_of_ble_eq_true rfl)
  rw [lg_entry_eq]
  generalize (lg_sl ([.ref (ad 0), .int x1, .int x2]) ++ List.replicate (4 - (lg_sl ([.ref (ad 0), .int x1, .int x2])).length) Slot.unset).toArray = ls at hl ⊢
  have hl : lv_has ls 4 [(0, .ref (ad 0)), (1, .int x1), (2, .int x2)] := hl
  unfold f_sign at hF
  replace hF : ((fun σ1 : St => ((f_bitCount (σ1.1 (34 + x1.toNatClampNeg) 5)), σ1)) (up σ (34 + x1.toNatClampNeg) 5 ((σ.1 (34 + x1.toNatClampNeg) 5) ||| ((1 : Int32) <<< (x2 &&& (31 : Int32)))))) = F := hF
  refine lv_aload_n hx hb dX3_sign_0 rfl (lv_at hl 0 rfl) ?_
  refine lv_iload_n hx hb dX3_sign_1 rfl (lv_at hl 1 rfl) ?_
  refine k_requireGag X hP hS ⟨Nat.le_of_ble_eq_true rfl, Nat.le_of_ble_eq_true rfl⟩ ⟨Nat.zero_le _, Nat.zero_le _⟩ wd170 hl.1 (Nat.le_of_ble_eq_true rfl) dX3_sign_2 x1 hwf hg (fun H locs hP hS => ?_)
  refine lv_iload_n hx hb dX3_sign_5 rfl (lv_at hl 2 rfl) ?_
  refine lv_if_lt (tgt := 14) hx hb dX3_sign_6 (by decide) (fun c_6 => ?_) (fun c_6 => ?_)
  · exact absurd (i_lt.mp c_6) (by rw [show (0 : Int32).toInt = 0 from rfl]; have q := (vp_in_iff.mp hs).1; omega)
  · refine lv_iload_n hx hb dX3_sign_9 rfl (lv_at hl 2 rfl) ?_
    refine lv_iconst (v := (3 : Int32)) hx hb dX3_sign_10 (by decide) ?_
    refine lv_icmp_lt (tgt := 24) hx hb dX3_sign_11 (by decide) (fun c_11 => ?_) (fun c_11 => ?_)
    · refine lv_aload_n hx hb dX3_sign_24 rfl (lv_at hl 0 rfl) ?_
      refine q_getM (v := .ref (ad 3)) X hP 2 (by decide) (hts _ wd15) rfl dX3_sign_25 ?_
      refine lv_iload_n hx hb dX3_sign_28 rfl (lv_at hl 1 rfl) ?_
      refine q_aldG X hP (WF.g6 hwf hg) dX3_sign_29 ?_
      refine lv_astore_n (lv' := [(3, .ref (ad (34 + x1.toNatClampNeg))), (0, .ref (ad 0)), (1, .int x1), (2, .int x2)]) hx hb dX3_sign_30 rfl hl (by decide) rfl (fun ls hl => ?_)
      refine lv_aload_n hx hb dX3_sign_31 rfl (lv_at hl 0 rfl) ?_
      refine q_getG (v := .int (σ.1 (34 + x1.toNatClampNeg) 4)) X hP x1.toNatClampNeg (ix_lt (WF.g6 hwf hg)) 4 (by decide) (hts _ wd167) rfl dX3_sign_32 ?_
      refine lv_iconst (v := (4 : Int32)) hx hb dX3_sign_35 (by decide) ?_
      refine lv_icmp_lt (tgt := 50) hx hb dX3_sign_36 (by decide) (fun c_36 => ?_) (fun c_36 => ?_)
      · first | exact absurd c_36 hg | exact absurd hg c_36 | exact absurd c_36 hs | exact absurd hs c_36 | exact absurd c_36 hst | exact absurd hst c_36 | exact absurd c_36 hns | exact absurd hns c_36
      · refine lv_aload_n hx hb dX3_sign_39 rfl (lv_at hl 0 rfl) ?_
        refine q_getG (v := .int (σ.1 (34 + x1.toNatClampNeg) 5)) X hP x1.toNatClampNeg (ix_lt (WF.g6 hwf hg)) 5 (by decide) (hts _ wd158) rfl dX3_sign_40 ?_
        refine lv_iload_n hx hb dX3_sign_43 rfl (lv_at hl 3 rfl) ?_
        refine k_isInSet X hP hS ⟨Nat.le_of_ble_eq_true rfl, Nat.le_of_ble_eq_true rfl⟩ ⟨Nat.zero_le _, Nat.zero_le _⟩ wd299 hl.1 (Nat.le_of_ble_eq_true rfl) dX3_sign_44 (σ.1 (34 + x1.toNatClampNeg) 5) x2 hwf  (fun H locs hP hS => ?_)
        refine lv_if_eq (tgt := 60) hx hb dX3_sign_47 (by decide) (fun c_47 => ?_) (fun c_47 => ?_)
        · refine lv_aload_n hx hb dX3_sign_60 rfl (lv_at hl 0 rfl) ?_
          refine lv_dup hx hb dX3_sign_61 rfl ?_
          refine q_getG (v := .int (σ.1 (34 + x1.toNatClampNeg) 5)) X hP x1.toNatClampNeg (ix_lt (WF.g6 hwf hg)) 5 (by decide) (hts _ wd158) rfl dX3_sign_62 ?_
          refine lv_iconst (v := (1 : Int32)) hx hb dX3_sign_65 (by decide) ?_
          refine lv_iload_n hx hb dX3_sign_66 rfl (lv_at hl 3 rfl) ?_
          refine lv_ishl hx hb dX3_sign_67 ?_
          refine lv_ior hx hb dX3_sign_68 ?_
          refine q_putG (ty := .int) X hP hS x1.toNatClampNeg (ix_lt (WF.g6 hwf hg)) 5 (by decide) (hts _ wd158) rfl (by decide +kernel) rfl rfl dX3_sign_69 (fun H locs hP hS => ?_)
          have hw_σ1 : WF (up σ (34 + x1.toNatClampNeg) 5 ((σ.1 (34 + x1.toNatClampNeg) 5) ||| ((1 : Int32) <<< (x2 &&& (31 : Int32))))) := wf_up hwf (fun h => absurd h (by omega)) (fun _ => ⟨by decide, by decide, by decide, fun h => absurd h (by decide)⟩) (fun h h2 => absurd h2 (by omega))
          generalize hs_σ1 : (up σ (34 + x1.toNatClampNeg) 5 ((σ.1 (34 + x1.toNatClampNeg) 5) ||| ((1 : Int32) <<< (x2 &&& (31 : Int32))))) = σ1 at hP hw_σ1 hF
          replace hF : ((f_bitCount (σ1.1 (34 + x1.toNatClampNeg) 5)), σ1) = F := hF
          refine lv_aload_n hx hb dX3_sign_72 rfl (lv_at hl 0 rfl) ?_
          refine q_getG (v := .int (σ1.1 (34 + x1.toNatClampNeg) 5)) X hP x1.toNatClampNeg (ix_lt (WF.g6 hwf hg)) 5 (by decide) (hts _ wd158) rfl dX3_sign_73 ?_
          refine k_bitCount X hP hS ⟨Nat.le_of_ble_eq_true rfl, Nat.le_of_ble_eq_true rfl⟩ ⟨Nat.zero_le _, Nat.zero_le _⟩ wd212 hl.1 (Nat.le_of_ble_eq_true rfl) dX3_sign_76 (σ1.1 (34 + x1.toNatClampNeg) 5) (fun H locs hP hS => ?_)
          exact W.iret (v := (f_bitCount (σ1.1 (34 + x1.toNatClampNeg) 5))) hx hb hr (fun t ht hW => ⟨⟨(f_bitCount (σ1.1 (34 + x1.toNatClampNeg) 5)), σ1, rfl, hF, wB_of ht hP⟩, hS.F ht⟩) hS.2.2 dX3_sign_79
        · first | exact absurd c_47 hg | exact absurd hg c_47 | exact absurd c_47 hs | exact absurd hs c_47 | exact absurd c_47 hst | exact absurd hst c_47 | exact absurd c_47 hns | exact absurd hns c_47
    · exact absurd (i_lt.mpr (by rw [show (3 : Int32).toInt = 3 from rfl]; have q := (vp_in_iff.mp hs).2; omega)) c_11
theorem k_sign {p : Program} {l : Launch} {e : Env} {R : Room} {s : State} {m : MethodId} {args : Array Value} {below : List Frame} {meth : Method} {c : Code} {H : Heap} {locs : List Loc} {cells slots : Nat} {Q : State → Prop} {cc : ByteArray} {pc : Nat} {ls : Array Slot} {rest : List Value} {D : va_G} {A : Nat → Prop} {ad : Nat → Nat} {ca : Nat → ClassId} {tw nL : Nat} {σ : St} {own : String} {index : Nat} (X : Cx p s m args c own cc nL D ad ca tw A) (hP : va_P D vwCl (wl ad ca σ) H) (hS : va_S A s.heap H locs) (hR : 2 ≤ R.frames ∧ 44 ≤ R.locals) (hcap : cells ≤ R.cells ∧ slots ≤ R.slots) (hlk : Cond.methodLink own index yX3_sign ∈ wsL_law0) (hsz : ls.size = nL) (hrs : (rest.map fun v => v.category).sum ≤ 8) (hdg : decode cc pc = .ok (.invokevirtual index, 3)) (x1 : Int32) (x2 : Int32) (hwf : WF σ) (hg : inr x1 (σ.1 0 5)) (hs : vp_in x2 3) (hst : ¬ σ.1 (34 + x1.toNatClampNeg) 4 < (4 : Int32)) (hns : f_isInSet (σ.1 (34 + x1.toNatClampNeg) 5) x2 = 0)
    (kk : ∀ (H1 : Heap) (locs1 : List Loc), va_P D vwCl (wl ad ca (f_sign σ x1 x2).2) H1 → va_S A s.heap H1 locs1 → W p l e R s m args below meth c H1 locs1 cells slots Q (F0 m (pc + 3) ls (.int (f_sign σ x1 x2).1 :: rest))) : W p l e R s m args below meth c H locs cells slots Q (F0 m pc ls (.int x2 :: .int x1 :: .ref (ad 0) :: rest)) := by
  refine q_bi X hS (q_runV (as := [.int x1, .int x2]) X hP hS (q_cwV (rm := ({ frames := 1, cells := 0, slots := 0, locals := 21 } : Room)) (k := 2) X.2.2.2.2.1 hlk wd296 wd297 wd2 wd298 rfl rfl (by decide +kernel) rfl ⟨hR.1, hR.2⟩) (c_sign l D ad ca tw X.2.2.2.2.2.2.1 σ x1 x2 hwf hg hs hst hns) rfl hsz rfl hrs hdg hcap) (fun r u H1 locs1 h1 h2 h3 => ?_)
  have e1 := congrArg Prod.fst h1
  have e2 := congrArg Prod.snd h1
  dsimp only at e1 e2
  subst e1
  subst e2
  exact kk H1 locs1 h2 h3
set_option maxHeartbeats 4000000 in
set_option maxRecDepth 100000 in
theorem c_no (l : Launch) (D : va_G) (ad : Nat → Nat) (ca : Nat → ClassId) (tw : Nat) (hI : ∀ i j, i < 40 → j < 40 → ad i = ad j → i = j) (σ : St) (x1 : Int32) (x2 : Int32) (x3 : Int32) (hwf : WF σ) (hp : inr x1 (σ.1 0 3)) (hg : inr x2 (σ.1 0 5)) : Met l yX3_no (wm yX3_no cX3_no 5 (some .boolean)) ({ frames := 1, cells := 0, slots := 0, locals := 21 } : Room) (va_Pc [.ref (ad 0), .int x1, .int x2, .int x3] (wPre D ad ca tw σ)) (va_Qi (fun r u => (r, u) = f_no σ x1 x2 x3) (wB D ad ca) (Aw ad)) 0 0 (Aw ad) := by
  generalize hF : f_no σ x1 x2 x3 = F
  refine Met.ofW (cc := cX3_no) (maxL := 5) (ret := (some .boolean)) (by decide) rfl ?_
  intro p e s m args below meth c s₁ B hml hv
  obtain ⟨rfl, hv⟩ := hv
  have X := q_open (own := RX3) B rfl hml hI hv
  have hx := X.1
  have hb := X.2.1
  have hts := X.2.2.2.2.1
  have hr := B.returns
  have hlocks := B.notSynchronized
  have hP := hv.1
  have hS : va_S (Aw ad) s.heap s.heap [] := va_S.rf
  have hl := lv_entry ([.ref (ad 0), .int x1, .int x2, .int x3]) (n := 5) (Nat.le_of_ble_eq_true rfl)
  rw [lg_entry_eq]
  generalize (lg_sl ([.ref (ad 0), .int x1, .int x2, .int x3]) ++ List.replicate (5 - (lg_sl ([.ref (ad 0), .int x1, .int x2, .int x3])).length) Slot.unset).toArray = ls at hl ⊢
  have hl : lv_has ls 5 [(0, .ref (ad 0)), (1, .int x1), (2, .int x2), (3, .int x3)] := hl
  unfold f_no at hF
  replace hF : (if x3 = (0 : Int32) then ((fun σ3 : St => ((0 : Int32), σ3)) (up σ (34 + x2.toNatClampNeg) 6 ((σ.1 (34 + x2.toNatClampNeg) 6) &&& (((1 : Int32) <<< (x1 &&& (31 : Int32))) ^^^ (-1 : Int32))))) else ((fun σ1 : St => ((fun σ2 : St => ((σ1.1 (34 + x2.toNatClampNeg) 8), σ2)) (f_standDown σ1 x2))) (up σ (34 + x2.toNatClampNeg) 6 ((σ.1 (34 + x2.toNatClampNeg) 6) ||| ((1 : Int32) <<< (x1 &&& (31 : Int32))))))) = F := hF
  refine lv_aload_n hx hb dX3_no_0 rfl (lv_at hl 0 rfl) ?_
  refine lv_iload_n hx hb dX3_no_1 rfl (lv_at hl 1 rfl) ?_
  refine k_requirePerson X hP hS ⟨Nat.le_of_ble_eq_true rfl, Nat.le_of_ble_eq_true rfl⟩ ⟨Nat.zero_le _, Nat.zero_le _⟩ wd128 hl.1 (Nat.le_of_ble_eq_true rfl) dX3_no_2 x1 hwf hp (fun H locs hP hS => ?_)
  refine lv_aload_n hx hb dX3_no_5 rfl (lv_at hl 0 rfl) ?_
  refine lv_iload_n hx hb dX3_no_6 rfl (lv_at hl 2 rfl) ?_
  refine k_requireGag X hP hS ⟨Nat.le_of_ble_eq_true rfl, Nat.le_of_ble_eq_true rfl⟩ ⟨Nat.zero_le _, Nat.zero_le _⟩ wd170 hl.1 (Nat.le_of_ble_eq_true rfl) dX3_no_7 x2 hwf hg (fun H locs hP hS => ?_)
  refine lv_iload_n hx hb dX3_no_10 rfl (lv_at hl 3 rfl) ?_
  refine lv_if_ne (tgt := 35) hx hb dX3_no_11 (by decide) (fun c_11 => ?_) (fun c_11 => ?_)
  · rw [if_neg c_11] at hF
    refine lv_aload_n hx hb dX3_no_35 rfl (lv_at hl 0 rfl) ?_
    refine q_getM (v := .ref (ad 3)) X hP 2 (by decide) (hts _ wd15) rfl dX3_no_36 ?_
    refine lv_iload_n hx hb dX3_no_39 rfl (lv_at hl 2 rfl) ?_
    refine q_aldG X hP (WF.g6 hwf hg) dX3_no_40 ?_
    refine lv_dup hx hb dX3_no_41 rfl ?_
    refine q_getG (v := .int (σ.1 (34 + x2.toNatClampNeg) 6)) X hP x2.toNatClampNeg (ix_lt (WF.g6 hwf hg)) 6 (by decide) (hts _ wd168) rfl dX3_no_42 ?_
    refine lv_iconst (v := (1 : Int32)) hx hb dX3_no_45 (by decide) ?_
    refine lv_iload_n hx hb dX3_no_46 rfl (lv_at hl 1 rfl) ?_
    refine lv_ishl hx hb dX3_no_47 ?_
    refine lv_ior hx hb dX3_no_48 ?_
    refine q_putG (ty := .int) X hP hS x2.toNatClampNeg (ix_lt (WF.g6 hwf hg)) 6 (by decide) (hts _ wd168) rfl (by decide +kernel) rfl rfl dX3_no_49 (fun H locs hP hS => ?_)
    have hw_σ1 : WF (up σ (34 + x2.toNatClampNeg) 6 ((σ.1 (34 + x2.toNatClampNeg) 6) ||| ((1 : Int32) <<< (x1 &&& (31 : Int32))))) := wf_up hwf (fun h => absurd h (by omega)) (fun _ => ⟨by decide, by decide, by decide, fun h => absurd h (by decide)⟩) (fun h h2 => absurd h2 (by omega))
    generalize hs_σ1 : (up σ (34 + x2.toNatClampNeg) 6 ((σ.1 (34 + x2.toNatClampNeg) 6) ||| ((1 : Int32) <<< (x1 &&& (31 : Int32))))) = σ1 at hP hw_σ1 hF
    replace hF : ((fun σ2 : St => ((σ1.1 (34 + x2.toNatClampNeg) 8), σ2)) (f_standDown σ1 x2)) = F := hF
    refine lv_aload_n hx hb dX3_no_52 rfl (lv_at hl 0 rfl) ?_
    refine q_getM (v := .ref (ad 3)) X hP 2 (by decide) (hts _ wd15) rfl dX3_no_53 ?_
    refine lv_iload_n hx hb dX3_no_56 rfl (lv_at hl 2 rfl) ?_
    refine q_aldG X hP (WF.g6 hwf hg) dX3_no_57 ?_
    refine q_getG (v := .int (σ1.1 (34 + x2.toNatClampNeg) 8)) X hP x2.toNatClampNeg (ix_lt (WF.g6 hwf hg)) 8 (by decide) (hts _ wd122) rfl dX3_no_58 ?_
    refine lv_istore (lv' := [(4, .int (σ1.1 (34 + x2.toNatClampNeg) 8)), (0, .ref (ad 0)), (1, .int x1), (2, .int x2), (3, .int x3)]) hx hb dX3_no_61 hl (by decide) rfl (fun ls hl => ?_)
    refine lv_aload_n hx hb dX3_no_63 rfl (lv_at hl 1 rfl) ?_
    refine lv_iload_n hx hb dX3_no_64 rfl (lv_at hl 3 rfl) ?_
    refine k_standDown X hP hS ⟨Nat.le_of_ble_eq_true rfl, Nat.le_of_ble_eq_true rfl⟩ ⟨Nat.zero_le _, Nat.zero_le _⟩ wd118 hl.1 (Nat.le_of_ble_eq_true rfl) dX3_no_65 x2 hw_σ1 (WF.g6 hwf hg) (fun H locs hP hS => ?_)
    have hw_σ2 : WF (f_standDown σ1 x2) := wf_standDown hw_σ1 (WF.g6 hwf hg)
    generalize hs_σ2 : (f_standDown σ1 x2) = σ2 at hP hw_σ2 hF
    replace hF : ((σ1.1 (34 + x2.toNatClampNeg) 8), σ2) = F := hF
    refine lv_iload hx hb dX3_no_68 (lv_at hl 0 rfl) ?_
    exact W.zret (ty := .boolean) (v := (σ1.1 (34 + x2.toNatClampNeg) 8)) hx hb hr (nb01 (WF.ga hw_σ1 (WF.g6 hwf hg))) (fun t ht hW => ⟨⟨(σ1.1 (34 + x2.toNatClampNeg) 8), σ2, rfl, hF, wB_of ht hP⟩, hS.F ht⟩) hS.2.2 dX3_no_70
  · rw [if_pos c_11] at hF
    refine lv_aload_n hx hb dX3_no_14 rfl (lv_at hl 0 rfl) ?_
    refine q_getM (v := .ref (ad 3)) X hP 2 (by decide) (hts _ wd15) rfl dX3_no_15 ?_
    refine lv_iload_n hx hb dX3_no_18 rfl (lv_at hl 2 rfl) ?_
    refine q_aldG X hP (WF.g6 hwf hg) dX3_no_19 ?_
    refine lv_dup hx hb dX3_no_20 rfl ?_
    refine q_getG (v := .int (σ.1 (34 + x2.toNatClampNeg) 6)) X hP x2.toNatClampNeg (ix_lt (WF.g6 hwf hg)) 6 (by decide) (hts _ wd168) rfl dX3_no_21 ?_
    refine lv_iconst (v := (1 : Int32)) hx hb dX3_no_24 (by decide) ?_
    refine lv_iload_n hx hb dX3_no_25 rfl (lv_at hl 1 rfl) ?_
    refine lv_ishl hx hb dX3_no_26 ?_
    refine lv_iconst (v := (-1 : Int32)) hx hb dX3_no_27 (by decide) ?_
    refine lv_ixor hx hb dX3_no_28 ?_
    refine lv_iand hx hb dX3_no_29 ?_
    refine q_putG (ty := .int) X hP hS x2.toNatClampNeg (ix_lt (WF.g6 hwf hg)) 6 (by decide) (hts _ wd168) rfl (by decide +kernel) rfl rfl dX3_no_30 (fun H locs hP hS => ?_)
    have hw_σ3 : WF (up σ (34 + x2.toNatClampNeg) 6 ((σ.1 (34 + x2.toNatClampNeg) 6) &&& (((1 : Int32) <<< (x1 &&& (31 : Int32))) ^^^ (-1 : Int32)))) := wf_up hwf (fun h => absurd h (by omega)) (fun _ => ⟨by decide, by decide, by decide, fun h => absurd h (by decide)⟩) (fun h h2 => absurd h2 (by omega))
    generalize hs_σ3 : (up σ (34 + x2.toNatClampNeg) 6 ((σ.1 (34 + x2.toNatClampNeg) 6) &&& (((1 : Int32) <<< (x1 &&& (31 : Int32))) ^^^ (-1 : Int32)))) = σ3 at hP hw_σ3 hF
    replace hF : ((0 : Int32), σ3) = F := hF
    refine lv_iconst (v := (0 : Int32)) hx hb dX3_no_33 (by decide) ?_
    exact W.zret (ty := .boolean) (v := (0 : Int32)) hx hb hr rfl (fun t ht hW => ⟨⟨(0 : Int32), σ3, rfl, hF, wB_of ht hP⟩, hS.F ht⟩) hS.2.2 dX3_no_34
theorem k_no {p : Program} {l : Launch} {e : Env} {R : Room} {s : State} {m : MethodId} {args : Array Value} {below : List Frame} {meth : Method} {c : Code} {H : Heap} {locs : List Loc} {cells slots : Nat} {Q : State → Prop} {cc : ByteArray} {pc : Nat} {ls : Array Slot} {rest : List Value} {D : va_G} {A : Nat → Prop} {ad : Nat → Nat} {ca : Nat → ClassId} {tw nL : Nat} {σ : St} {own : String} {index : Nat} (X : Cx p s m args c own cc nL D ad ca tw A) (hP : va_P D vwCl (wl ad ca σ) H) (hS : va_S A s.heap H locs) (hR : 2 ≤ R.frames ∧ 45 ≤ R.locals) (hcap : cells ≤ R.cells ∧ slots ≤ R.slots) (hlk : Cond.methodLink own index yX3_no ∈ wsL_law0) (hsz : ls.size = nL) (hrs : (rest.map fun v => v.category).sum ≤ 8) (hdg : decode cc pc = .ok (.invokevirtual index, 3)) (x1 : Int32) (x2 : Int32) (x3 : Int32) (hwf : WF σ) (hp : inr x1 (σ.1 0 3)) (hg : inr x2 (σ.1 0 5))
    (kk : ∀ (H1 : Heap) (locs1 : List Loc), va_P D vwCl (wl ad ca (f_no σ x1 x2 x3).2) H1 → va_S A s.heap H1 locs1 → W p l e R s m args below meth c H1 locs1 cells slots Q (F0 m (pc + 3) ls (.int (f_no σ x1 x2 x3).1 :: rest))) : W p l e R s m args below meth c H locs cells slots Q (F0 m pc ls (.int x3 :: .int x2 :: .int x1 :: .ref (ad 0) :: rest)) := by
  refine q_bi X hS (q_runV (as := [.int x1, .int x2, .int x3]) X hP hS (q_cwV (rm := ({ frames := 1, cells := 0, slots := 0, locals := 21 } : Room)) (k := 3) X.2.2.2.2.1 hlk wd328 wd329 wd2 wd330 rfl rfl (by decide +kernel) rfl ⟨hR.1, hR.2⟩) (c_no l D ad ca tw X.2.2.2.2.2.2.1 σ x1 x2 x3 hwf hp hg) rfl hsz rfl hrs hdg hcap) (fun r u H1 locs1 h1 h2 h3 => ?_)
  have e1 := congrArg Prod.fst h1
  have e2 := congrArg Prod.snd h1
  dsimp only at e1 e2
  subst e1
  subst e2
  exact kk H1 locs1 h2 h3
set_option maxHeartbeats 4000000 in
set_option maxRecDepth 100000 in
theorem c_arm (l : Launch) (D : va_G) (ad : Nat → Nat) (ca : Nat → ClassId) (tw : Nat) (hI : ∀ i j, i < 40 → j < 40 → ad i = ad j → i = j) (σ : St) (x1 : Int32) (hwf : WF σ) (hg : inr x1 (σ.1 0 5)) (hna : σ.1 (34 + x1.toNatClampNeg) 8 = 0) : Met l yX3_arm (wm yX3_arm cX3_arm 3 (some .int)) ({ frames := 5, cells := 0, slots := 0, locals := 109 } : Room) (va_Pc [.ref (ad 0), .int x1] (wPre D ad ca tw σ)) (va_Qi (fun r u => (r, u) = f_arm σ x1) (wB D ad ca) (Aw ad)) 0 0 (Aw ad) := by
  generalize hF : f_arm σ x1 = F
  refine Met.ofW (cc := cX3_arm) (maxL := 3) (ret := (some .int)) (by decide) rfl ?_
  intro p e s m args below meth c s₁ B hml hv
  obtain ⟨rfl, hv⟩ := hv
  have X := q_open (own := RX3) B rfl hml hI hv
  have hx := X.1
  have hb := X.2.1
  have hts := X.2.2.2.2.1
  have hr := B.returns
  have hlocks := B.notSynchronized
  have hP := hv.1
  have hS : va_S (Aw ad) s.heap s.heap [] := va_S.rf
  have hl := lv_entry ([.ref (ad 0), .int x1]) (n := 3) (Nat.le_of_ble_eq_true rfl)
  rw [lg_entry_eq]
  generalize (lg_sl ([.ref (ad 0), .int x1]) ++ List.replicate (3 - (lg_sl ([.ref (ad 0), .int x1])).length) Slot.unset).toArray = ls at hl ⊢
  have hl : lv_has ls 3 [(0, .ref (ad 0)), (1, .int x1)] := hl
  unfold f_arm at hF
  replace hF : (if (f_whatBars σ x1) = (0 : Int32) then ((fun σ2 : St => ((f_whatBars σ x1), σ2)) (up σ (34 + x1.toNatClampNeg) 8 (1 : Int32))) else ((fun σ1 : St => ((f_whatBars σ x1), σ1)) (up σ (34 + x1.toNatClampNeg) 8 (0 : Int32)))) = F := hF
  refine lv_aload_n hx hb dX3_arm_0 rfl (lv_at hl 0 rfl) ?_
  refine lv_iload_n hx hb dX3_arm_1 rfl (lv_at hl 1 rfl) ?_
  refine k_requireGag X hP hS ⟨Nat.le_of_ble_eq_true rfl, Nat.le_of_ble_eq_true rfl⟩ ⟨Nat.zero_le _, Nat.zero_le _⟩ wd170 hl.1 (Nat.le_of_ble_eq_true rfl) dX3_arm_2 x1 hwf hg (fun H locs hP hS => ?_)
  refine lv_aload_n hx hb dX3_arm_5 rfl (lv_at hl 0 rfl) ?_
  refine q_getM (v := .ref (ad 3)) X hP 2 (by decide) (hts _ wd15) rfl dX3_arm_6 ?_
  refine lv_iload_n hx hb dX3_arm_9 rfl (lv_at hl 1 rfl) ?_
  refine q_aldG X hP (WF.g6 hwf hg) dX3_arm_10 ?_
  refine q_getG (v := .int (σ.1 (34 + x1.toNatClampNeg) 8)) X hP x1.toNatClampNeg (ix_lt (WF.g6 hwf hg)) 8 (by decide) (hts _ wd122) rfl dX3_arm_11 ?_
  refine lv_if_eq (tgt := 27) hx hb dX3_arm_14 (by decide) (fun c_14 => ?_) (fun c_14 => ?_)
  · refine lv_aload_n hx hb dX3_arm_27 rfl (lv_at hl 0 rfl) ?_
    refine lv_iload_n hx hb dX3_arm_28 rfl (lv_at hl 1 rfl) ?_
    refine k_whatBars X hP hS ⟨Nat.le_of_ble_eq_true rfl, Nat.le_of_ble_eq_true rfl⟩ ⟨Nat.zero_le _, Nat.zero_le _⟩ wd207 hl.1 (Nat.le_of_ble_eq_true rfl) dX3_arm_29 x1 hwf (WF.g6 hwf hg) (fun H locs hP hS => ?_)
    refine lv_istore_n (lv' := [(2, .int (f_whatBars σ x1)), (0, .ref (ad 0)), (1, .int x1)]) hx hb dX3_arm_32 rfl hl (by decide) rfl (fun ls hl => ?_)
    refine lv_aload_n hx hb dX3_arm_33 rfl (lv_at hl 1 rfl) ?_
    refine q_getM (v := .ref (ad 3)) X hP 2 (by decide) (hts _ wd15) rfl dX3_arm_34 ?_
    refine lv_iload_n hx hb dX3_arm_37 rfl (lv_at hl 2 rfl) ?_
    refine q_aldG X hP (WF.g6 hwf hg) dX3_arm_38 ?_
    refine lv_iload_n hx hb dX3_arm_39 rfl (lv_at hl 0 rfl) ?_
    refine lv_if_ne (tgt := 47) hx hb dX3_arm_40 (by decide) (fun c_40 => ?_) (fun c_40 => ?_)
    · rw [if_neg c_40] at hF
      refine lv_iconst (v := (0 : Int32)) hx hb dX3_arm_47 (by decide) ?_
      refine q_putG (ty := .boolean) X hP hS x1.toNatClampNeg (ix_lt (WF.g6 hwf hg)) 8 (by decide) (hts _ wd122) rfl (by decide +kernel) rfl rfl dX3_arm_48 (fun H locs hP hS => ?_)
      have hw_σ1 : WF (up σ (34 + x1.toNatClampNeg) 8 (0 : Int32)) := wf_up hwf (fun h => absurd h (by omega)) (fun _ => ⟨by decide, by decide, by decide, fun _ => (by first | exact Or.inl rfl | exact Or.inr rfl)⟩) (fun h h2 => absurd h2 (by omega))
      generalize hs_σ1 : (up σ (34 + x1.toNatClampNeg) 8 (0 : Int32)) = σ1 at hP hw_σ1 hF
      replace hF : ((f_whatBars σ x1), σ1) = F := hF
      refine lv_iload_n hx hb dX3_arm_51 rfl (lv_at hl 0 rfl) ?_
      exact W.iret (v := (f_whatBars σ x1)) hx hb hr (fun t ht hW => ⟨⟨(f_whatBars σ x1), σ1, rfl, hF, wB_of ht hP⟩, hS.F ht⟩) hS.2.2 dX3_arm_52
    · rw [if_pos c_40] at hF
      refine lv_iconst (v := (1 : Int32)) hx hb dX3_arm_43 (by decide) ?_
      refine lv_goto (tgt := 48) hx hb dX3_arm_44 (by decide) ?_
      refine q_putG (ty := .boolean) X hP hS x1.toNatClampNeg (ix_lt (WF.g6 hwf hg)) 8 (by decide) (hts _ wd122) rfl (by decide +kernel) rfl rfl dX3_arm_48 (fun H locs hP hS => ?_)
      have hw_σ2 : WF (up σ (34 + x1.toNatClampNeg) 8 (1 : Int32)) := wf_up hwf (fun h => absurd h (by omega)) (fun _ => ⟨by decide, by decide, by decide, fun _ => (by first | exact Or.inl rfl | exact Or.inr rfl)⟩) (fun h h2 => absurd h2 (by omega))
      generalize hs_σ2 : (up σ (34 + x1.toNatClampNeg) 8 (1 : Int32)) = σ2 at hP hw_σ2 hF
      replace hF : ((f_whatBars σ x1), σ2) = F := hF
      refine lv_iload_n hx hb dX3_arm_51 rfl (lv_at hl 0 rfl) ?_
      exact W.iret (v := (f_whatBars σ x1)) hx hb hr (fun t ht hW => ⟨⟨(f_whatBars σ x1), σ2, rfl, hF, wB_of ht hP⟩, hS.F ht⟩) hS.2.2 dX3_arm_52
  · first | exact absurd c_14 hg | exact absurd hg c_14 | exact absurd c_14 hna | exact absurd hna c_14
theorem k_arm {p : Program} {l : Launch} {e : Env} {R : Room} {s : State} {m : MethodId} {args : Array Value} {below : List Frame} {meth : Method} {c : Code} {H : Heap} {locs : List Loc} {cells slots : Nat} {Q : State → Prop} {cc : ByteArray} {pc : Nat} {ls : Array Slot} {rest : List Value} {D : va_G} {A : Nat → Prop} {ad : Nat → Nat} {ca : Nat → ClassId} {tw nL : Nat} {σ : St} {own : String} {index : Nat} (X : Cx p s m args c own cc nL D ad ca tw A) (hP : va_P D vwCl (wl ad ca σ) H) (hS : va_S A s.heap H locs) (hR : 6 ≤ R.frames ∧ 131 ≤ R.locals) (hcap : cells ≤ R.cells ∧ slots ≤ R.slots) (hlk : Cond.methodLink own index yX3_arm ∈ wsL_law0) (hsz : ls.size = nL) (hrs : (rest.map fun v => v.category).sum ≤ 8) (hdg : decode cc pc = .ok (.invokevirtual index, 3)) (x1 : Int32) (hwf : WF σ) (hg : inr x1 (σ.1 0 5)) (hna : σ.1 (34 + x1.toNatClampNeg) 8 = 0)
    (kk : ∀ (H1 : Heap) (locs1 : List Loc), va_P D vwCl (wl ad ca (f_arm σ x1).2) H1 → va_S A s.heap H1 locs1 → W p l e R s m args below meth c H1 locs1 cells slots Q (F0 m (pc + 3) ls (.int (f_arm σ x1).1 :: rest))) : W p l e R s m args below meth c H locs cells slots Q (F0 m pc ls (.int x1 :: .ref (ad 0) :: rest)) := by
  refine q_bi X hS (q_runV (as := [.int x1]) X hP hS (q_cwV (rm := ({ frames := 5, cells := 0, slots := 0, locals := 109 } : Room)) (k := 1) X.2.2.2.2.1 hlk wd303 wd304 wd2 wd305 rfl rfl (by decide +kernel) rfl ⟨hR.1, hR.2⟩) (c_arm l D ad ca tw X.2.2.2.2.2.2.1 σ x1 hwf hg hna) rfl hsz rfl hrs hdg hcap) (fun r u H1 locs1 h1 h2 h3 => ?_)
  have e1 := congrArg Prod.fst h1
  have e2 := congrArg Prod.snd h1
  dsimp only at e1 e2
  subst e1
  subst e2
  exact kk H1 locs1 h2 h3
set_option maxHeartbeats 4000000 in
set_option maxRecDepth 100000 in
theorem c_take (l : Launch) (D : va_G) (ad : Nat → Nat) (ca : Nat → ClassId) (tw : Nat) (hI : ∀ i j, i < 40 → j < 40 → ad i = ad j → i = j) (σ : St) (x1 : Int32) (hwf : WF σ) (hg : inr x1 (σ.1 0 5)) (ha : ¬ σ.1 (34 + x1.toNatClampNeg) 8 = 0) : Met l yX3_take (wm yX3_take cX3_take 4 (some .int)) ({ frames := 4, cells := 0, slots := 0, locals := 88 } : Room) (va_Pc [.ref (ad 0), .int x1] (wPre D ad ca tw σ)) (va_Qi (fun r u => (r, u) = f_take σ x1) (wB D ad ca) (Aw ad)) 0 0 (Aw ad) := by
  generalize hF : f_take σ x1 = F
  refine Met.ofW (cc := cX3_take) (maxL := 4) (ret := (some .int)) (by decide) rfl ?_
  intro p e s m args below meth c s₁ B hml hv
  obtain ⟨rfl, hv⟩ := hv
  have X := q_open (own := RX3) B rfl hml hI hv
  have hx := X.1
  have hb := X.2.1
  have hts := X.2.2.2.2.1
  have hr := B.returns
  have hlocks := B.notSynchronized
  have hP := hv.1
  have hS : va_S (Aw ad) s.heap s.heap [] := va_S.rf
  have hl := lv_entry ([.ref (ad 0), .int x1]) (n := 4) (Nat.le_of_ble_eq_true rfl)
  rw [lg_entry_eq]
  generalize (lg_sl ([.ref (ad 0), .int x1]) ++ List.replicate (4 - (lg_sl ([.ref (ad 0), .int x1])).length) Slot.unset).toArray = ls at hl ⊢
  have hl : lv_has ls 4 [(0, .ref (ad 0)), (1, .int x1)] := hl
  unfold f_take at hF
  replace hF : ((fun σ1 : St => ((fun σ2 : St => ((fun σ3 : St => ((fun σ4 : St => ((fun σ5 : St => ((fun σ6 : St => (if (0 : Int32) ≤ (f_marginOf σ x1) then ((fun σ7 : St => ((fun σ8 : St => ((f_marginOf σ x1), σ8)) (f_payFor σ7 x1))) (f_useKitOf σ6 x1)) else ((fun σ9 : St => ((fun σ10 : St => ((fun σ11 : St => ((f_marginOf σ x1), σ11)) (f_payFor σ10 x1))) (f_useKitOf σ9 x1))) (f_hurt σ6 (σ6.1 (34 + x1.toNatClampNeg) 1))))) (upL σ5 (σ5.2 + (f_marginOf σ x1).toInt64)))) (up σ4 0 12 ((σ4.1 0 12) + (1 : Int32))))) (up σ3 (34 + x1.toNatClampNeg) 7 ((σ3.1 (34 + x1.toNatClampNeg) 7) + (1 : Int32))))) (up σ2 (34 + x1.toNatClampNeg) 4 (3 : Int32)))) (up σ1 (34 + x1.toNatClampNeg) 5 (0 : Int32)))) (up σ (34 + x1.toNatClampNeg) 8 (0 : Int32))) = F := hF
  refine lv_aload_n hx hb dX3_take_0 rfl (lv_at hl 0 rfl) ?_
  refine lv_iload_n hx hb dX3_take_1 rfl (lv_at hl 1 rfl) ?_
  refine k_requireGag X hP hS ⟨Nat.le_of_ble_eq_true rfl, Nat.le_of_ble_eq_true rfl⟩ ⟨Nat.zero_le _, Nat.zero_le _⟩ wd170 hl.1 (Nat.le_of_ble_eq_true rfl) dX3_take_2 x1 hwf hg (fun H locs hP hS => ?_)
  refine lv_aload_n hx hb dX3_take_5 rfl (lv_at hl 0 rfl) ?_
  refine lv_iload_n hx hb dX3_take_6 rfl (lv_at hl 1 rfl) ?_
  refine k_requireArmed X hP hS ⟨Nat.le_of_ble_eq_true rfl, Nat.le_of_ble_eq_true rfl⟩ ⟨Nat.zero_le _, Nat.zero_le _⟩ wd310 hl.1 (Nat.le_of_ble_eq_true rfl) dX3_take_7 x1 hwf (WF.g6 hwf hg) (ha) (fun H locs hP hS => ?_)
  refine lv_aload_n hx hb dX3_take_10 rfl (lv_at hl 0 rfl) ?_
  refine q_getM (v := .ref (ad 3)) X hP 2 (by decide) (hts _ wd15) rfl dX3_take_11 ?_
  refine lv_iload_n hx hb dX3_take_14 rfl (lv_at hl 1 rfl) ?_
  refine q_aldG X hP (WF.g6 hwf hg) dX3_take_15 ?_
  refine lv_astore_n (lv' := [(2, .ref (ad (34 + x1.toNatClampNeg))), (0, .ref (ad 0)), (1, .int x1)]) hx hb dX3_take_16 rfl hl (by decide) rfl (fun ls hl => ?_)
  refine lv_aload_n hx hb dX3_take_17 rfl (lv_at hl 1 rfl) ?_
  refine lv_iload_n hx hb dX3_take_18 rfl (lv_at hl 2 rfl) ?_
  refine k_marginOf X hP hS ⟨Nat.le_of_ble_eq_true rfl, Nat.le_of_ble_eq_true rfl⟩ ⟨Nat.zero_le _, Nat.zero_le _⟩ wd195 hl.1 (Nat.le_of_ble_eq_true rfl) dX3_take_19 x1 hwf (WF.g6 hwf hg) (fun H locs hP hS => ?_)
  refine lv_istore_n (lv' := [(3, .int (f_marginOf σ x1)), (2, .ref (ad (34 + x1.toNatClampNeg))), (0, .ref (ad 0)), (1, .int x1)]) hx hb dX3_take_22 rfl hl (by decide) rfl (fun ls hl => ?_)
  refine lv_aload_n hx hb dX3_take_23 rfl (lv_at hl 1 rfl) ?_
  refine lv_iconst (v := (0 : Int32)) hx hb dX3_take_24 (by decide) ?_
  refine q_putG (ty := .boolean) X hP hS x1.toNatClampNeg (ix_lt (WF.g6 hwf hg)) 8 (by decide) (hts _ wd122) rfl (by decide +kernel) rfl rfl dX3_take_25 (fun H locs hP hS => ?_)
  have hw_σ1 : WF (up σ (34 + x1.toNatClampNeg) 8 (0 : Int32)) := wf_up hwf (fun h => absurd h (by omega)) (fun _ => ⟨by decide, by decide, by decide, fun _ => (by first | exact Or.inl rfl | exact Or.inr rfl)⟩) (fun h h2 => absurd h2 (by omega))
  generalize hs_σ1 : (up σ (34 + x1.toNatClampNeg) 8 (0 : Int32)) = σ1 at hP hw_σ1 hF
  replace hF : ((fun σ2 : St => ((fun σ3 : St => ((fun σ4 : St => ((fun σ5 : St => ((fun σ6 : St => (if (0 : Int32) ≤ (f_marginOf σ x1) then ((fun σ7 : St => ((fun σ8 : St => ((f_marginOf σ x1), σ8)) (f_payFor σ7 x1))) (f_useKitOf σ6 x1)) else ((fun σ9 : St => ((fun σ10 : St => ((fun σ11 : St => ((f_marginOf σ x1), σ11)) (f_payFor σ10 x1))) (f_useKitOf σ9 x1))) (f_hurt σ6 (σ6.1 (34 + x1.toNatClampNeg) 1))))) (upL σ5 (σ5.2 + (f_marginOf σ x1).toInt64)))) (up σ4 0 12 ((σ4.1 0 12) + (1 : Int32))))) (up σ3 (34 + x1.toNatClampNeg) 7 ((σ3.1 (34 + x1.toNatClampNeg) 7) + (1 : Int32))))) (up σ2 (34 + x1.toNatClampNeg) 4 (3 : Int32)))) (up σ1 (34 + x1.toNatClampNeg) 5 (0 : Int32))) = F := hF
  refine lv_aload_n hx hb dX3_take_28 rfl (lv_at hl 1 rfl) ?_
  refine lv_iconst (v := (0 : Int32)) hx hb dX3_take_29 (by decide) ?_
  refine q_putG (ty := .int) X hP hS x1.toNatClampNeg (ix_lt (WF.g6 hwf hg)) 5 (by decide) (hts _ wd158) rfl (by decide +kernel) rfl rfl dX3_take_30 (fun H locs hP hS => ?_)
  have hw_σ2 : WF (up σ1 (34 + x1.toNatClampNeg) 5 (0 : Int32)) := wf_up hw_σ1 (fun h => absurd h (by omega)) (fun _ => ⟨by decide, by decide, by decide, fun h => absurd h (by decide)⟩) (fun h h2 => absurd h2 (by omega))
  generalize hs_σ2 : (up σ1 (34 + x1.toNatClampNeg) 5 (0 : Int32)) = σ2 at hP hw_σ2 hF
  replace hF : ((fun σ3 : St => ((fun σ4 : St => ((fun σ5 : St => ((fun σ6 : St => (if (0 : Int32) ≤ (f_marginOf σ x1) then ((fun σ7 : St => ((fun σ8 : St => ((f_marginOf σ x1), σ8)) (f_payFor σ7 x1))) (f_useKitOf σ6 x1)) else ((fun σ9 : St => ((fun σ10 : St => ((fun σ11 : St => ((f_marginOf σ x1), σ11)) (f_payFor σ10 x1))) (f_useKitOf σ9 x1))) (f_hurt σ6 (σ6.1 (34 + x1.toNatClampNeg) 1))))) (upL σ5 (σ5.2 + (f_marginOf σ x1).toInt64)))) (up σ4 0 12 ((σ4.1 0 12) + (1 : Int32))))) (up σ3 (34 + x1.toNatClampNeg) 7 ((σ3.1 (34 + x1.toNatClampNeg) 7) + (1 : Int32))))) (up σ2 (34 + x1.toNatClampNeg) 4 (3 : Int32))) = F := hF
  refine lv_aload_n hx hb dX3_take_33 rfl (lv_at hl 1 rfl) ?_
  refine lv_iconst (v := (3 : Int32)) hx hb dX3_take_34 (by decide) ?_
  refine q_putG (ty := .int) X hP hS x1.toNatClampNeg (ix_lt (WF.g6 hwf hg)) 4 (by decide) (hts _ wd167) rfl (by decide +kernel) rfl rfl dX3_take_35 (fun H locs hP hS => ?_)
  have hw_σ3 : WF (up σ2 (34 + x1.toNatClampNeg) 4 (3 : Int32)) := wf_up hw_σ2 (fun h => absurd h (by omega)) (fun _ => ⟨by decide, by decide, by decide, fun h => absurd h (by decide)⟩) (fun h h2 => absurd h2 (by omega))
  generalize hs_σ3 : (up σ2 (34 + x1.toNatClampNeg) 4 (3 : Int32)) = σ3 at hP hw_σ3 hF
  replace hF : ((fun σ4 : St => ((fun σ5 : St => ((fun σ6 : St => (if (0 : Int32) ≤ (f_marginOf σ x1) then ((fun σ7 : St => ((fun σ8 : St => ((f_marginOf σ x1), σ8)) (f_payFor σ7 x1))) (f_useKitOf σ6 x1)) else ((fun σ9 : St => ((fun σ10 : St => ((fun σ11 : St => ((f_marginOf σ x1), σ11)) (f_payFor σ10 x1))) (f_useKitOf σ9 x1))) (f_hurt σ6 (σ6.1 (34 + x1.toNatClampNeg) 1))))) (upL σ5 (σ5.2 + (f_marginOf σ x1).toInt64)))) (up σ4 0 12 ((σ4.1 0 12) + (1 : Int32))))) (up σ3 (34 + x1.toNatClampNeg) 7 ((σ3.1 (34 + x1.toNatClampNeg) 7) + (1 : Int32)))) = F := hF
  refine lv_aload_n hx hb dX3_take_38 rfl (lv_at hl 1 rfl) ?_
  refine lv_dup hx hb dX3_take_39 rfl ?_
  refine q_getG (v := .int (σ3.1 (34 + x1.toNatClampNeg) 7)) X hP x1.toNatClampNeg (ix_lt (WF.g6 hwf hg)) 7 (by decide) (hts _ wd169) rfl dX3_take_40 ?_
  refine lv_iconst (v := (1 : Int32)) hx hb dX3_take_43 (by decide) ?_
  refine lv_iadd hx hb dX3_take_44 ?_
  refine q_putG (ty := .int) X hP hS x1.toNatClampNeg (ix_lt (WF.g6 hwf hg)) 7 (by decide) (hts _ wd169) rfl (by decide +kernel) rfl rfl dX3_take_45 (fun H locs hP hS => ?_)
  have hw_σ4 : WF (up σ3 (34 + x1.toNatClampNeg) 7 ((σ3.1 (34 + x1.toNatClampNeg) 7) + (1 : Int32))) := wf_up hw_σ3 (fun h => absurd h (by omega)) (fun _ => ⟨by decide, by decide, by decide, fun h => absurd h (by decide)⟩) (fun h h2 => absurd h2 (by omega))
  generalize hs_σ4 : (up σ3 (34 + x1.toNatClampNeg) 7 ((σ3.1 (34 + x1.toNatClampNeg) 7) + (1 : Int32))) = σ4 at hP hw_σ4 hF
  replace hF : ((fun σ5 : St => ((fun σ6 : St => (if (0 : Int32) ≤ (f_marginOf σ x1) then ((fun σ7 : St => ((fun σ8 : St => ((f_marginOf σ x1), σ8)) (f_payFor σ7 x1))) (f_useKitOf σ6 x1)) else ((fun σ9 : St => ((fun σ10 : St => ((fun σ11 : St => ((f_marginOf σ x1), σ11)) (f_payFor σ10 x1))) (f_useKitOf σ9 x1))) (f_hurt σ6 (σ6.1 (34 + x1.toNatClampNeg) 1))))) (upL σ5 (σ5.2 + (f_marginOf σ x1).toInt64)))) (up σ4 0 12 ((σ4.1 0 12) + (1 : Int32)))) = F := hF
  refine lv_aload_n hx hb dX3_take_48 rfl (lv_at hl 2 rfl) ?_
  refine lv_dup hx hb dX3_take_49 rfl ?_
  refine q_getM (v := .int (σ4.1 0 12)) X hP 12 (by decide) (hts _ wd25) rfl dX3_take_50 ?_
  refine lv_iconst (v := (1 : Int32)) hx hb dX3_take_53 (by decide) ?_
  refine lv_iadd hx hb dX3_take_54 ?_
  refine q_putM (ty := .int) X hP hS 12 (by decide) (hts _ wd25) rfl (by decide +kernel) rfl rfl dX3_take_55 (fun H locs hP hS => ?_)
  have hw_σ5 : WF (up σ4 0 12 ((σ4.1 0 12) + (1 : Int32))) := wf_up hw_σ4 (fun _ => by decide) (fun h => absurd h (by decide)) (fun h => absurd h (by decide))
  generalize hs_σ5 : (up σ4 0 12 ((σ4.1 0 12) + (1 : Int32))) = σ5 at hP hw_σ5 hF
  replace hF : ((fun σ6 : St => (if (0 : Int32) ≤ (f_marginOf σ x1) then ((fun σ7 : St => ((fun σ8 : St => ((f_marginOf σ x1), σ8)) (f_payFor σ7 x1))) (f_useKitOf σ6 x1)) else ((fun σ9 : St => ((fun σ10 : St => ((fun σ11 : St => ((f_marginOf σ x1), σ11)) (f_payFor σ10 x1))) (f_useKitOf σ9 x1))) (f_hurt σ6 (σ6.1 (34 + x1.toNatClampNeg) 1))))) (upL σ5 (σ5.2 + (f_marginOf σ x1).toInt64))) = F := hF
  refine lv_aload_n hx hb dX3_take_58 rfl (lv_at hl 2 rfl) ?_
  refine lv_dup hx hb dX3_take_59 rfl ?_
  refine q_getM (v := .long σ5.2) X hP 14 (by decide) (hts _ wd27) rfl dX3_take_60 ?_
  refine lv_iload_n hx hb dX3_take_63 rfl (lv_at hl 0 rfl) ?_
  refine lv_i2l hx hb dX3_take_64 rfl ?_
  refine lv_ladd hx hb dX3_take_65 ?_
  refine q_putL X hP hS (hts _ wd27) dX3_take_66 (fun H locs hP hS => ?_)
  have hw_σ6 : WF (upL σ5 (σ5.2 + (f_marginOf σ x1).toInt64)) := wf_L hw_σ5
  generalize hs_σ6 : (upL σ5 (σ5.2 + (f_marginOf σ x1).toInt64)) = σ6 at hP hw_σ6 hF
  replace hF : (if (0 : Int32) ≤ (f_marginOf σ x1) then ((fun σ7 : St => ((fun σ8 : St => ((f_marginOf σ x1), σ8)) (f_payFor σ7 x1))) (f_useKitOf σ6 x1)) else ((fun σ9 : St => ((fun σ10 : St => ((fun σ11 : St => ((f_marginOf σ x1), σ11)) (f_payFor σ10 x1))) (f_useKitOf σ9 x1))) (f_hurt σ6 (σ6.1 (34 + x1.toNatClampNeg) 1)))) = F := hF
  refine lv_iload_n hx hb dX3_take_69 rfl (lv_at hl 0 rfl) ?_
  refine lv_if_ge (tgt := 81) hx hb dX3_take_70 (by decide) (fun c_70 => ?_) (fun c_70 => ?_)
  · rw [if_pos c_70] at hF
    refine lv_aload_n hx hb dX3_take_81 rfl (lv_at hl 2 rfl) ?_
    refine lv_iload_n hx hb dX3_take_82 rfl (lv_at hl 3 rfl) ?_
    refine k_useKitOf X hP hS ⟨Nat.le_of_ble_eq_true rfl, Nat.le_of_ble_eq_true rfl⟩ ⟨Nat.zero_le _, Nat.zero_le _⟩ wd319 hl.1 (Nat.le_of_ble_eq_true rfl) dX3_take_83 x1 hw_σ6 (WF.g6 hwf hg) (fun H locs hP hS => ?_)
    have hw_σ7 : WF (f_useKitOf σ6 x1) := wf_useKitOf hw_σ6 (WF.g6 hwf hg)
    generalize hs_σ7 : (f_useKitOf σ6 x1) = σ7 at hP hw_σ7 hF
    replace hF : ((fun σ8 : St => ((f_marginOf σ x1), σ8)) (f_payFor σ7 x1)) = F := hF
    refine lv_aload_n hx hb dX3_take_86 rfl (lv_at hl 2 rfl) ?_
    refine lv_iload_n hx hb dX3_take_87 rfl (lv_at hl 3 rfl) ?_
    refine k_payFor X hP hS ⟨Nat.le_of_ble_eq_true rfl, Nat.le_of_ble_eq_true rfl⟩ ⟨Nat.zero_le _, Nat.zero_le _⟩ wd323 hl.1 (Nat.le_of_ble_eq_true rfl) dX3_take_88 x1 hw_σ7 (WF.g6 hwf hg) (fun H locs hP hS => ?_)
    have hw_σ8 : WF (f_payFor σ7 x1) := wf_payFor hw_σ7 (WF.g6 hwf hg)
    generalize hs_σ8 : (f_payFor σ7 x1) = σ8 at hP hw_σ8 hF
    replace hF : ((f_marginOf σ x1), σ8) = F := hF
    refine lv_iload_n hx hb dX3_take_91 rfl (lv_at hl 0 rfl) ?_
    exact W.iret (v := (f_marginOf σ x1)) hx hb hr (fun t ht hW => ⟨⟨(f_marginOf σ x1), σ8, rfl, hF, wB_of ht hP⟩, hS.F ht⟩) hS.2.2 dX3_take_92
  · rw [if_neg c_70] at hF
    refine lv_aload_n hx hb dX3_take_73 rfl (lv_at hl 2 rfl) ?_
    refine lv_aload_n hx hb dX3_take_74 rfl (lv_at hl 1 rfl) ?_
    refine q_getG (v := .int (σ6.1 (34 + x1.toNatClampNeg) 1)) X hP x1.toNatClampNeg (ix_lt (WF.g6 hwf hg)) 1 (by decide) (hts _ wd98) rfl dX3_take_75 ?_
    refine k_hurt X hP hS ⟨Nat.le_of_ble_eq_true rfl, Nat.le_of_ble_eq_true rfl⟩ ⟨Nat.zero_le _, Nat.zero_le _⟩ wd314 hl.1 (Nat.le_of_ble_eq_true rfl) dX3_take_78 (σ6.1 (34 + x1.toNatClampNeg) 1) hw_σ6 (WF.gp hw_σ6 (WF.g6 hwf hg)) (fun H locs hP hS => ?_)
    have hw_σ9 : WF (f_hurt σ6 (σ6.1 (34 + x1.toNatClampNeg) 1)) := wf_hurt hw_σ6 (WF.gp hw_σ6 (WF.g6 hwf hg))
    generalize hs_σ9 : (f_hurt σ6 (σ6.1 (34 + x1.toNatClampNeg) 1)) = σ9 at hP hw_σ9 hF
    replace hF : ((fun σ10 : St => ((fun σ11 : St => ((f_marginOf σ x1), σ11)) (f_payFor σ10 x1))) (f_useKitOf σ9 x1)) = F := hF
    refine lv_aload_n hx hb dX3_take_81 rfl (lv_at hl 2 rfl) ?_
    refine lv_iload_n hx hb dX3_take_82 rfl (lv_at hl 3 rfl) ?_
    refine k_useKitOf X hP hS ⟨Nat.le_of_ble_eq_true rfl, Nat.le_of_ble_eq_true rfl⟩ ⟨Nat.zero_le _, Nat.zero_le _⟩ wd319 hl.1 (Nat.le_of_ble_eq_true rfl) dX3_take_83 x1 hw_σ9 (WF.g6 hwf hg) (fun H locs hP hS => ?_)
    have hw_σ10 : WF (f_useKitOf σ9 x1) := wf_useKitOf hw_σ9 (WF.g6 hwf hg)
    generalize hs_σ10 : (f_useKitOf σ9 x1) = σ10 at hP hw_σ10 hF
    replace hF : ((fun σ11 : St => ((f_marginOf σ x1), σ11)) (f_payFor σ10 x1)) = F := hF
    refine lv_aload_n hx hb dX3_take_86 rfl (lv_at hl 2 rfl) ?_
    refine lv_iload_n hx hb dX3_take_87 rfl (lv_at hl 3 rfl) ?_
    refine k_payFor X hP hS ⟨Nat.le_of_ble_eq_true rfl, Nat.le_of_ble_eq_true rfl⟩ ⟨Nat.zero_le _, Nat.zero_le _⟩ wd323 hl.1 (Nat.le_of_ble_eq_true rfl) dX3_take_88 x1 hw_σ10 (WF.g6 hwf hg) (fun H locs hP hS => ?_)
    have hw_σ11 : WF (f_payFor σ10 x1) := wf_payFor hw_σ10 (WF.g6 hwf hg)
    generalize hs_σ11 : (f_payFor σ10 x1) = σ11 at hP hw_σ11 hF
    replace hF : ((f_marginOf σ x1), σ11) = F := hF
    refine lv_iload_n hx hb dX3_take_91 rfl (lv_at hl 0 rfl) ?_
    exact W.iret (v := (f_marginOf σ x1)) hx hb hr (fun t ht hW => ⟨⟨(f_marginOf σ x1), σ11, rfl, hF, wB_of ht hP⟩, hS.F ht⟩) hS.2.2 dX3_take_92
theorem k_take {p : Program} {l : Launch} {e : Env} {R : Room} {s : State} {m : MethodId} {args : Array Value} {below : List Frame} {meth : Method} {c : Code} {H : Heap} {locs : List Loc} {cells slots : Nat} {Q : State → Prop} {cc : ByteArray} {pc : Nat} {ls : Array Slot} {rest : List Value} {D : va_G} {A : Nat → Prop} {ad : Nat → Nat} {ca : Nat → ClassId} {tw nL : Nat} {σ : St} {own : String} {index : Nat} (X : Cx p s m args c own cc nL D ad ca tw A) (hP : va_P D vwCl (wl ad ca σ) H) (hS : va_S A s.heap H locs) (hR : 5 ≤ R.frames ∧ 111 ≤ R.locals) (hcap : cells ≤ R.cells ∧ slots ≤ R.slots) (hlk : Cond.methodLink own index yX3_take ∈ wsL_law0) (hsz : ls.size = nL) (hrs : (rest.map fun v => v.category).sum ≤ 8) (hdg : decode cc pc = .ok (.invokevirtual index, 3)) (x1 : Int32) (hwf : WF σ) (hg : inr x1 (σ.1 0 5)) (ha : ¬ σ.1 (34 + x1.toNatClampNeg) 8 = 0)
    (kk : ∀ (H1 : Heap) (locs1 : List Loc), va_P D vwCl (wl ad ca (f_take σ x1).2) H1 → va_S A s.heap H1 locs1 → W p l e R s m args below meth c H1 locs1 cells slots Q (F0 m (pc + 3) ls (.int (f_take σ x1).1 :: rest))) : W p l e R s m args below meth c H locs cells slots Q (F0 m pc ls (.int x1 :: .ref (ad 0) :: rest)) := by
  refine q_bi X hS (q_runV (as := [.int x1]) X hP hS (q_cwV (rm := ({ frames := 4, cells := 0, slots := 0, locals := 88 } : Room)) (k := 1) X.2.2.2.2.1 hlk wd307 wd308 wd2 wd309 rfl rfl (by decide +kernel) rfl ⟨hR.1, hR.2⟩) (c_take l D ad ca tw X.2.2.2.2.2.2.1 σ x1 hwf hg ha) rfl hsz rfl hrs hdg hcap) (fun r u H1 locs1 h1 h2 h3 => ?_)
  have e1 := congrArg Prod.fst h1
  have e2 := congrArg Prod.snd h1
  dsimp only at e1 e2
  subst e1
  subst e2
  exact kk H1 locs1 h2 h3
set_option maxHeartbeats 4000000 in
set_option maxRecDepth 100000 in
theorem c_weather (l : Launch) (D : va_G) (ad : Nat → Nat) (ca : Nat → ClassId) (tw : Nat) (hI : ∀ i j, i < 40 → j < 40 → ad i = ad j → i = j) (σ : St) (x1 : Int32) (x2 : Int32) (hwf : WF σ) (hw : (0 : Int32).toInt ≤ x1.toInt ∧ x1.toInt ≤ (9 : Int32).toInt) (hbl : b01 x2) : Met l yX3_weather (wm yX3_weather cX3_weather 5 (some .int)) ({ frames := 5, cells := 0, slots := 0, locals := 108 } : Room) (va_Pc [.ref (ad 0), .int x1, .int x2] (wPre D ad ca tw σ)) (va_Qi (fun r u => (r, u) = f_weather σ x1 x2) (wB D ad ca) (Aw ad)) 0 0 (Aw ad) := by
  generalize hF : f_weather σ x1 x2 = F
  refine Met.ofW (cc := cX3_weather) (maxL := 5) (ret := (some .int)) (by decide) rfl ?_
  intro p e s m args below meth c s₁ B hml hv
  obtain ⟨rfl, hv⟩ := hv
  have X := q_open (own := RX3) B rfl hml hI hv
  have hx := X.1
  have hb := X.2.1
  have hts := X.2.2.2.2.1
  have hr := B.returns
  have hlocks := B.notSynchronized
  have hP := hv.1
  have hS : va_S (Aw ad) s.heap s.heap [] := va_S.rf
  have hl := lv_entry ([.ref (ad 0), .int x1, .int x2]) (n := 5) (Nat.le_of_ble_eq_true rfl)
  rw [lg_entry_eq]
  generalize (lg_sl ([.ref (ad 0), .int x1, .int x2]) ++ List.replicate (5 - (lg_sl ([.ref (ad 0), .int x1, .int x2])).length) Slot.unset).toArray = ls at hl ⊢
  have hl : lv_has ls 5 [(0, .ref (ad 0)), (1, .int x1), (2, .int x2)] := hl
  unfold f_weather at hF
  replace hF : ((fun σ1 : St => ((fun σ2 : St => (f_weather_L25 σ 128 σ2 (0 : Int32))) (up σ1 0 10 x2))) (up σ 0 9 x1)) = F := hF
  refine lv_iload_n hx hb dX3_weather_0 rfl (lv_at hl 1 rfl) ?_
  refine lv_iconst (v := (0 : Int32)) hx hb dX3_weather_1 (by decide) ?_
  refine lv_bipush (v := (9 : Int32)) hx hb dX3_weather_2 (by decide) ?_
  refine k_requireRange X hP hS ⟨Nat.le_of_ble_eq_true rfl, Nat.le_of_ble_eq_true rfl⟩ ⟨Nat.zero_le _, Nat.zero_le _⟩ wd137 hl.1 (Nat.le_of_ble_eq_true rfl) dX3_weather_4 x1 (0 : Int32) (9 : Int32) hwf hw (fun H locs hP hS => ?_)
  refine lv_aload_n hx hb dX3_weather_7 rfl (lv_at hl 0 rfl) ?_
  refine k_armedSet X hP hS ⟨Nat.le_of_ble_eq_true rfl, Nat.le_of_ble_eq_true rfl⟩ ⟨Nat.zero_le _, Nat.zero_le _⟩ wd146 hl.1 (Nat.le_of_ble_eq_true rfl) dX3_weather_8  hwf  (fun H locs hP hS => ?_)
  refine lv_istore_n (lv' := [(3, .int (f_armedSet σ)), (0, .ref (ad 0)), (1, .int x1), (2, .int x2)]) hx hb dX3_weather_11 rfl hl (by decide) rfl (fun ls hl => ?_)
  refine lv_aload_n hx hb dX3_weather_12 rfl (lv_at hl 1 rfl) ?_
  refine lv_iload_n hx hb dX3_weather_13 rfl (lv_at hl 2 rfl) ?_
  refine q_putM (ty := .int) X hP hS 9 (by decide) (hts _ wd22) rfl (by decide +kernel) rfl rfl dX3_weather_14 (fun H locs hP hS => ?_)
  have hw_σ1 : WF (up σ 0 9 x1) := wf_M9 hwf hw
  generalize hs_σ1 : (up σ 0 9 x1) = σ1 at hP hw_σ1 hF
  replace hF : ((fun σ2 : St => (f_weather_L25 σ 128 σ2 (0 : Int32))) (up σ1 0 10 x2)) = F := hF
  refine lv_aload_n hx hb dX3_weather_17 rfl (lv_at hl 1 rfl) ?_
  refine lv_iload_n hx hb dX3_weather_18 rfl (lv_at hl 3 rfl) ?_
  refine q_putM (ty := .boolean) X hP hS 10 (by decide) (hts _ wd23) rfl (by decide +kernel) (nb01 hbl) (fb01 hbl) dX3_weather_19 (fun H locs hP hS => ?_)
  have hw_σ2 : WF (up σ1 0 10 x2) := wf_up hw_σ1 (fun _ => by decide) (fun h => absurd h (by decide)) (fun h => absurd h (by decide))
  generalize hs_σ2 : (up σ1 0 10 x2) = σ2 at hP hw_σ2 hF
  replace hF : (f_weather_L25 σ 128 σ2 (0 : Int32)) = F := hF
  refine lv_iconst (v := (0 : Int32)) hx hb dX3_weather_22 (by decide) ?_
  refine lv_istore (lv' := [(4, .int (0 : Int32)), (3, .int (f_armedSet σ)), (0, .ref (ad 0)), (1, .int x1), (2, .int x2)]) hx hb dX3_weather_23 hl (by decide) rfl (fun ls hl => ?_)
  have L_25 : ∀ (n_25 : Nat) (σ_25 : St) (y4_25 : Int32) (H : Heap) (locs : List Loc) (ls : Array Slot), WF σ_25 → lpI 6 y4_25 n_25 → va_P D vwCl (wl ad ca σ_25) H → va_S (Aw ad) s.heap H locs → lv_has ls 5 [(4, .int y4_25), (3, .int (f_armedSet σ)), (0, .ref (ad 0)), (1, .int x1), (2, .int x2)] → f_weather_L25 σ (n_25) σ_25 y4_25 = F → W p l e (headSpec (wm yX3_weather cX3_weather 5 (some .int)) ({ frames := 5, cells := 0, slots := 0, locals := 108 } : Room)).room s m ([.ref (ad 0), .int x1, .int x2] : List Value).toArray below meth c H locs 0 0 (MQ below (va_Qi (fun r u => (r, u) = F) (wB D ad ca) (Aw ad)) ([.ref (ad 0), .int x1, .int x2] : List Value).toArray s 0 0 (Aw ad)) (F0 m 25 ls []) := by
    intro n_25
    induction n_25 with
    | zero => intro σ_25 y4_25 H locs ls hw_25 hi_25 _ _ _ _; exact absurd hi_25 (fun h => lp_0 h)
    | succ n_25 ih_25 =>
      intro σ_25 y4_25 H locs ls hw_25 hi_25 hP hS hl hF
      rw [f_weather_L25] at hF
      refine lv_iload hx hb dX3_weather_25 (lv_at hl 0 rfl) ?_
      refine lv_aload_n hx hb dX3_weather_27 rfl (lv_at hl 2 rfl) ?_
      refine q_getM (v := .int (σ_25.1 0 5)) X hP 5 (by decide) (hts _ wd18) rfl dX3_weather_28 ?_
      refine lv_icmp_ge (tgt := 64) hx hb dX3_weather_31 (by decide) (fun c_31 => ?_) (fun c_31 => ?_)
      · rw [if_pos c_31] at hF
        refine lv_aload_n hx hb dX3_weather_64 rfl (lv_at hl 2 rfl) ?_
        refine k_standDownOccupied X hP hS ⟨Nat.le_of_ble_eq_true rfl, Nat.le_of_ble_eq_true rfl⟩ ⟨Nat.zero_le _, Nat.zero_le _⟩ wd86 hl.1 (Nat.le_of_ble_eq_true rfl) dX3_weather_65  hw_25  (fun H locs hP hS => ?_)
        have hw_σ3 : WF (f_standDownOccupied σ_25) := wf_standDownOccupied hw_25 
        generalize hs_σ3 : (f_standDownOccupied σ_25) = σ3 at hP hw_σ3 hF
        replace hF : (((f_armedSet σ) &&& ((f_armedSet σ3) ^^^ (-1 : Int32))), σ3) = F := hF
        refine lv_iload_n hx hb dX3_weather_68 rfl (lv_at hl 1 rfl) ?_
        refine lv_aload_n hx hb dX3_weather_69 rfl (lv_at hl 2 rfl) ?_
        refine k_armedSet X hP hS ⟨Nat.le_of_ble_eq_true rfl, Nat.le_of_ble_eq_true rfl⟩ ⟨Nat.zero_le _, Nat.zero_le _⟩ wd146 hl.1 (Nat.le_of_ble_eq_true rfl) dX3_weather_70  hw_σ3  (fun H locs hP hS => ?_)
        refine lv_iconst (v := (-1 : Int32)) hx hb dX3_weather_73 (by decide) ?_
        refine lv_ixor hx hb dX3_weather_74 ?_
        refine lv_iand hx hb dX3_weather_75 ?_
        exact W.iret (v := ((f_armedSet σ) &&& ((f_armedSet σ3) ^^^ (-1 : Int32)))) hx hb hr (fun t ht hW => ⟨⟨((f_armedSet σ) &&& ((f_armedSet σ3) ^^^ (-1 : Int32))), σ3, rfl, hF, wB_of ht hP⟩, hS.F ht⟩) hS.2.2 dX3_weather_76
      · have hlt_25 : y4_25.toInt < 6 := lt_nle c_31 hw_25.2.2.1.2
        rw [if_neg c_31] at hF
        refine lv_aload_n hx hb dX3_weather_34 rfl (lv_at hl 2 rfl) ?_
        refine lv_iload hx hb dX3_weather_35 (lv_at hl 0 rfl) ?_
        refine k_windBars X hP hS ⟨Nat.le_of_ble_eq_true rfl, Nat.le_of_ble_eq_true rfl⟩ ⟨Nat.zero_le _, Nat.zero_le _⟩ wd223 hl.1 (Nat.le_of_ble_eq_true rfl) dX3_weather_37 y4_25 hw_25 (lp_i hi_25 hlt_25) (fun H locs hP hS => ?_)
        refine lv_if_ne (tgt := 52) hx hb dX3_weather_40 (by decide) (fun c_40 => ?_) (fun c_40 => ?_)
        · rw [if_neg c_40] at hF
          refine lv_aload_n hx hb dX3_weather_52 rfl (lv_at hl 2 rfl) ?_
          refine lv_iload hx hb dX3_weather_53 (lv_at hl 0 rfl) ?_
          refine k_standDown X hP hS ⟨Nat.le_of_ble_eq_true rfl, Nat.le_of_ble_eq_true rfl⟩ ⟨Nat.zero_le _, Nat.zero_le _⟩ wd118 hl.1 (Nat.le_of_ble_eq_true rfl) dX3_weather_55 y4_25 hw_25 (lp_i hi_25 hlt_25) (fun H locs hP hS => ?_)
          have hw_σ4 : WF (f_standDown σ_25 y4_25) := wf_standDown hw_25 (lp_i hi_25 hlt_25)
          generalize hs_σ4 : (f_standDown σ_25 y4_25) = σ4 at hP hw_σ4 hF
          replace hF : (f_weather_L25 σ n_25 σ4 (y4_25 + (1 : Int32))) = F := hF
          refine lv_iinc (v := (y4_25 + (1 : Int32))) (lv' := [(4, .int (y4_25 + (1 : Int32))), (3, .int (f_armedSet σ)), (0, .ref (ad 0)), (1, .int x1), (2, .int x2)]) hx hb dX3_weather_58 hl (k := 0) rfl rfl (by decide) rfl (fun ls hl => ?_)
          refine lv_goto (tgt := 25) hx hb dX3_weather_61 (by decide) ?_
          exact ih_25 σ4 (y4_25 + (1 : Int32)) _ _ _ hw_σ4 (lp_s hi_25 hlt_25) hP hS (lv_sub hl [0, 1, 2, 3, 4] rfl) hF
        · rw [if_pos c_40] at hF
          refine lv_aload_n hx hb dX3_weather_43 rfl (lv_at hl 2 rfl) ?_
          refine lv_iload hx hb dX3_weather_44 (lv_at hl 0 rfl) ?_
          refine k_darkBars X hP hS ⟨Nat.le_of_ble_eq_true rfl, Nat.le_of_ble_eq_true rfl⟩ ⟨Nat.zero_le _, Nat.zero_le _⟩ wd228 hl.1 (Nat.le_of_ble_eq_true rfl) dX3_weather_46 y4_25 hw_25 (lp_i hi_25 hlt_25) (fun H locs hP hS => ?_)
          refine lv_if_eq (tgt := 58) hx hb dX3_weather_49 (by decide) (fun c_49 => ?_) (fun c_49 => ?_)
          · rw [if_pos c_49] at hF
            refine lv_iinc (v := (y4_25 + (1 : Int32))) (lv' := [(4, .int (y4_25 + (1 : Int32))), (3, .int (f_armedSet σ)), (0, .ref (ad 0)), (1, .int x1), (2, .int x2)]) hx hb dX3_weather_58 hl (k := 0) rfl rfl (by decide) rfl (fun ls hl => ?_)
            refine lv_goto (tgt := 25) hx hb dX3_weather_61 (by decide) ?_
            exact ih_25 σ_25 (y4_25 + (1 : Int32)) _ _ _ hw_25 (lp_s hi_25 hlt_25) hP hS (lv_sub hl [0, 1, 2, 3, 4] rfl) hF
          · rw [if_neg c_49] at hF
            refine lv_aload_n hx hb dX3_weather_52 rfl (lv_at hl 2 rfl) ?_
            refine lv_iload hx hb dX3_weather_53 (lv_at hl 0 rfl) ?_
            refine k_standDown X hP hS ⟨Nat.le_of_ble_eq_true rfl, Nat.le_of_ble_eq_true rfl⟩ ⟨Nat.zero_le _, Nat.zero_le _⟩ wd118 hl.1 (Nat.le_of_ble_eq_true rfl) dX3_weather_55 y4_25 hw_25 (lp_i hi_25 hlt_25) (fun H locs hP hS => ?_)
            have hw_σ5 : WF (f_standDown σ_25 y4_25) := wf_standDown hw_25 (lp_i hi_25 hlt_25)
            generalize hs_σ5 : (f_standDown σ_25 y4_25) = σ5 at hP hw_σ5 hF
            replace hF : (f_weather_L25 σ n_25 σ5 (y4_25 + (1 : Int32))) = F := hF
            refine lv_iinc (v := (y4_25 + (1 : Int32))) (lv' := [(4, .int (y4_25 + (1 : Int32))), (3, .int (f_armedSet σ)), (0, .ref (ad 0)), (1, .int x1), (2, .int x2)]) hx hb dX3_weather_58 hl (k := 0) rfl rfl (by decide) rfl (fun ls hl => ?_)
            refine lv_goto (tgt := 25) hx hb dX3_weather_61 (by decide) ?_
            exact ih_25 σ5 (y4_25 + (1 : Int32)) _ _ _ hw_σ5 (lp_s hi_25 hlt_25) hP hS (lv_sub hl [0, 1, 2, 3, 4] rfl) hF
  exact L_25 128 σ2 (0 : Int32) _ _ _ hw_σ2 (lp_z (by decide)) hP hS hl hF
theorem k_weather {p : Program} {l : Launch} {e : Env} {R : Room} {s : State} {m : MethodId} {args : Array Value} {below : List Frame} {meth : Method} {c : Code} {H : Heap} {locs : List Loc} {cells slots : Nat} {Q : State → Prop} {cc : ByteArray} {pc : Nat} {ls : Array Slot} {rest : List Value} {D : va_G} {A : Nat → Prop} {ad : Nat → Nat} {ca : Nat → ClassId} {tw nL : Nat} {σ : St} {own : String} {index : Nat} (X : Cx p s m args c own cc nL D ad ca tw A) (hP : va_P D vwCl (wl ad ca σ) H) (hS : va_S A s.heap H locs) (hR : 6 ≤ R.frames ∧ 132 ≤ R.locals) (hcap : cells ≤ R.cells ∧ slots ≤ R.slots) (hlk : Cond.methodLink own index yX3_weather ∈ wsL_law0) (hsz : ls.size = nL) (hrs : (rest.map fun v => v.category).sum ≤ 8) (hdg : decode cc pc = .ok (.invokevirtual index, 3)) (x1 : Int32) (x2 : Int32) (hwf : WF σ) (hw : (0 : Int32).toInt ≤ x1.toInt ∧ x1.toInt ≤ (9 : Int32).toInt) (hbl : b01 x2)
    (kk : ∀ (H1 : Heap) (locs1 : List Loc), va_P D vwCl (wl ad ca (f_weather σ x1 x2).2) H1 → va_S A s.heap H1 locs1 → W p l e R s m args below meth c H1 locs1 cells slots Q (F0 m (pc + 3) ls (.int (f_weather σ x1 x2).1 :: rest))) : W p l e R s m args below meth c H locs cells slots Q (F0 m pc ls (.int x2 :: .int x1 :: .ref (ad 0) :: rest)) := by
  refine q_bi X hS (q_runV (as := [.int x1, .int x2]) X hP hS (q_cwV (rm := ({ frames := 5, cells := 0, slots := 0, locals := 108 } : Room)) (k := 2) X.2.2.2.2.1 hlk wd332 wd333 wd2 wd334 rfl rfl (by decide +kernel) rfl ⟨hR.1, hR.2⟩) (c_weather l D ad ca tw X.2.2.2.2.2.2.1 σ x1 x2 hwf hw hbl) rfl hsz rfl hrs hdg hcap) (fun r u H1 locs1 h1 h2 h3 => ?_)
  have e1 := congrArg Prod.fst h1
  have e2 := congrArg Prod.snd h1
  dsimp only at e1 e2
  subst e1
  subst e2
  exact kk H1 locs1 h2 h3
set_option maxHeartbeats 4000000 in
set_option maxRecDepth 100000 in
theorem c_pass (l : Launch) (D : va_G) (ad : Nat → Nat) (ca : Nat → ClassId) (tw : Nat) (hI : ∀ i j, i < 40 → j < 40 → ad i = ad j → i = j) (σ : St) (x1 : Int32) (hwf : WF σ) (hd : (1 : Int32).toInt ≤ x1.toInt ∧ x1.toInt ≤ (30 : Int32).toInt) (hz : f_armedSet σ = 0) : Met l yX3_pass (wm yX3_pass cX3_pass 3 (some .int)) ({ frames := 2, cells := 0, slots := 0, locals := 43 } : Room) (va_Pc [.ref (ad 0), .int x1] (wPre D ad ca tw σ)) (va_Qi (fun r u => (r, u) = f_pass σ x1) (wB D ad ca) (Aw ad)) 0 0 (Aw ad) := by
  generalize hF : f_pass σ x1 = F
  refine Met.ofW (cc := cX3_pass) (maxL := 3) (ret := (some .int)) (by decide) rfl ?_
  intro p e s m args below meth c s₁ B hml hv
  obtain ⟨rfl, hv⟩ := hv
  have X := q_open (own := RX3) B rfl hml hI hv
  have hx := X.1
  have hb := X.2.1
  have hts := X.2.2.2.2.1
  have hr := B.returns
  have hlocks := B.notSynchronized
  have hP := hv.1
  have hS : va_S (Aw ad) s.heap s.heap [] := va_S.rf
  have hl := lv_entry ([.ref (ad 0), .int x1]) (n := 3) (Nat.le_of_ble_eq_true rfl)
  rw [lg_entry_eq]
  generalize (lg_sl ([.ref (ad 0), .int x1]) ++ List.replicate (3 - (lg_sl ([.ref (ad 0), .int x1])).length) Slot.unset).toArray = ls at hl ⊢
  have hl : lv_has ls 3 [(0, .ref (ad 0)), (1, .int x1)] := hl
  unfold f_pass at hF
  replace hF : (f_pass_L26 x1 128 σ (0 : Int32)) = F := hF
  refine lv_iload_n hx hb dX3_pass_0 rfl (lv_at hl 1 rfl) ?_
  refine lv_iconst (v := (1 : Int32)) hx hb dX3_pass_1 (by decide) ?_
  refine lv_bipush (v := (30 : Int32)) hx hb dX3_pass_2 (by decide) ?_
  refine k_requireRange X hP hS ⟨Nat.le_of_ble_eq_true rfl, Nat.le_of_ble_eq_true rfl⟩ ⟨Nat.zero_le _, Nat.zero_le _⟩ wd137 hl.1 (Nat.le_of_ble_eq_true rfl) dX3_pass_4 x1 (1 : Int32) (30 : Int32) hwf hd (fun H locs hP hS => ?_)
  refine lv_aload_n hx hb dX3_pass_7 rfl (lv_at hl 0 rfl) ?_
  refine k_armedSet X hP hS ⟨Nat.le_of_ble_eq_true rfl, Nat.le_of_ble_eq_true rfl⟩ ⟨Nat.zero_le _, Nat.zero_le _⟩ wd146 hl.1 (Nat.le_of_ble_eq_true rfl) dX3_pass_8  hwf  (fun H locs hP hS => ?_)
  refine lv_if_eq (tgt := 24) hx hb dX3_pass_11 (by decide) (fun c_11 => ?_) (fun c_11 => ?_)
  · refine lv_iconst (v := (0 : Int32)) hx hb dX3_pass_24 (by decide) ?_
    refine lv_istore_n (lv' := [(2, .int (0 : Int32)), (0, .ref (ad 0)), (1, .int x1)]) hx hb dX3_pass_25 rfl hl (by decide) rfl (fun ls hl => ?_)
    have L_26 : ∀ (n_26 : Nat) (σ_26 : St) (y2_26 : Int32) (H : Heap) (locs : List Loc) (ls : Array Slot), WF σ_26 → lpI 30 y2_26 n_26 → va_P D vwCl (wl ad ca σ_26) H → va_S (Aw ad) s.heap H locs → lv_has ls 3 [(2, .int y2_26), (0, .ref (ad 0)), (1, .int x1)] → f_pass_L26 x1 (n_26) σ_26 y2_26 = F → W p l e (headSpec (wm yX3_pass cX3_pass 3 (some .int)) ({ frames := 2, cells := 0, slots := 0, locals := 43 } : Room)).room s m ([.ref (ad 0), .int x1] : List Value).toArray below meth c H locs 0 0 (MQ below (va_Qi (fun r u => (r, u) = F) (wB D ad ca) (Aw ad)) ([.ref (ad 0), .int x1] : List Value).toArray s 0 0 (Aw ad)) (F0 m 26 ls []) := by
      intro n_26
      induction n_26 with
      | zero => intro σ_26 y2_26 H locs ls hw_26 hi_26 _ _ _ _; exact absurd hi_26 (fun h => lp_0 h)
      | succ n_26 ih_26 =>
        intro σ_26 y2_26 H locs ls hw_26 hi_26 hP hS hl hF
        rw [f_pass_L26] at hF
        refine lv_iload_n hx hb dX3_pass_26 rfl (lv_at hl 0 rfl) ?_
        refine lv_iload_n hx hb dX3_pass_27 rfl (lv_at hl 2 rfl) ?_
        refine lv_icmp_ge (tgt := 41) hx hb dX3_pass_28 (by decide) (fun c_28 => ?_) (fun c_28 => ?_)
        · rw [if_pos c_28] at hF
          refine lv_aload_n hx hb dX3_pass_41 rfl (lv_at hl 1 rfl) ?_
          refine q_getM (v := .int (σ_26.1 0 8)) X hP 8 (by decide) (hts _ wd21) rfl dX3_pass_42 ?_
          exact W.iret (v := (σ_26.1 0 8)) hx hb hr (fun t ht hW => ⟨⟨(σ_26.1 0 8), σ_26, rfl, hF, wB_of ht hP⟩, hS.F ht⟩) hS.2.2 dX3_pass_45
        · have hlt_26 : y2_26.toInt < 30 := lt_nle c_28 (by have q := hd.2; rw [show (30 : Int32).toInt = 30 from rfl] at q; exact q)
          rw [if_neg c_28] at hF
          refine lv_aload_n hx hb dX3_pass_31 rfl (lv_at hl 1 rfl) ?_
          refine k_passOneDay X hP hS ⟨Nat.le_of_ble_eq_true rfl, Nat.le_of_ble_eq_true rfl⟩ ⟨Nat.zero_le _, Nat.zero_le _⟩ wd359 hl.1 (Nat.le_of_ble_eq_true rfl) dX3_pass_32  hw_26  (fun H locs hP hS => ?_)
          have hw_σ1 : WF (f_passOneDay σ_26) := wf_passOneDay hw_26 
          generalize hs_σ1 : (f_passOneDay σ_26) = σ1 at hP hw_σ1 hF
          replace hF : (f_pass_L26 x1 n_26 σ1 (y2_26 + (1 : Int32))) = F := hF
          refine lv_iinc (v := (y2_26 + (1 : Int32))) (lv' := [(2, .int (y2_26 + (1 : Int32))), (0, .ref (ad 0)), (1, .int x1)]) hx hb dX3_pass_35 hl (k := 0) rfl rfl (by decide) rfl (fun ls hl => ?_)
          refine lv_goto (tgt := 26) hx hb dX3_pass_38 (by decide) ?_
          exact ih_26 σ1 (y2_26 + (1 : Int32)) _ _ _ hw_σ1 (lp_s hi_26 hlt_26) hP hS (lv_sub hl [0, 1, 2] rfl) hF
    exact L_26 128 σ (0 : Int32) _ _ _ hwf (lp_z (by decide)) hP hS hl hF
  · first | exact absurd c_11 hd | exact absurd hd c_11 | exact absurd c_11 hz | exact absurd hz c_11
theorem k_pass {p : Program} {l : Launch} {e : Env} {R : Room} {s : State} {m : MethodId} {args : Array Value} {below : List Frame} {meth : Method} {c : Code} {H : Heap} {locs : List Loc} {cells slots : Nat} {Q : State → Prop} {cc : ByteArray} {pc : Nat} {ls : Array Slot} {rest : List Value} {D : va_G} {A : Nat → Prop} {ad : Nat → Nat} {ca : Nat → ClassId} {tw nL : Nat} {σ : St} {own : String} {index : Nat} (X : Cx p s m args c own cc nL D ad ca tw A) (hP : va_P D vwCl (wl ad ca σ) H) (hS : va_S A s.heap H locs) (hR : 3 ≤ R.frames ∧ 65 ≤ R.locals) (hcap : cells ≤ R.cells ∧ slots ≤ R.slots) (hlk : Cond.methodLink own index yX3_pass ∈ wsL_law0) (hsz : ls.size = nL) (hrs : (rest.map fun v => v.category).sum ≤ 8) (hdg : decode cc pc = .ok (.invokevirtual index, 3)) (x1 : Int32) (hwf : WF σ) (hd : (1 : Int32).toInt ≤ x1.toInt ∧ x1.toInt ≤ (30 : Int32).toInt) (hz : f_armedSet σ = 0)
    (kk : ∀ (H1 : Heap) (locs1 : List Loc), va_P D vwCl (wl ad ca (f_pass σ x1).2) H1 → va_S A s.heap H1 locs1 → W p l e R s m args below meth c H1 locs1 cells slots Q (F0 m (pc + 3) ls (.int (f_pass σ x1).1 :: rest))) : W p l e R s m args below meth c H locs cells slots Q (F0 m pc ls (.int x1 :: .ref (ad 0) :: rest)) := by
  refine q_bi X hS (q_runV (as := [.int x1]) X hP hS (q_cwV (rm := ({ frames := 2, cells := 0, slots := 0, locals := 43 } : Room)) (k := 1) X.2.2.2.2.1 hlk wd356 wd357 wd2 wd358 rfl rfl (by decide +kernel) rfl ⟨hR.1, hR.2⟩) (c_pass l D ad ca tw X.2.2.2.2.2.2.1 σ x1 hwf hd hz) rfl hsz rfl hrs hdg hcap) (fun r u H1 locs1 h1 h2 h3 => ?_)
  have e1 := congrArg Prod.fst h1
  have e2 := congrArg Prod.snd h1
  dsimp only at e1 e2
  subst e1
  subst e2
  exact kk H1 locs1 h2 h3
