set_option maxHeartbeats 4000000 in
set_option maxRecDepth 100000 in
theorem c_ready (l : Launch) (D : va_G) (ad : Nat → Nat) (ca : Nat → ClassId) (tw : Nat) (hI : ∀ i j, i < 40 → j < 40 → ad i = ad j → i = j) (σ : St) (x1 : Int32) (iv_σ : INV σ) (pf_σ : PF σ) (ct_σ : σ.1 0 3 = 5 ∧ σ.1 0 4 = 8 ∧ σ.1 0 5 = 4) (hg : vp_in x1 4) (ha : σ.1 (34 + x1.toNatClampNeg) 8 = 0) : Met l yL_ready (wm yL_ready cL_ready 3 none) ({ frames := 6, cells := 0, slots := 0, locals := 134 } : Room) (va_Pc [.ref (ad 0), .int x1] (wPre D ad ca tw σ)) (va_Qv (fun u => Q σ u) (wB D ad ca) (Aw ad)) 0 0 (Aw ad) := by
  refine Met.ofW (cc := cL_ready) (maxL := 3) (ret := none) (by decide) rfl ?_
  intro p e s m args below meth c s₁ B hml hv
  obtain ⟨rfl, hv⟩ := hv
  have X := q_open (own := RL) B rfl hml hI hv
  have hx := X.1
  have hb := X.2.1
  have hts := X.2.2.2.2.1
  have hr := B.returns
  have hlocks := B.notSynchronized
  have hP := hv.1
  have hS : va_S (Aw ad) s.heap s.heap [] := va_S.rf
  have hU : va_P D vwCl [] s.heap := fun k q h => by simp at h
  have hUA : ∀ (k : Nat) (q : Nat × va_E), ([] : va_W)[k]? = some q → ¬ Aw ad q.1 := fun k q h => by simp at h
  have hl := lv_entry ([.ref (ad 0), .int x1]) (n := 3) (Nat.le_of_ble_eq_true rfl)
  rw [lg_entry_eq]
  generalize (lg_sl ([.ref (ad 0), .int x1]) ++ List.replicate (3 - (lg_sl ([.ref (ad 0), .int x1])).length) Slot.unset).toArray = ls at hl ⊢
  have hl : lv_has ls 3 [(0, .ref (ad 0)), (1, .int x1)] := hl
  refine lv_iconst (v := (0 : Int32)) hx hb dL_ready_0 (by decide) ?_
  refine lv_istore_n (lv' := [(2, .int (0 : Int32)), (0, .ref (ad 0)), (1, .int x1)]) hx hb dL_ready_1 rfl hl (by decide) rfl (fun ls hl => ?_)
  have L_2 : ∀ (n_2 : Nat) (σ_2 : St) (y2_2 : Int32) (H : Heap) (locs : List Loc) (ls : Array Slot), lpI 6 y2_2 n_2 → (Q σ σ_2) → va_P D vwCl (wl ad ca σ_2) H → va_P D vwCl [] H → va_S (Aw ad) s.heap H locs → lv_has ls 3 [(2, .int y2_2), (0, .ref (ad 0)), (1, .int x1)] → W p l e (headSpec (wm yL_ready cL_ready 3 none) ({ frames := 6, cells := 0, slots := 0, locals := 134 } : Room)).room s m ([.ref (ad 0), .int x1] : List Value).toArray below meth c H locs 0 0 (MQ below (va_Qv (fun u => Q σ u) (wB D ad ca) (Aw ad)) ([.ref (ad 0), .int x1] : List Value).toArray s 0 0 (Aw ad)) (F0 m 2 ls []) := by
    intro n_2
    induction n_2 with
    | zero => intro σ_2 y2_2 H locs ls hi_2; exact absurd hi_2 (fun h => lp_0 h)
    | succ n_2 ih_2 =>
      intro σ_2 y2_2 H locs ls hi_2 hq_σ_2 hP hU hS hl
      refine lv_iload_n hx hb dL_ready_2 rfl (lv_at hl 0 rfl) ?_
      refine lv_bipush (v := (6 : Int32)) hx hb dL_ready_3 (by decide) ?_
      refine lv_icmp_ge (tgt := 46) hx hb dL_ready_5 (by decide) (fun c_5 => ?_) (fun c_5 => ?_)
      · skip
        refine lv_iconst (v := (0 : Int32)) hx hb dL_ready_46 (by decide) ?_
        refine lv_istore_n (lv' := [(2, .int (0 : Int32)), (0, .ref (ad 0)), (1, .int x1)]) hx hb dL_ready_47 rfl hl (by decide) rfl (fun ls hl => ?_)
        have L_48 : ∀ (n_48 : Nat) (σ_48 : St) (y2_48 : Int32) (H : Heap) (locs : List Loc) (ls : Array Slot), lpI 3 y2_48 n_48 → (Q σ σ_48) → va_P D vwCl (wl ad ca σ_48) H → va_P D vwCl [] H → va_S (Aw ad) s.heap H locs → lv_has ls 3 [(2, .int y2_48), (0, .ref (ad 0)), (1, .int x1)] → W p l e (headSpec (wm yL_ready cL_ready 3 none) ({ frames := 6, cells := 0, slots := 0, locals := 134 } : Room)).room s m ([.ref (ad 0), .int x1] : List Value).toArray below meth c H locs 0 0 (MQ below (va_Qv (fun u => Q σ u) (wB D ad ca) (Aw ad)) ([.ref (ad 0), .int x1] : List Value).toArray s 0 0 (Aw ad)) (F0 m 48 ls []) := by
          intro n_48
          induction n_48 with
          | zero => intro σ_48 y2_48 H locs ls hi_48; exact absurd hi_48 (fun h => lp_0 h)
          | succ n_48 ih_48 =>
            intro σ_48 y2_48 H locs ls hi_48 hq_σ_48 hP hU hS hl
            refine lv_iload_n hx hb dL_ready_48 rfl (lv_at hl 0 rfl) ?_
            refine lv_iconst (v := (3 : Int32)) hx hb dL_ready_49 (by decide) ?_
            refine lv_icmp_ge (tgt := 91) hx hb dL_ready_50 (by decide) (fun c_50 => ?_) (fun c_50 => ?_)
            · skip
              exact W.vret hx hb hr (fun t ht hW => ⟨⟨σ_48, rfl, hq_σ_48, wB_of ht hP⟩, hS.F ht⟩) hS.2.2 dL_ready_91
            · have hlt_48 : y2_48.toInt < 3 := lt_nle c_50 (by decide)
              skip
              have iv_σ_48 := iv_σ.q hq_σ_48
              have pf_σ_48 := PF.q iv_σ.1.1 pf_σ hq_σ_48
              refine lv_aload_n hx hb dL_ready_53 rfl (lv_at hl 1 rfl) ?_
              refine lv_iload_n hx hb dL_ready_54 rfl (lv_at hl 2 rfl) ?_
              refine lv_bipush (v := (8 : Int32)) hx hb dL_ready_55 (by decide) ?_
              refine kx_ofGag X hP hS hU hUA ⟨Nat.le_of_ble_eq_true rfl, Nat.le_of_ble_eq_true rfl⟩ ⟨Nat.zero_le _, Nat.zero_le _⟩ wd163 hl.1 (Nat.le_of_ble_eq_true rfl) dL_ready_57 x1 (8 : Int32) iv_σ_48.1.1 (by rw [hq_σ_48.1.2.2.1, ct_σ.2.2]; exact inr_n hg (by decide)) (⟨by decide, by decide⟩) (fun H locs hP hU hS => ?_)
              refine lv_iconst (v := (4 : Int32)) hx hb dL_ready_60 (by decide) ?_
              refine lv_icmp_ne (tgt := 85) hx hb dL_ready_61 (by decide) (fun c_61 => ?_) (fun c_61 => ?_)
              · skip
                refine lv_iinc (v := (y2_48 + (1 : Int32))) (lv' := [(2, .int (y2_48 + (1 : Int32))), (0, .ref (ad 0)), (1, .int x1)]) hx hb dL_ready_85 hl (k := 0) rfl rfl (by decide) rfl (fun ls hl => ?_)
                refine lv_goto (tgt := 48) hx hb dL_ready_88 (by decide) ?_
                exact ih_48 σ_48 (y2_48 + (1 : Int32)) _ _ _ (lp_s hi_48 hlt_48) hq_σ_48 hP hU hS (lv_sub hl [0, 1, 2] rfl)
              · skip
                refine lv_aload_n hx hb dL_ready_64 rfl (lv_at hl 1 rfl) ?_
                refine lv_iload_n hx hb dL_ready_65 rfl (lv_at hl 2 rfl) ?_
                refine lv_bipush (v := (9 : Int32)) hx hb dL_ready_66 (by decide) ?_
                refine kx_ofGag X hP hS hU hUA ⟨Nat.le_of_ble_eq_true rfl, Nat.le_of_ble_eq_true rfl⟩ ⟨Nat.zero_le _, Nat.zero_le _⟩ wd163 hl.1 (Nat.le_of_ble_eq_true rfl) dL_ready_68 x1 (9 : Int32) iv_σ_48.1.1 (by rw [hq_σ_48.1.2.2.1, ct_σ.2.2]; exact inr_n hg (by decide)) (⟨by decide, by decide⟩) (fun H locs hP hU hS => ?_)
                refine lv_iload_n hx hb dL_ready_71 rfl (lv_at hl 0 rfl) ?_
                refine lv_ishr hx hb dL_ready_72 ?_
                refine lv_iconst (v := (1 : Int32)) hx hb dL_ready_73 (by decide) ?_
                refine lv_iand hx hb dL_ready_74 ?_
                refine lv_if_ne (tgt := 85) hx hb dL_ready_75 (by decide) (fun c_75 => ?_) (fun c_75 => ?_)
                · skip
                  refine lv_iinc (v := (y2_48 + (1 : Int32))) (lv' := [(2, .int (y2_48 + (1 : Int32))), (0, .ref (ad 0)), (1, .int x1)]) hx hb dL_ready_85 hl (k := 0) rfl rfl (by decide) rfl (fun ls hl => ?_)
                  refine lv_goto (tgt := 48) hx hb dL_ready_88 (by decide) ?_
                  exact ih_48 σ_48 (y2_48 + (1 : Int32)) _ _ _ (lp_s hi_48 hlt_48) hq_σ_48 hP hU hS (lv_sub hl [0, 1, 2] rfl)
                · skip
                  refine lv_aload_n hx hb dL_ready_78 rfl (lv_at hl 1 rfl) ?_
                  refine lv_iload_n hx hb dL_ready_79 rfl (lv_at hl 2 rfl) ?_
                  refine lv_iload_n hx hb dL_ready_80 rfl (lv_at hl 0 rfl) ?_
                  refine kx_sign X hP hS hU hUA ⟨Nat.le_of_ble_eq_true rfl, Nat.le_of_ble_eq_true rfl⟩ ⟨Nat.zero_le _, Nat.zero_le _⟩ wd295 hl.1 (Nat.le_of_ble_eq_true rfl) dL_ready_81 x1 y2_48 iv_σ_48.1.1 (by rw [hq_σ_48.1.2.2.1, ct_σ.2.2]; exact inr_n hg (by decide)) (lp_i hi_48 hlt_48) (by rw [rd_g8] at c_61; rw [c_61]; decide) (by rw [rd_g9] at c_75; exact set_0 (iv_σ_48.1.2.1 _ (ix_lt (vp_mono hg (by decide)))).2 (lp_i hi_48 hlt_48) c_75) (fun H locs hP hU hS => ?_)
                  have hq_σ1 : Q σ ((f_sign σ_48 x1 y2_48).2) := hq_σ_48.trans (Q_sign (iv_σ_48.1.2.1 _ (ix_lt (vp_mono hg (by decide)))).2 (lp_i hi_48 hlt_48) (q_a0 hq_σ_48 (vp_mono hg (by decide)) ha))
                  generalize (f_sign σ_48 x1 y2_48).2 = σ1 at hP hq_σ1
                  generalize (f_sign σ_48 x1 y2_48).1 = r2
                  refine lv_pop hx hb dL_ready_84 rfl ?_
                  refine lv_iinc (v := (y2_48 + (1 : Int32))) (lv' := [(2, .int (y2_48 + (1 : Int32))), (0, .ref (ad 0)), (1, .int x1)]) hx hb dL_ready_85 hl (k := 0) rfl rfl (by decide) rfl (fun ls hl => ?_)
                  refine lv_goto (tgt := 48) hx hb dL_ready_88 (by decide) ?_
                  exact ih_48 σ1 (y2_48 + (1 : Int32)) _ _ _ (lp_s hi_48 hlt_48) hq_σ1 hP hU hS (lv_sub hl [0, 1, 2] rfl)
        exact L_48 128 σ_2 (0 : Int32) _ _ _ (lp_z (by decide)) hq_σ_2 hP hU hS (lv_sub hl [0, 1, 2] rfl)
      · have hlt_2 : y2_2.toInt < 6 := lt_nle c_5 (by decide)
        skip
        have iv_σ_2 := iv_σ.q hq_σ_2
        have pf_σ_2 := PF.q iv_σ.1.1 pf_σ hq_σ_2
        refine lv_aload_n hx hb dL_ready_8 rfl (lv_at hl 1 rfl) ?_
        refine lv_iload_n hx hb dL_ready_9 rfl (lv_at hl 2 rfl) ?_
        refine lv_bipush (v := (8 : Int32)) hx hb dL_ready_10 (by decide) ?_
        refine kx_ofGag X hP hS hU hUA ⟨Nat.le_of_ble_eq_true rfl, Nat.le_of_ble_eq_true rfl⟩ ⟨Nat.zero_le _, Nat.zero_le _⟩ wd163 hl.1 (Nat.le_of_ble_eq_true rfl) dL_ready_12 x1 (8 : Int32) iv_σ_2.1.1 (by rw [hq_σ_2.1.2.2.1, ct_σ.2.2]; exact inr_n hg (by decide)) (⟨by decide, by decide⟩) (fun H locs hP hU hS => ?_)
        refine lv_iconst (v := (4 : Int32)) hx hb dL_ready_15 (by decide) ?_
        refine lv_icmp_ge (tgt := 46) hx hb dL_ready_16 (by decide) (fun c_16 => ?_) (fun c_16 => ?_)
        · skip
          refine lv_iconst (v := (0 : Int32)) hx hb dL_ready_46 (by decide) ?_
          refine lv_istore_n (lv' := [(2, .int (0 : Int32)), (0, .ref (ad 0)), (1, .int x1)]) hx hb dL_ready_47 rfl hl (by decide) rfl (fun ls hl => ?_)
          have L_48 : ∀ (n_48 : Nat) (σ_48 : St) (y2_48 : Int32) (H : Heap) (locs : List Loc) (ls : Array Slot), lpI 3 y2_48 n_48 → (Q σ σ_48) → va_P D vwCl (wl ad ca σ_48) H → va_P D vwCl [] H → va_S (Aw ad) s.heap H locs → lv_has ls 3 [(2, .int y2_48), (0, .ref (ad 0)), (1, .int x1)] → W p l e (headSpec (wm yL_ready cL_ready 3 none) ({ frames := 6, cells := 0, slots := 0, locals := 134 } : Room)).room s m ([.ref (ad 0), .int x1] : List Value).toArray below meth c H locs 0 0 (MQ below (va_Qv (fun u => Q σ u) (wB D ad ca) (Aw ad)) ([.ref (ad 0), .int x1] : List Value).toArray s 0 0 (Aw ad)) (F0 m 48 ls []) := by
            intro n_48
            induction n_48 with
            | zero => intro σ_48 y2_48 H locs ls hi_48; exact absurd hi_48 (fun h => lp_0 h)
            | succ n_48 ih_48 =>
              intro σ_48 y2_48 H locs ls hi_48 hq_σ_48 hP hU hS hl
              refine lv_iload_n hx hb dL_ready_48 rfl (lv_at hl 0 rfl) ?_
              refine lv_iconst (v := (3 : Int32)) hx hb dL_ready_49 (by decide) ?_
              refine lv_icmp_ge (tgt := 91) hx hb dL_ready_50 (by decide) (fun c_50 => ?_) (fun c_50 => ?_)
              · skip
                exact W.vret hx hb hr (fun t ht hW => ⟨⟨σ_48, rfl, hq_σ_48, wB_of ht hP⟩, hS.F ht⟩) hS.2.2 dL_ready_91
              · have hlt_48 : y2_48.toInt < 3 := lt_nle c_50 (by decide)
                skip
                have iv_σ_48 := iv_σ.q hq_σ_48
                have pf_σ_48 := PF.q iv_σ.1.1 pf_σ hq_σ_48
                refine lv_aload_n hx hb dL_ready_53 rfl (lv_at hl 1 rfl) ?_
                refine lv_iload_n hx hb dL_ready_54 rfl (lv_at hl 2 rfl) ?_
                refine lv_bipush (v := (8 : Int32)) hx hb dL_ready_55 (by decide) ?_
                refine kx_ofGag X hP hS hU hUA ⟨Nat.le_of_ble_eq_true rfl, Nat.le_of_ble_eq_true rfl⟩ ⟨Nat.zero_le _, Nat.zero_le _⟩ wd163 hl.1 (Nat.le_of_ble_eq_true rfl) dL_ready_57 x1 (8 : Int32) iv_σ_48.1.1 (by rw [hq_σ_48.1.2.2.1, ct_σ.2.2]; exact inr_n hg (by decide)) (⟨by decide, by decide⟩) (fun H locs hP hU hS => ?_)
                refine lv_iconst (v := (4 : Int32)) hx hb dL_ready_60 (by decide) ?_
                refine lv_icmp_ne (tgt := 85) hx hb dL_ready_61 (by decide) (fun c_61 => ?_) (fun c_61 => ?_)
                · skip
                  refine lv_iinc (v := (y2_48 + (1 : Int32))) (lv' := [(2, .int (y2_48 + (1 : Int32))), (0, .ref (ad 0)), (1, .int x1)]) hx hb dL_ready_85 hl (k := 0) rfl rfl (by decide) rfl (fun ls hl => ?_)
                  refine lv_goto (tgt := 48) hx hb dL_ready_88 (by decide) ?_
                  exact ih_48 σ_48 (y2_48 + (1 : Int32)) _ _ _ (lp_s hi_48 hlt_48) hq_σ_48 hP hU hS (lv_sub hl [0, 1, 2] rfl)
                · skip
                  refine lv_aload_n hx hb dL_ready_64 rfl (lv_at hl 1 rfl) ?_
                  refine lv_iload_n hx hb dL_ready_65 rfl (lv_at hl 2 rfl) ?_
                  refine lv_bipush (v := (9 : Int32)) hx hb dL_ready_66 (by decide) ?_
                  refine kx_ofGag X hP hS hU hUA ⟨Nat.le_of_ble_eq_true rfl, Nat.le_of_ble_eq_true rfl⟩ ⟨Nat.zero_le _, Nat.zero_le _⟩ wd163 hl.1 (Nat.le_of_ble_eq_true rfl) dL_ready_68 x1 (9 : Int32) iv_σ_48.1.1 (by rw [hq_σ_48.1.2.2.1, ct_σ.2.2]; exact inr_n hg (by decide)) (⟨by decide, by decide⟩) (fun H locs hP hU hS => ?_)
                  refine lv_iload_n hx hb dL_ready_71 rfl (lv_at hl 0 rfl) ?_
                  refine lv_ishr hx hb dL_ready_72 ?_
                  refine lv_iconst (v := (1 : Int32)) hx hb dL_ready_73 (by decide) ?_
                  refine lv_iand hx hb dL_ready_74 ?_
                  refine lv_if_ne (tgt := 85) hx hb dL_ready_75 (by decide) (fun c_75 => ?_) (fun c_75 => ?_)
                  · skip
                    refine lv_iinc (v := (y2_48 + (1 : Int32))) (lv' := [(2, .int (y2_48 + (1 : Int32))), (0, .ref (ad 0)), (1, .int x1)]) hx hb dL_ready_85 hl (k := 0) rfl rfl (by decide) rfl (fun ls hl => ?_)
                    refine lv_goto (tgt := 48) hx hb dL_ready_88 (by decide) ?_
                    exact ih_48 σ_48 (y2_48 + (1 : Int32)) _ _ _ (lp_s hi_48 hlt_48) hq_σ_48 hP hU hS (lv_sub hl [0, 1, 2] rfl)
                  · skip
                    refine lv_aload_n hx hb dL_ready_78 rfl (lv_at hl 1 rfl) ?_
                    refine lv_iload_n hx hb dL_ready_79 rfl (lv_at hl 2 rfl) ?_
                    refine lv_iload_n hx hb dL_ready_80 rfl (lv_at hl 0 rfl) ?_
                    refine kx_sign X hP hS hU hUA ⟨Nat.le_of_ble_eq_true rfl, Nat.le_of_ble_eq_true rfl⟩ ⟨Nat.zero_le _, Nat.zero_le _⟩ wd295 hl.1 (Nat.le_of_ble_eq_true rfl) dL_ready_81 x1 y2_48 iv_σ_48.1.1 (by rw [hq_σ_48.1.2.2.1, ct_σ.2.2]; exact inr_n hg (by decide)) (lp_i hi_48 hlt_48) (by rw [rd_g8] at c_61; rw [c_61]; decide) (by rw [rd_g9] at c_75; exact set_0 (iv_σ_48.1.2.1 _ (ix_lt (vp_mono hg (by decide)))).2 (lp_i hi_48 hlt_48) c_75) (fun H locs hP hU hS => ?_)
                    have hq_σ3 : Q σ ((f_sign σ_48 x1 y2_48).2) := hq_σ_48.trans (Q_sign (iv_σ_48.1.2.1 _ (ix_lt (vp_mono hg (by decide)))).2 (lp_i hi_48 hlt_48) (q_a0 hq_σ_48 (vp_mono hg (by decide)) ha))
                    generalize (f_sign σ_48 x1 y2_48).2 = σ3 at hP hq_σ3
                    generalize (f_sign σ_48 x1 y2_48).1 = r4
                    refine lv_pop hx hb dL_ready_84 rfl ?_
                    refine lv_iinc (v := (y2_48 + (1 : Int32))) (lv' := [(2, .int (y2_48 + (1 : Int32))), (0, .ref (ad 0)), (1, .int x1)]) hx hb dL_ready_85 hl (k := 0) rfl rfl (by decide) rfl (fun ls hl => ?_)
                    refine lv_goto (tgt := 48) hx hb dL_ready_88 (by decide) ?_
                    exact ih_48 σ3 (y2_48 + (1 : Int32)) _ _ _ (lp_s hi_48 hlt_48) hq_σ3 hP hU hS (lv_sub hl [0, 1, 2] rfl)
          exact L_48 128 σ_2 (0 : Int32) _ _ _ (lp_z (by decide)) hq_σ_2 hP hU hS (lv_sub hl [0, 1, 2] rfl)
        · skip
          refine lv_aload_n hx hb dL_ready_19 rfl (lv_at hl 1 rfl) ?_
          refine lv_aload_n hx hb dL_ready_20 rfl (lv_at hl 1 rfl) ?_
          refine lv_iload_n hx hb dL_ready_21 rfl (lv_at hl 2 rfl) ?_
          refine lv_iconst (v := (1 : Int32)) hx hb dL_ready_22 (by decide) ?_
          refine kx_ofGag X hP hS hU hUA ⟨Nat.le_of_ble_eq_true rfl, Nat.le_of_ble_eq_true rfl⟩ ⟨Nat.zero_le _, Nat.zero_le _⟩ wd163 hl.1 (Nat.le_of_ble_eq_true rfl) dL_ready_23 x1 (1 : Int32) iv_σ_2.1.1 (by rw [hq_σ_2.1.2.2.1, ct_σ.2.2]; exact inr_n hg (by decide)) (⟨by decide, by decide⟩) (fun H locs hP hU hS => ?_)
          refine lv_bipush (v := (8 : Int32)) hx hb dL_ready_26 (by decide) ?_
          refine kx_ofPerson X hP hS hU hUA ⟨Nat.le_of_ble_eq_true rfl, Nat.le_of_ble_eq_true rfl⟩ ⟨Nat.zero_le _, Nat.zero_le _⟩ wd274 hl.1 (Nat.le_of_ble_eq_true rfl) dL_ready_28 (f_ofGag σ_2 x1 (1 : Int32)) (8 : Int32) iv_σ_2.1.1 (by rw [rd_g1]; exact pf_σ_2 _ (by rw [hq_σ_2.1.2.2.1, ct_σ.2.2]; exact inr_n hg (by decide))) (⟨by decide, by decide⟩) (fun H locs hP hU hS => ?_)
          refine lv_if_ne (tgt := 46) hx hb dL_ready_31 (by decide) (fun c_31 => ?_) (fun c_31 => ?_)
          · skip
            refine lv_iconst (v := (0 : Int32)) hx hb dL_ready_46 (by decide) ?_
            refine lv_istore_n (lv' := [(2, .int (0 : Int32)), (0, .ref (ad 0)), (1, .int x1)]) hx hb dL_ready_47 rfl hl (by decide) rfl (fun ls hl => ?_)
            have L_48 : ∀ (n_48 : Nat) (σ_48 : St) (y2_48 : Int32) (H : Heap) (locs : List Loc) (ls : Array Slot), lpI 3 y2_48 n_48 → (Q σ σ_48) → va_P D vwCl (wl ad ca σ_48) H → va_P D vwCl [] H → va_S (Aw ad) s.heap H locs → lv_has ls 3 [(2, .int y2_48), (0, .ref (ad 0)), (1, .int x1)] → W p l e (headSpec (wm yL_ready cL_ready 3 none) ({ frames := 6, cells := 0, slots := 0, locals := 134 } : Room)).room s m ([.ref (ad 0), .int x1] : List Value).toArray below meth c H locs 0 0 (MQ below (va_Qv (fun u => Q σ u) (wB D ad ca) (Aw ad)) ([.ref (ad 0), .int x1] : List Value).toArray s 0 0 (Aw ad)) (F0 m 48 ls []) := by
              intro n_48
              induction n_48 with
              | zero => intro σ_48 y2_48 H locs ls hi_48; exact absurd hi_48 (fun h => lp_0 h)
              | succ n_48 ih_48 =>
                intro σ_48 y2_48 H locs ls hi_48 hq_σ_48 hP hU hS hl
                refine lv_iload_n hx hb dL_ready_48 rfl (lv_at hl 0 rfl) ?_
                refine lv_iconst (v := (3 : Int32)) hx hb dL_ready_49 (by decide) ?_
                refine lv_icmp_ge (tgt := 91) hx hb dL_ready_50 (by decide) (fun c_50 => ?_) (fun c_50 => ?_)
                · skip
                  exact W.vret hx hb hr (fun t ht hW => ⟨⟨σ_48, rfl, hq_σ_48, wB_of ht hP⟩, hS.F ht⟩) hS.2.2 dL_ready_91
                · have hlt_48 : y2_48.toInt < 3 := lt_nle c_50 (by decide)
                  skip
                  have iv_σ_48 := iv_σ.q hq_σ_48
                  have pf_σ_48 := PF.q iv_σ.1.1 pf_σ hq_σ_48
                  refine lv_aload_n hx hb dL_ready_53 rfl (lv_at hl 1 rfl) ?_
                  refine lv_iload_n hx hb dL_ready_54 rfl (lv_at hl 2 rfl) ?_
                  refine lv_bipush (v := (8 : Int32)) hx hb dL_ready_55 (by decide) ?_
                  refine kx_ofGag X hP hS hU hUA ⟨Nat.le_of_ble_eq_true rfl, Nat.le_of_ble_eq_true rfl⟩ ⟨Nat.zero_le _, Nat.zero_le _⟩ wd163 hl.1 (Nat.le_of_ble_eq_true rfl) dL_ready_57 x1 (8 : Int32) iv_σ_48.1.1 (by rw [hq_σ_48.1.2.2.1, ct_σ.2.2]; exact inr_n hg (by decide)) (⟨by decide, by decide⟩) (fun H locs hP hU hS => ?_)
                  refine lv_iconst (v := (4 : Int32)) hx hb dL_ready_60 (by decide) ?_
                  refine lv_icmp_ne (tgt := 85) hx hb dL_ready_61 (by decide) (fun c_61 => ?_) (fun c_61 => ?_)
                  · skip
                    refine lv_iinc (v := (y2_48 + (1 : Int32))) (lv' := [(2, .int (y2_48 + (1 : Int32))), (0, .ref (ad 0)), (1, .int x1)]) hx hb dL_ready_85 hl (k := 0) rfl rfl (by decide) rfl (fun ls hl => ?_)
                    refine lv_goto (tgt := 48) hx hb dL_ready_88 (by decide) ?_
                    exact ih_48 σ_48 (y2_48 + (1 : Int32)) _ _ _ (lp_s hi_48 hlt_48) hq_σ_48 hP hU hS (lv_sub hl [0, 1, 2] rfl)
                  · skip
                    refine lv_aload_n hx hb dL_ready_64 rfl (lv_at hl 1 rfl) ?_
                    refine lv_iload_n hx hb dL_ready_65 rfl (lv_at hl 2 rfl) ?_
                    refine lv_bipush (v := (9 : Int32)) hx hb dL_ready_66 (by decide) ?_
                    refine kx_ofGag X hP hS hU hUA ⟨Nat.le_of_ble_eq_true rfl, Nat.le_of_ble_eq_true rfl⟩ ⟨Nat.zero_le _, Nat.zero_le _⟩ wd163 hl.1 (Nat.le_of_ble_eq_true rfl) dL_ready_68 x1 (9 : Int32) iv_σ_48.1.1 (by rw [hq_σ_48.1.2.2.1, ct_σ.2.2]; exact inr_n hg (by decide)) (⟨by decide, by decide⟩) (fun H locs hP hU hS => ?_)
                    refine lv_iload_n hx hb dL_ready_71 rfl (lv_at hl 0 rfl) ?_
                    refine lv_ishr hx hb dL_ready_72 ?_
                    refine lv_iconst (v := (1 : Int32)) hx hb dL_ready_73 (by decide) ?_
                    refine lv_iand hx hb dL_ready_74 ?_
                    refine lv_if_ne (tgt := 85) hx hb dL_ready_75 (by decide) (fun c_75 => ?_) (fun c_75 => ?_)
                    · skip
                      refine lv_iinc (v := (y2_48 + (1 : Int32))) (lv' := [(2, .int (y2_48 + (1 : Int32))), (0, .ref (ad 0)), (1, .int x1)]) hx hb dL_ready_85 hl (k := 0) rfl rfl (by decide) rfl (fun ls hl => ?_)
                      refine lv_goto (tgt := 48) hx hb dL_ready_88 (by decide) ?_
                      exact ih_48 σ_48 (y2_48 + (1 : Int32)) _ _ _ (lp_s hi_48 hlt_48) hq_σ_48 hP hU hS (lv_sub hl [0, 1, 2] rfl)
                    · skip
                      refine lv_aload_n hx hb dL_ready_78 rfl (lv_at hl 1 rfl) ?_
                      refine lv_iload_n hx hb dL_ready_79 rfl (lv_at hl 2 rfl) ?_
                      refine lv_iload_n hx hb dL_ready_80 rfl (lv_at hl 0 rfl) ?_
                      refine kx_sign X hP hS hU hUA ⟨Nat.le_of_ble_eq_true rfl, Nat.le_of_ble_eq_true rfl⟩ ⟨Nat.zero_le _, Nat.zero_le _⟩ wd295 hl.1 (Nat.le_of_ble_eq_true rfl) dL_ready_81 x1 y2_48 iv_σ_48.1.1 (by rw [hq_σ_48.1.2.2.1, ct_σ.2.2]; exact inr_n hg (by decide)) (lp_i hi_48 hlt_48) (by rw [rd_g8] at c_61; rw [c_61]; decide) (by rw [rd_g9] at c_75; exact set_0 (iv_σ_48.1.2.1 _ (ix_lt (vp_mono hg (by decide)))).2 (lp_i hi_48 hlt_48) c_75) (fun H locs hP hU hS => ?_)
                      have hq_σ5 : Q σ ((f_sign σ_48 x1 y2_48).2) := hq_σ_48.trans (Q_sign (iv_σ_48.1.2.1 _ (ix_lt (vp_mono hg (by decide)))).2 (lp_i hi_48 hlt_48) (q_a0 hq_σ_48 (vp_mono hg (by decide)) ha))
                      generalize (f_sign σ_48 x1 y2_48).2 = σ5 at hP hq_σ5
                      generalize (f_sign σ_48 x1 y2_48).1 = r6
                      refine lv_pop hx hb dL_ready_84 rfl ?_
                      refine lv_iinc (v := (y2_48 + (1 : Int32))) (lv' := [(2, .int (y2_48 + (1 : Int32))), (0, .ref (ad 0)), (1, .int x1)]) hx hb dL_ready_85 hl (k := 0) rfl rfl (by decide) rfl (fun ls hl => ?_)
                      refine lv_goto (tgt := 48) hx hb dL_ready_88 (by decide) ?_
                      exact ih_48 σ5 (y2_48 + (1 : Int32)) _ _ _ (lp_s hi_48 hlt_48) hq_σ5 hP hU hS (lv_sub hl [0, 1, 2] rfl)
            exact L_48 128 σ_2 (0 : Int32) _ _ _ (lp_z (by decide)) hq_σ_2 hP hU hS (lv_sub hl [0, 1, 2] rfl)
          · skip
            refine lv_aload_n hx hb dL_ready_34 rfl (lv_at hl 1 rfl) ?_
            refine lv_iload_n hx hb dL_ready_35 rfl (lv_at hl 2 rfl) ?_
            refine kx_rehearse X hP hS hU hUA ⟨Nat.le_of_ble_eq_true rfl, Nat.le_of_ble_eq_true rfl⟩ ⟨Nat.zero_le _, Nat.zero_le _⟩ wd284 hl.1 (Nat.le_of_ble_eq_true rfl) dL_ready_36 x1 iv_σ_2.1.1 (by rw [hq_σ_2.1.2.2.1, ct_σ.2.2]; exact inr_n hg (by decide)) (q_a0 hq_σ_2 (vp_mono hg (by decide)) ha) (one_0 (by rw [rd_p8, rd_g1] at c_31; exact c_31)) (fun H locs hP hU hS => ?_)
            have hq_σ7 : Q σ ((f_rehearse σ_2 x1).2) := hq_σ_2.trans (Q_rehearse iv_σ_2.1.1 (iv_σ_2.1.2.1 _ (ix_lt (vp_mono hg (by decide)))).1 (vp_mono hg (by decide)) (q_a0 hq_σ_2 (vp_mono hg (by decide)) ha))
            generalize (f_rehearse σ_2 x1).2 = σ7 at hP hq_σ7
            generalize (f_rehearse σ_2 x1).1 = r8
            refine lv_pop hx hb dL_ready_39 rfl ?_
            refine lv_iinc (v := (y2_2 + (1 : Int32))) (lv' := [(2, .int (y2_2 + (1 : Int32))), (0, .ref (ad 0)), (1, .int x1)]) hx hb dL_ready_40 hl (k := 0) rfl rfl (by decide) rfl (fun ls hl => ?_)
            refine lv_goto (tgt := 2) hx hb dL_ready_43 (by decide) ?_
            exact ih_2 σ7 (y2_2 + (1 : Int32)) _ _ _ (lp_s hi_2 hlt_2) hq_σ7 hP hU hS (lv_sub hl [0, 1, 2] rfl)
  exact L_2 128 σ (0 : Int32) _ _ _ (lp_z (by decide)) (Q.refl σ) hP hU hS (lv_sub hl [0, 1, 2] rfl)
theorem kx_ready {p : Program} {l : Launch} {e : Env} {R : Room} {s : State} {m : MethodId} {args : Array Value} {below : List Frame} {meth : Method} {c : Code} {H : Heap} {locs : List Loc} {cells slots : Nat} {Qf : State → Prop} {cc : ByteArray} {pc : Nat} {ls : Array Slot} {rest : List Value} {D : va_G} {A : Nat → Prop} {ad : Nat → Nat} {ca : Nat → ClassId} {tw nL : Nat} {σ : St} {own : String} {index : Nat} (X : Cx p s m args c own cc nL D ad ca tw A) (hP : va_P D vwCl (wl ad ca σ) H) (hS : va_S A s.heap H locs) {us : va_W} (hU : va_P D vwCl us H) (hUA : ∀ (k : Nat) (q : Nat × va_E), us[k]? = some q → ¬ Aw ad q.1) (hR : 7 ≤ R.frames ∧ 156 ≤ R.locals) (hcap : cells ≤ R.cells ∧ slots ≤ R.slots) (hlk : Cond.methodLink own index yL_ready ∈ wsL_law0) (hsz : ls.size = nL) (hrs : (rest.map fun v => v.category).sum ≤ 8) (hdg : decode cc pc = .ok (.invokestatic index, 3)) (x1 : Int32) (iv_σ : INV σ) (pf_σ : PF σ) (ct_σ : σ.1 0 3 = 5 ∧ σ.1 0 4 = 8 ∧ σ.1 0 5 = 4) (hg : vp_in x1 4) (ha : σ.1 (34 + x1.toNatClampNeg) 8 = 0)
    (kk : ∀ (u : St) (H1 : Heap) (locs1 : List Loc), (Q σ u) → va_P D vwCl (wl ad ca u) H1 → va_P D vwCl us H1 → va_S A s.heap H1 locs1 → W p l e R s m args below meth c H1 locs1 cells slots Qf (F0 m (pc + 3) ls (rest))) : W p l e R s m args below meth c H locs cells slots Qf (F0 m pc ls (.int x1 :: .ref (ad 0) :: rest)) := by
  refine q_bvx X hS hU hUA (q_runS (as := [.ref (ad 0), .int x1]) X hP hS (q_cwS (rm := ({ frames := 6, cells := 0, slots := 0, locals := 134 } : Room)) (k := 2) X.2.2.2.2.1 hlk wd272 wd68 wd273 rfl rfl (by decide +kernel) ⟨hR.1, hR.2⟩) (c_ready l D ad ca tw X.2.2.2.2.2.2.1 σ x1 iv_σ pf_σ ct_σ hg ha) rfl hsz rfl hrs hdg hcap) (fun u H1 locs1 h1 h2 h4 h3 => ?_)
  exact kk u H1 locs1 h1 h2 h4 h3
