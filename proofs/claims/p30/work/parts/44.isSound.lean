set_option maxHeartbeats 4000000 in
set_option maxRecDepth 100000 in
theorem c_isSound (l : Launch) (D : va_G) (ad : Nat → Nat) (ca : Nat → ClassId) (tw : Nat) (hI : ∀ i j, i < 40 → j < 40 → ad i = ad j → i = j) (σ : St) (iv_σ : INV σ) (pf_σ : PF σ) (ct_σ : σ.1 0 3 = 5 ∧ σ.1 0 4 = 8 ∧ σ.1 0 5 = 4) : Met l yL_isSound (wm yL_isSound cL_isSound 3 (some .boolean)) ({ frames := 6, cells := 0, slots := 0, locals := 132 } : Room) (va_Pc [.ref (ad 0)] (wPre D ad ca tw σ)) (va_Qi (fun r u => r = 1 ∧ u = σ) (wB D ad ca) (Aw ad)) 0 0 (Aw ad) := by
  refine Met.ofW (cc := cL_isSound) (maxL := 3) (ret := (some .boolean)) (by decide) rfl ?_
  intro p e s m args below meth c s₁ B hml hv
  obtain ⟨rfl, hv⟩ := hv
  have X := q_open (own := RL) B rfl hml hI hv
  have hx := X.1
  have hb := X.2.1
  have hts := X.2.2.2.2.1
  have hr := B.returns
  have hlocks := B.notSynchronized
  have hP := hv.1
  have hS : va_S (Aw ad) s.heap s.heap [] := va_S.rf
  have hU : va_P D vwCl [] s.heap := fun k q h => by simp at h
  have hUA : ∀ (k : Nat) (q : Nat × va_E), ([] : va_W)[k]? = some q → ¬ Aw ad q.1 := fun k q h => by simp at h
  have hl := lv_entry ([.ref (ad 0)]) (n := 3) (Nat.le_of_ble_eq_true rfl)
  rw [lg_entry_eq]
  generalize (lg_sl ([.ref (ad 0)]) ++ List.replicate (3 - (lg_sl ([.ref (ad 0)])).length) Slot.unset).toArray = ls at hl ⊢
  have hl : lv_has ls 3 [(0, .ref (ad 0))] := hl
  refine lv_iconst (v := (0 : Int32)) hx hb dL_isSound_0 (by decide) ?_
  refine lv_istore_n (lv' := [(1, .int (0 : Int32)), (0, .ref (ad 0))]) hx hb dL_isSound_1 rfl hl (by decide) rfl (fun ls hl => ?_)
  have L_2 : ∀ (n_2 : Nat) (y1_2 : Int32) (H : Heap) (locs : List Loc) (ls : Array Slot), lpI 4 y1_2 n_2 → va_P D vwCl (wl ad ca σ) H → va_P D vwCl [] H → va_S (Aw ad) s.heap H locs → lv_has ls 3 [(1, .int y1_2), (0, .ref (ad 0))] → W p l e (headSpec (wm yL_isSound cL_isSound 3 (some .boolean)) ({ frames := 6, cells := 0, slots := 0, locals := 132 } : Room)).room s m ([.ref (ad 0)] : List Value).toArray below meth c H locs 0 0 (MQ below (va_Qi (fun r u => r = 1 ∧ u = σ) (wB D ad ca) (Aw ad)) ([.ref (ad 0)] : List Value).toArray s 0 0 (Aw ad)) (F0 m 2 ls []) := by
    intro n_2
    induction n_2 with
    | zero => intro y1_2 H locs ls hi_2; exact absurd hi_2 (fun h => lp_0 h)
    | succ n_2 ih_2 =>
      intro y1_2 H locs ls hi_2  hP hU hS hl
      refine lv_iload_n hx hb dL_isSound_2 rfl (lv_at hl 0 rfl) ?_
      refine lv_iconst (v := (4 : Int32)) hx hb dL_isSound_3 (by decide) ?_
      refine lv_icmp_ge (tgt := 107) hx hb dL_isSound_4 (by decide) (fun c_4 => ?_) (fun c_4 => ?_)
      · skip
        refine lv_iconst (v := (0 : Int32)) hx hb dL_isSound_107 (by decide) ?_
        refine lv_istore_n (lv' := [(1, .int (0 : Int32)), (0, .ref (ad 0))]) hx hb dL_isSound_108 rfl hl (by decide) rfl (fun ls hl => ?_)
        have L_109 : ∀ (n_109 : Nat) (y1_109 : Int32) (H : Heap) (locs : List Loc) (ls : Array Slot), lpI 5 y1_109 n_109 → va_P D vwCl (wl ad ca σ) H → va_P D vwCl [] H → va_S (Aw ad) s.heap H locs → lv_has ls 3 [(1, .int y1_109), (0, .ref (ad 0))] → W p l e (headSpec (wm yL_isSound cL_isSound 3 (some .boolean)) ({ frames := 6, cells := 0, slots := 0, locals := 132 } : Room)).room s m ([.ref (ad 0)] : List Value).toArray below meth c H locs 0 0 (MQ below (va_Qi (fun r u => r = 1 ∧ u = σ) (wB D ad ca) (Aw ad)) ([.ref (ad 0)] : List Value).toArray s 0 0 (Aw ad)) (F0 m 109 ls []) := by
          intro n_109
          induction n_109 with
          | zero => intro y1_109 H locs ls hi_109; exact absurd hi_109 (fun h => lp_0 h)
          | succ n_109 ih_109 =>
            intro y1_109 H locs ls hi_109  hP hU hS hl
            refine lv_iload_n hx hb dL_isSound_109 rfl (lv_at hl 0 rfl) ?_
            refine lv_iconst (v := (5 : Int32)) hx hb dL_isSound_110 (by decide) ?_
            refine lv_icmp_ge (tgt := 144) hx hb dL_isSound_111 (by decide) (fun c_111 => ?_) (fun c_111 => ?_)
            · skip
              refine lv_iconst (v := (1 : Int32)) hx hb dL_isSound_144 (by decide) ?_
              exact W.zret (ty := .boolean) (v := (1 : Int32)) hx hb hr rfl (fun t ht hW => ⟨⟨(1 : Int32), σ, rfl, ⟨rfl, rfl⟩, wB_of ht hP⟩, hS.F ht⟩) hS.2.2 dL_isSound_145
            · have hlt_109 : y1_109.toInt < 5 := lt_nle c_111 (by decide)
              skip
              refine lv_aload_n hx hb dL_isSound_114 rfl (lv_at hl 1 rfl) ?_
              refine lv_iload_n hx hb dL_isSound_115 rfl (lv_at hl 0 rfl) ?_
              refine lv_bipush (v := (7 : Int32)) hx hb dL_isSound_116 (by decide) ?_
              refine kx_ofPerson X hP hS hU hUA ⟨Nat.le_of_ble_eq_true rfl, Nat.le_of_ble_eq_true rfl⟩ ⟨Nat.zero_le _, Nat.zero_le _⟩ wd274 hl.1 (Nat.le_of_ble_eq_true rfl) dL_isSound_118 y1_109 (7 : Int32) iv_σ.1.1 (by rw [ct_σ.1]; exact inr_n (lp_i hi_109 hlt_109) (by decide)) (⟨by decide, by decide⟩) (fun H locs hP hU hS => ?_)
              refine lv_if_lt (tgt := 136) hx hb dL_isSound_121 (by decide) (fun c_121 => ?_) (fun c_121 => ?_)
              · exact absurd (i_lt.mp c_121) (by rw [rd_p7, show (0 : Int32).toInt = 0 from rfl]; have q := (iv_σ.1.2.2.1 _ (ix_lt (vp_mono (lp_i hi_109 hlt_109) (by decide)))).1; omega)
              · refine lv_aload_n hx hb dL_isSound_124 rfl (lv_at hl 1 rfl) ?_
                refine lv_iload_n hx hb dL_isSound_125 rfl (lv_at hl 0 rfl) ?_
                refine lv_bipush (v := (7 : Int32)) hx hb dL_isSound_126 (by decide) ?_
                refine kx_ofPerson X hP hS hU hUA ⟨Nat.le_of_ble_eq_true rfl, Nat.le_of_ble_eq_true rfl⟩ ⟨Nat.zero_le _, Nat.zero_le _⟩ wd274 hl.1 (Nat.le_of_ble_eq_true rfl) dL_isSound_128 y1_109 (7 : Int32) iv_σ.1.1 (by rw [ct_σ.1]; exact inr_n (lp_i hi_109 hlt_109) (by decide)) (⟨by decide, by decide⟩) (fun H locs hP hU hS => ?_)
                refine lv_bipush (v := (100 : Int32)) hx hb dL_isSound_131 (by decide) ?_
                refine lv_icmp_le (tgt := 138) hx hb dL_isSound_133 (by decide) (fun c_133 => ?_) (fun c_133 => ?_)
                · refine lv_iinc (v := (y1_109 + (1 : Int32))) (lv' := [(1, .int (y1_109 + (1 : Int32))), (0, .ref (ad 0))]) hx hb dL_isSound_138 hl (k := 0) rfl rfl (by decide) rfl (fun ls hl => ?_)
                  refine lv_goto (tgt := 109) hx hb dL_isSound_141 (by decide) ?_
                  exact ih_109 (y1_109 + (1 : Int32)) _ _ _ (lp_s hi_109 hlt_109) hP hU hS (lv_sub hl [0, 1] rfl)
                · exact absurd (i_le.mpr (by rw [rd_p7, show (100 : Int32).toInt = 100 from rfl]; exact (iv_σ.1.2.2.1 _ (ix_lt (vp_mono (lp_i hi_109 hlt_109) (by decide)))).2)) c_133
        exact L_109 128 (0 : Int32) _ _ _ (lp_z (by decide)) hP hU hS (lv_sub hl [0, 1] rfl)
      · have hlt_2 : y1_2.toInt < 4 := lt_nle c_4 (by decide)
        skip
        refine lv_aload_n hx hb dL_isSound_7 rfl (lv_at hl 1 rfl) ?_
        refine lv_iload_n hx hb dL_isSound_8 rfl (lv_at hl 0 rfl) ?_
        refine lv_bipush (v := (11 : Int32)) hx hb dL_isSound_9 (by decide) ?_
        refine kx_ofGag X hP hS hU hUA ⟨Nat.le_of_ble_eq_true rfl, Nat.le_of_ble_eq_true rfl⟩ ⟨Nat.zero_le _, Nat.zero_le _⟩ wd163 hl.1 (Nat.le_of_ble_eq_true rfl) dL_isSound_11 y1_2 (11 : Int32) iv_σ.1.1 (by rw [ct_σ.2.2]; exact inr_n (lp_i hi_2 hlt_2) (by decide)) (⟨by decide, by decide⟩) (fun H locs hP hU hS => ?_)
        refine lv_if_ne (tgt := 20) hx hb dL_isSound_14 (by decide) (fun c_14 => ?_) (fun c_14 => ?_)
        · skip
          have ok := (iv_σ.2 y1_2 (by rw [ct_σ.2.2]; exact inr_n (lp_i hi_2 hlt_2) (by decide))).resolve_left (one_n (by rw [rd_g11] at c_14; exact c_14))
          refine lv_aload_n hx hb dL_isSound_20 rfl (lv_at hl 1 rfl) ?_
          refine lv_iload_n hx hb dL_isSound_21 rfl (lv_at hl 0 rfl) ?_
          refine lv_bipush (v := (8 : Int32)) hx hb dL_isSound_22 (by decide) ?_
          refine kx_ofGag X hP hS hU hUA ⟨Nat.le_of_ble_eq_true rfl, Nat.le_of_ble_eq_true rfl⟩ ⟨Nat.zero_le _, Nat.zero_le _⟩ wd163 hl.1 (Nat.le_of_ble_eq_true rfl) dL_isSound_24 y1_2 (8 : Int32) iv_σ.1.1 (by rw [ct_σ.2.2]; exact inr_n (lp_i hi_2 hlt_2) (by decide)) (⟨by decide, by decide⟩) (fun H locs hP hU hS => ?_)
          refine lv_iconst (v := (4 : Int32)) hx hb dL_isSound_27 (by decide) ?_
          refine lv_icmp_ne (tgt := 69) hx hb dL_isSound_28 (by decide) (fun c_28 => ?_) (fun c_28 => ?_)
          · exact absurd (by rw [rd_g8]; exact ok.1.1) c_28
          · refine lv_aload_n hx hb dL_isSound_31 rfl (lv_at hl 1 rfl) ?_
            refine lv_iload_n hx hb dL_isSound_32 rfl (lv_at hl 0 rfl) ?_
            refine lv_bipush (v := (9 : Int32)) hx hb dL_isSound_33 (by decide) ?_
            refine kx_ofGag X hP hS hU hUA ⟨Nat.le_of_ble_eq_true rfl, Nat.le_of_ble_eq_true rfl⟩ ⟨Nat.zero_le _, Nat.zero_le _⟩ wd163 hl.1 (Nat.le_of_ble_eq_true rfl) dL_isSound_35 y1_2 (9 : Int32) iv_σ.1.1 (by rw [ct_σ.2.2]; exact inr_n (lp_i hi_2 hlt_2) (by decide)) (⟨by decide, by decide⟩) (fun H locs hP hU hS => ?_)
            refine lv_bipush (v := (7 : Int32)) hx hb dL_isSound_38 (by decide) ?_
            refine lv_icmp_ne (tgt := 69) hx hb dL_isSound_40 (by decide) (fun c_40 => ?_) (fun c_40 => ?_)
            · exact absurd (by rw [rd_g9]; exact ok.1.2.1) c_40
            · refine lv_aload_n hx hb dL_isSound_43 rfl (lv_at hl 1 rfl) ?_
              refine lv_iload_n hx hb dL_isSound_44 rfl (lv_at hl 0 rfl) ?_
              refine lv_bipush (v := (10 : Int32)) hx hb dL_isSound_45 (by decide) ?_
              refine kx_ofGag X hP hS hU hUA ⟨Nat.le_of_ble_eq_true rfl, Nat.le_of_ble_eq_true rfl⟩ ⟨Nat.zero_le _, Nat.zero_le _⟩ wd163 hl.1 (Nat.le_of_ble_eq_true rfl) dL_isSound_47 y1_2 (10 : Int32) iv_σ.1.1 (by rw [ct_σ.2.2]; exact inr_n (lp_i hi_2 hlt_2) (by decide)) (⟨by decide, by decide⟩) (fun H locs hP hU hS => ?_)
              refine lv_if_ne (tgt := 69) hx hb dL_isSound_50 (by decide) (fun c_50 => ?_) (fun c_50 => ?_)
              · exact absurd (by rw [rd_g10]; exact ok.1.2.2.1) c_50
              · refine lv_aload_n hx hb dL_isSound_53 rfl (lv_at hl 1 rfl) ?_
                refine lv_aload_n hx hb dL_isSound_54 rfl (lv_at hl 1 rfl) ?_
                refine lv_iload_n hx hb dL_isSound_55 rfl (lv_at hl 0 rfl) ?_
                refine lv_iconst (v := (1 : Int32)) hx hb dL_isSound_56 (by decide) ?_
                refine kx_ofGag X hP hS hU hUA ⟨Nat.le_of_ble_eq_true rfl, Nat.le_of_ble_eq_true rfl⟩ ⟨Nat.zero_le _, Nat.zero_le _⟩ wd163 hl.1 (Nat.le_of_ble_eq_true rfl) dL_isSound_57 y1_2 (1 : Int32) iv_σ.1.1 (by rw [ct_σ.2.2]; exact inr_n (lp_i hi_2 hlt_2) (by decide)) (⟨by decide, by decide⟩) (fun H locs hP hU hS => ?_)
                refine lv_bipush (v := (8 : Int32)) hx hb dL_isSound_60 (by decide) ?_
                refine kx_ofPerson X hP hS hU hUA ⟨Nat.le_of_ble_eq_true rfl, Nat.le_of_ble_eq_true rfl⟩ ⟨Nat.zero_le _, Nat.zero_le _⟩ wd274 hl.1 (Nat.le_of_ble_eq_true rfl) dL_isSound_62 (f_ofGag σ y1_2 (1 : Int32)) (8 : Int32) iv_σ.1.1 (by rw [rd_g1]; exact pf_σ _ (by rw [ct_σ.2.2]; exact inr_n (lp_i hi_2 hlt_2) (by decide))) (⟨by decide, by decide⟩) (fun H locs hP hU hS => ?_)
                refine lv_iconst (v := (1 : Int32)) hx hb dL_isSound_65 (by decide) ?_
                refine lv_icmp_ne (tgt := 71) hx hb dL_isSound_66 (by decide) (fun c_66 => ?_) (fun c_66 => ?_)
                · refine lv_iconst (v := (0 : Int32)) hx hb dL_isSound_71 (by decide) ?_
                  refine lv_istore_n (lv' := [(2, .int (0 : Int32)), (1, .int y1_2), (0, .ref (ad 0))]) hx hb dL_isSound_72 rfl hl (by decide) rfl (fun ls hl => ?_)
                  have L_73 : ∀ (n_73 : Nat) (y2_73 : Int32) (H : Heap) (locs : List Loc) (ls : Array Slot), lpI 5 y2_73 n_73 → va_P D vwCl (wl ad ca σ) H → va_P D vwCl [] H → va_S (Aw ad) s.heap H locs → lv_has ls 3 [(2, .int y2_73), (1, .int y1_2), (0, .ref (ad 0))] → W p l e (headSpec (wm yL_isSound cL_isSound 3 (some .boolean)) ({ frames := 6, cells := 0, slots := 0, locals := 132 } : Room)).room s m ([.ref (ad 0)] : List Value).toArray below meth c H locs 0 0 (MQ below (va_Qi (fun r u => r = 1 ∧ u = σ) (wB D ad ca) (Aw ad)) ([.ref (ad 0)] : List Value).toArray s 0 0 (Aw ad)) (F0 m 73 ls []) := by
                    intro n_73
                    induction n_73 with
                    | zero => intro y2_73 H locs ls hi_73; exact absurd hi_73 (fun h => lp_0 h)
                    | succ n_73 ih_73 =>
                      intro y2_73 H locs ls hi_73  hP hU hS hl
                      refine lv_iload_n hx hb dL_isSound_73 rfl (lv_at hl 0 rfl) ?_
                      refine lv_iconst (v := (5 : Int32)) hx hb dL_isSound_74 (by decide) ?_
                      refine lv_icmp_ge (tgt := 101) hx hb dL_isSound_75 (by decide) (fun c_75 => ?_) (fun c_75 => ?_)
                      · skip
                        refine lv_iinc (v := (y1_2 + (1 : Int32))) (lv' := [(1, .int (y1_2 + (1 : Int32))), (2, .int y2_73), (0, .ref (ad 0))]) hx hb dL_isSound_101 hl (k := 1) rfl rfl (by decide) rfl (fun ls hl => ?_)
                        refine lv_goto (tgt := 2) hx hb dL_isSound_104 (by decide) ?_
                        exact ih_2 (y1_2 + (1 : Int32)) _ _ _ (lp_s hi_2 hlt_2) hP hU hS (lv_sub hl [0, 2] rfl)
                      · have hlt_73 : y2_73.toInt < 5 := lt_nle c_75 (by decide)
                        skip
                        refine lv_aload_n hx hb dL_isSound_78 rfl (lv_at hl 2 rfl) ?_
                        refine lv_iload_n hx hb dL_isSound_79 rfl (lv_at hl 0 rfl) ?_
                        refine lv_bipush (v := (11 : Int32)) hx hb dL_isSound_80 (by decide) ?_
                        refine kx_ofPerson X hP hS hU hUA ⟨Nat.le_of_ble_eq_true rfl, Nat.le_of_ble_eq_true rfl⟩ ⟨Nat.zero_le _, Nat.zero_le _⟩ wd274 hl.1 (Nat.le_of_ble_eq_true rfl) dL_isSound_82 y2_73 (11 : Int32) iv_σ.1.1 (by rw [ct_σ.1]; exact inr_n (lp_i hi_73 hlt_73) (by decide)) (⟨by decide, by decide⟩) (fun H locs hP hU hS => ?_)
                        refine lv_iload_n hx hb dL_isSound_85 rfl (lv_at hl 1 rfl) ?_
                        refine lv_ishr hx hb dL_isSound_86 ?_
                        refine lv_iconst (v := (1 : Int32)) hx hb dL_isSound_87 (by decide) ?_
                        refine lv_iand hx hb dL_isSound_88 ?_
                        refine lv_iconst (v := (1 : Int32)) hx hb dL_isSound_89 (by decide) ?_
                        refine lv_icmp_ne (tgt := 95) hx hb dL_isSound_90 (by decide) (fun c_90 => ?_) (fun c_90 => ?_)
                        · refine lv_iinc (v := (y2_73 + (1 : Int32))) (lv' := [(2, .int (y2_73 + (1 : Int32))), (1, .int y1_2), (0, .ref (ad 0))]) hx hb dL_isSound_95 hl (k := 0) rfl rfl (by decide) rfl (fun ls hl => ?_)
                          refine lv_goto (tgt := 73) hx hb dL_isSound_98 (by decide) ?_
                          exact ih_73 (y2_73 + (1 : Int32)) _ _ _ (lp_s hi_73 hlt_73) hP hU hS (lv_sub hl [0, 1, 2] rfl)
                        · exact absurd c_90 (by rw [rd_p11]; exact ra_bit ct_σ.2.2 (lp_i hi_2 hlt_2) (ok.2 _ (by rw [ct_σ.1]; exact inr_n (lp_i hi_73 hlt_73) (by decide))))
                  exact L_73 128 (0 : Int32) _ _ _ (lp_z (by decide)) hP hU hS (lv_sub hl [0, 1, 2] rfl)
                · exact absurd c_66 (by rw [rd_p8, rd_g1, ok.1.2.2.2]; decide)
        · skip
          refine lv_goto (tgt := 101) hx hb dL_isSound_17 (by decide) ?_
          refine lv_iinc (v := (y1_2 + (1 : Int32))) (lv' := [(1, .int (y1_2 + (1 : Int32))), (0, .ref (ad 0))]) hx hb dL_isSound_101 hl (k := 0) rfl rfl (by decide) rfl (fun ls hl => ?_)
          refine lv_goto (tgt := 2) hx hb dL_isSound_104 (by decide) ?_
          exact ih_2 (y1_2 + (1 : Int32)) _ _ _ (lp_s hi_2 hlt_2) hP hU hS (lv_sub hl [0, 1] rfl)
  exact L_2 128 (0 : Int32) _ _ _ (lp_z (by decide)) hP hU hS (lv_sub hl [0, 1] rfl)
theorem kx_isSound {p : Program} {l : Launch} {e : Env} {R : Room} {s : State} {m : MethodId} {args : Array Value} {below : List Frame} {meth : Method} {c : Code} {H : Heap} {locs : List Loc} {cells slots : Nat} {Qf : State → Prop} {cc : ByteArray} {pc : Nat} {ls : Array Slot} {rest : List Value} {D : va_G} {A : Nat → Prop} {ad : Nat → Nat} {ca : Nat → ClassId} {tw nL : Nat} {σ : St} {own : String} {index : Nat} (X : Cx p s m args c own cc nL D ad ca tw A) (hP : va_P D vwCl (wl ad ca σ) H) (hS : va_S A s.heap H locs) {us : va_W} (hU : va_P D vwCl us H) (hUA : ∀ (k : Nat) (q : Nat × va_E), us[k]? = some q → ¬ Aw ad q.1) (hR : 7 ≤ R.frames ∧ 154 ≤ R.locals) (hcap : cells ≤ R.cells ∧ slots ≤ R.slots) (hlk : Cond.methodLink own index yL_isSound ∈ wsL_law0) (hsz : ls.size = nL) (hrs : (rest.map fun v => v.category).sum ≤ 8) (hdg : decode cc pc = .ok (.invokestatic index, 3)) (iv_σ : INV σ) (pf_σ : PF σ) (ct_σ : σ.1 0 3 = 5 ∧ σ.1 0 4 = 8 ∧ σ.1 0 5 = 4)
    (kk : ∀ (H1 : Heap) (locs1 : List Loc), va_P D vwCl (wl ad ca σ) H1 → va_P D vwCl us H1 → va_S A s.heap H1 locs1 → W p l e R s m args below meth c H1 locs1 cells slots Qf (F0 m (pc + 3) ls (.int 1 :: rest))) : W p l e R s m args below meth c H locs cells slots Qf (F0 m pc ls (.ref (ad 0) :: rest)) := by
  refine q_bix X hS hU hUA (q_runS (as := [.ref (ad 0)]) X hP hS (q_cwS (rm := ({ frames := 6, cells := 0, slots := 0, locals := 132 } : Room)) (k := 1) X.2.2.2.2.1 hlk wd371 wd68 wd372 rfl rfl (by decide +kernel) ⟨hR.1, hR.2⟩) (c_isSound l D ad ca tw X.2.2.2.2.2.2.1 σ iv_σ pf_σ ct_σ) rfl hsz rfl hrs hdg hcap) (fun r u H1 locs1 h1 h2 h4 h3 => ?_)
  obtain ⟨rfl, rfl⟩ := h1
  exact kk H1 locs1 h2 h4 h3
