set_option maxHeartbeats 4000000 in
set_option maxRecDepth 100000 in
theorem c_digest (l : Launch) (D : va_G) (ad : Nat → Nat) (ca : Nat → ClassId) (tw : Nat) (hI : ∀ i j, i < 40 → j < 40 → ad i = ad j → i = j) (σ : St) (hwf : WF σ)  : Met l yX3_digest (wm yX3_digest cX3_digest 5 (some .long)) ({ frames := 6, cells := 0, slots := 0, locals := 132 } : Room) (va_Pc [.ref (ad 0)] (wPre D ad ca tw σ)) (va_Ql (fun r u => r = f_digest σ ∧ u = σ) (wB D ad ca) (Aw ad)) 0 0 (Aw ad) := by
  generalize hF : f_digest σ = F
  refine Met.ofW (cc := cX3_digest) (maxL := 5) (ret := (some .long)) (by decide) rfl ?_
  intro p e s m args below meth c s₁ B hml hv
  obtain ⟨rfl, hv⟩ := hv
  have X := q_open (own := RX3) B rfl hml hI hv
  have hx := X.1
  have hb := X.2.1
  have hts := X.2.2.2.2.1
  have hr := B.returns
  have hlocks := B.notSynchronized
  have hP := hv.1
  have hS : va_S (Aw ad) s.heap s.heap [] := va_S.rf
  have hl := lv_entry ([.ref (ad 0)]) (n := 5) (Nat.le_of_ble_eq_true rfl)
  rw [lg_entry_eq]
  generalize (lg_sl ([.ref (ad 0)]) ++ List.replicate (5 - (lg_sl ([.ref (ad 0)])).length) Slot.unset).toArray = ls at hl ⊢
  have hl : lv_has ls 5 [(0, .ref (ad 0))] := hl
  unfold f_digest at hF
  replace hF : (f_digest_L6 σ 128 (0 : Int32) (58230 : Int64)) = F := hF
  refine lv_ldc2 (v := (58230 : Int64)) hx hb X.2.2.2.1 (hts _ wd377) dX3_digest_0 ?_
  refine lv_lstore_n (lv' := [(1, .long (58230 : Int64)), (0, .ref (ad 0))]) hx hb dX3_digest_3 rfl hl (by decide) rfl (fun ls hl => ?_)
  refine lv_iconst (v := (0 : Int32)) hx hb dX3_digest_4 (by decide) ?_
  refine lv_istore_n (lv' := [(3, .int (0 : Int32)), (1, .long (58230 : Int64)), (0, .ref (ad 0))]) hx hb dX3_digest_5 rfl hl (by decide) rfl (fun ls hl => ?_)
  have L_6 : ∀ (n_6 : Nat) (y3_6 : Int32) (y1_6 : Int64) (H : Heap) (locs : List Loc) (ls : Array Slot), lpI 14 y3_6 n_6 → va_P D vwCl (wl ad ca σ) H → va_S (Aw ad) s.heap H locs → lv_has ls 5 [(3, .int y3_6), (1, .long y1_6), (0, .ref (ad 0))] → f_digest_L6 σ (n_6) y3_6 y1_6 = F → W p l e (headSpec (wm yX3_digest cX3_digest 5 (some .long)) ({ frames := 6, cells := 0, slots := 0, locals := 132 } : Room)).room s m ([.ref (ad 0)] : List Value).toArray below meth c H locs 0 0 (MQ below (va_Ql (fun r u => r = F ∧ u = σ) (wB D ad ca) (Aw ad)) ([.ref (ad 0)] : List Value).toArray s 0 0 (Aw ad)) (F0 m 6 ls []) := by
    intro n_6
    induction n_6 with
    | zero => intro y3_6 y1_6 H locs ls hi_6 _ _ _ _; exact absurd hi_6 (fun h => lp_0 h)
    | succ n_6 ih_6 =>
      intro y3_6 y1_6 H locs ls hi_6 hP hS hl hF
      rw [f_digest_L6] at hF
      refine lv_iload_n hx hb dX3_digest_6 rfl (lv_at hl 0 rfl) ?_
      refine lv_bipush (v := (13 : Int32)) hx hb dX3_digest_7 (by decide) ?_
      refine lv_icmp_gt (tgt := 28) hx hb dX3_digest_9 (by decide) (fun c_9 => ?_) (fun c_9 => ?_)
      · rw [if_pos c_9] at hF
        refine lv_iconst (v := (0 : Int32)) hx hb dX3_digest_28 (by decide) ?_
        refine lv_istore_n (lv' := [(3, .int (0 : Int32)), (1, .long y1_6), (0, .ref (ad 0))]) hx hb dX3_digest_29 rfl hl (by decide) rfl (fun ls hl => ?_)
        have L_30 : ∀ (n_30 : Nat) (y3_30 : Int32) (y1_30 : Int64) (H : Heap) (locs : List Loc) (ls : Array Slot), lpI 8 y3_30 n_30 → va_P D vwCl (wl ad ca σ) H → va_S (Aw ad) s.heap H locs → lv_has ls 5 [(3, .int y3_30), (1, .long y1_30), (0, .ref (ad 0))] → f_digest_L30 σ (n_30) y3_30 y1_30 = F → W p l e (headSpec (wm yX3_digest cX3_digest 5 (some .long)) ({ frames := 6, cells := 0, slots := 0, locals := 132 } : Room)).room s m ([.ref (ad 0)] : List Value).toArray below meth c H locs 0 0 (MQ below (va_Ql (fun r u => r = F ∧ u = σ) (wB D ad ca) (Aw ad)) ([.ref (ad 0)] : List Value).toArray s 0 0 (Aw ad)) (F0 m 30 ls []) := by
          intro n_30
          induction n_30 with
          | zero => intro y3_30 y1_30 H locs ls hi_30 _ _ _ _; exact absurd hi_30 (fun h => lp_0 h)
          | succ n_30 ih_30 =>
            intro y3_30 y1_30 H locs ls hi_30 hP hS hl hF
            rw [f_digest_L30] at hF
            refine lv_iload_n hx hb dX3_digest_30 rfl (lv_at hl 0 rfl) ?_
            refine lv_aload_n hx hb dX3_digest_31 rfl (lv_at hl 2 rfl) ?_
            refine q_getM (v := .int (σ.1 0 3)) X hP 3 (by decide) (hts _ wd16) rfl dX3_digest_32 ?_
            refine lv_icmp_ge (tgt := 72) hx hb dX3_digest_35 (by decide) (fun c_35 => ?_) (fun c_35 => ?_)
            · rw [if_pos c_35] at hF
              refine lv_iconst (v := (0 : Int32)) hx hb dX3_digest_72 (by decide) ?_
              refine lv_istore_n (lv' := [(3, .int (0 : Int32)), (1, .long y1_30), (0, .ref (ad 0))]) hx hb dX3_digest_73 rfl hl (by decide) rfl (fun ls hl => ?_)
              have L_74 : ∀ (n_74 : Nat) (y3_74 : Int32) (y1_74 : Int64) (H : Heap) (locs : List Loc) (ls : Array Slot), lpI 12 y3_74 n_74 → va_P D vwCl (wl ad ca σ) H → va_S (Aw ad) s.heap H locs → lv_has ls 5 [(3, .int y3_74), (1, .long y1_74), (0, .ref (ad 0))] → f_digest_L74 σ (n_74) y3_74 y1_74 = F → W p l e (headSpec (wm yX3_digest cX3_digest 5 (some .long)) ({ frames := 6, cells := 0, slots := 0, locals := 132 } : Room)).room s m ([.ref (ad 0)] : List Value).toArray below meth c H locs 0 0 (MQ below (va_Ql (fun r u => r = F ∧ u = σ) (wB D ad ca) (Aw ad)) ([.ref (ad 0)] : List Value).toArray s 0 0 (Aw ad)) (F0 m 74 ls []) := by
                intro n_74
                induction n_74 with
                | zero => intro y3_74 y1_74 H locs ls hi_74 _ _ _ _; exact absurd hi_74 (fun h => lp_0 h)
                | succ n_74 ih_74 =>
                  intro y3_74 y1_74 H locs ls hi_74 hP hS hl hF
                  rw [f_digest_L74] at hF
                  refine lv_iload_n hx hb dX3_digest_74 rfl (lv_at hl 0 rfl) ?_
                  refine lv_aload_n hx hb dX3_digest_75 rfl (lv_at hl 2 rfl) ?_
                  refine q_getM (v := .int (σ.1 0 4)) X hP 4 (by decide) (hts _ wd17) rfl dX3_digest_76 ?_
                  refine lv_icmp_ge (tgt := 115) hx hb dX3_digest_79 (by decide) (fun c_79 => ?_) (fun c_79 => ?_)
                  · rw [if_pos c_79] at hF
                    refine lv_iconst (v := (0 : Int32)) hx hb dX3_digest_115 (by decide) ?_
                    refine lv_istore_n (lv' := [(3, .int (0 : Int32)), (1, .long y1_74), (0, .ref (ad 0))]) hx hb dX3_digest_116 rfl hl (by decide) rfl (fun ls hl => ?_)
                    have L_117 : ∀ (n_117 : Nat) (y3_117 : Int32) (y1_117 : Int64) (H : Heap) (locs : List Loc) (ls : Array Slot), lpI 6 y3_117 n_117 → va_P D vwCl (wl ad ca σ) H → va_S (Aw ad) s.heap H locs → lv_has ls 5 [(3, .int y3_117), (1, .long y1_117), (0, .ref (ad 0))] → f_digest_L117 σ (n_117) y3_117 y1_117 = F → W p l e (headSpec (wm yX3_digest cX3_digest 5 (some .long)) ({ frames := 6, cells := 0, slots := 0, locals := 132 } : Room)).room s m ([.ref (ad 0)] : List Value).toArray below meth c H locs 0 0 (MQ below (va_Ql (fun r u => r = F ∧ u = σ) (wB D ad ca) (Aw ad)) ([.ref (ad 0)] : List Value).toArray s 0 0 (Aw ad)) (F0 m 117 ls []) := by
                      intro n_117
                      induction n_117 with
                      | zero => intro y3_117 y1_117 H locs ls hi_117 _ _ _ _; exact absurd hi_117 (fun h => lp_0 h)
                      | succ n_117 ih_117 =>
                        intro y3_117 y1_117 H locs ls hi_117 hP hS hl hF
                        rw [f_digest_L117] at hF
                        refine lv_iload_n hx hb dX3_digest_117 rfl (lv_at hl 0 rfl) ?_
                        refine lv_aload_n hx hb dX3_digest_118 rfl (lv_at hl 2 rfl) ?_
                        refine q_getM (v := .int (σ.1 0 5)) X hP 5 (by decide) (hts _ wd18) rfl dX3_digest_119 ?_
                        refine lv_icmp_ge (tgt := 195) hx hb dX3_digest_122 (by decide) (fun c_122 => ?_) (fun c_122 => ?_)
                        · rw [if_pos c_122] at hF
                          refine lv_iconst (v := (0 : Int32)) hx hb dX3_digest_195 (by decide) ?_
                          refine lv_istore_n (lv' := [(3, .int (0 : Int32)), (1, .long y1_117), (0, .ref (ad 0))]) hx hb dX3_digest_196 rfl hl (by decide) rfl (fun ls hl => ?_)
                          have L_197 : ∀ (n_197 : Nat) (y3_197 : Int32) (y1_197 : Int64) (H : Heap) (locs : List Loc) (ls : Array Slot), lpI 4 y3_197 n_197 → va_P D vwCl (wl ad ca σ) H → va_S (Aw ad) s.heap H locs → lv_has ls 5 [(3, .int y3_197), (1, .long y1_197), (0, .ref (ad 0))] → f_digest_L197 σ (n_197) y3_197 y1_197 = F → W p l e (headSpec (wm yX3_digest cX3_digest 5 (some .long)) ({ frames := 6, cells := 0, slots := 0, locals := 132 } : Room)).room s m ([.ref (ad 0)] : List Value).toArray below meth c H locs 0 0 (MQ below (va_Ql (fun r u => r = F ∧ u = σ) (wB D ad ca) (Aw ad)) ([.ref (ad 0)] : List Value).toArray s 0 0 (Aw ad)) (F0 m 197 ls []) := by
                            intro n_197
                            induction n_197 with
                            | zero => intro y3_197 y1_197 H locs ls hi_197 _ _ _ _; exact absurd hi_197 (fun h => lp_0 h)
                            | succ n_197 ih_197 =>
                              intro y3_197 y1_197 H locs ls hi_197 hP hS hl hF
                              rw [f_digest_L197] at hF
                              refine lv_iload_n hx hb dX3_digest_197 rfl (lv_at hl 0 rfl) ?_
                              refine lv_iconst (v := (4 : Int32)) hx hb dX3_digest_198 (by decide) ?_
                              refine lv_icmp_ge (tgt := 228) hx hb dX3_digest_199 (by decide) (fun c_199 => ?_) (fun c_199 => ?_)
                              · rw [if_pos c_199] at hF
                                refine lv_lload_n hx hb dX3_digest_228 rfl (lv_at hl 1 rfl) ?_
                                exact W.lret (v := y1_197) hx hb hr (fun t ht hW => ⟨⟨y1_197, σ, rfl, ⟨hF, rfl⟩, wB_of ht hP⟩, hS.F ht⟩) hS.2.2 dX3_digest_229
                              · have hlt_197 : y3_197.toInt < 4 := lt_nle c_199 (by decide)
                                rw [if_neg c_199] at hF
                                refine lv_lload_n hx hb dX3_digest_202 rfl (lv_at hl 1 rfl) ?_
                                refine lv_aload_n hx hb dX3_digest_203 rfl (lv_at hl 2 rfl) ?_
                                refine lv_iload_n hx hb dX3_digest_204 rfl (lv_at hl 0 rfl) ?_
                                refine lv_iconst (v := (1 : Int32)) hx hb dX3_digest_205 (by decide) ?_
                                refine k_ofKind X hP hS ⟨Nat.le_of_ble_eq_true rfl, Nat.le_of_ble_eq_true rfl⟩ ⟨Nat.zero_le _, Nat.zero_le _⟩ wd410 hl.1 (Nat.le_of_ble_eq_true rfl) dX3_digest_206 y3_197 (1 : Int32) hwf (lp_i hi_197 hlt_197) (fun H locs hP hS => ?_)
                                refine k_mixed X hP hS ⟨Nat.le_of_ble_eq_true rfl, Nat.le_of_ble_eq_true rfl⟩ ⟨Nat.zero_le _, Nat.zero_le _⟩ wd379 hl.1 (Nat.le_of_ble_eq_true rfl) dX3_digest_209 y1_197 (f_ofKind σ y3_197 (1 : Int32)) hwf  (fun H locs hP hS => ?_)
                                refine lv_aload_n hx hb dX3_digest_212 rfl (lv_at hl 2 rfl) ?_
                                refine lv_iload_n hx hb dX3_digest_213 rfl (lv_at hl 0 rfl) ?_
                                refine lv_iconst (v := (0 : Int32)) hx hb dX3_digest_214 (by decide) ?_
                                refine k_ofKind X hP hS ⟨Nat.le_of_ble_eq_true rfl, Nat.le_of_ble_eq_true rfl⟩ ⟨Nat.zero_le _, Nat.zero_le _⟩ wd410 hl.1 (Nat.le_of_ble_eq_true rfl) dX3_digest_215 y3_197 (0 : Int32) hwf (lp_i hi_197 hlt_197) (fun H locs hP hS => ?_)
                                refine k_mixed X hP hS ⟨Nat.le_of_ble_eq_true rfl, Nat.le_of_ble_eq_true rfl⟩ ⟨Nat.zero_le _, Nat.zero_le _⟩ wd379 hl.1 (Nat.le_of_ble_eq_true rfl) dX3_digest_218 (f_mixed y1_197 (f_ofKind σ y3_197 (1 : Int32))) (f_ofKind σ y3_197 (0 : Int32)) hwf  (fun H locs hP hS => ?_)
                                refine lv_lstore_n (lv' := [(1, .long (f_mixed (f_mixed y1_197 (f_ofKind σ y3_197 (1 : Int32))) (f_ofKind σ y3_197 (0 : Int32)))), (3, .int y3_197), (0, .ref (ad 0))]) hx hb dX3_digest_221 rfl hl (by decide) rfl (fun ls hl => ?_)
                                refine lv_iinc (v := (y3_197 + (1 : Int32))) (lv' := [(3, .int (y3_197 + (1 : Int32))), (1, .long (f_mixed (f_mixed y1_197 (f_ofKind σ y3_197 (1 : Int32))) (f_ofKind σ y3_197 (0 : Int32)))), (0, .ref (ad 0))]) hx hb dX3_digest_222 hl (k := 1) rfl rfl (by decide) rfl (fun ls hl => ?_)
                                refine lv_goto (tgt := 197) hx hb dX3_digest_225 (by decide) ?_
                                exact ih_197 (y3_197 + (1 : Int32)) (f_mixed (f_mixed y1_197 (f_ofKind σ y3_197 (1 : Int32))) (f_ofKind σ y3_197 (0 : Int32))) _ _ _ (lp_s hi_197 hlt_197) hP hS (lv_sub hl [0, 1, 2] rfl) hF
                          exact L_197 128 (0 : Int32) y1_117 _ _ _ (lp_z (by decide)) hP hS hl hF
                        · have hlt_117 : y3_117.toInt < 6 := lt_nle c_122 hwf.2.2.1.2
                          rw [if_neg c_122] at hF
                          refine lv_iconst (v := (0 : Int32)) hx hb dX3_digest_125 (by decide) ?_
                          refine lv_istore (lv' := [(4, .int (0 : Int32)), (3, .int y3_117), (1, .long y1_117), (0, .ref (ad 0))]) hx hb dX3_digest_126 hl (by decide) rfl (fun ls hl => ?_)
                          have L_128 : ∀ (n_128 : Nat) (y4_128 : Int32) (y1_128 : Int64) (H : Heap) (locs : List Loc) (ls : Array Slot), lpI 14 y4_128 n_128 → va_P D vwCl (wl ad ca σ) H → va_S (Aw ad) s.heap H locs → lv_has ls 5 [(4, .int y4_128), (3, .int y3_117), (1, .long y1_128), (0, .ref (ad 0))] → f_digest_L128 σ y3_117 (fun y1_128 => (f_digest_L117 σ n_117 (y3_117 + (1 : Int32)) (f_mixed (f_mixed (f_mixed (f_mixed y1_128 (f_mostLevel σ y3_117)) (f_bestPerformer σ y3_117)) (f_needs σ y3_117)) (f_safeFrom σ y3_117)))) (n_128) y4_128 y1_128 = F → W p l e (headSpec (wm yX3_digest cX3_digest 5 (some .long)) ({ frames := 6, cells := 0, slots := 0, locals := 132 } : Room)).room s m ([.ref (ad 0)] : List Value).toArray below meth c H locs 0 0 (MQ below (va_Ql (fun r u => r = F ∧ u = σ) (wB D ad ca) (Aw ad)) ([.ref (ad 0)] : List Value).toArray s 0 0 (Aw ad)) (F0 m 128 ls []) := by
                            intro n_128
                            induction n_128 with
                            | zero => intro y4_128 y1_128 H locs ls hi_128 _ _ _ _; exact absurd hi_128 (fun h => lp_0 h)
                            | succ n_128 ih_128 =>
                              intro y4_128 y1_128 H locs ls hi_128 hP hS hl hF
                              rw [f_digest_L128] at hF
                              refine lv_iload hx hb dX3_digest_128 (lv_at hl 0 rfl) ?_
                              refine lv_bipush (v := (13 : Int32)) hx hb dX3_digest_130 (by decide) ?_
                              refine lv_icmp_gt (tgt := 153) hx hb dX3_digest_132 (by decide) (fun c_132 => ?_) (fun c_132 => ?_)
                              · rw [if_pos c_132] at hF
                                replace hF : (f_digest_L117 σ n_117 (y3_117 + (1 : Int32)) (f_mixed (f_mixed (f_mixed (f_mixed y1_128 (f_mostLevel σ y3_117)) (f_bestPerformer σ y3_117)) (f_needs σ y3_117)) (f_safeFrom σ y3_117))) = F := hF
                                refine lv_lload_n hx hb dX3_digest_153 rfl (lv_at hl 2 rfl) ?_
                                refine lv_aload_n hx hb dX3_digest_154 rfl (lv_at hl 3 rfl) ?_
                                refine lv_iload_n hx hb dX3_digest_155 rfl (lv_at hl 1 rfl) ?_
                                refine k_mostLevel X hP hS ⟨Nat.le_of_ble_eq_true rfl, Nat.le_of_ble_eq_true rfl⟩ ⟨Nat.zero_le _, Nat.zero_le _⟩ wd386 hl.1 (Nat.le_of_ble_eq_true rfl) dX3_digest_156 y3_117 hwf (⟨hi_117.1, i_nle c_122⟩) (fun H locs hP hS => ?_)
                                refine k_mixed X hP hS ⟨Nat.le_of_ble_eq_true rfl, Nat.le_of_ble_eq_true rfl⟩ ⟨Nat.zero_le _, Nat.zero_le _⟩ wd379 hl.1 (Nat.le_of_ble_eq_true rfl) dX3_digest_159 y1_128 (f_mostLevel σ y3_117) hwf  (fun H locs hP hS => ?_)
                                refine lv_aload_n hx hb dX3_digest_162 rfl (lv_at hl 3 rfl) ?_
                                refine lv_iload_n hx hb dX3_digest_163 rfl (lv_at hl 1 rfl) ?_
                                refine k_bestPerformer X hP hS ⟨Nat.le_of_ble_eq_true rfl, Nat.le_of_ble_eq_true rfl⟩ ⟨Nat.zero_le _, Nat.zero_le _⟩ wd390 hl.1 (Nat.le_of_ble_eq_true rfl) dX3_digest_164 y3_117 hwf (⟨hi_117.1, i_nle c_122⟩) (fun H locs hP hS => ?_)
                                refine k_mixed X hP hS ⟨Nat.le_of_ble_eq_true rfl, Nat.le_of_ble_eq_true rfl⟩ ⟨Nat.zero_le _, Nat.zero_le _⟩ wd379 hl.1 (Nat.le_of_ble_eq_true rfl) dX3_digest_167 (f_mixed y1_128 (f_mostLevel σ y3_117)) (f_bestPerformer σ y3_117) hwf  (fun H locs hP hS => ?_)
                                refine lv_lstore_n (lv' := [(1, .long (f_mixed (f_mixed y1_128 (f_mostLevel σ y3_117)) (f_bestPerformer σ y3_117))), (4, .int y4_128), (3, .int y3_117), (0, .ref (ad 0))]) hx hb dX3_digest_170 rfl hl (by decide) rfl (fun ls hl => ?_)
                                refine lv_lload_n hx hb dX3_digest_171 rfl (lv_at hl 0 rfl) ?_
                                refine lv_aload_n hx hb dX3_digest_172 rfl (lv_at hl 3 rfl) ?_
                                refine lv_iload_n hx hb dX3_digest_173 rfl (lv_at hl 2 rfl) ?_
                                refine k_needs X hP hS ⟨Nat.le_of_ble_eq_true rfl, Nat.le_of_ble_eq_true rfl⟩ ⟨Nat.zero_le _, Nat.zero_le _⟩ wd394 hl.1 (Nat.le_of_ble_eq_true rfl) dX3_digest_174 y3_117 hwf (⟨hi_117.1, i_nle c_122⟩) (fun H locs hP hS => ?_)
                                refine k_mixed X hP hS ⟨Nat.le_of_ble_eq_true rfl, Nat.le_of_ble_eq_true rfl⟩ ⟨Nat.zero_le _, Nat.zero_le _⟩ wd379 hl.1 (Nat.le_of_ble_eq_true rfl) dX3_digest_177 (f_mixed (f_mixed y1_128 (f_mostLevel σ y3_117)) (f_bestPerformer σ y3_117)) (f_needs σ y3_117) hwf  (fun H locs hP hS => ?_)
                                refine lv_aload_n hx hb dX3_digest_180 rfl (lv_at hl 3 rfl) ?_
                                refine lv_iload_n hx hb dX3_digest_181 rfl (lv_at hl 2 rfl) ?_
                                refine k_safeFrom X hP hS ⟨Nat.le_of_ble_eq_true rfl, Nat.le_of_ble_eq_true rfl⟩ ⟨Nat.zero_le _, Nat.zero_le _⟩ wd402 hl.1 (Nat.le_of_ble_eq_true rfl) dX3_digest_182 y3_117 hwf (⟨hi_117.1, i_nle c_122⟩) (fun H locs hP hS => ?_)
                                refine k_mixed X hP hS ⟨Nat.le_of_ble_eq_true rfl, Nat.le_of_ble_eq_true rfl⟩ ⟨Nat.zero_le _, Nat.zero_le _⟩ wd379 hl.1 (Nat.le_of_ble_eq_true rfl) dX3_digest_185 (f_mixed (f_mixed (f_mixed y1_128 (f_mostLevel σ y3_117)) (f_bestPerformer σ y3_117)) (f_needs σ y3_117)) (f_safeFrom σ y3_117) hwf  (fun H locs hP hS => ?_)
                                refine lv_lstore_n (lv' := [(1, .long (f_mixed (f_mixed (f_mixed (f_mixed y1_128 (f_mostLevel σ y3_117)) (f_bestPerformer σ y3_117)) (f_needs σ y3_117)) (f_safeFrom σ y3_117))), (4, .int y4_128), (3, .int y3_117), (0, .ref (ad 0))]) hx hb dX3_digest_188 rfl hl (by decide) rfl (fun ls hl => ?_)
                                refine lv_iinc (v := (y3_117 + (1 : Int32))) (lv' := [(3, .int (y3_117 + (1 : Int32))), (1, .long (f_mixed (f_mixed (f_mixed (f_mixed y1_128 (f_mostLevel σ y3_117)) (f_bestPerformer σ y3_117)) (f_needs σ y3_117)) (f_safeFrom σ y3_117))), (4, .int y4_128), (0, .ref (ad 0))]) hx hb dX3_digest_189 hl (k := 2) rfl rfl (by decide) rfl (fun ls hl => ?_)
                                refine lv_goto (tgt := 117) hx hb dX3_digest_192 (by decide) ?_
                                exact ih_117 (y3_117 + (1 : Int32)) (f_mixed (f_mixed (f_mixed (f_mixed y1_128 (f_mostLevel σ y3_117)) (f_bestPerformer σ y3_117)) (f_needs σ y3_117)) (f_safeFrom σ y3_117)) _ _ _ (lp_s hi_117 hlt_117) hP hS (lv_sub hl [0, 1, 3] rfl) hF
                              · have hlt_128 : y4_128.toInt < 14 := lt_nlt c_132 (by decide)
                                rw [if_neg c_132] at hF
                                refine lv_lload_n hx hb dX3_digest_135 rfl (lv_at hl 2 rfl) ?_
                                refine lv_aload_n hx hb dX3_digest_136 rfl (lv_at hl 3 rfl) ?_
                                refine lv_iload_n hx hb dX3_digest_137 rfl (lv_at hl 1 rfl) ?_
                                refine lv_iload hx hb dX3_digest_138 (lv_at hl 0 rfl) ?_
                                refine k_ofGag X hP hS ⟨Nat.le_of_ble_eq_true rfl, Nat.le_of_ble_eq_true rfl⟩ ⟨Nat.zero_le _, Nat.zero_le _⟩ wd385 hl.1 (Nat.le_of_ble_eq_true rfl) dX3_digest_140 y3_117 y4_128 hwf (⟨hi_117.1, i_nle c_122⟩) (⟨hi_128.1, i_nlt c_132⟩) (fun H locs hP hS => ?_)
                                refine k_mixed X hP hS ⟨Nat.le_of_ble_eq_true rfl, Nat.le_of_ble_eq_true rfl⟩ ⟨Nat.zero_le _, Nat.zero_le _⟩ wd379 hl.1 (Nat.le_of_ble_eq_true rfl) dX3_digest_143 y1_128 (f_ofGag σ y3_117 y4_128) hwf  (fun H locs hP hS => ?_)
                                refine lv_lstore_n (lv' := [(1, .long (f_mixed y1_128 (f_ofGag σ y3_117 y4_128))), (4, .int y4_128), (3, .int y3_117), (0, .ref (ad 0))]) hx hb dX3_digest_146 rfl hl (by decide) rfl (fun ls hl => ?_)
                                refine lv_iinc (v := (y4_128 + (1 : Int32))) (lv' := [(4, .int (y4_128 + (1 : Int32))), (1, .long (f_mixed y1_128 (f_ofGag σ y3_117 y4_128))), (3, .int y3_117), (0, .ref (ad 0))]) hx hb dX3_digest_147 hl (k := 1) rfl rfl (by decide) rfl (fun ls hl => ?_)
                                refine lv_goto (tgt := 128) hx hb dX3_digest_150 (by decide) ?_
                                exact ih_128 (y4_128 + (1 : Int32)) (f_mixed y1_128 (f_ofGag σ y3_117 y4_128)) _ _ _ (lp_s hi_128 hlt_128) hP hS (lv_sub hl [0, 2, 1, 3] rfl) hF
                          exact L_128 128 (0 : Int32) y1_117 _ _ _ (lp_z (by decide)) hP hS hl hF
                    exact L_117 128 (0 : Int32) y1_74 _ _ _ (lp_z (by decide)) hP hS hl hF
                  · have hlt_74 : y3_74.toInt < 12 := lt_nle c_79 hwf.2.1.2
                    rw [if_neg c_79] at hF
                    refine lv_iconst (v := (0 : Int32)) hx hb dX3_digest_82 (by decide) ?_
                    refine lv_istore (lv' := [(4, .int (0 : Int32)), (3, .int y3_74), (1, .long y1_74), (0, .ref (ad 0))]) hx hb dX3_digest_83 hl (by decide) rfl (fun ls hl => ?_)
                    have L_85 : ∀ (n_85 : Nat) (y4_85 : Int32) (y1_85 : Int64) (H : Heap) (locs : List Loc) (ls : Array Slot), lpI 6 y4_85 n_85 → va_P D vwCl (wl ad ca σ) H → va_S (Aw ad) s.heap H locs → lv_has ls 5 [(4, .int y4_85), (3, .int y3_74), (1, .long y1_85), (0, .ref (ad 0))] → f_digest_L85 σ y3_74 (fun y1_85 => (f_digest_L74 σ n_74 (y3_74 + (1 : Int32)) y1_85)) (n_85) y4_85 y1_85 = F → W p l e (headSpec (wm yX3_digest cX3_digest 5 (some .long)) ({ frames := 6, cells := 0, slots := 0, locals := 132 } : Room)).room s m ([.ref (ad 0)] : List Value).toArray below meth c H locs 0 0 (MQ below (va_Ql (fun r u => r = F ∧ u = σ) (wB D ad ca) (Aw ad)) ([.ref (ad 0)] : List Value).toArray s 0 0 (Aw ad)) (F0 m 85 ls []) := by
                      intro n_85
                      induction n_85 with
                      | zero => intro y4_85 y1_85 H locs ls hi_85 _ _ _ _; exact absurd hi_85 (fun h => lp_0 h)
                      | succ n_85 ih_85 =>
                        intro y4_85 y1_85 H locs ls hi_85 hP hS hl hF
                        rw [f_digest_L85] at hF
                        refine lv_iload hx hb dX3_digest_85 (lv_at hl 0 rfl) ?_
                        refine lv_iconst (v := (5 : Int32)) hx hb dX3_digest_87 (by decide) ?_
                        refine lv_icmp_gt (tgt := 109) hx hb dX3_digest_88 (by decide) (fun c_88 => ?_) (fun c_88 => ?_)
                        · rw [if_pos c_88] at hF
                          replace hF : (f_digest_L74 σ n_74 (y3_74 + (1 : Int32)) y1_85) = F := hF
                          refine lv_iinc (v := (y3_74 + (1 : Int32))) (lv' := [(3, .int (y3_74 + (1 : Int32))), (4, .int y4_85), (1, .long y1_85), (0, .ref (ad 0))]) hx hb dX3_digest_109 hl (k := 1) rfl rfl (by decide) rfl (fun ls hl => ?_)
                          refine lv_goto (tgt := 74) hx hb dX3_digest_112 (by decide) ?_
                          exact ih_74 (y3_74 + (1 : Int32)) y1_85 _ _ _ (lp_s hi_74 hlt_74) hP hS (lv_sub hl [0, 2, 3] rfl) hF
                        · have hlt_85 : y4_85.toInt < 6 := lt_nlt c_88 (by decide)
                          rw [if_neg c_88] at hF
                          refine lv_lload_n hx hb dX3_digest_91 rfl (lv_at hl 2 rfl) ?_
                          refine lv_aload_n hx hb dX3_digest_92 rfl (lv_at hl 3 rfl) ?_
                          refine lv_iload_n hx hb dX3_digest_93 rfl (lv_at hl 1 rfl) ?_
                          refine lv_iload hx hb dX3_digest_94 (lv_at hl 0 rfl) ?_
                          refine k_ofKit X hP hS ⟨Nat.le_of_ble_eq_true rfl, Nat.le_of_ble_eq_true rfl⟩ ⟨Nat.zero_le _, Nat.zero_le _⟩ wd384 hl.1 (Nat.le_of_ble_eq_true rfl) dX3_digest_96 y3_74 y4_85 hwf (⟨hi_74.1, i_nle c_79⟩) (⟨hi_85.1, i_nlt c_88⟩) (fun H locs hP hS => ?_)
                          refine k_mixed X hP hS ⟨Nat.le_of_ble_eq_true rfl, Nat.le_of_ble_eq_true rfl⟩ ⟨Nat.zero_le _, Nat.zero_le _⟩ wd379 hl.1 (Nat.le_of_ble_eq_true rfl) dX3_digest_99 y1_85 (f_ofKit σ y3_74 y4_85) hwf  (fun H locs hP hS => ?_)
                          refine lv_lstore_n (lv' := [(1, .long (f_mixed y1_85 (f_ofKit σ y3_74 y4_85))), (4, .int y4_85), (3, .int y3_74), (0, .ref (ad 0))]) hx hb dX3_digest_102 rfl hl (by decide) rfl (fun ls hl => ?_)
                          refine lv_iinc (v := (y4_85 + (1 : Int32))) (lv' := [(4, .int (y4_85 + (1 : Int32))), (1, .long (f_mixed y1_85 (f_ofKit σ y3_74 y4_85))), (3, .int y3_74), (0, .ref (ad 0))]) hx hb dX3_digest_103 hl (k := 1) rfl rfl (by decide) rfl (fun ls hl => ?_)
                          refine lv_goto (tgt := 85) hx hb dX3_digest_106 (by decide) ?_
                          exact ih_85 (y4_85 + (1 : Int32)) (f_mixed y1_85 (f_ofKit σ y3_74 y4_85)) _ _ _ (lp_s hi_85 hlt_85) hP hS (lv_sub hl [0, 2, 1, 3] rfl) hF
                    exact L_85 128 (0 : Int32) y1_74 _ _ _ (lp_z (by decide)) hP hS hl hF
              exact L_74 128 (0 : Int32) y1_30 _ _ _ (lp_z (by decide)) hP hS hl hF
            · have hlt_30 : y3_30.toInt < 8 := lt_nle c_35 hwf.1.2
              rw [if_neg c_35] at hF
              refine lv_iconst (v := (0 : Int32)) hx hb dX3_digest_38 (by decide) ?_
              refine lv_istore (lv' := [(4, .int (0 : Int32)), (3, .int y3_30), (1, .long y1_30), (0, .ref (ad 0))]) hx hb dX3_digest_39 hl (by decide) rfl (fun ls hl => ?_)
              have L_41 : ∀ (n_41 : Nat) (y4_41 : Int32) (y1_41 : Int64) (H : Heap) (locs : List Loc) (ls : Array Slot), lpI 12 y4_41 n_41 → va_P D vwCl (wl ad ca σ) H → va_S (Aw ad) s.heap H locs → lv_has ls 5 [(4, .int y4_41), (3, .int y3_30), (1, .long y1_41), (0, .ref (ad 0))] → f_digest_L41 σ y3_30 (fun y1_41 => (f_digest_L30 σ n_30 (y3_30 + (1 : Int32)) y1_41)) (n_41) y4_41 y1_41 = F → W p l e (headSpec (wm yX3_digest cX3_digest 5 (some .long)) ({ frames := 6, cells := 0, slots := 0, locals := 132 } : Room)).room s m ([.ref (ad 0)] : List Value).toArray below meth c H locs 0 0 (MQ below (va_Ql (fun r u => r = F ∧ u = σ) (wB D ad ca) (Aw ad)) ([.ref (ad 0)] : List Value).toArray s 0 0 (Aw ad)) (F0 m 41 ls []) := by
                intro n_41
                induction n_41 with
                | zero => intro y4_41 y1_41 H locs ls hi_41 _ _ _ _; exact absurd hi_41 (fun h => lp_0 h)
                | succ n_41 ih_41 =>
                  intro y4_41 y1_41 H locs ls hi_41 hP hS hl hF
                  rw [f_digest_L41] at hF
                  refine lv_iload hx hb dX3_digest_41 (lv_at hl 0 rfl) ?_
                  refine lv_bipush (v := (11 : Int32)) hx hb dX3_digest_43 (by decide) ?_
                  refine lv_icmp_gt (tgt := 66) hx hb dX3_digest_45 (by decide) (fun c_45 => ?_) (fun c_45 => ?_)
                  · rw [if_pos c_45] at hF
                    replace hF : (f_digest_L30 σ n_30 (y3_30 + (1 : Int32)) y1_41) = F := hF
                    refine lv_iinc (v := (y3_30 + (1 : Int32))) (lv' := [(3, .int (y3_30 + (1 : Int32))), (4, .int y4_41), (1, .long y1_41), (0, .ref (ad 0))]) hx hb dX3_digest_66 hl (k := 1) rfl rfl (by decide) rfl (fun ls hl => ?_)
                    refine lv_goto (tgt := 30) hx hb dX3_digest_69 (by decide) ?_
                    exact ih_30 (y3_30 + (1 : Int32)) y1_41 _ _ _ (lp_s hi_30 hlt_30) hP hS (lv_sub hl [0, 2, 3] rfl) hF
                  · have hlt_41 : y4_41.toInt < 12 := lt_nlt c_45 (by decide)
                    rw [if_neg c_45] at hF
                    refine lv_lload_n hx hb dX3_digest_48 rfl (lv_at hl 2 rfl) ?_
                    refine lv_aload_n hx hb dX3_digest_49 rfl (lv_at hl 3 rfl) ?_
                    refine lv_iload_n hx hb dX3_digest_50 rfl (lv_at hl 1 rfl) ?_
                    refine lv_iload hx hb dX3_digest_51 (lv_at hl 0 rfl) ?_
                    refine k_ofPerson X hP hS ⟨Nat.le_of_ble_eq_true rfl, Nat.le_of_ble_eq_true rfl⟩ ⟨Nat.zero_le _, Nat.zero_le _⟩ wd383 hl.1 (Nat.le_of_ble_eq_true rfl) dX3_digest_53 y3_30 y4_41 hwf (⟨hi_30.1, i_nle c_35⟩) (⟨hi_41.1, i_nlt c_45⟩) (fun H locs hP hS => ?_)
                    refine k_mixed X hP hS ⟨Nat.le_of_ble_eq_true rfl, Nat.le_of_ble_eq_true rfl⟩ ⟨Nat.zero_le _, Nat.zero_le _⟩ wd379 hl.1 (Nat.le_of_ble_eq_true rfl) dX3_digest_56 y1_41 (f_ofPerson σ y3_30 y4_41) hwf  (fun H locs hP hS => ?_)
                    refine lv_lstore_n (lv' := [(1, .long (f_mixed y1_41 (f_ofPerson σ y3_30 y4_41))), (4, .int y4_41), (3, .int y3_30), (0, .ref (ad 0))]) hx hb dX3_digest_59 rfl hl (by decide) rfl (fun ls hl => ?_)
                    refine lv_iinc (v := (y4_41 + (1 : Int32))) (lv' := [(4, .int (y4_41 + (1 : Int32))), (1, .long (f_mixed y1_41 (f_ofPerson σ y3_30 y4_41))), (3, .int y3_30), (0, .ref (ad 0))]) hx hb dX3_digest_60 hl (k := 1) rfl rfl (by decide) rfl (fun ls hl => ?_)
                    refine lv_goto (tgt := 41) hx hb dX3_digest_63 (by decide) ?_
                    exact ih_41 (y4_41 + (1 : Int32)) (f_mixed y1_41 (f_ofPerson σ y3_30 y4_41)) _ _ _ (lp_s hi_41 hlt_41) hP hS (lv_sub hl [0, 2, 1, 3] rfl) hF
              exact L_41 128 (0 : Int32) y1_30 _ _ _ (lp_z (by decide)) hP hS hl hF
        exact L_30 128 (0 : Int32) y1_6 _ _ _ (lp_z (by decide)) hP hS hl hF
      · have hlt_6 : y3_6.toInt < 14 := lt_nlt c_9 (by decide)
        rw [if_neg c_9] at hF
        refine lv_lload_n hx hb dX3_digest_12 rfl (lv_at hl 1 rfl) ?_
        refine lv_aload_n hx hb dX3_digest_13 rfl (lv_at hl 2 rfl) ?_
        refine lv_iload_n hx hb dX3_digest_14 rfl (lv_at hl 0 rfl) ?_
        refine k_many X hP hS ⟨Nat.le_of_ble_eq_true rfl, Nat.le_of_ble_eq_true rfl⟩ ⟨Nat.zero_le _, Nat.zero_le _⟩ wd378 hl.1 (Nat.le_of_ble_eq_true rfl) dX3_digest_15 y3_6 hwf (⟨hi_6.1, i_nlt c_9⟩) (fun H locs hP hS => ?_)
        refine k_mixed X hP hS ⟨Nat.le_of_ble_eq_true rfl, Nat.le_of_ble_eq_true rfl⟩ ⟨Nat.zero_le _, Nat.zero_le _⟩ wd379 hl.1 (Nat.le_of_ble_eq_true rfl) dX3_digest_18 y1_6 (f_many σ y3_6) hwf  (fun H locs hP hS => ?_)
        refine lv_lstore_n (lv' := [(1, .long (f_mixed y1_6 (f_many σ y3_6))), (3, .int y3_6), (0, .ref (ad 0))]) hx hb dX3_digest_21 rfl hl (by decide) rfl (fun ls hl => ?_)
        refine lv_iinc (v := (y3_6 + (1 : Int32))) (lv' := [(3, .int (y3_6 + (1 : Int32))), (1, .long (f_mixed y1_6 (f_many σ y3_6))), (0, .ref (ad 0))]) hx hb dX3_digest_22 hl (k := 1) rfl rfl (by decide) rfl (fun ls hl => ?_)
        refine lv_goto (tgt := 6) hx hb dX3_digest_25 (by decide) ?_
        exact ih_6 (y3_6 + (1 : Int32)) (f_mixed y1_6 (f_many σ y3_6)) _ _ _ (lp_s hi_6 hlt_6) hP hS (lv_sub hl [0, 1, 2] rfl) hF
  exact L_6 128 (0 : Int32) (58230 : Int64) _ _ _ (lp_z (by decide)) hP hS hl hF
theorem k_digest {p : Program} {l : Launch} {e : Env} {R : Room} {s : State} {m : MethodId} {args : Array Value} {below : List Frame} {meth : Method} {c : Code} {H : Heap} {locs : List Loc} {cells slots : Nat} {Q : State → Prop} {cc : ByteArray} {pc : Nat} {ls : Array Slot} {rest : List Value} {D : va_G} {A : Nat → Prop} {ad : Nat → Nat} {ca : Nat → ClassId} {tw nL : Nat} {σ : St} {own : String} {index : Nat} (X : Cx p s m args c own cc nL D ad ca tw A) (hP : va_P D vwCl (wl ad ca σ) H) (hS : va_S A s.heap H locs) (hR : 7 ≤ R.frames ∧ 156 ≤ R.locals) (hcap : cells ≤ R.cells ∧ slots ≤ R.slots) (hlk : Cond.methodLink own index yX3_digest ∈ wsL_law0) (hsz : ls.size = nL) (hrs : (rest.map fun v => v.category).sum ≤ 8) (hdg : decode cc pc = .ok (.invokevirtual index, 3)) (hwf : WF σ) 
    (kk : ∀ (H1 : Heap) (locs1 : List Loc), va_P D vwCl (wl ad ca σ) H1 → va_S A s.heap H1 locs1 → W p l e R s m args below meth c H1 locs1 cells slots Q (F0 m (pc + 3) ls (.long (f_digest σ) :: rest))) : W p l e R s m args below meth c H locs cells slots Q (F0 m pc ls (.ref (ad 0) :: rest)) := by
  refine q_bl X hS (q_runV (as := []) X hP hS (q_cwV (rm := ({ frames := 6, cells := 0, slots := 0, locals := 132 } : Room)) (k := 0) X.2.2.2.2.1 hlk wd374 wd375 wd2 wd376 rfl rfl (by decide +kernel) rfl ⟨hR.1, hR.2⟩) (c_digest l D ad ca tw X.2.2.2.2.2.2.1 σ hwf ) rfl hsz rfl hrs hdg hcap) (fun r u H1 locs1 h1 h2 h3 => ?_)
  obtain ⟨rfl, rfl⟩ := h1
  exact kk H1 locs1 h2 h3
