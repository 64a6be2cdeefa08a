set_option maxHeartbeats 4000000 in
set_option maxRecDepth 100000 in
theorem c_write (l : Launch) (D : va_G) (ad : Nat → Nat) (ca : Nat → ClassId) (tw : Nat) (hI : ∀ i j, i < 40 → j < 40 → ad i = ad j → i = j) (σ : St) (b L : Nat) (xs : Nat → Int32) (hL : L ≤ 260) (x2 : Int32) (h2 : bd x2 5) (iv_σ : WI 0 0 0 σ) (pf_σ : PF σ) : Met l yL_write (wm yL_write cL_write 6 none) ({ frames := 6, cells := 0, slots := 0, locals := 132 } : Room) (va_Pc [.ref (ad 0), .ref b, .int x2] (wPreX D ad ca tw σ b L xs)) (va_Qv (fun u => WI 5 8 4 u ∧ PF u) (wB D ad ca) (Aw ad)) 0 0 (Aw ad) := by
  refine Met.ofW (cc := cL_write) (maxL := 6) (ret := none) (by decide) rfl ?_
  intro p e s m args below meth c s₁ B hml hv
  obtain ⟨rfl, hv, hX, hbl, hbA⟩ := hv
  have X := q_open (own := RL) B rfl hml hI hv
  have hx := X.1
  have hb := X.2.1
  have hts := X.2.2.2.2.1
  have hr := B.returns
  have hlocks := B.notSynchronized
  have hP := hv.1
  have hS : va_S (Aw ad) s.heap s.heap [] := va_S.rf
  have hU : va_P D vwCl [] s.heap := fun k q h => by simp at h
  have hUA : ∀ (k : Nat) (q : Nat × va_E), ([] : va_W)[k]? = some q → ¬ Aw ad q.1 := fun k q h => by simp at h
  have hl := lv_entry ([.ref (ad 0), .ref b, .int x2]) (n := 6) (Nat.le_of_ble_eq_true rfl)
  rw [lg_entry_eq]
  generalize (lg_sl ([.ref (ad 0), .ref b, .int x2]) ++ List.replicate (6 - (lg_sl ([.ref (ad 0), .ref b, .int x2])).length) Slot.unset).toArray = ls at hl ⊢
  have hl : lv_has ls 6 [(0, .ref (ad 0)), (1, .ref b), (2, .int x2)] := hl
  refine lv_iconst (v := (0 : Int32)) hx hb dL_write_0 (by decide) ?_
  refine lv_istore_n (lv' := [(3, .int (0 : Int32)), (0, .ref (ad 0)), (1, .ref b), (2, .int x2)]) hx hb dL_write_1 rfl hl (by decide) rfl (fun ls hl => ?_)
  have L_2 : ∀ (n_2 : Nat) (σ_2 : St) (y3_2 : Int32) (H : Heap) (locs : List Loc) (ls : Array Slot), lpI 5 y3_2 n_2 → (WI y3_2 0 0 σ_2) → (PF σ_2) → va_P D vwCl (wl ad ca σ_2) H → va_P D vwCl [] H → va_S (Aw ad) s.heap H locs → lv_has ls 6 [(3, .int y3_2), (0, .ref (ad 0)), (1, .ref b), (2, .int x2)] → W p l e (headSpec (wm yL_write cL_write 6 none) ({ frames := 6, cells := 0, slots := 0, locals := 132 } : Room)).room s m ([.ref (ad 0), .ref b, .int x2] : List Value).toArray below meth c H locs 0 0 (MQ below (va_Qv (fun u => WI 5 8 4 u ∧ PF u) (wB D ad ca) (Aw ad)) ([.ref (ad 0), .ref b, .int x2] : List Value).toArray s 0 0 (Aw ad)) (F0 m 2 ls []) := by
    intro n_2
    induction n_2 with
    | zero => intro σ_2 y3_2 H locs ls hi_2; exact absurd hi_2 (fun h => lp_0 h)
    | succ n_2 ih_2 =>
      intro σ_2 y3_2 H locs ls hi_2 iv_σ_2 pf_σ_2 hP hU hS hl
      refine lv_iload_n hx hb dL_write_2 rfl (lv_at hl 0 rfl) ?_
      refine lv_iconst (v := (5 : Int32)) hx hb dL_write_3 (by decide) ?_
      refine lv_icmp_ge (tgt := 106) hx hb dL_write_4 (by decide) (fun c_4 => ?_) (fun c_4 => ?_)
      · skip
        have e106 : y3_2 = 5 := eq_end hi_2.2.1 (by decide) c_4
        rw [e106] at iv_σ_2
        refine lv_iconst (v := (0 : Int32)) hx hb dL_write_106 (by decide) ?_
        refine lv_istore_n (lv' := [(3, .int (0 : Int32)), (0, .ref (ad 0)), (1, .ref b), (2, .int x2)]) hx hb dL_write_107 rfl hl (by decide) rfl (fun ls hl => ?_)
        have L_108 : ∀ (n_108 : Nat) (σ_108 : St) (y3_108 : Int32) (H : Heap) (locs : List Loc) (ls : Array Slot), lpI 4 y3_108 n_108 → (WI 5 0 y3_108 σ_108) → (PF σ_108) → va_P D vwCl (wl ad ca σ_108) H → va_P D vwCl [] H → va_S (Aw ad) s.heap H locs → lv_has ls 6 [(3, .int y3_108), (0, .ref (ad 0)), (1, .ref b), (2, .int x2)] → W p l e (headSpec (wm yL_write cL_write 6 none) ({ frames := 6, cells := 0, slots := 0, locals := 132 } : Room)).room s m ([.ref (ad 0), .ref b, .int x2] : List Value).toArray below meth c H locs 0 0 (MQ below (va_Qv (fun u => WI 5 8 4 u ∧ PF u) (wB D ad ca) (Aw ad)) ([.ref (ad 0), .ref b, .int x2] : List Value).toArray s 0 0 (Aw ad)) (F0 m 108 ls []) := by
          intro n_108
          induction n_108 with
          | zero => intro σ_108 y3_108 H locs ls hi_108; exact absurd hi_108 (fun h => lp_0 h)
          | succ n_108 ih_108 =>
            intro σ_108 y3_108 H locs ls hi_108 iv_σ_108 pf_σ_108 hP hU hS hl
            refine lv_iload_n hx hb dL_write_108 rfl (lv_at hl 0 rfl) ?_
            refine lv_iconst (v := (4 : Int32)) hx hb dL_write_109 (by decide) ?_
            refine lv_icmp_ge (tgt := 183) hx hb dL_write_110 (by decide) (fun c_110 => ?_) (fun c_110 => ?_)
            · skip
              have e183 : y3_108 = 4 := eq_end hi_108.2.1 (by decide) c_110
              rw [e183] at iv_σ_108
              refine lv_iconst (v := (0 : Int32)) hx hb dL_write_183 (by decide) ?_
              refine lv_istore_n (lv' := [(3, .int (0 : Int32)), (0, .ref (ad 0)), (1, .ref b), (2, .int x2)]) hx hb dL_write_184 rfl hl (by decide) rfl (fun ls hl => ?_)
              have L_185 : ∀ (n_185 : Nat) (σ_185 : St) (y3_185 : Int32) (H : Heap) (locs : List Loc) (ls : Array Slot), lpI 8 y3_185 n_185 → (WI 5 y3_185 4 σ_185) → (PF σ_185) → va_P D vwCl (wl ad ca σ_185) H → va_P D vwCl [] H → va_S (Aw ad) s.heap H locs → lv_has ls 6 [(3, .int y3_185), (0, .ref (ad 0)), (1, .ref b), (2, .int x2)] → W p l e (headSpec (wm yL_write cL_write 6 none) ({ frames := 6, cells := 0, slots := 0, locals := 132 } : Room)).room s m ([.ref (ad 0), .ref b, .int x2] : List Value).toArray below meth c H locs 0 0 (MQ below (va_Qv (fun u => WI 5 8 4 u ∧ PF u) (wB D ad ca) (Aw ad)) ([.ref (ad 0), .ref b, .int x2] : List Value).toArray s 0 0 (Aw ad)) (F0 m 185 ls []) := by
                intro n_185
                induction n_185 with
                | zero => intro σ_185 y3_185 H locs ls hi_185; exact absurd hi_185 (fun h => lp_0 h)
                | succ n_185 ih_185 =>
                  intro σ_185 y3_185 H locs ls hi_185 iv_σ_185 pf_σ_185 hP hU hS hl
                  refine lv_iload_n hx hb dL_write_185 rfl (lv_at hl 0 rfl) ?_
                  refine lv_bipush (v := (8 : Int32)) hx hb dL_write_186 (by decide) ?_
                  refine lv_icmp_ge (tgt := 278) hx hb dL_write_188 (by decide) (fun c_188 => ?_) (fun c_188 => ?_)
                  · skip
                    have e278 : y3_185 = 8 := eq_end hi_185.2.1 (by decide) c_188
                    rw [e278] at iv_σ_185
                    exact W.vret hx hb hr (fun t ht hW => ⟨⟨σ_185, rfl, ⟨iv_σ_185, pf_σ_185⟩, wB_of ht hP⟩, hS.F ht⟩) hS.2.2 dL_write_278
                  · have hlt_185 : y3_185.toInt < 8 := lt_nle c_188 (by decide)
                    skip
                    refine lv_aload_n hx hb dL_write_191 rfl (lv_at hl 2 rfl) ?_
                    refine lv_iload_n hx hb dL_write_192 rfl (lv_at hl 0 rfl) ?_
                    refine lv_iload_n hx hb dL_write_193 rfl (lv_at hl 3 rfl) ?_
                    refine lv_iadd hx hb dL_write_194 ?_
                    refine lv_bipush (v := (9 : Int32)) hx hb dL_write_195 (by decide) ?_
                    refine lv_iadd hx hb dL_write_197 ?_
                    refine kx_cell X hP hS hU hUA ⟨Nat.le_of_ble_eq_true rfl, Nat.le_of_ble_eq_true rfl⟩ ⟨Nat.zero_le _, Nat.zero_le _⟩ wd70 hl.1 (Nat.le_of_ble_eq_true rfl) dL_write_198 hX hbl hbA hL ((y3_185 + x2) + (9 : Int32)) ((bd_add (m := 10) (bd_add (n := 10) (m := 5) (⟨hi_185.1, by omega⟩ : bd y3_185 10) h2 (by decide)) (⟨by decide, by decide⟩ : bd (9 : Int32) 10) (by decide)).1) (fun r1 H locs hP hU hS => ?_)
                    refine lv_istore (lv' := [(4, .int r1), (3, .int y3_185), (0, .ref (ad 0)), (1, .ref b), (2, .int x2)]) hx hb dL_write_201 hl (by decide) rfl (fun ls hl => ?_)
                    refine lv_aload_n hx hb dL_write_203 rfl (lv_at hl 2 rfl) ?_
                    refine lv_aload_n hx hb dL_write_204 rfl (lv_at hl 2 rfl) ?_
                    refine lv_iload_n hx hb dL_write_205 rfl (lv_at hl 1 rfl) ?_
                    refine lv_iconst (v := (4 : Int32)) hx hb dL_write_206 (by decide) ?_
                    refine lv_irem hx hb dL_write_207 (by decide) ?_
                    refine lv_iconst (v := (0 : Int32)) hx hb dL_write_208 (by decide) ?_
                    refine kx_ofGag X hP hS hU hUA ⟨Nat.le_of_ble_eq_true rfl, Nat.le_of_ble_eq_true rfl⟩ ⟨Nat.zero_le _, Nat.zero_le _⟩ wd163 hl.1 (Nat.le_of_ble_eq_true rfl) dL_write_209 (y3_185 - y3_185 / (4 : Int32) * (4 : Int32)) (0 : Int32) iv_σ_185.1.1 (by rw [iv_σ_185.2.2.2.2.2]; exact inr_n (rem_in hi_185.1 (n := 4) (d := 4) rfl (by decide) (by decide)) (by decide)) (⟨by decide, by decide⟩) (fun H locs hP hU hS => ?_)
                    refine lv_iconst (v := (1 : Int32)) hx hb dL_write_212 (by decide) ?_
                    refine lv_iload hx hb dL_write_213 (lv_at hl 0 rfl) ?_
                    refine lv_bipush (v := (90 : Int32)) hx hb dL_write_215 (by decide) ?_
                    refine kx_below X hP hS hU hUA ⟨Nat.le_of_ble_eq_true rfl, Nat.le_of_ble_eq_true rfl⟩ ⟨Nat.zero_le _, Nat.zero_le _⟩ wd74 hl.1 (Nat.le_of_ble_eq_true rfl) dL_write_217 r1 (90 : Int32) (by decide) (fun H locs hP hU hS => ?_)
                    refine lv_iadd hx hb dL_write_220 ?_
                    refine lv_iconst (v := (1 : Int32)) hx hb dL_write_221 (by decide) ?_
                    refine lv_iload hx hb dL_write_222 (lv_at hl 0 rfl) ?_
                    refine lv_iconst (v := (1 : Int32)) hx hb dL_write_224 (by decide) ?_
                    refine lv_ishr hx hb dL_write_225 ?_
                    refine lv_iconst (v := (5 : Int32)) hx hb dL_write_226 (by decide) ?_
                    refine kx_below X hP hS hU hUA ⟨Nat.le_of_ble_eq_true rfl, Nat.le_of_ble_eq_true rfl⟩ ⟨Nat.zero_le _, Nat.zero_le _⟩ wd74 hl.1 (Nat.le_of_ble_eq_true rfl) dL_write_227 (r1 >>> ((1 : Int32) &&& (31 : Int32))) (5 : Int32) (by decide) (fun H locs hP hU hS => ?_)
                    refine lv_iadd hx hb dL_write_230 ?_
                    refine kx_kit X hP hS hU hUA ⟨Nat.le_of_ble_eq_true rfl, Nat.le_of_ble_eq_true rfl⟩ ⟨Nat.zero_le _, Nat.zero_le _⟩ wd244 hl.1 (Nat.le_of_ble_eq_true rfl) dL_write_231 (f_ofGag σ_185 (y3_185 - y3_185 / (4 : Int32) * (4 : Int32)) (0 : Int32)) ((1 : Int32) + (f_below r1 (90 : Int32))) ((1 : Int32) + (f_below (r1 >>> ((1 : Int32) &&& (31 : Int32))) (5 : Int32))) iv_σ_185.1.1 (by rw [rd_g0]; exact WF.gk iv_σ_185.1.1 (vp_mono (rem_in hi_185.1 (n := 4) (d := 4) rfl (by decide) (by decide)) (by decide))) (rg_1 (below_in (d := 90) rfl (by decide) (by decide)) (by decide) (by decide) (by decide)) (rg_1 (below_in (d := 5) rfl (by decide) (by decide)) (by decide) (by decide) (by decide)) (by rw [iv_σ_185.2.2.2.2.1]; omega) (fun H locs hP hU hS => ?_)
                    have iv_σ2 : WI 5 (y3_185 + 1) 4 ((f_kit σ_185 (f_ofGag σ_185 (y3_185 - y3_185 / (4 : Int32) * (4 : Int32)) (0 : Int32)) ((1 : Int32) + (f_below r1 (90 : Int32))) ((1 : Int32) + (f_below (r1 >>> ((1 : Int32) &&& (31 : Int32))) (5 : Int32)))).2) := (wi_kit iv_σ_185 (by omega) (vp_in_iff.mp (vp_1 (m := 10) (below_in (d := 5) rfl (by decide) (by decide)) (by decide) (by decide))).1).1
                    have pt_σ2 : ((f_kit σ_185 (f_ofGag σ_185 (y3_185 - y3_185 / (4 : Int32) * (4 : Int32)) (0 : Int32)) ((1 : Int32) + (f_below r1 (90 : Int32))) ((1 : Int32) + (f_below (r1 >>> ((1 : Int32) &&& (31 : Int32))) (5 : Int32)))).2).1 (22 + y3_185.toNatClampNeg) 4 = -1 := (wi_kit iv_σ_185 (by omega) (vp_in_iff.mp (vp_1 (m := 10) (below_in (d := 5) rfl (by decide) (by decide)) (by decide) (by decide))).1).2
                    have pf_σ2 : PF ((f_kit σ_185 (f_ofGag σ_185 (y3_185 - y3_185 / (4 : Int32) * (4 : Int32)) (0 : Int32)) ((1 : Int32) + (f_below r1 (90 : Int32))) ((1 : Int32) + (f_below (r1 >>> ((1 : Int32) &&& (31 : Int32))) (5 : Int32)))).2) := PF.of iv_σ_185.1.1 pf_σ_185 (pf_kit).1 (pf_kit).2.1 (fun g hg => (pf_kit).2.2 g hg (by rw [iv_σ_185.2.2.2.2.1]; exact ix_lt (vp_mono (lp_i hi_185 hlt_185) (by decide))))
                    generalize (f_kit σ_185 (f_ofGag σ_185 (y3_185 - y3_185 / (4 : Int32) * (4 : Int32)) (0 : Int32)) ((1 : Int32) + (f_below r1 (90 : Int32))) ((1 : Int32) + (f_below (r1 >>> ((1 : Int32) &&& (31 : Int32))) (5 : Int32)))).2 = σ2 at hP iv_σ2 pt_σ2 pf_σ2
                    generalize (f_kit σ_185 (f_ofGag σ_185 (y3_185 - y3_185 / (4 : Int32) * (4 : Int32)) (0 : Int32)) ((1 : Int32) + (f_below r1 (90 : Int32))) ((1 : Int32) + (f_below (r1 >>> ((1 : Int32) &&& (31 : Int32))) (5 : Int32)))).1 = r3
                    refine lv_pop hx hb dL_write_234 rfl ?_
                    refine lv_iload hx hb dL_write_235 (lv_at hl 0 rfl) ?_
                    refine lv_iconst (v := (2 : Int32)) hx hb dL_write_237 (by decide) ?_
                    refine lv_ishr hx hb dL_write_238 ?_
                    refine lv_iconst (v := (4 : Int32)) hx hb dL_write_239 (by decide) ?_
                    refine kx_below X hP hS hU hUA ⟨Nat.le_of_ble_eq_true rfl, Nat.le_of_ble_eq_true rfl⟩ ⟨Nat.zero_le _, Nat.zero_le _⟩ wd74 hl.1 (Nat.le_of_ble_eq_true rfl) dL_write_240 (r1 >>> ((2 : Int32) &&& (31 : Int32))) (4 : Int32) (by decide) (fun H locs hP hU hS => ?_)
                    refine lv_if_le (tgt := 255) hx hb dL_write_243 (by decide) (fun c_243 => ?_) (fun c_243 => ?_)
                    · skip
                      refine lv_iload hx hb dL_write_255 (lv_at hl 0 rfl) ?_
                      refine lv_iconst (v := (3 : Int32)) hx hb dL_write_257 (by decide) ?_
                      refine lv_ishr hx hb dL_write_258 ?_
                      refine lv_iconst (v := (4 : Int32)) hx hb dL_write_259 (by decide) ?_
                      refine kx_below X hP hS hU hUA ⟨Nat.le_of_ble_eq_true rfl, Nat.le_of_ble_eq_true rfl⟩ ⟨Nat.zero_le _, Nat.zero_le _⟩ wd74 hl.1 (Nat.le_of_ble_eq_true rfl) dL_write_260 (r1 >>> ((3 : Int32) &&& (31 : Int32))) (4 : Int32) (by decide) (fun H locs hP hU hS => ?_)
                      refine lv_if_le (tgt := 272) hx hb dL_write_263 (by decide) (fun c_263 => ?_) (fun c_263 => ?_)
                      · skip
                        refine lv_iinc (v := (y3_185 + (1 : Int32))) (lv' := [(3, .int (y3_185 + (1 : Int32))), (4, .int r1), (0, .ref (ad 0)), (1, .ref b), (2, .int x2)]) hx hb dL_write_272 hl (k := 1) rfl rfl (by decide) rfl (fun ls hl => ?_)
                        refine lv_goto (tgt := 185) hx hb dL_write_275 (by decide) ?_
                        exact ih_185 σ2 (y3_185 + (1 : Int32)) _ _ _ (lp_s hi_185 hlt_185) iv_σ2 pf_σ2 hP hU hS (lv_sub hl [0, 2, 3, 4] rfl)
                      · skip
                        refine lv_aload_n hx hb dL_write_266 rfl (lv_at hl 2 rfl) ?_
                        refine lv_iload_n hx hb dL_write_267 rfl (lv_at hl 1 rfl) ?_
                        refine kx_inspect X hP hS hU hUA ⟨Nat.le_of_ble_eq_true rfl, Nat.le_of_ble_eq_true rfl⟩ ⟨Nat.zero_le _, Nat.zero_le _⟩ wd263 hl.1 (Nat.le_of_ble_eq_true rfl) dL_write_268 y3_185 iv_σ2.1.1 (by rw [iv_σ2.2.2.2.2.1]; exact inr_s hi_185.1 (by omega)) (fun H locs hP hU hS => ?_)
                        have iv_σ4 : WI 5 (y3_185 + 1) 4 ((f_inspect σ2 y3_185).2) := wi_inspect iv_σ2 (by rw [iv_σ2.2.2.2.2.1]; exact inr_s hi_185.1 (by omega))
                        have pf_σ4 : PF ((f_inspect σ2 y3_185).2) := pf_inspect iv_σ2.1.1 pf_σ2 (by rw [iv_σ2.2.2.2.2.1]; exact inr_s hi_185.1 (by omega))
                        generalize (f_inspect σ2 y3_185).2 = σ4 at hP iv_σ4 pf_σ4
                        generalize (f_inspect σ2 y3_185).1 = r5
                        refine lv_pop hx hb dL_write_271 rfl ?_
                        refine lv_iinc (v := (y3_185 + (1 : Int32))) (lv' := [(3, .int (y3_185 + (1 : Int32))), (4, .int r1), (0, .ref (ad 0)), (1, .ref b), (2, .int x2)]) hx hb dL_write_272 hl (k := 1) rfl rfl (by decide) rfl (fun ls hl => ?_)
                        refine lv_goto (tgt := 185) hx hb dL_write_275 (by decide) ?_
                        exact ih_185 σ4 (y3_185 + (1 : Int32)) _ _ _ (lp_s hi_185 hlt_185) iv_σ4 pf_σ4 hP hU hS (lv_sub hl [0, 2, 3, 4] rfl)
                    · skip
                      refine lv_aload_n hx hb dL_write_246 rfl (lv_at hl 2 rfl) ?_
                      refine lv_iload_n hx hb dL_write_247 rfl (lv_at hl 1 rfl) ?_
                      refine lv_iload_n hx hb dL_write_248 rfl (lv_at hl 1 rfl) ?_
                      refine lv_iconst (v := (4 : Int32)) hx hb dL_write_249 (by decide) ?_
                      refine lv_irem hx hb dL_write_250 (by decide) ?_
                      refine kx_put X hP hS hU hUA ⟨Nat.le_of_ble_eq_true rfl, Nat.le_of_ble_eq_true rfl⟩ ⟨Nat.zero_le _, Nat.zero_le _⟩ wd248 hl.1 (Nat.le_of_ble_eq_true rfl) dL_write_251 y3_185 (y3_185 - y3_185 / (4 : Int32) * (4 : Int32)) iv_σ2.1.1 (by rw [iv_σ2.2.2.2.2.1]; exact inr_s hi_185.1 (by omega)) (by rw [iv_σ2.2.2.2.2.2]; exact inr_n (rem_in hi_185.1 (n := 4) (d := 4) rfl (by decide) (by decide)) (by decide)) (ne_neg (rem_in hi_185.1 (n := 4) (d := 4) rfl (by decide) (by decide)) pt_σ2) (fun H locs hP hU hS => ?_)
                      have iv_σ6 : WI 5 (y3_185 + 1) 4 ((f_put σ2 y3_185 (y3_185 - y3_185 / (4 : Int32) * (4 : Int32))).2) := wi_put iv_σ2 (by rw [iv_σ2.2.2.2.2.1]; exact inr_s hi_185.1 (by omega)) (vp_mono (rem_in hi_185.1 (n := 4) (d := 4) rfl (by decide) (by decide)) (by decide))
                      have pf_σ6 : PF ((f_put σ2 y3_185 (y3_185 - y3_185 / (4 : Int32) * (4 : Int32))).2) := pf_put iv_σ2.1.1 pf_σ2 (by rw [iv_σ2.2.2.2.2.1]; exact inr_s hi_185.1 (by omega)) (vp_mono (rem_in hi_185.1 (n := 4) (d := 4) rfl (by decide) (by decide)) (by decide))
                      generalize (f_put σ2 y3_185 (y3_185 - y3_185 / (4 : Int32) * (4 : Int32))).2 = σ6 at hP iv_σ6 pf_σ6
                      generalize (f_put σ2 y3_185 (y3_185 - y3_185 / (4 : Int32) * (4 : Int32))).1 = r7
                      refine lv_pop hx hb dL_write_254 rfl ?_
                      refine lv_iload hx hb dL_write_255 (lv_at hl 0 rfl) ?_
                      refine lv_iconst (v := (3 : Int32)) hx hb dL_write_257 (by decide) ?_
                      refine lv_ishr hx hb dL_write_258 ?_
                      refine lv_iconst (v := (4 : Int32)) hx hb dL_write_259 (by decide) ?_
                      refine kx_below X hP hS hU hUA ⟨Nat.le_of_ble_eq_true rfl, Nat.le_of_ble_eq_true rfl⟩ ⟨Nat.zero_le _, Nat.zero_le _⟩ wd74 hl.1 (Nat.le_of_ble_eq_true rfl) dL_write_260 (r1 >>> ((3 : Int32) &&& (31 : Int32))) (4 : Int32) (by decide) (fun H locs hP hU hS => ?_)
                      refine lv_if_le (tgt := 272) hx hb dL_write_263 (by decide) (fun c_263 => ?_) (fun c_263 => ?_)
                      · skip
                        refine lv_iinc (v := (y3_185 + (1 : Int32))) (lv' := [(3, .int (y3_185 + (1 : Int32))), (4, .int r1), (0, .ref (ad 0)), (1, .ref b), (2, .int x2)]) hx hb dL_write_272 hl (k := 1) rfl rfl (by decide) rfl (fun ls hl => ?_)
                        refine lv_goto (tgt := 185) hx hb dL_write_275 (by decide) ?_
                        exact ih_185 σ6 (y3_185 + (1 : Int32)) _ _ _ (lp_s hi_185 hlt_185) iv_σ6 pf_σ6 hP hU hS (lv_sub hl [0, 2, 3, 4] rfl)
                      · skip
                        refine lv_aload_n hx hb dL_write_266 rfl (lv_at hl 2 rfl) ?_
                        refine lv_iload_n hx hb dL_write_267 rfl (lv_at hl 1 rfl) ?_
                        refine kx_inspect X hP hS hU hUA ⟨Nat.le_of_ble_eq_true rfl, Nat.le_of_ble_eq_true rfl⟩ ⟨Nat.zero_le _, Nat.zero_le _⟩ wd263 hl.1 (Nat.le_of_ble_eq_true rfl) dL_write_268 y3_185 iv_σ6.1.1 (by rw [iv_σ6.2.2.2.2.1]; exact inr_s hi_185.1 (by omega)) (fun H locs hP hU hS => ?_)
                        have iv_σ8 : WI 5 (y3_185 + 1) 4 ((f_inspect σ6 y3_185).2) := wi_inspect iv_σ6 (by rw [iv_σ6.2.2.2.2.1]; exact inr_s hi_185.1 (by omega))
                        have pf_σ8 : PF ((f_inspect σ6 y3_185).2) := pf_inspect iv_σ6.1.1 pf_σ6 (by rw [iv_σ6.2.2.2.2.1]; exact inr_s hi_185.1 (by omega))
                        generalize (f_inspect σ6 y3_185).2 = σ8 at hP iv_σ8 pf_σ8
                        generalize (f_inspect σ6 y3_185).1 = r9
                        refine lv_pop hx hb dL_write_271 rfl ?_
                        refine lv_iinc (v := (y3_185 + (1 : Int32))) (lv' := [(3, .int (y3_185 + (1 : Int32))), (4, .int r1), (0, .ref (ad 0)), (1, .ref b), (2, .int x2)]) hx hb dL_write_272 hl (k := 1) rfl rfl (by decide) rfl (fun ls hl => ?_)
                        refine lv_goto (tgt := 185) hx hb dL_write_275 (by decide) ?_
                        exact ih_185 σ8 (y3_185 + (1 : Int32)) _ _ _ (lp_s hi_185 hlt_185) iv_σ8 pf_σ8 hP hU hS (lv_sub hl [0, 2, 3, 4] rfl)
              exact L_185 128 σ_108 (0 : Int32) _ _ _ (lp_z (by decide)) iv_σ_108 pf_σ_108 hP hU hS (lv_sub hl [0, 1, 2, 3] rfl)
            · have hlt_108 : y3_108.toInt < 4 := lt_nle c_110 (by decide)
              skip
              refine lv_aload_n hx hb dL_write_113 rfl (lv_at hl 1 rfl) ?_
              refine lv_aload_n hx hb dL_write_114 rfl (lv_at hl 2 rfl) ?_
              refine lv_iload_n hx hb dL_write_115 rfl (lv_at hl 0 rfl) ?_
              refine lv_iload_n hx hb dL_write_116 rfl (lv_at hl 3 rfl) ?_
              refine lv_iadd hx hb dL_write_117 ?_
              refine lv_iconst (v := (5 : Int32)) hx hb dL_write_118 (by decide) ?_
              refine lv_iadd hx hb dL_write_119 ?_
              refine kx_cell X hP hS hU hUA ⟨Nat.le_of_ble_eq_true rfl, Nat.le_of_ble_eq_true rfl⟩ ⟨Nat.zero_le _, Nat.zero_le _⟩ wd70 hl.1 (Nat.le_of_ble_eq_true rfl) dL_write_120 hX hbl hbA hL ((y3_108 + x2) + (5 : Int32)) ((bd_add (m := 10) (bd_add (n := 10) (m := 5) (⟨hi_108.1, by omega⟩ : bd y3_108 10) h2 (by decide)) (⟨by decide, by decide⟩ : bd (5 : Int32) 10) (by decide)).1) (fun r10 H locs hP hU hS => ?_)
              refine lv_iconst (v := (4 : Int32)) hx hb dL_write_123 (by decide) ?_
              refine kx_below X hP hS hU hUA ⟨Nat.le_of_ble_eq_true rfl, Nat.le_of_ble_eq_true rfl⟩ ⟨Nat.zero_le _, Nat.zero_le _⟩ wd74 hl.1 (Nat.le_of_ble_eq_true rfl) dL_write_124 r10 (4 : Int32) (by decide) (fun H locs hP hU hS => ?_)
              refine lv_aload_n hx hb dL_write_127 rfl (lv_at hl 2 rfl) ?_
              refine lv_iload_n hx hb dL_write_128 rfl (lv_at hl 0 rfl) ?_
              refine lv_iload_n hx hb dL_write_129 rfl (lv_at hl 3 rfl) ?_
              refine lv_iadd hx hb dL_write_130 ?_
              refine lv_bipush (v := (6 : Int32)) hx hb dL_write_131 (by decide) ?_
              refine lv_iadd hx hb dL_write_133 ?_
              refine kx_cell X hP hS hU hUA ⟨Nat.le_of_ble_eq_true rfl, Nat.le_of_ble_eq_true rfl⟩ ⟨Nat.zero_le _, Nat.zero_le _⟩ wd70 hl.1 (Nat.le_of_ble_eq_true rfl) dL_write_134 hX hbl hbA hL ((y3_108 + x2) + (6 : Int32)) ((bd_add (m := 10) (bd_add (n := 10) (m := 5) (⟨hi_108.1, by omega⟩ : bd y3_108 10) h2 (by decide)) (⟨by decide, by decide⟩ : bd (6 : Int32) 10) (by decide)).1) (fun r11 H locs hP hU hS => ?_)
              refine lv_iconst (v := (5 : Int32)) hx hb dL_write_137 (by decide) ?_
              refine kx_below X hP hS hU hUA ⟨Nat.le_of_ble_eq_true rfl, Nat.le_of_ble_eq_true rfl⟩ ⟨Nat.zero_le _, Nat.zero_le _⟩ wd74 hl.1 (Nat.le_of_ble_eq_true rfl) dL_write_138 r11 (5 : Int32) (by decide) (fun H locs hP hU hS => ?_)
              refine lv_aload_n hx hb dL_write_141 rfl (lv_at hl 2 rfl) ?_
              refine lv_iload_n hx hb dL_write_142 rfl (lv_at hl 0 rfl) ?_
              refine lv_iload_n hx hb dL_write_143 rfl (lv_at hl 3 rfl) ?_
              refine lv_iadd hx hb dL_write_144 ?_
              refine lv_bipush (v := (7 : Int32)) hx hb dL_write_145 (by decide) ?_
              refine lv_iadd hx hb dL_write_147 ?_
              refine kx_cell X hP hS hU hUA ⟨Nat.le_of_ble_eq_true rfl, Nat.le_of_ble_eq_true rfl⟩ ⟨Nat.zero_le _, Nat.zero_le _⟩ wd70 hl.1 (Nat.le_of_ble_eq_true rfl) dL_write_148 hX hbl hbA hL ((y3_108 + x2) + (7 : Int32)) ((bd_add (m := 10) (bd_add (n := 10) (m := 5) (⟨hi_108.1, by omega⟩ : bd y3_108 10) h2 (by decide)) (⟨by decide, by decide⟩ : bd (7 : Int32) 10) (by decide)).1) (fun r12 H locs hP hU hS => ?_)
              refine lv_bipush (v := (100 : Int32)) hx hb dL_write_151 (by decide) ?_
              refine kx_below X hP hS hU hUA ⟨Nat.le_of_ble_eq_true rfl, Nat.le_of_ble_eq_true rfl⟩ ⟨Nat.zero_le _, Nat.zero_le _⟩ wd74 hl.1 (Nat.le_of_ble_eq_true rfl) dL_write_153 r12 (100 : Int32) (by decide) (fun H locs hP hU hS => ?_)
              refine lv_iconst (v := (1 : Int32)) hx hb dL_write_156 (by decide) ?_
              refine lv_aload_n hx hb dL_write_157 rfl (lv_at hl 2 rfl) ?_
              refine lv_iload_n hx hb dL_write_158 rfl (lv_at hl 0 rfl) ?_
              refine lv_iload_n hx hb dL_write_159 rfl (lv_at hl 3 rfl) ?_
              refine lv_iadd hx hb dL_write_160 ?_
              refine lv_bipush (v := (8 : Int32)) hx hb dL_write_161 (by decide) ?_
              refine lv_iadd hx hb dL_write_163 ?_
              refine kx_cell X hP hS hU hUA ⟨Nat.le_of_ble_eq_true rfl, Nat.le_of_ble_eq_true rfl⟩ ⟨Nat.zero_le _, Nat.zero_le _⟩ wd70 hl.1 (Nat.le_of_ble_eq_true rfl) dL_write_164 hX hbl hbA hL ((y3_108 + x2) + (8 : Int32)) ((bd_add (m := 10) (bd_add (n := 10) (m := 5) (⟨hi_108.1, by omega⟩ : bd y3_108 10) h2 (by decide)) (⟨by decide, by decide⟩ : bd (8 : Int32) 10) (by decide)).1) (fun r13 H locs hP hU hS => ?_)
              refine lv_bipush (v := (12 : Int32)) hx hb dL_write_167 (by decide) ?_
              refine kx_below X hP hS hU hUA ⟨Nat.le_of_ble_eq_true rfl, Nat.le_of_ble_eq_true rfl⟩ ⟨Nat.zero_le _, Nat.zero_le _⟩ wd74 hl.1 (Nat.le_of_ble_eq_true rfl) dL_write_169 r13 (12 : Int32) (by decide) (fun H locs hP hU hS => ?_)
              refine lv_iadd hx hb dL_write_172 ?_
              refine kx_gag X hP hS hU hUA ⟨Nat.le_of_ble_eq_true rfl, Nat.le_of_ble_eq_true rfl⟩ ⟨Nat.zero_le _, Nat.zero_le _⟩ wd159 hl.1 (Nat.le_of_ble_eq_true rfl) dL_write_173 (f_below r10 (4 : Int32)) (f_below r11 (5 : Int32)) (f_below r12 (100 : Int32)) ((1 : Int32) + (f_below r13 (12 : Int32))) iv_σ_108.1.1 (below_in (d := 4) rfl (by decide) (by decide)) (by rw [iv_σ_108.2.2.2.1]; exact inr_n (below_in (d := 5) rfl (by decide) (by decide)) (by decide)) (rg_b (below_in (d := 100) rfl (by decide) (by decide)) (by decide) (by decide)) (rg_1 (below_in (d := 12) rfl (by decide) (by decide)) (by decide) (by decide) (by decide)) (by rw [iv_σ_108.2.2.2.2.2]; omega) (fun H locs hP hU hS => ?_)
              have iv_σ14 : WI 5 0 (y3_108 + 1) ((f_gag σ_108 (f_below r10 (4 : Int32)) (f_below r11 (5 : Int32)) (f_below r12 (100 : Int32)) ((1 : Int32) + (f_below r13 (12 : Int32)))).2) := wi_gag iv_σ_108 (by omega) (below_in (d := 4) rfl (by decide) (by decide)) (vp_mono (below_in (d := 5) rfl (by decide) (by decide)) (by decide)) (vp_1 (below_in (d := 12) rfl (by decide) (by decide)) (by decide) (by decide))
              have pf_σ14 : PF ((f_gag σ_108 (f_below r10 (4 : Int32)) (f_below r11 (5 : Int32)) (f_below r12 (100 : Int32)) ((1 : Int32) + (f_below r13 (12 : Int32)))).2) := pf_gag iv_σ_108 pf_σ_108 (by omega) (by rw [iv_σ_108.2.2.2.1]; exact inr_n (below_in (d := 5) rfl (by decide) (by decide)) (by decide))
              generalize (f_gag σ_108 (f_below r10 (4 : Int32)) (f_below r11 (5 : Int32)) (f_below r12 (100 : Int32)) ((1 : Int32) + (f_below r13 (12 : Int32)))).2 = σ14 at hP iv_σ14 pf_σ14
              generalize (f_gag σ_108 (f_below r10 (4 : Int32)) (f_below r11 (5 : Int32)) (f_below r12 (100 : Int32)) ((1 : Int32) + (f_below r13 (12 : Int32)))).1 = r15
              refine lv_pop hx hb dL_write_176 rfl ?_
              refine lv_iinc (v := (y3_108 + (1 : Int32))) (lv' := [(3, .int (y3_108 + (1 : Int32))), (0, .ref (ad 0)), (1, .ref b), (2, .int x2)]) hx hb dL_write_177 hl (k := 0) rfl rfl (by decide) rfl (fun ls hl => ?_)
              refine lv_goto (tgt := 108) hx hb dL_write_180 (by decide) ?_
              exact ih_108 σ14 (y3_108 + (1 : Int32)) _ _ _ (lp_s hi_108 hlt_108) iv_σ14 pf_σ14 hP hU hS (lv_sub hl [0, 1, 2, 3] rfl)
        exact L_108 128 σ_2 (0 : Int32) _ _ _ (lp_z (by decide)) iv_σ_2 pf_σ_2 hP hU hS (lv_sub hl [0, 1, 2, 3] rfl)
      · have hlt_2 : y3_2.toInt < 5 := lt_nle c_4 (by decide)
        skip
        refine lv_aload_n hx hb dL_write_7 rfl (lv_at hl 2 rfl) ?_
        refine lv_iload_n hx hb dL_write_8 rfl (lv_at hl 0 rfl) ?_
        refine lv_iload_n hx hb dL_write_9 rfl (lv_at hl 3 rfl) ?_
        refine lv_iadd hx hb dL_write_10 ?_
        refine kx_cell X hP hS hU hUA ⟨Nat.le_of_ble_eq_true rfl, Nat.le_of_ble_eq_true rfl⟩ ⟨Nat.zero_le _, Nat.zero_le _⟩ wd70 hl.1 (Nat.le_of_ble_eq_true rfl) dL_write_11 hX hbl hbA hL (y3_2 + x2) ((bd_add (n := 10) (m := 5) (⟨hi_2.1, by omega⟩ : bd y3_2 10) h2 (by decide)).1) (fun r16 H locs hP hU hS => ?_)
        refine lv_istore (lv' := [(4, .int r16), (3, .int y3_2), (0, .ref (ad 0)), (1, .ref b), (2, .int x2)]) hx hb dL_write_14 hl (by decide) rfl (fun ls hl => ?_)
        refine lv_aload_n hx hb dL_write_16 rfl (lv_at hl 2 rfl) ?_
        refine lv_iload hx hb dL_write_17 (lv_at hl 0 rfl) ?_
        refine lv_bipush (v := (6 : Int32)) hx hb dL_write_19 (by decide) ?_
        refine kx_below X hP hS hU hUA ⟨Nat.le_of_ble_eq_true rfl, Nat.le_of_ble_eq_true rfl⟩ ⟨Nat.zero_le _, Nat.zero_le _⟩ wd74 hl.1 (Nat.le_of_ble_eq_true rfl) dL_write_21 r16 (6 : Int32) (by decide) (fun H locs hP hU hS => ?_)
        refine lv_if_ne (tgt := 31) hx hb dL_write_24 (by decide) (fun c_24 => ?_) (fun c_24 => ?_)
        · skip
          refine lv_iconst (v := (0 : Int32)) hx hb dL_write_31 (by decide) ?_
          refine lv_iload hx hb dL_write_32 (lv_at hl 0 rfl) ?_
          refine lv_iconst (v := (1 : Int32)) hx hb dL_write_34 (by decide) ?_
          refine lv_ishr hx hb dL_write_35 ?_
          refine lv_iconst (v := (2 : Int32)) hx hb dL_write_36 (by decide) ?_
          refine kx_below X hP hS hU hUA ⟨Nat.le_of_ble_eq_true rfl, Nat.le_of_ble_eq_true rfl⟩ ⟨Nat.zero_le _, Nat.zero_le _⟩ wd74 hl.1 (Nat.le_of_ble_eq_true rfl) dL_write_37 (r16 >>> ((1 : Int32) &&& (31 : Int32))) (2 : Int32) (by decide) (fun H locs hP hU hS => ?_)
          refine lv_if_ne (tgt := 47) hx hb dL_write_40 (by decide) (fun c_40 => ?_) (fun c_40 => ?_)
          · skip
            refine lv_iconst (v := (0 : Int32)) hx hb dL_write_47 (by decide) ?_
            refine kx_person X hP hS hU hUA ⟨Nat.le_of_ble_eq_true rfl, Nat.le_of_ble_eq_true rfl⟩ ⟨Nat.zero_le _, Nat.zero_le _⟩ wd78 hl.1 (Nat.le_of_ble_eq_true rfl) dL_write_48 (0 : Int32) (0 : Int32) iv_σ_2.1.1 (by first | exact Or.inl rfl | exact Or.inr rfl) (by first | exact Or.inl rfl | exact Or.inr rfl) (by rw [iv_σ_2.2.2.2.1]; omega) (fun H locs hP hU hS => ?_)
            have iv_σ17 : WI (y3_2 + 1) 0 0 ((f_person σ_2 (0 : Int32) (0 : Int32)).2) := wi_person iv_σ_2 (by omega)
            have pf_σ17 : PF ((f_person σ_2 (0 : Int32) (0 : Int32)).2) := fun g hg => absurd hg (fun z => by have q := z.2; have q2 := z.1; rw [(wi_person iv_σ_2 (by omega)).2.2.2.2.2, show (0 : Int32).toInt = 0 from rfl] at q; omega)
            generalize (f_person σ_2 (0 : Int32) (0 : Int32)).2 = σ17 at hP iv_σ17 pf_σ17
            generalize (f_person σ_2 (0 : Int32) (0 : Int32)).1 = r18
            refine lv_pop hx hb dL_write_51 rfl ?_
            refine lv_iconst (v := (0 : Int32)) hx hb dL_write_52 (by decide) ?_
            refine lv_istore (lv' := [(5, .int (0 : Int32)), (4, .int r16), (3, .int y3_2), (0, .ref (ad 0)), (1, .ref b), (2, .int x2)]) hx hb dL_write_53 hl (by decide) rfl (fun ls hl => ?_)
            have L_55 : ∀ (n_55 : Nat) (σ_55 : St) (y5_55 : Int32) (H : Heap) (locs : List Loc) (ls : Array Slot), lpI 4 y5_55 n_55 → (WI (y3_2 + 1) 0 0 σ_55) → (PF σ_55) → va_P D vwCl (wl ad ca σ_55) H → va_P D vwCl [] H → va_S (Aw ad) s.heap H locs → lv_has ls 6 [(5, .int y5_55), (4, .int r16), (3, .int y3_2), (0, .ref (ad 0)), (1, .ref b), (2, .int x2)] → W p l e (headSpec (wm yL_write cL_write 6 none) ({ frames := 6, cells := 0, slots := 0, locals := 132 } : Room)).room s m ([.ref (ad 0), .ref b, .int x2] : List Value).toArray below meth c H locs 0 0 (MQ below (va_Qv (fun u => WI 5 8 4 u ∧ PF u) (wB D ad ca) (Aw ad)) ([.ref (ad 0), .ref b, .int x2] : List Value).toArray s 0 0 (Aw ad)) (F0 m 55 ls []) := by
              intro n_55
              induction n_55 with
              | zero => intro σ_55 y5_55 H locs ls hi_55; exact absurd hi_55 (fun h => lp_0 h)
              | succ n_55 ih_55 =>
                intro σ_55 y5_55 H locs ls hi_55 iv_σ_55 pf_σ_55 hP hU hS hl
                refine lv_iload hx hb dL_write_55 (lv_at hl 0 rfl) ?_
                refine lv_iconst (v := (4 : Int32)) hx hb dL_write_57 (by decide) ?_
                refine lv_icmp_ge (tgt := 85) hx hb dL_write_58 (by decide) (fun c_58 => ?_) (fun c_58 => ?_)
                · skip
                  refine lv_aload_n hx hb dL_write_85 rfl (lv_at hl 3 rfl) ?_
                  refine lv_iload_n hx hb dL_write_86 rfl (lv_at hl 2 rfl) ?_
                  refine lv_iload hx hb dL_write_87 (lv_at hl 1 rfl) ?_
                  refine lv_iconst (v := (2 : Int32)) hx hb dL_write_89 (by decide) ?_
                  refine lv_ishr hx hb dL_write_90 ?_
                  refine lv_bipush (v := (100 : Int32)) hx hb dL_write_91 (by decide) ?_
                  refine kx_below X hP hS hU hUA ⟨Nat.le_of_ble_eq_true rfl, Nat.le_of_ble_eq_true rfl⟩ ⟨Nat.zero_le _, Nat.zero_le _⟩ wd74 hl.1 (Nat.le_of_ble_eq_true rfl) dL_write_93 (r16 >>> ((2 : Int32) &&& (31 : Int32))) (100 : Int32) (by decide) (fun H locs hP hU hS => ?_)
                  refine kx_walk X hP hS hU hUA ⟨Nat.le_of_ble_eq_true rfl, Nat.le_of_ble_eq_true rfl⟩ ⟨Nat.zero_le _, Nat.zero_le _⟩ wd142 hl.1 (Nat.le_of_ble_eq_true rfl) dL_write_96 y3_2 (f_below (r16 >>> ((2 : Int32) &&& (31 : Int32))) (100 : Int32)) iv_σ_55.1.1 (by rw [iv_σ_55.2.2.2.1]; exact inr_s hi_2.1 (by omega)) (rg_b (below_in (d := 100) rfl (by decide) (by decide)) (by decide) (by decide)) (fun H locs hP hU hS => ?_)
                  have iv_σ19 : WI (y3_2 + 1) 0 0 ((f_walk σ_55 y3_2 (f_below (r16 >>> ((2 : Int32) &&& (31 : Int32))) (100 : Int32))).2) := wi_walk iv_σ_55 (WF.p8 iv_σ_55.1.1 (by rw [iv_σ_55.2.2.2.1]; exact inr_s hi_2.1 (by omega)))
                  have pf_σ19 : PF ((f_walk σ_55 y3_2 (f_below (r16 >>> ((2 : Int32) &&& (31 : Int32))) (100 : Int32))).2) := pf_walk iv_σ_55.1.1 pf_σ_55 (WF.p8 iv_σ_55.1.1 (by rw [iv_σ_55.2.2.2.1]; exact inr_s hi_2.1 (by omega)))
                  generalize (f_walk σ_55 y3_2 (f_below (r16 >>> ((2 : Int32) &&& (31 : Int32))) (100 : Int32))).2 = σ19 at hP iv_σ19 pf_σ19
                  generalize (f_walk σ_55 y3_2 (f_below (r16 >>> ((2 : Int32) &&& (31 : Int32))) (100 : Int32))).1 = r20
                  refine lv_pop hx hb dL_write_99 rfl ?_
                  refine lv_iinc (v := (y3_2 + (1 : Int32))) (lv' := [(3, .int (y3_2 + (1 : Int32))), (5, .int y5_55), (4, .int r16), (0, .ref (ad 0)), (1, .ref b), (2, .int x2)]) hx hb dL_write_100 hl (k := 2) rfl rfl (by decide) rfl (fun ls hl => ?_)
                  refine lv_goto (tgt := 2) hx hb dL_write_103 (by decide) ?_
                  exact ih_2 σ19 (y3_2 + (1 : Int32)) _ _ _ (lp_s hi_2 hlt_2) iv_σ19 pf_σ19 hP hU hS (lv_sub hl [0, 3, 4, 5] rfl)
                · have hlt_55 : y5_55.toInt < 4 := lt_nle c_58 (by decide)
                  skip
                  refine lv_aload_n hx hb dL_write_61 rfl (lv_at hl 3 rfl) ?_
                  refine lv_iload_n hx hb dL_write_62 rfl (lv_at hl 2 rfl) ?_
                  refine lv_iload hx hb dL_write_63 (lv_at hl 0 rfl) ?_
                  refine lv_iload hx hb dL_write_65 (lv_at hl 1 rfl) ?_
                  refine lv_iload hx hb dL_write_67 (lv_at hl 0 rfl) ?_
                  refine lv_ishr hx hb dL_write_69 ?_
                  refine lv_bipush (v := (10 : Int32)) hx hb dL_write_70 (by decide) ?_
                  refine kx_below X hP hS hU hUA ⟨Nat.le_of_ble_eq_true rfl, Nat.le_of_ble_eq_true rfl⟩ ⟨Nat.zero_le _, Nat.zero_le _⟩ wd74 hl.1 (Nat.le_of_ble_eq_true rfl) dL_write_72 (r16 >>> (y5_55 &&& (31 : Int32))) (10 : Int32) (by decide) (fun H locs hP hU hS => ?_)
                  refine kx_skill X hP hS hU hUA ⟨Nat.le_of_ble_eq_true rfl, Nat.le_of_ble_eq_true rfl⟩ ⟨Nat.zero_le _, Nat.zero_le _⟩ wd123 hl.1 (Nat.le_of_ble_eq_true rfl) dL_write_75 y3_2 y5_55 (f_below (r16 >>> (y5_55 &&& (31 : Int32))) (10 : Int32)) iv_σ_55.1.1 (by rw [iv_σ_55.2.2.2.1]; exact inr_s hi_2.1 (by omega)) (lp_i hi_55 hlt_55) (rg_b (below_in (d := 10) rfl (by decide) (by decide)) (by decide) (by decide)) (fun H locs hP hU hS => ?_)
                  have iv_σ21 : WI (y3_2 + 1) 0 0 ((f_skill σ_55 y3_2 y5_55 (f_below (r16 >>> (y5_55 &&& (31 : Int32))) (10 : Int32))).2) := wi_skill iv_σ_55 (WF.p8 iv_σ_55.1.1 (by rw [iv_σ_55.2.2.2.1]; exact inr_s hi_2.1 (by omega)))
                  have pf_σ21 : PF ((f_skill σ_55 y3_2 y5_55 (f_below (r16 >>> (y5_55 &&& (31 : Int32))) (10 : Int32))).2) := PF.q iv_σ_55.1.1 pf_σ_55 (Q_skill (WF.p8 iv_σ_55.1.1 (by rw [iv_σ_55.2.2.2.1]; exact inr_s hi_2.1 (by omega))))
                  generalize (f_skill σ_55 y3_2 y5_55 (f_below (r16 >>> (y5_55 &&& (31 : Int32))) (10 : Int32))).2 = σ21 at hP iv_σ21 pf_σ21
                  generalize (f_skill σ_55 y3_2 y5_55 (f_below (r16 >>> (y5_55 &&& (31 : Int32))) (10 : Int32))).1 = r22
                  refine lv_pop hx hb dL_write_78 rfl ?_
                  refine lv_iinc (v := (y5_55 + (1 : Int32))) (lv' := [(5, .int (y5_55 + (1 : Int32))), (4, .int r16), (3, .int y3_2), (0, .ref (ad 0)), (1, .ref b), (2, .int x2)]) hx hb dL_write_79 hl (k := 0) rfl rfl (by decide) rfl (fun ls hl => ?_)
                  refine lv_goto (tgt := 55) hx hb dL_write_82 (by decide) ?_
                  exact ih_55 σ21 (y5_55 + (1 : Int32)) _ _ _ (lp_s hi_55 hlt_55) iv_σ21 pf_σ21 hP hU hS (lv_sub hl [0, 1, 2, 3, 4, 5] rfl)
            exact L_55 128 σ17 (0 : Int32) _ _ _ (lp_z (by decide)) iv_σ17 pf_σ17 hP hU hS (lv_sub hl [0, 1, 2, 3, 4, 5] rfl)
          · skip
            refine lv_iconst (v := (1 : Int32)) hx hb dL_write_43 (by decide) ?_
            refine lv_goto (tgt := 48) hx hb dL_write_44 (by decide) ?_
            refine kx_person X hP hS hU hUA ⟨Nat.le_of_ble_eq_true rfl, Nat.le_of_ble_eq_true rfl⟩ ⟨Nat.zero_le _, Nat.zero_le _⟩ wd78 hl.1 (Nat.le_of_ble_eq_true rfl) dL_write_48 (0 : Int32) (1 : Int32) iv_σ_2.1.1 (by first | exact Or.inl rfl | exact Or.inr rfl) (by first | exact Or.inl rfl | exact Or.inr rfl) (by rw [iv_σ_2.2.2.2.1]; omega) (fun H locs hP hU hS => ?_)
            have iv_σ23 : WI (y3_2 + 1) 0 0 ((f_person σ_2 (0 : Int32) (1 : Int32)).2) := wi_person iv_σ_2 (by omega)
            have pf_σ23 : PF ((f_person σ_2 (0 : Int32) (1 : Int32)).2) := fun g hg => absurd hg (fun z => by have q := z.2; have q2 := z.1; rw [(wi_person iv_σ_2 (by omega)).2.2.2.2.2, show (0 : Int32).toInt = 0 from rfl] at q; omega)
            generalize (f_person σ_2 (0 : Int32) (1 : Int32)).2 = σ23 at hP iv_σ23 pf_σ23
            generalize (f_person σ_2 (0 : Int32) (1 : Int32)).1 = r24
            refine lv_pop hx hb dL_write_51 rfl ?_
            refine lv_iconst (v := (0 : Int32)) hx hb dL_write_52 (by decide) ?_
            refine lv_istore (lv' := [(5, .int (0 : Int32)), (4, .int r16), (3, .int y3_2), (0, .ref (ad 0)), (1, .ref b), (2, .int x2)]) hx hb dL_write_53 hl (by decide) rfl (fun ls hl => ?_)
            have L_55 : ∀ (n_55 : Nat) (σ_55 : St) (y5_55 : Int32) (H : Heap) (locs : List Loc) (ls : Array Slot), lpI 4 y5_55 n_55 → (WI (y3_2 + 1) 0 0 σ_55) → (PF σ_55) → va_P D vwCl (wl ad ca σ_55) H → va_P D vwCl [] H → va_S (Aw ad) s.heap H locs → lv_has ls 6 [(5, .int y5_55), (4, .int r16), (3, .int y3_2), (0, .ref (ad 0)), (1, .ref b), (2, .int x2)] → W p l e (headSpec (wm yL_write cL_write 6 none) ({ frames := 6, cells := 0, slots := 0, locals := 132 } : Room)).room s m ([.ref (ad 0), .ref b, .int x2] : List Value).toArray below meth c H locs 0 0 (MQ below (va_Qv (fun u => WI 5 8 4 u ∧ PF u) (wB D ad ca) (Aw ad)) ([.ref (ad 0), .ref b, .int x2] : List Value).toArray s 0 0 (Aw ad)) (F0 m 55 ls []) := by
              intro n_55
              induction n_55 with
              | zero => intro σ_55 y5_55 H locs ls hi_55; exact absurd hi_55 (fun h => lp_0 h)
              | succ n_55 ih_55 =>
                intro σ_55 y5_55 H locs ls hi_55 iv_σ_55 pf_σ_55 hP hU hS hl
                refine lv_iload hx hb dL_write_55 (lv_at hl 0 rfl) ?_
                refine lv_iconst (v := (4 : Int32)) hx hb dL_write_57 (by decide) ?_
                refine lv_icmp_ge (tgt := 85) hx hb dL_write_58 (by decide) (fun c_58 => ?_) (fun c_58 => ?_)
                · skip
                  refine lv_aload_n hx hb dL_write_85 rfl (lv_at hl 3 rfl) ?_
                  refine lv_iload_n hx hb dL_write_86 rfl (lv_at hl 2 rfl) ?_
                  refine lv_iload hx hb dL_write_87 (lv_at hl 1 rfl) ?_
                  refine lv_iconst (v := (2 : Int32)) hx hb dL_write_89 (by decide) ?_
                  refine lv_ishr hx hb dL_write_90 ?_
                  refine lv_bipush (v := (100 : Int32)) hx hb dL_write_91 (by decide) ?_
                  refine kx_below X hP hS hU hUA ⟨Nat.le_of_ble_eq_true rfl, Nat.le_of_ble_eq_true rfl⟩ ⟨Nat.zero_le _, Nat.zero_le _⟩ wd74 hl.1 (Nat.le_of_ble_eq_true rfl) dL_write_93 (r16 >>> ((2 : Int32) &&& (31 : Int32))) (100 : Int32) (by decide) (fun H locs hP hU hS => ?_)
                  refine kx_walk X hP hS hU hUA ⟨Nat.le_of_ble_eq_true rfl, Nat.le_of_ble_eq_true rfl⟩ ⟨Nat.zero_le _, Nat.zero_le _⟩ wd142 hl.1 (Nat.le_of_ble_eq_true rfl) dL_write_96 y3_2 (f_below (r16 >>> ((2 : Int32) &&& (31 : Int32))) (100 : Int32)) iv_σ_55.1.1 (by rw [iv_σ_55.2.2.2.1]; exact inr_s hi_2.1 (by omega)) (rg_b (below_in (d := 100) rfl (by decide) (by decide)) (by decide) (by decide)) (fun H locs hP hU hS => ?_)
                  have iv_σ25 : WI (y3_2 + 1) 0 0 ((f_walk σ_55 y3_2 (f_below (r16 >>> ((2 : Int32) &&& (31 : Int32))) (100 : Int32))).2) := wi_walk iv_σ_55 (WF.p8 iv_σ_55.1.1 (by rw [iv_σ_55.2.2.2.1]; exact inr_s hi_2.1 (by omega)))
                  have pf_σ25 : PF ((f_walk σ_55 y3_2 (f_below (r16 >>> ((2 : Int32) &&& (31 : Int32))) (100 : Int32))).2) := pf_walk iv_σ_55.1.1 pf_σ_55 (WF.p8 iv_σ_55.1.1 (by rw [iv_σ_55.2.2.2.1]; exact inr_s hi_2.1 (by omega)))
                  generalize (f_walk σ_55 y3_2 (f_below (r16 >>> ((2 : Int32) &&& (31 : Int32))) (100 : Int32))).2 = σ25 at hP iv_σ25 pf_σ25
                  generalize (f_walk σ_55 y3_2 (f_below (r16 >>> ((2 : Int32) &&& (31 : Int32))) (100 : Int32))).1 = r26
                  refine lv_pop hx hb dL_write_99 rfl ?_
                  refine lv_iinc (v := (y3_2 + (1 : Int32))) (lv' := [(3, .int (y3_2 + (1 : Int32))), (5, .int y5_55), (4, .int r16), (0, .ref (ad 0)), (1, .ref b), (2, .int x2)]) hx hb dL_write_100 hl (k := 2) rfl rfl (by decide) rfl (fun ls hl => ?_)
                  refine lv_goto (tgt := 2) hx hb dL_write_103 (by decide) ?_
                  exact ih_2 σ25 (y3_2 + (1 : Int32)) _ _ _ (lp_s hi_2 hlt_2) iv_σ25 pf_σ25 hP hU hS (lv_sub hl [0, 3, 4, 5] rfl)
                · have hlt_55 : y5_55.toInt < 4 := lt_nle c_58 (by decide)
                  skip
                  refine lv_aload_n hx hb dL_write_61 rfl (lv_at hl 3 rfl) ?_
                  refine lv_iload_n hx hb dL_write_62 rfl (lv_at hl 2 rfl) ?_
                  refine lv_iload hx hb dL_write_63 (lv_at hl 0 rfl) ?_
                  refine lv_iload hx hb dL_write_65 (lv_at hl 1 rfl) ?_
                  refine lv_iload hx hb dL_write_67 (lv_at hl 0 rfl) ?_
                  refine lv_ishr hx hb dL_write_69 ?_
                  refine lv_bipush (v := (10 : Int32)) hx hb dL_write_70 (by decide) ?_
                  refine kx_below X hP hS hU hUA ⟨Nat.le_of_ble_eq_true rfl, Nat.le_of_ble_eq_true rfl⟩ ⟨Nat.zero_le _, Nat.zero_le _⟩ wd74 hl.1 (Nat.le_of_ble_eq_true rfl) dL_write_72 (r16 >>> (y5_55 &&& (31 : Int32))) (10 : Int32) (by decide) (fun H locs hP hU hS => ?_)
                  refine kx_skill X hP hS hU hUA ⟨Nat.le_of_ble_eq_true rfl, Nat.le_of_ble_eq_true rfl⟩ ⟨Nat.zero_le _, Nat.zero_le _⟩ wd123 hl.1 (Nat.le_of_ble_eq_true rfl) dL_write_75 y3_2 y5_55 (f_below (r16 >>> (y5_55 &&& (31 : Int32))) (10 : Int32)) iv_σ_55.1.1 (by rw [iv_σ_55.2.2.2.1]; exact inr_s hi_2.1 (by omega)) (lp_i hi_55 hlt_55) (rg_b (below_in (d := 10) rfl (by decide) (by decide)) (by decide) (by decide)) (fun H locs hP hU hS => ?_)
                  have iv_σ27 : WI (y3_2 + 1) 0 0 ((f_skill σ_55 y3_2 y5_55 (f_below (r16 >>> (y5_55 &&& (31 : Int32))) (10 : Int32))).2) := wi_skill iv_σ_55 (WF.p8 iv_σ_55.1.1 (by rw [iv_σ_55.2.2.2.1]; exact inr_s hi_2.1 (by omega)))
                  have pf_σ27 : PF ((f_skill σ_55 y3_2 y5_55 (f_below (r16 >>> (y5_55 &&& (31 : Int32))) (10 : Int32))).2) := PF.q iv_σ_55.1.1 pf_σ_55 (Q_skill (WF.p8 iv_σ_55.1.1 (by rw [iv_σ_55.2.2.2.1]; exact inr_s hi_2.1 (by omega))))
                  generalize (f_skill σ_55 y3_2 y5_55 (f_below (r16 >>> (y5_55 &&& (31 : Int32))) (10 : Int32))).2 = σ27 at hP iv_σ27 pf_σ27
                  generalize (f_skill σ_55 y3_2 y5_55 (f_below (r16 >>> (y5_55 &&& (31 : Int32))) (10 : Int32))).1 = r28
                  refine lv_pop hx hb dL_write_78 rfl ?_
                  refine lv_iinc (v := (y5_55 + (1 : Int32))) (lv' := [(5, .int (y5_55 + (1 : Int32))), (4, .int r16), (3, .int y3_2), (0, .ref (ad 0)), (1, .ref b), (2, .int x2)]) hx hb dL_write_79 hl (k := 0) rfl rfl (by decide) rfl (fun ls hl => ?_)
                  refine lv_goto (tgt := 55) hx hb dL_write_82 (by decide) ?_
                  exact ih_55 σ27 (y5_55 + (1 : Int32)) _ _ _ (lp_s hi_55 hlt_55) iv_σ27 pf_σ27 hP hU hS (lv_sub hl [0, 1, 2, 3, 4, 5] rfl)
            exact L_55 128 σ23 (0 : Int32) _ _ _ (lp_z (by decide)) iv_σ23 pf_σ23 hP hU hS (lv_sub hl [0, 1, 2, 3, 4, 5] rfl)
        · skip
          refine lv_iconst (v := (1 : Int32)) hx hb dL_write_27 (by decide) ?_
          refine lv_goto (tgt := 32) hx hb dL_write_28 (by decide) ?_
          refine lv_iload hx hb dL_write_32 (lv_at hl 0 rfl) ?_
          refine lv_iconst (v := (1 : Int32)) hx hb dL_write_34 (by decide) ?_
          refine lv_ishr hx hb dL_write_35 ?_
          refine lv_iconst (v := (2 : Int32)) hx hb dL_write_36 (by decide) ?_
          refine kx_below X hP hS hU hUA ⟨Nat.le_of_ble_eq_true rfl, Nat.le_of_ble_eq_true rfl⟩ ⟨Nat.zero_le _, Nat.zero_le _⟩ wd74 hl.1 (Nat.le_of_ble_eq_true rfl) dL_write_37 (r16 >>> ((1 : Int32) &&& (31 : Int32))) (2 : Int32) (by decide) (fun H locs hP hU hS => ?_)
          refine lv_if_ne (tgt := 47) hx hb dL_write_40 (by decide) (fun c_40 => ?_) (fun c_40 => ?_)
          · skip
            refine lv_iconst (v := (0 : Int32)) hx hb dL_write_47 (by decide) ?_
            refine kx_person X hP hS hU hUA ⟨Nat.le_of_ble_eq_true rfl, Nat.le_of_ble_eq_true rfl⟩ ⟨Nat.zero_le _, Nat.zero_le _⟩ wd78 hl.1 (Nat.le_of_ble_eq_true rfl) dL_write_48 (1 : Int32) (0 : Int32) iv_σ_2.1.1 (by first | exact Or.inl rfl | exact Or.inr rfl) (by first | exact Or.inl rfl | exact Or.inr rfl) (by rw [iv_σ_2.2.2.2.1]; omega) (fun H locs hP hU hS => ?_)
            have iv_σ29 : WI (y3_2 + 1) 0 0 ((f_person σ_2 (1 : Int32) (0 : Int32)).2) := wi_person iv_σ_2 (by omega)
            have pf_σ29 : PF ((f_person σ_2 (1 : Int32) (0 : Int32)).2) := fun g hg => absurd hg (fun z => by have q := z.2; have q2 := z.1; rw [(wi_person iv_σ_2 (by omega)).2.2.2.2.2, show (0 : Int32).toInt = 0 from rfl] at q; omega)
            generalize (f_person σ_2 (1 : Int32) (0 : Int32)).2 = σ29 at hP iv_σ29 pf_σ29
            generalize (f_person σ_2 (1 : Int32) (0 : Int32)).1 = r30
            refine lv_pop hx hb dL_write_51 rfl ?_
            refine lv_iconst (v := (0 : Int32)) hx hb dL_write_52 (by decide) ?_
            refine lv_istore (lv' := [(5, .int (0 : Int32)), (4, .int r16), (3, .int y3_2), (0, .ref (ad 0)), (1, .ref b), (2, .int x2)]) hx hb dL_write_53 hl (by decide) rfl (fun ls hl => ?_)
            have L_55 : ∀ (n_55 : Nat) (σ_55 : St) (y5_55 : Int32) (H : Heap) (locs : List Loc) (ls : Array Slot), lpI 4 y5_55 n_55 → (WI (y3_2 + 1) 0 0 σ_55) → (PF σ_55) → va_P D vwCl (wl ad ca σ_55) H → va_P D vwCl [] H → va_S (Aw ad) s.heap H locs → lv_has ls 6 [(5, .int y5_55), (4, .int r16), (3, .int y3_2), (0, .ref (ad 0)), (1, .ref b), (2, .int x2)] → W p l e (headSpec (wm yL_write cL_write 6 none) ({ frames := 6, cells := 0, slots := 0, locals := 132 } : Room)).room s m ([.ref (ad 0), .ref b, .int x2] : List Value).toArray below meth c H locs 0 0 (MQ below (va_Qv (fun u => WI 5 8 4 u ∧ PF u) (wB D ad ca) (Aw ad)) ([.ref (ad 0), .ref b, .int x2] : List Value).toArray s 0 0 (Aw ad)) (F0 m 55 ls []) := by
              intro n_55
              induction n_55 with
              | zero => intro σ_55 y5_55 H locs ls hi_55; exact absurd hi_55 (fun h => lp_0 h)
              | succ n_55 ih_55 =>
                intro σ_55 y5_55 H locs ls hi_55 iv_σ_55 pf_σ_55 hP hU hS hl
                refine lv_iload hx hb dL_write_55 (lv_at hl 0 rfl) ?_
                refine lv_iconst (v := (4 : Int32)) hx hb dL_write_57 (by decide) ?_
                refine lv_icmp_ge (tgt := 85) hx hb dL_write_58 (by decide) (fun c_58 => ?_) (fun c_58 => ?_)
                · skip
                  refine lv_aload_n hx hb dL_write_85 rfl (lv_at hl 3 rfl) ?_
                  refine lv_iload_n hx hb dL_write_86 rfl (lv_at hl 2 rfl) ?_
                  refine lv_iload hx hb dL_write_87 (lv_at hl 1 rfl) ?_
                  refine lv_iconst (v := (2 : Int32)) hx hb dL_write_89 (by decide) ?_
                  refine lv_ishr hx hb dL_write_90 ?_
                  refine lv_bipush (v := (100 : Int32)) hx hb dL_write_91 (by decide) ?_
                  refine kx_below X hP hS hU hUA ⟨Nat.le_of_ble_eq_true rfl, Nat.le_of_ble_eq_true rfl⟩ ⟨Nat.zero_le _, Nat.zero_le _⟩ wd74 hl.1 (Nat.le_of_ble_eq_true rfl) dL_write_93 (r16 >>> ((2 : Int32) &&& (31 : Int32))) (100 : Int32) (by decide) (fun H locs hP hU hS => ?_)
                  refine kx_walk X hP hS hU hUA ⟨Nat.le_of_ble_eq_true rfl, Nat.le_of_ble_eq_true rfl⟩ ⟨Nat.zero_le _, Nat.zero_le _⟩ wd142 hl.1 (Nat.le_of_ble_eq_true rfl) dL_write_96 y3_2 (f_below (r16 >>> ((2 : Int32) &&& (31 : Int32))) (100 : Int32)) iv_σ_55.1.1 (by rw [iv_σ_55.2.2.2.1]; exact inr_s hi_2.1 (by omega)) (rg_b (below_in (d := 100) rfl (by decide) (by decide)) (by decide) (by decide)) (fun H locs hP hU hS => ?_)
                  have iv_σ31 : WI (y3_2 + 1) 0 0 ((f_walk σ_55 y3_2 (f_below (r16 >>> ((2 : Int32) &&& (31 : Int32))) (100 : Int32))).2) := wi_walk iv_σ_55 (WF.p8 iv_σ_55.1.1 (by rw [iv_σ_55.2.2.2.1]; exact inr_s hi_2.1 (by omega)))
                  have pf_σ31 : PF ((f_walk σ_55 y3_2 (f_below (r16 >>> ((2 : Int32) &&& (31 : Int32))) (100 : Int32))).2) := pf_walk iv_σ_55.1.1 pf_σ_55 (WF.p8 iv_σ_55.1.1 (by rw [iv_σ_55.2.2.2.1]; exact inr_s hi_2.1 (by omega)))
                  generalize (f_walk σ_55 y3_2 (f_below (r16 >>> ((2 : Int32) &&& (31 : Int32))) (100 : Int32))).2 = σ31 at hP iv_σ31 pf_σ31
                  generalize (f_walk σ_55 y3_2 (f_below (r16 >>> ((2 : Int32) &&& (31 : Int32))) (100 : Int32))).1 = r32
                  refine lv_pop hx hb dL_write_99 rfl ?_
                  refine lv_iinc (v := (y3_2 + (1 : Int32))) (lv' := [(3, .int (y3_2 + (1 : Int32))), (5, .int y5_55), (4, .int r16), (0, .ref (ad 0)), (1, .ref b), (2, .int x2)]) hx hb dL_write_100 hl (k := 2) rfl rfl (by decide) rfl (fun ls hl => ?_)
                  refine lv_goto (tgt := 2) hx hb dL_write_103 (by decide) ?_
                  exact ih_2 σ31 (y3_2 + (1 : Int32)) _ _ _ (lp_s hi_2 hlt_2) iv_σ31 pf_σ31 hP hU hS (lv_sub hl [0, 3, 4, 5] rfl)
                · have hlt_55 : y5_55.toInt < 4 := lt_nle c_58 (by decide)
                  skip
                  refine lv_aload_n hx hb dL_write_61 rfl (lv_at hl 3 rfl) ?_
                  refine lv_iload_n hx hb dL_write_62 rfl (lv_at hl 2 rfl) ?_
                  refine lv_iload hx hb dL_write_63 (lv_at hl 0 rfl) ?_
                  refine lv_iload hx hb dL_write_65 (lv_at hl 1 rfl) ?_
                  refine lv_iload hx hb dL_write_67 (lv_at hl 0 rfl) ?_
                  refine lv_ishr hx hb dL_write_69 ?_
                  refine lv_bipush (v := (10 : Int32)) hx hb dL_write_70 (by decide) ?_
                  refine kx_below X hP hS hU hUA ⟨Nat.le_of_ble_eq_true rfl, Nat.le_of_ble_eq_true rfl⟩ ⟨Nat.zero_le _, Nat.zero_le _⟩ wd74 hl.1 (Nat.le_of_ble_eq_true rfl) dL_write_72 (r16 >>> (y5_55 &&& (31 : Int32))) (10 : Int32) (by decide) (fun H locs hP hU hS => ?_)
                  refine kx_skill X hP hS hU hUA ⟨Nat.le_of_ble_eq_true rfl, Nat.le_of_ble_eq_true rfl⟩ ⟨Nat.zero_le _, Nat.zero_le _⟩ wd123 hl.1 (Nat.le_of_ble_eq_true rfl) dL_write_75 y3_2 y5_55 (f_below (r16 >>> (y5_55 &&& (31 : Int32))) (10 : Int32)) iv_σ_55.1.1 (by rw [iv_σ_55.2.2.2.1]; exact inr_s hi_2.1 (by omega)) (lp_i hi_55 hlt_55) (rg_b (below_in (d := 10) rfl (by decide) (by decide)) (by decide) (by decide)) (fun H locs hP hU hS => ?_)
                  have iv_σ33 : WI (y3_2 + 1) 0 0 ((f_skill σ_55 y3_2 y5_55 (f_below (r16 >>> (y5_55 &&& (31 : Int32))) (10 : Int32))).2) := wi_skill iv_σ_55 (WF.p8 iv_σ_55.1.1 (by rw [iv_σ_55.2.2.2.1]; exact inr_s hi_2.1 (by omega)))
                  have pf_σ33 : PF ((f_skill σ_55 y3_2 y5_55 (f_below (r16 >>> (y5_55 &&& (31 : Int32))) (10 : Int32))).2) := PF.q iv_σ_55.1.1 pf_σ_55 (Q_skill (WF.p8 iv_σ_55.1.1 (by rw [iv_σ_55.2.2.2.1]; exact inr_s hi_2.1 (by omega))))
                  generalize (f_skill σ_55 y3_2 y5_55 (f_below (r16 >>> (y5_55 &&& (31 : Int32))) (10 : Int32))).2 = σ33 at hP iv_σ33 pf_σ33
                  generalize (f_skill σ_55 y3_2 y5_55 (f_below (r16 >>> (y5_55 &&& (31 : Int32))) (10 : Int32))).1 = r34
                  refine lv_pop hx hb dL_write_78 rfl ?_
                  refine lv_iinc (v := (y5_55 + (1 : Int32))) (lv' := [(5, .int (y5_55 + (1 : Int32))), (4, .int r16), (3, .int y3_2), (0, .ref (ad 0)), (1, .ref b), (2, .int x2)]) hx hb dL_write_79 hl (k := 0) rfl rfl (by decide) rfl (fun ls hl => ?_)
                  refine lv_goto (tgt := 55) hx hb dL_write_82 (by decide) ?_
                  exact ih_55 σ33 (y5_55 + (1 : Int32)) _ _ _ (lp_s hi_55 hlt_55) iv_σ33 pf_σ33 hP hU hS (lv_sub hl [0, 1, 2, 3, 4, 5] rfl)
            exact L_55 128 σ29 (0 : Int32) _ _ _ (lp_z (by decide)) iv_σ29 pf_σ29 hP hU hS (lv_sub hl [0, 1, 2, 3, 4, 5] rfl)
          · skip
            refine lv_iconst (v := (1 : Int32)) hx hb dL_write_43 (by decide) ?_
            refine lv_goto (tgt := 48) hx hb dL_write_44 (by decide) ?_
            refine kx_person X hP hS hU hUA ⟨Nat.le_of_ble_eq_true rfl, Nat.le_of_ble_eq_true rfl⟩ ⟨Nat.zero_le _, Nat.zero_le _⟩ wd78 hl.1 (Nat.le_of_ble_eq_true rfl) dL_write_48 (1 : Int32) (1 : Int32) iv_σ_2.1.1 (by first | exact Or.inl rfl | exact Or.inr rfl) (by first | exact Or.inl rfl | exact Or.inr rfl) (by rw [iv_σ_2.2.2.2.1]; omega) (fun H locs hP hU hS => ?_)
            have iv_σ35 : WI (y3_2 + 1) 0 0 ((f_person σ_2 (1 : Int32) (1 : Int32)).2) := wi_person iv_σ_2 (by omega)
            have pf_σ35 : PF ((f_person σ_2 (1 : Int32) (1 : Int32)).2) := fun g hg => absurd hg (fun z => by have q := z.2; have q2 := z.1; rw [(wi_person iv_σ_2 (by omega)).2.2.2.2.2, show (0 : Int32).toInt = 0 from rfl] at q; omega)
            generalize (f_person σ_2 (1 : Int32) (1 : Int32)).2 = σ35 at hP iv_σ35 pf_σ35
            generalize (f_person σ_2 (1 : Int32) (1 : Int32)).1 = r36
            refine lv_pop hx hb dL_write_51 rfl ?_
            refine lv_iconst (v := (0 : Int32)) hx hb dL_write_52 (by decide) ?_
            refine lv_istore (lv' := [(5, .int (0 : Int32)), (4, .int r16), (3, .int y3_2), (0, .ref (ad 0)), (1, .ref b), (2, .int x2)]) hx hb dL_write_53 hl (by decide) rfl (fun ls hl => ?_)
            have L_55 : ∀ (n_55 : Nat) (σ_55 : St) (y5_55 : Int32) (H : Heap) (locs : List Loc) (ls : Array Slot), lpI 4 y5_55 n_55 → (WI (y3_2 + 1) 0 0 σ_55) → (PF σ_55) → va_P D vwCl (wl ad ca σ_55) H → va_P D vwCl [] H → va_S (Aw ad) s.heap H locs → lv_has ls 6 [(5, .int y5_55), (4, .int r16), (3, .int y3_2), (0, .ref (ad 0)), (1, .ref b), (2, .int x2)] → W p l e (headSpec (wm yL_write cL_write 6 none) ({ frames := 6, cells := 0, slots := 0, locals := 132 } : Room)).room s m ([.ref (ad 0), .ref b, .int x2] : List Value).toArray below meth c H locs 0 0 (MQ below (va_Qv (fun u => WI 5 8 4 u ∧ PF u) (wB D ad ca) (Aw ad)) ([.ref (ad 0), .ref b, .int x2] : List Value).toArray s 0 0 (Aw ad)) (F0 m 55 ls []) := by
              intro n_55
              induction n_55 with
              | zero => intro σ_55 y5_55 H locs ls hi_55; exact absurd hi_55 (fun h => lp_0 h)
              | succ n_55 ih_55 =>
                intro σ_55 y5_55 H locs ls hi_55 iv_σ_55 pf_σ_55 hP hU hS hl
                refine lv_iload hx hb dL_write_55 (lv_at hl 0 rfl) ?_
                refine lv_iconst (v := (4 : Int32)) hx hb dL_write_57 (by decide) ?_
                refine lv_icmp_ge (tgt := 85) hx hb dL_write_58 (by decide) (fun c_58 => ?_) (fun c_58 => ?_)
                · skip
                  refine lv_aload_n hx hb dL_write_85 rfl (lv_at hl 3 rfl) ?_
                  refine lv_iload_n hx hb dL_write_86 rfl (lv_at hl 2 rfl) ?_
                  refine lv_iload hx hb dL_write_87 (lv_at hl 1 rfl) ?_
                  refine lv_iconst (v := (2 : Int32)) hx hb dL_write_89 (by decide) ?_
                  refine lv_ishr hx hb dL_write_90 ?_
                  refine lv_bipush (v := (100 : Int32)) hx hb dL_write_91 (by decide) ?_
                  refine kx_below X hP hS hU hUA ⟨Nat.le_of_ble_eq_true rfl, Nat.le_of_ble_eq_true rfl⟩ ⟨Nat.zero_le _, Nat.zero_le _⟩ wd74 hl.1 (Nat.le_of_ble_eq_true rfl) dL_write_93 (r16 >>> ((2 : Int32) &&& (31 : Int32))) (100 : Int32) (by decide) (fun H locs hP hU hS => ?_)
                  refine kx_walk X hP hS hU hUA ⟨Nat.le_of_ble_eq_true rfl, Nat.le_of_ble_eq_true rfl⟩ ⟨Nat.zero_le _, Nat.zero_le _⟩ wd142 hl.1 (Nat.le_of_ble_eq_true rfl) dL_write_96 y3_2 (f_below (r16 >>> ((2 : Int32) &&& (31 : Int32))) (100 : Int32)) iv_σ_55.1.1 (by rw [iv_σ_55.2.2.2.1]; exact inr_s hi_2.1 (by omega)) (rg_b (below_in (d := 100) rfl (by decide) (by decide)) (by decide) (by decide)) (fun H locs hP hU hS => ?_)
                  have iv_σ37 : WI (y3_2 + 1) 0 0 ((f_walk σ_55 y3_2 (f_below (r16 >>> ((2 : Int32) &&& (31 : Int32))) (100 : Int32))).2) := wi_walk iv_σ_55 (WF.p8 iv_σ_55.1.1 (by rw [iv_σ_55.2.2.2.1]; exact inr_s hi_2.1 (by omega)))
                  have pf_σ37 : PF ((f_walk σ_55 y3_2 (f_below (r16 >>> ((2 : Int32) &&& (31 : Int32))) (100 : Int32))).2) := pf_walk iv_σ_55.1.1 pf_σ_55 (WF.p8 iv_σ_55.1.1 (by rw [iv_σ_55.2.2.2.1]; exact inr_s hi_2.1 (by omega)))
                  generalize (f_walk σ_55 y3_2 (f_below (r16 >>> ((2 : Int32) &&& (31 : Int32))) (100 : Int32))).2 = σ37 at hP iv_σ37 pf_σ37
                  generalize (f_walk σ_55 y3_2 (f_below (r16 >>> ((2 : Int32) &&& (31 : Int32))) (100 : Int32))).1 = r38
                  refine lv_pop hx hb dL_write_99 rfl ?_
                  refine lv_iinc (v := (y3_2 + (1 : Int32))) (lv' := [(3, .int (y3_2 + (1 : Int32))), (5, .int y5_55), (4, .int r16), (0, .ref (ad 0)), (1, .ref b), (2, .int x2)]) hx hb dL_write_100 hl (k := 2) rfl rfl (by decide) rfl (fun ls hl => ?_)
                  refine lv_goto (tgt := 2) hx hb dL_write_103 (by decide) ?_
                  exact ih_2 σ37 (y3_2 + (1 : Int32)) _ _ _ (lp_s hi_2 hlt_2) iv_σ37 pf_σ37 hP hU hS (lv_sub hl [0, 3, 4, 5] rfl)
                · have hlt_55 : y5_55.toInt < 4 := lt_nle c_58 (by decide)
                  skip
                  refine lv_aload_n hx hb dL_write_61 rfl (lv_at hl 3 rfl) ?_
                  refine lv_iload_n hx hb dL_write_62 rfl (lv_at hl 2 rfl) ?_
                  refine lv_iload hx hb dL_write_63 (lv_at hl 0 rfl) ?_
                  refine lv_iload hx hb dL_write_65 (lv_at hl 1 rfl) ?_
                  refine lv_iload hx hb dL_write_67 (lv_at hl 0 rfl) ?_
                  refine lv_ishr hx hb dL_write_69 ?_
                  refine lv_bipush (v := (10 : Int32)) hx hb dL_write_70 (by decide) ?_
                  refine kx_below X hP hS hU hUA ⟨Nat.le_of_ble_eq_true rfl, Nat.le_of_ble_eq_true rfl⟩ ⟨Nat.zero_le _, Nat.zero_le _⟩ wd74 hl.1 (Nat.le_of_ble_eq_true rfl) dL_write_72 (r16 >>> (y5_55 &&& (31 : Int32))) (10 : Int32) (by decide) (fun H locs hP hU hS => ?_)
                  refine kx_skill X hP hS hU hUA ⟨Nat.le_of_ble_eq_true rfl, Nat.le_of_ble_eq_true rfl⟩ ⟨Nat.zero_le _, Nat.zero_le _⟩ wd123 hl.1 (Nat.le_of_ble_eq_true rfl) dL_write_75 y3_2 y5_55 (f_below (r16 >>> (y5_55 &&& (31 : Int32))) (10 : Int32)) iv_σ_55.1.1 (by rw [iv_σ_55.2.2.2.1]; exact inr_s hi_2.1 (by omega)) (lp_i hi_55 hlt_55) (rg_b (below_in (d := 10) rfl (by decide) (by decide)) (by decide) (by decide)) (fun H locs hP hU hS => ?_)
                  have iv_σ39 : WI (y3_2 + 1) 0 0 ((f_skill σ_55 y3_2 y5_55 (f_below (r16 >>> (y5_55 &&& (31 : Int32))) (10 : Int32))).2) := wi_skill iv_σ_55 (WF.p8 iv_σ_55.1.1 (by rw [iv_σ_55.2.2.2.1]; exact inr_s hi_2.1 (by omega)))
                  have pf_σ39 : PF ((f_skill σ_55 y3_2 y5_55 (f_below (r16 >>> (y5_55 &&& (31 : Int32))) (10 : Int32))).2) := PF.q iv_σ_55.1.1 pf_σ_55 (Q_skill (WF.p8 iv_σ_55.1.1 (by rw [iv_σ_55.2.2.2.1]; exact inr_s hi_2.1 (by omega))))
                  generalize (f_skill σ_55 y3_2 y5_55 (f_below (r16 >>> (y5_55 &&& (31 : Int32))) (10 : Int32))).2 = σ39 at hP iv_σ39 pf_σ39
                  generalize (f_skill σ_55 y3_2 y5_55 (f_below (r16 >>> (y5_55 &&& (31 : Int32))) (10 : Int32))).1 = r40
                  refine lv_pop hx hb dL_write_78 rfl ?_
                  refine lv_iinc (v := (y5_55 + (1 : Int32))) (lv' := [(5, .int (y5_55 + (1 : Int32))), (4, .int r16), (3, .int y3_2), (0, .ref (ad 0)), (1, .ref b), (2, .int x2)]) hx hb dL_write_79 hl (k := 0) rfl rfl (by decide) rfl (fun ls hl => ?_)
                  refine lv_goto (tgt := 55) hx hb dL_write_82 (by decide) ?_
                  exact ih_55 σ39 (y5_55 + (1 : Int32)) _ _ _ (lp_s hi_55 hlt_55) iv_σ39 pf_σ39 hP hU hS (lv_sub hl [0, 1, 2, 3, 4, 5] rfl)
            exact L_55 128 σ35 (0 : Int32) _ _ _ (lp_z (by decide)) iv_σ35 pf_σ35 hP hU hS (lv_sub hl [0, 1, 2, 3, 4, 5] rfl)
  exact L_2 128 σ (0 : Int32) _ _ _ (lp_z (by decide)) iv_σ pf_σ hP hU hS (lv_sub hl [0, 1, 2, 3] rfl)
theorem kx_write {p : Program} {l : Launch} {e : Env} {R : Room} {s : State} {m : MethodId} {args : Array Value} {below : List Frame} {meth : Method} {c : Code} {H : Heap} {locs : List Loc} {cells slots : Nat} {Qf : State → Prop} {cc : ByteArray} {pc : Nat} {ls : Array Slot} {rest : List Value} {D : va_G} {A : Nat → Prop} {ad : Nat → Nat} {ca : Nat → ClassId} {tw nL : Nat} {σ : St} {own : String} {index : Nat} (X : Cx p s m args c own cc nL D ad ca tw A) (hP : va_P D vwCl (wl ad ca σ) H) (hS : va_S A s.heap H locs) {us : va_W} (hU : va_P D vwCl us H) (hUA : ∀ (k : Nat) (q : Nat × va_E), us[k]? = some q → ¬ Aw ad q.1) (hR : 7 ≤ R.frames ∧ 157 ≤ R.locals) (hcap : cells ≤ R.cells ∧ slots ≤ R.slots) (hlk : Cond.methodLink own index yL_write ∈ wsL_law0) (hsz : ls.size = nL) (hrs : (rest.map fun v => v.category).sum ≤ 8) (hdg : decode cc pc = .ok (.invokestatic index, 3)) {b L : Nat} {xs : Nat → Int32} (hX : va_X b L xs s s.heap) (hbl : b < s.heap.size) (hbA : ¬ A b) (hL : L ≤ 260) (x2 : Int32) (h2 : bd x2 5) (iv_σ : WI 0 0 0 σ) (pf_σ : PF σ)
    (kk : ∀ (u : St) (H1 : Heap) (locs1 : List Loc), (WI 5 8 4 u ∧ PF u) → va_P D vwCl (wl ad ca u) H1 → va_P D vwCl us H1 → va_S A s.heap H1 locs1 → W p l e R s m args below meth c H1 locs1 cells slots Qf (F0 m (pc + 3) ls (rest))) : W p l e R s m args below meth c H locs cells slots Qf (F0 m pc ls (.int x2 :: .ref b :: .ref (ad 0) :: rest)) := by
  refine q_bvx X hS hU hUA (q_runSX (as := [.ref (ad 0), .ref b, .int x2]) X hP hS hX hbl hbA (q_cwS (rm := ({ frames := 6, cells := 0, slots := 0, locals := 132 } : Room)) (k := 3) X.2.2.2.2.1 hlk wd67 wd68 wd69 rfl rfl (by decide +kernel) ⟨hR.1, hR.2⟩) (c_write l D ad ca tw X.2.2.2.2.2.2.1 σ b L xs hL x2 h2 iv_σ pf_σ) rfl hsz rfl hrs hdg hcap) (fun u H1 locs1 h1 h2 h4 h3 => ?_)
  exact kk u H1 locs1 h1 h2 h4 h3
