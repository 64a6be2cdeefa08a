set_option maxHeartbeats 8000000 in
set_option maxRecDepth 100000 in
theorem law_19 {p : Program} {e : Env} {s : State} {m : MethodId} {below : List Frame} {meth : Method} {c : Code} (l : Launch) {b L : Nat} {xs : Nat → Int32} (hL : L ≤ 260) (C0 : lw_At p s m meth c b L xs) {D : va_G} {ad : Nat → Nat} {ca : Nat → ClassId} {tw : Nat} (X : Cx p s m #[Value.ref b] c RL code 8 D ad ca tw (fun q : Nat => s.heap.size ≤ q)) (σ : St) (uf : Nat → Int32) (qa : Nat) (hqA : (fun q : Nat => s.heap.size ≤ q) qa) (hqn : ¬ Aw ad qa) (iv_σ : INV σ) (pf_σ : PF σ) (ct_σ : σ.1 0 3 = 5 ∧ σ.1 0 4 = 8 ∧ σ.1 0 5 = 4) (H : Heap) (locs : List Loc) (ls : Array Slot) (hP : va_P D vwCl (wl ad ca σ) H) (hU : va_P D vwCl [(qa, .inl (ca 3, 8, .inl uf))] H) (hS : va_S (fun q : Nat => s.heap.size ≤ q) s.heap H locs) (hl : lv_has ls 8 [(2, .ref qa), (1, .ref (ad 0)), (0, .ref b)]) : W p l e room_1 s m #[Value.ref b] below meth c H locs 41 275 (lw_Z below #[Value.ref b] s) (F0 m 19 ls []) := by
  have hx := X.1
  have hb := X.2.1
  have hts := X.2.2.2.2.1
  obtain ⟨-, -, hr, -, -, -, hX, hbl, hlocks, -⟩ := C0
  have hbA : ¬ (fun q : Nat => s.heap.size ≤ q) b := Nat.not_le.mpr hbl
  have hUA : ∀ (k : Nat) (q : Nat × va_E), ([(qa, .inl (ca 3, 8, .inl uf))] : va_W)[k]? = some q → ¬ Aw ad q.1 := one_A hqn
  refine lv_iconst (v := (0 : Int32)) hx hb dL_law_19 (by decide) ?_
  refine lv_istore_n (lv' := [(3, .int (0 : Int32)), (2, .ref qa), (1, .ref (ad 0)), (0, .ref b)]) hx hb dL_law_20 rfl hl (by decide) rfl (fun ls hl => ?_)
  have L_21 : ∀ (n_21 : Nat) (uf_21 : Nat → Int32) (y3_21 : Int32) (H : Heap) (locs : List Loc) (ls : Array Slot), lpI 8 y3_21 n_21 → (∀ j : Nat, j < 8 → (j : Int) < y3_21.toInt → uf_21 j = σ.1 (22 + j) 2) → va_P D vwCl (wl ad ca σ) H → va_P D vwCl [(qa, .inl (ca 3, 8, .inl uf_21))] H → va_S (fun q : Nat => s.heap.size ≤ q) s.heap H locs → lv_has ls 8 [(3, .int y3_21), (2, .ref qa), (1, .ref (ad 0)), (0, .ref b)] → W p l e room_1 s m #[Value.ref b] below meth c H locs 41 275 (lw_Z below #[Value.ref b] s) (F0 m 21 ls []) := by
    intro n_21
    induction n_21 with
    | zero => intro uf_21 y3_21 H locs ls hi_21; exact absurd hi_21 (fun h => lp_0 h)
    | succ n_21 ih_21 =>
      intro uf_21 y3_21 H locs ls hi_21 hu_21 hP hU hS hl
      have hUA : ∀ (k : Nat) (q : Nat × va_E), ([(qa, .inl (ca 3, 8, .inl uf_21))] : va_W)[k]? = some q → ¬ Aw ad q.1 := one_A hqn
      refine lv_iload_n hx hb dL_law_21 rfl (lv_at hl 0 rfl) ?_
      refine lv_bipush (v := (8 : Int32)) hx hb dL_law_22 (by decide) ?_
      refine lv_icmp_ge (tgt := 42) hx hb dL_law_24 (by decide) (fun c_24 => ?_) (fun c_24 => ?_)
      · skip
        refine lv_iconst (v := (0 : Int32)) hx hb dL_law_42 (by decide) ?_
        refine lv_istore_n (lv' := [(3, .int (0 : Int32)), (2, .ref qa), (1, .ref (ad 0)), (0, .ref b)]) hx hb dL_law_43 rfl hl (by decide) rfl (fun ls hl => ?_)
        have L_44 : ∀ (n_44 : Nat) (σ_44 : St) (uf_44 : Nat → Int32) (y3_44 : Int32) (H : Heap) (locs : List Loc) (ls : Array Slot), lpI 36 y3_44 n_44 → (INV σ_44) → (PF σ_44) → ((σ_44.1 0 3 = 5 ∧ σ_44.1 0 4 = 8 ∧ σ_44.1 0 5 = 4)) → (∀ j : Nat, j < 8 → uf_44 j = σ_44.1 (22 + j) 2) → va_P D vwCl (wl ad ca σ_44) H → va_P D vwCl [(qa, .inl (ca 3, 8, .inl uf_44))] H → va_S (fun q : Nat => s.heap.size ≤ q) s.heap H locs → lv_has ls 8 [(3, .int y3_44), (2, .ref qa), (1, .ref (ad 0)), (0, .ref b)] → W p l e room_1 s m #[Value.ref b] below meth c H locs 41 275 (lw_Z below #[Value.ref b] s) (F0 m 44 ls []) := by
          intro n_44
          induction n_44 with
          | zero => intro σ_44 uf_44 y3_44 H locs ls hi_44; exact absurd hi_44 (fun h => lp_0 h)
          | succ n_44 ih_44 =>
            intro σ_44 uf_44 y3_44 H locs ls hi_44 iv_σ_44 pf_σ_44 ct_σ_44 hu_σ_44 hP hU hS hl
            have hUA : ∀ (k : Nat) (q : Nat × va_E), ([(qa, .inl (ca 3, 8, .inl uf_44))] : va_W)[k]? = some q → ¬ Aw ad q.1 := one_A hqn
            refine lv_iload_n hx hb dL_law_44 rfl (lv_at hl 0 rfl) ?_
            refine lv_bipush (v := (36 : Int32)) hx hb dL_law_45 (by decide) ?_
            refine lv_icmp_ge (tgt := 436) hx hb dL_law_47 (by decide) (fun c_47 => ?_) (fun c_47 => ?_)
            · skip
              refine lv_aload_n hx hb dL_law_436 rfl (lv_at hl 2 rfl) ?_
              refine kx_digest X hP hS hU hUA ⟨Nat.le_of_ble_eq_true rfl, Nat.le_of_ble_eq_true rfl⟩ ⟨Nat.le_of_ble_eq_true rfl, Nat.le_of_ble_eq_true rfl⟩ wd373 hl.1 (Nat.le_of_ble_eq_true rfl) dL_law_437  iv_σ_44.1.1  (fun H locs hP hU hS => ?_)
              refine lv_lstore_n (lv' := [(3, .long (f_digest σ_44)), (2, .ref qa), (1, .ref (ad 0)), (0, .ref b)]) hx hb dL_law_440 rfl hl (by decide) rfl (fun ls hl => ?_)
              refine lv_aload_n hx hb dL_law_441 rfl (lv_at hl 2 rfl) ?_
              refine lv_iconst (v := (0 : Int32)) hx hb dL_law_442 (by decide) ?_
              refine kx_mostLevel X hP hS hU hUA ⟨Nat.le_of_ble_eq_true rfl, Nat.le_of_ble_eq_true rfl⟩ ⟨Nat.le_of_ble_eq_true rfl, Nat.le_of_ble_eq_true rfl⟩ wd414 hl.1 (Nat.le_of_ble_eq_true rfl) dL_law_443 (0 : Int32) iv_σ_44.1.1 (by rw [ct_σ_44.2.2]; exact inr_n (vp_to (by decide) (by decide) : vp_in (0 : Int32) 4) (by decide)) (fun H locs hP hU hS => ?_)
              refine lv_iconst (v := (-1 : Int32)) hx hb dL_law_446 (by decide) ?_
              refine lv_icmp_lt (tgt := 472) hx hb dL_law_447 (by decide) (fun c_447 => ?_) (fun c_447 => ?_)
              · exact absurd c_447 most_m1
              · refine lv_aload_n hx hb dL_law_450 rfl (lv_at hl 2 rfl) ?_
                refine lv_iconst (v := (1 : Int32)) hx hb dL_law_451 (by decide) ?_
                refine kx_safeFrom X hP hS hU hUA ⟨Nat.le_of_ble_eq_true rfl, Nat.le_of_ble_eq_true rfl⟩ ⟨Nat.le_of_ble_eq_true rfl, Nat.le_of_ble_eq_true rfl⟩ wd415 hl.1 (Nat.le_of_ble_eq_true rfl) dL_law_452 (1 : Int32) iv_σ_44.1.1 (by rw [ct_σ_44.2.2]; exact inr_n (vp_to (by decide) (by decide) : vp_in (1 : Int32) 4) (by decide)) (fun H locs hP hU hS => ?_)
                refine lv_iconst (v := (-1 : Int32)) hx hb dL_law_455 (by decide) ?_
                refine lv_icmp_lt (tgt := 472) hx hb dL_law_456 (by decide) (fun c_456 => ?_) (fun c_456 => ?_)
                · exact absurd c_456 (safe_m1 iv_σ_44.1.1 (vp_to (by decide) (by decide)))
                · refine lv_aload_n hx hb dL_law_459 rfl (lv_at hl 2 rfl) ?_
                  refine kx_digest X hP hS hU hUA ⟨Nat.le_of_ble_eq_true rfl, Nat.le_of_ble_eq_true rfl⟩ ⟨Nat.le_of_ble_eq_true rfl, Nat.le_of_ble_eq_true rfl⟩ wd373 hl.1 (Nat.le_of_ble_eq_true rfl) dL_law_460  iv_σ_44.1.1  (fun H locs hP hU hS => ?_)
                  refine lv_lload_n hx hb dL_law_463 rfl (lv_at hl 0 rfl) ?_
                  refine W.lcmp hx hb dL_law_464 ?_
                  rw [lgc_self]
                  refine lv_if_ne (tgt := 472) hx hb dL_law_465 (by decide) (fun c_465 => ?_) (fun c_465 => ?_)
                  · exact absurd c_465 (by decide)
                  · refine lv_iconst (v := (1 : Int32)) hx hb dL_law_468 (by decide) ?_
                    refine lv_goto (tgt := 473) hx hb dL_law_469 (by decide) ?_
                    refine va_forget (fun q hq => hS.2.2 q hq) ?_
                    refine W.widen (k := 689789) (n := 7032258) (Nat.le_of_ble_eq_true rfl) (Nat.le_of_ble_eq_true rfl) ?_
                    exact lw_ret hx hb hr hlocks dL_law_473
            · have hlt_44 : y3_44.toInt < 36 := lt_nle c_47 (by decide)
              skip
              have hus_σ_44 : ∀ j : Nat, j < 8 → (σ_44.1 (22 + j) 2).toInt ≤ (uf_44 j).toInt := fun j hj => by rw [hu_σ_44 j hj]; exact Int.le_refl _
              refine lv_aload_n hx hb dL_law_50 rfl (lv_at hl 3 rfl) ?_
              refine lv_iload_n hx hb dL_law_51 rfl (lv_at hl 0 rfl) ?_
              refine lv_bipush (v := (16 : Int32)) hx hb dL_law_52 (by decide) ?_
              refine lv_irem hx hb dL_law_54 (by decide) ?_
              refine kx_cell X hP hS hU hUA ⟨Nat.le_of_ble_eq_true rfl, Nat.le_of_ble_eq_true rfl⟩ ⟨Nat.le_of_ble_eq_true rfl, Nat.le_of_ble_eq_true rfl⟩ wd70 hl.1 (Nat.le_of_ble_eq_true rfl) dL_law_55 hX hbl hbA hL (y3_44 - y3_44 / (16 : Int32) * (16 : Int32)) ((vp_in_iff.mp (rem_in hi_44.1 (n := 16) (d := 16) rfl (by decide) (by decide))).1) (fun r1 H locs hP hU hS => ?_)
              refine lv_bipush (v := (47 : Int32)) hx hb dL_law_58 (by decide) ?_
              refine lv_iload_n hx hb dL_law_60 rfl (lv_at hl 0 rfl) ?_
              refine lv_imul hx hb dL_law_61 ?_
              refine lv_iadd hx hb dL_law_62 ?_
              refine lv_istore (lv' := [(4, .int (r1 + ((47 : Int32) * y3_44))), (3, .int y3_44), (2, .ref qa), (1, .ref (ad 0)), (0, .ref b)]) hx hb dL_law_63 hl (by decide) rfl (fun ls hl => ?_)
              refine lv_iload hx hb dL_law_65 (lv_at hl 0 rfl) ?_
              refine lv_iconst (v := (1 : Int32)) hx hb dL_law_67 (by decide) ?_
              refine lv_ishr hx hb dL_law_68 ?_
              refine lv_iconst (v := (4 : Int32)) hx hb dL_law_69 (by decide) ?_
              refine kx_below X hP hS hU hUA ⟨Nat.le_of_ble_eq_true rfl, Nat.le_of_ble_eq_true rfl⟩ ⟨Nat.le_of_ble_eq_true rfl, Nat.le_of_ble_eq_true rfl⟩ wd74 hl.1 (Nat.le_of_ble_eq_true rfl) dL_law_70 ((r1 + ((47 : Int32) * y3_44)) >>> ((1 : Int32) &&& (31 : Int32))) (4 : Int32) (by decide) (fun H locs hP hU hS => ?_)
              refine lv_istore (lv' := [(5, .int (f_below ((r1 + ((47 : Int32) * y3_44)) >>> ((1 : Int32) &&& (31 : Int32))) (4 : Int32))), (4, .int (r1 + ((47 : Int32) * y3_44))), (3, .int y3_44), (2, .ref qa), (1, .ref (ad 0)), (0, .ref b)]) hx hb dL_law_73 hl (by decide) rfl (fun ls hl => ?_)
              refine lv_iload hx hb dL_law_75 (lv_at hl 1 rfl) ?_
              refine lv_iconst (v := (2 : Int32)) hx hb dL_law_77 (by decide) ?_
              refine lv_ishr hx hb dL_law_78 ?_
              refine lv_iconst (v := (5 : Int32)) hx hb dL_law_79 (by decide) ?_
              refine kx_below X hP hS hU hUA ⟨Nat.le_of_ble_eq_true rfl, Nat.le_of_ble_eq_true rfl⟩ ⟨Nat.le_of_ble_eq_true rfl, Nat.le_of_ble_eq_true rfl⟩ wd74 hl.1 (Nat.le_of_ble_eq_true rfl) dL_law_80 ((r1 + ((47 : Int32) * y3_44)) >>> ((2 : Int32) &&& (31 : Int32))) (5 : Int32) (by decide) (fun H locs hP hU hS => ?_)
              refine lv_istore (lv' := [(6, .int (f_below ((r1 + ((47 : Int32) * y3_44)) >>> ((2 : Int32) &&& (31 : Int32))) (5 : Int32))), (5, .int (f_below ((r1 + ((47 : Int32) * y3_44)) >>> ((1 : Int32) &&& (31 : Int32))) (4 : Int32))), (4, .int (r1 + ((47 : Int32) * y3_44))), (3, .int y3_44), (2, .ref qa), (1, .ref (ad 0)), (0, .ref b)]) hx hb dL_law_83 hl (by decide) rfl (fun ls hl => ?_)
              refine lv_iload hx hb dL_law_85 (lv_at hl 2 rfl) ?_
              refine lv_bipush (v := (11 : Int32)) hx hb dL_law_87 (by decide) ?_
              refine kx_below X hP hS hU hUA ⟨Nat.le_of_ble_eq_true rfl, Nat.le_of_ble_eq_true rfl⟩ ⟨Nat.le_of_ble_eq_true rfl, Nat.le_of_ble_eq_true rfl⟩ wd74 hl.1 (Nat.le_of_ble_eq_true rfl) dL_law_89 (r1 + ((47 : Int32) * y3_44)) (11 : Int32) (by decide) (fun H locs hP hU hS => ?_)
              have J_368 : ∀ (σ_368 : St) (H : Heap) (locs : List Loc) (ls : Array Slot), (INV σ_368) → (PF σ_368) → ((σ_368.1 0 3 = 5 ∧ σ_368.1 0 4 = 8 ∧ σ_368.1 0 5 = 4)) → (∀ j : Nat, j < 8 → (σ_368.1 (22 + j) 2).toInt ≤ (uf_44 j).toInt) → va_P D vwCl (wl ad ca σ_368) H → va_P D vwCl [(qa, .inl (ca 3, 8, .inl uf_44))] H → va_S (fun q : Nat => s.heap.size ≤ q) s.heap H locs → lv_has ls 8 [(3, .int y3_44), (2, .ref qa), (1, .ref (ad 0)), (0, .ref b)] → W p l e room_1 s m #[Value.ref b] below meth c H locs 41 275 (lw_Z below #[Value.ref b] s) (F0 m 368 ls []) := by
                intro σ_368 H locs ls iv_σ_368 pf_σ_368 ct_σ_368 hus_σ_368 hP hU hS hl
                refine lv_aload_n hx hb dL_law_368 rfl (lv_at hl 2 rfl) ?_
                refine kx_isSound X hP hS hU hUA ⟨Nat.le_of_ble_eq_true rfl, Nat.le_of_ble_eq_true rfl⟩ ⟨Nat.le_of_ble_eq_true rfl, Nat.le_of_ble_eq_true rfl⟩ wd370 hl.1 (Nat.le_of_ble_eq_true rfl) dL_law_369 iv_σ_368 pf_σ_368 ct_σ_368 (fun H locs hP hU hS => ?_)
                refine lv_if_ne (tgt := 377) hx hb dL_law_372 (by decide) (fun c_372 => ?_) (fun c_372 => ?_)
                · refine lv_iconst (v := (0 : Int32)) hx hb dL_law_377 (by decide) ?_
                  refine lv_istore (lv' := [(7, .int (0 : Int32)), (3, .int y3_44), (2, .ref qa), (1, .ref (ad 0)), (0, .ref b)]) hx hb dL_law_378 hl (by decide) rfl (fun ls hl => ?_)
                  have L_380 : ∀ (n_380 : Nat) (uf_380 : Nat → Int32) (y7_380 : Int32) (H : Heap) (locs : List Loc) (ls : Array Slot), lpI 8 y7_380 n_380 → (∀ j : Nat, j < 8 → ((j : Int) < y7_380.toInt → uf_380 j = σ_368.1 (22 + j) 2) ∧ (y7_380.toInt ≤ (j : Int) → (σ_368.1 (22 + j) 2).toInt ≤ (uf_380 j).toInt)) → va_P D vwCl (wl ad ca σ_368) H → va_P D vwCl [(qa, .inl (ca 3, 8, .inl uf_380))] H → va_S (fun q : Nat => s.heap.size ≤ q) s.heap H locs → lv_has ls 8 [(7, .int y7_380), (3, .int y3_44), (2, .ref qa), (1, .ref (ad 0)), (0, .ref b)] → W p l e room_1 s m #[Value.ref b] below meth c H locs 41 275 (lw_Z below #[Value.ref b] s) (F0 m 380 ls []) := by
                    intro n_380
                    induction n_380 with
                    | zero => intro uf_380 y7_380 H locs ls hi_380; exact absurd hi_380 (fun h => lp_0 h)
                    | succ n_380 ih_380 =>
                      intro uf_380 y7_380 H locs ls hi_380 hc_380 hP hU hS hl
                      have hUA : ∀ (k : Nat) (q : Nat × va_E), ([(qa, .inl (ca 3, 8, .inl uf_380))] : va_W)[k]? = some q → ¬ Aw ad q.1 := one_A hqn
                      refine lv_iload hx hb dL_law_380 (lv_at hl 0 rfl) ?_
                      refine lv_bipush (v := (8 : Int32)) hx hb dL_law_382 (by decide) ?_
                      refine lv_icmp_ge (tgt := 430) hx hb dL_law_384 (by decide) (fun c_384 => ?_) (fun c_384 => ?_)
                      · skip
                        refine lv_iinc (v := (y3_44 + (1 : Int32))) (lv' := [(3, .int (y3_44 + (1 : Int32))), (7, .int y7_380), (2, .ref qa), (1, .ref (ad 0)), (0, .ref b)]) hx hb dL_law_430 hl (k := 1) rfl rfl (by decide) rfl (fun ls hl => ?_)
                        refine lv_goto (tgt := 44) hx hb dL_law_433 (by decide) ?_
                        exact ih_44 σ_368 uf_380 (y3_44 + (1 : Int32)) _ _ _ (lp_s hi_44 hlt_44) iv_σ_368 pf_σ_368 ct_σ_368 (fun j hj => (hc_380 j hj).1 (by have q := i_le.mp c_384; rw [show (8 : Int32).toInt = 8 from rfl] at q; omega)) hP hU hS (lv_sub hl [0, 2, 3, 4] rfl)
                      · have hlt_380 : y7_380.toInt < 8 := lt_nle c_384 (by decide)
                        skip
                        refine lv_aload_n hx hb dL_law_387 rfl (lv_at hl 3 rfl) ?_
                        refine lv_iload hx hb dL_law_388 (lv_at hl 0 rfl) ?_
                        refine lv_iconst (v := (2 : Int32)) hx hb dL_law_390 (by decide) ?_
                        refine kx_ofKit X hP hS hU hUA ⟨Nat.le_of_ble_eq_true rfl, Nat.le_of_ble_eq_true rfl⟩ ⟨Nat.le_of_ble_eq_true rfl, Nat.le_of_ble_eq_true rfl⟩ wd267 hl.1 (Nat.le_of_ble_eq_true rfl) dL_law_391 y7_380 (2 : Int32) iv_σ_368.1.1 (by rw [ct_σ_368.2.1]; exact inr_n (lp_i hi_380 hlt_380) (by decide)) (⟨by decide, by decide⟩) (fun H locs hP hU hS => ?_)
                        refine lv_aload_n hx hb dL_law_394 rfl (lv_at hl 2 rfl) ?_
                        refine lv_iload hx hb dL_law_395 (lv_at hl 0 rfl) ?_
                        refine va_iald hx hb X.2.2.2.2.2.1 hU 0 3 rfl rfl (lp_i hi_380 hlt_380) dL_law_397 ?_
                        refine lv_icmp_gt (tgt := 411) hx hb dL_law_398 (by decide) (fun c_398 => ?_) (fun c_398 => ?_)
                        · exact absurd (i_lt.mp c_398) (by rw [rd_k2]; have q := (hc_380 _ (ix_lt (lp_i hi_380 hlt_380))).2 (by rw [ix_to hi_380.1]; exact Int.le_refl _); omega)
                        · refine lv_aload_n hx hb dL_law_401 rfl (lv_at hl 3 rfl) ?_
                          refine lv_iload hx hb dL_law_402 (lv_at hl 0 rfl) ?_
                          refine lv_iconst (v := (2 : Int32)) hx hb dL_law_404 (by decide) ?_
                          refine kx_ofKit X hP hS hU hUA ⟨Nat.le_of_ble_eq_true rfl, Nat.le_of_ble_eq_true rfl⟩ ⟨Nat.le_of_ble_eq_true rfl, Nat.le_of_ble_eq_true rfl⟩ wd267 hl.1 (Nat.le_of_ble_eq_true rfl) dL_law_405 y7_380 (2 : Int32) iv_σ_368.1.1 (by rw [ct_σ_368.2.1]; exact inr_n (lp_i hi_380 hlt_380) (by decide)) (⟨by decide, by decide⟩) (fun H locs hP hU hS => ?_)
                          refine lv_if_ge (tgt := 413) hx hb dL_law_408 (by decide) (fun c_408 => ?_) (fun c_408 => ?_)
                          · refine lv_aload_n hx hb dL_law_413 rfl (lv_at hl 2 rfl) ?_
                            refine lv_iload hx hb dL_law_414 (lv_at hl 0 rfl) ?_
                            refine lv_aload_n hx hb dL_law_416 rfl (lv_at hl 3 rfl) ?_
                            refine lv_iload hx hb dL_law_417 (lv_at hl 0 rfl) ?_
                            refine lv_iconst (v := (2 : Int32)) hx hb dL_law_419 (by decide) ?_
                            refine kx_ofKit X hP hS hU hUA ⟨Nat.le_of_ble_eq_true rfl, Nat.le_of_ble_eq_true rfl⟩ ⟨Nat.le_of_ble_eq_true rfl, Nat.le_of_ble_eq_true rfl⟩ wd267 hl.1 (Nat.le_of_ble_eq_true rfl) dL_law_420 y7_380 (2 : Int32) iv_σ_368.1.1 (by rw [ct_σ_368.2.1]; exact inr_n (lp_i hi_380 hlt_380) (by decide)) (⟨by decide, by decide⟩) (fun H locs hP hU hS => ?_)
                            refine u_st X hP hU hqA hqn hS (lp_i hi_380 hlt_380) dL_law_423 (fun H locs hP hU hS => ?_)
                            refine lv_iinc (v := (y7_380 + (1 : Int32))) (lv' := [(7, .int (y7_380 + (1 : Int32))), (3, .int y3_44), (2, .ref qa), (1, .ref (ad 0)), (0, .ref b)]) hx hb dL_law_424 hl (k := 0) rfl rfl (by decide) rfl (fun ls hl => ?_)
                            refine lv_goto (tgt := 380) hx hb dL_law_427 (by decide) ?_
                            exact ih_380 (upd uf_380 y7_380.toNatClampNeg (f_ofKit σ_368 y7_380 (2 : Int32))) (y7_380 + (1 : Int32)) _ _ _ (lp_s hi_380 hlt_380) (uC_step hi_380 hlt_380 hc_380) hP hU hS (lv_sub hl [0, 1, 2, 3, 4] rfl)
                          · exact absurd (i_le.mpr (by rw [rd_k2, show (0 : Int32).toInt = 0 from rfl]; exact iv_σ_368.1.2.2.2 _ (ix_lt (vp_mono (lp_i hi_380 hlt_380) (by decide))))) c_408
                  exact L_380 128 uf_44 (0 : Int32) _ _ _ (lp_z (by decide)) (fun j hj => ⟨fun h => absurd h (by rw [show (0 : Int32).toInt = 0 from rfl]; omega), fun _ => hus_σ_368 j hj⟩) hP hU hS (lv_sub hl [0, 1, 2, 3, 4] rfl)
                · exact absurd c_372 (by decide)
              by_cases c_92_0 : (f_below (r1 + ((47 : Int32) * y3_44)) (11 : Int32)) = (0 : Int32)
              · skip
                refine lv_tableIn (off := 60) (tgt := 152) hx hb dL_law_92 (by rw [c_92_0]; decide) (by rw [c_92_0]; decide) (by rw [c_92_0]; rfl) (by decide) ?_
                refine lv_aload_n hx hb dL_law_152 rfl (lv_at hl 5 rfl) ?_
                refine lv_iload hx hb dL_law_153 (lv_at hl 1 rfl) ?_
                refine lv_bipush (v := (11 : Int32)) hx hb dL_law_155 (by decide) ?_
                refine kx_ofGag X hP hS hU hUA ⟨Nat.le_of_ble_eq_true rfl, Nat.le_of_ble_eq_true rfl⟩ ⟨Nat.le_of_ble_eq_true rfl, Nat.le_of_ble_eq_true rfl⟩ wd163 hl.1 (Nat.le_of_ble_eq_true rfl) dL_law_157 (f_below ((r1 + ((47 : Int32) * y3_44)) >>> ((1 : Int32) &&& (31 : Int32))) (4 : Int32)) (11 : Int32) iv_σ_44.1.1 (by rw [ct_σ_44.2.2]; exact inr_n (below_in (d := 4) rfl (by decide) (by decide)) (by decide)) (⟨by decide, by decide⟩) (fun H locs hP hU hS => ?_)
                refine lv_if_ne (tgt := 368) hx hb dL_law_160 (by decide) (fun c_160 => ?_) (fun c_160 => ?_)
                · skip
                  exact J_368 σ_44 _ _ _ iv_σ_44 pf_σ_44 ct_σ_44 hus_σ_44 hP hU hS (lv_sub hl [3, 4, 5, 6] rfl)
                · skip
                  refine lv_aload_n hx hb dL_law_163 rfl (lv_at hl 5 rfl) ?_
                  refine lv_iload hx hb dL_law_164 (lv_at hl 1 rfl) ?_
                  refine kx_ready X hP hS hU hUA ⟨Nat.le_of_ble_eq_true rfl, Nat.le_of_ble_eq_true rfl⟩ ⟨Nat.le_of_ble_eq_true rfl, Nat.le_of_ble_eq_true rfl⟩ wd271 hl.1 (Nat.le_of_ble_eq_true rfl) dL_law_166 (f_below ((r1 + ((47 : Int32) * y3_44)) >>> ((1 : Int32) &&& (31 : Int32))) (4 : Int32)) iv_σ_44 pf_σ_44 ct_σ_44 (below_in (d := 4) rfl (by decide) (by decide)) (one_0 (by rw [rd_g11] at c_160; exact c_160)) (fun σ2 H locs hpost hP hU hS => ?_)
                  have iv_σ2 := iv_σ_44.q hpost
                  have pf_σ2 := PF.q iv_σ_44.1.1 pf_σ_44 hpost
                  have ct_σ2 := ct_us (US.q iv_σ_44.1 hpost) ct_σ_44
                  have hus_σ2 := us_le (US.q iv_σ_44.1 hpost) hus_σ_44
                  have ha_σ2 := q_a0 hpost (vp_mono (below_in (d := 4) rfl (by decide) (by decide)) (by decide)) (one_0 (by rw [rd_g11] at c_160; exact c_160))
                  refine lv_aload_n hx hb dL_law_169 rfl (lv_at hl 5 rfl) ?_
                  refine lv_iload hx hb dL_law_170 (lv_at hl 1 rfl) ?_
                  refine kx_arm X hP hS hU hUA ⟨Nat.le_of_ble_eq_true rfl, Nat.le_of_ble_eq_true rfl⟩ ⟨Nat.le_of_ble_eq_true rfl, Nat.le_of_ble_eq_true rfl⟩ wd302 hl.1 (Nat.le_of_ble_eq_true rfl) dL_law_172 (f_below ((r1 + ((47 : Int32) * y3_44)) >>> ((1 : Int32) &&& (31 : Int32))) (4 : Int32)) iv_σ2.1.1 (by rw [ct_σ2.2.2]; exact inr_n (below_in (d := 4) rfl (by decide) (by decide)) (by decide)) ha_σ2 (fun H locs hP hU hS => ?_)
                  have iv_σ3 : INV ((f_arm σ2 (f_below ((r1 + ((47 : Int32) * y3_44)) >>> ((1 : Int32) &&& (31 : Int32))) (4 : Int32))).2) := (inv_arm iv_σ2 (by rw [ct_σ2.2.2]; exact inr_n (below_in (d := 4) rfl (by decide) (by decide)) (by decide))).1
                  have pf_σ3 : PF ((f_arm σ2 (f_below ((r1 + ((47 : Int32) * y3_44)) >>> ((1 : Int32) &&& (31 : Int32))) (4 : Int32))).2) := pf_arm iv_σ2.1.1 pf_σ2
                  have ct_σ3 : (((f_arm σ2 (f_below ((r1 + ((47 : Int32) * y3_44)) >>> ((1 : Int32) &&& (31 : Int32))) (4 : Int32))).2).1 0 3 = 5 ∧ ((f_arm σ2 (f_below ((r1 + ((47 : Int32) * y3_44)) >>> ((1 : Int32) &&& (31 : Int32))) (4 : Int32))).2).1 0 4 = 8 ∧ ((f_arm σ2 (f_below ((r1 + ((47 : Int32) * y3_44)) >>> ((1 : Int32) &&& (31 : Int32))) (4 : Int32))).2).1 0 5 = 4) := ct_us (inv_arm iv_σ2 (by rw [ct_σ2.2.2]; exact inr_n (below_in (d := 4) rfl (by decide) (by decide)) (by decide))).2 ct_σ2
                  have hus_σ3 : ∀ j : Nat, j < 8 → (((f_arm σ2 (f_below ((r1 + ((47 : Int32) * y3_44)) >>> ((1 : Int32) &&& (31 : Int32))) (4 : Int32))).2).1 (22 + j) 2).toInt ≤ (uf_44 j).toInt := us_le (inv_arm iv_σ2 (by rw [ct_σ2.2.2]; exact inr_n (below_in (d := 4) rfl (by decide) (by decide)) (by decide))).2 hus_σ2
                  generalize (f_arm σ2 (f_below ((r1 + ((47 : Int32) * y3_44)) >>> ((1 : Int32) &&& (31 : Int32))) (4 : Int32))).2 = σ3 at hP iv_σ3 pf_σ3 ct_σ3 hus_σ3
                  generalize (f_arm σ2 (f_below ((r1 + ((47 : Int32) * y3_44)) >>> ((1 : Int32) &&& (31 : Int32))) (4 : Int32))).1 = r4
                  refine lv_pop hx hb dL_law_175 rfl ?_
                  refine lv_goto (tgt := 368) hx hb dL_law_176 (by decide) ?_
                  exact J_368 σ3 _ _ _ iv_σ3 pf_σ3 ct_σ3 hus_σ3 hP hU hS (lv_sub hl [3, 4, 5, 6] rfl)
              · skip
                by_cases c_92_1 : (f_below (r1 + ((47 : Int32) * y3_44)) (11 : Int32)) = (1 : Int32)
                · skip
                  refine lv_tableIn (off := 87) (tgt := 179) hx hb dL_law_92 (by rw [c_92_1]; decide) (by rw [c_92_1]; decide) (by rw [c_92_1]; rfl) (by decide) ?_
                  refine lv_aload_n hx hb dL_law_179 rfl (lv_at hl 5 rfl) ?_
                  refine lv_iload hx hb dL_law_180 (lv_at hl 1 rfl) ?_
                  refine lv_bipush (v := (11 : Int32)) hx hb dL_law_182 (by decide) ?_
                  refine kx_ofGag X hP hS hU hUA ⟨Nat.le_of_ble_eq_true rfl, Nat.le_of_ble_eq_true rfl⟩ ⟨Nat.le_of_ble_eq_true rfl, Nat.le_of_ble_eq_true rfl⟩ wd163 hl.1 (Nat.le_of_ble_eq_true rfl) dL_law_184 (f_below ((r1 + ((47 : Int32) * y3_44)) >>> ((1 : Int32) &&& (31 : Int32))) (4 : Int32)) (11 : Int32) iv_σ_44.1.1 (by rw [ct_σ_44.2.2]; exact inr_n (below_in (d := 4) rfl (by decide) (by decide)) (by decide)) (⟨by decide, by decide⟩) (fun H locs hP hU hS => ?_)
                  refine lv_iconst (v := (1 : Int32)) hx hb dL_law_187 (by decide) ?_
                  refine lv_icmp_ne (tgt := 368) hx hb dL_law_188 (by decide) (fun c_188 => ?_) (fun c_188 => ?_)
                  · skip
                    exact J_368 σ_44 _ _ _ iv_σ_44 pf_σ_44 ct_σ_44 hus_σ_44 hP hU hS (lv_sub hl [3, 4, 5, 6] rfl)
                  · skip
                    refine lv_aload_n hx hb dL_law_191 rfl (lv_at hl 5 rfl) ?_
                    refine lv_iload hx hb dL_law_192 (lv_at hl 1 rfl) ?_
                    refine kx_take X hP hS hU hUA ⟨Nat.le_of_ble_eq_true rfl, Nat.le_of_ble_eq_true rfl⟩ ⟨Nat.le_of_ble_eq_true rfl, Nat.le_of_ble_eq_true rfl⟩ wd306 hl.1 (Nat.le_of_ble_eq_true rfl) dL_law_194 (f_below ((r1 + ((47 : Int32) * y3_44)) >>> ((1 : Int32) &&& (31 : Int32))) (4 : Int32)) iv_σ_44.1.1 (by rw [ct_σ_44.2.2]; exact inr_n (below_in (d := 4) rfl (by decide) (by decide)) (by decide)) (one_1 (by rw [rd_g11] at c_188; exact c_188)) (fun H locs hP hU hS => ?_)
                    have iv_σ5 : INV ((f_take σ_44 (f_below ((r1 + ((47 : Int32) * y3_44)) >>> ((1 : Int32) &&& (31 : Int32))) (4 : Int32))).2) := (q_pair iv_σ_44 (Q_take iv_σ_44.1.1 (vp_mono (below_in (d := 4) rfl (by decide) (by decide)) (by decide)))).1
                    have pf_σ5 : PF ((f_take σ_44 (f_below ((r1 + ((47 : Int32) * y3_44)) >>> ((1 : Int32) &&& (31 : Int32))) (4 : Int32))).2) := PF.q iv_σ_44.1.1 pf_σ_44 (Q_take iv_σ_44.1.1 (vp_mono (below_in (d := 4) rfl (by decide) (by decide)) (by decide)))
                    have ct_σ5 : (((f_take σ_44 (f_below ((r1 + ((47 : Int32) * y3_44)) >>> ((1 : Int32) &&& (31 : Int32))) (4 : Int32))).2).1 0 3 = 5 ∧ ((f_take σ_44 (f_below ((r1 + ((47 : Int32) * y3_44)) >>> ((1 : Int32) &&& (31 : Int32))) (4 : Int32))).2).1 0 4 = 8 ∧ ((f_take σ_44 (f_below ((r1 + ((47 : Int32) * y3_44)) >>> ((1 : Int32) &&& (31 : Int32))) (4 : Int32))).2).1 0 5 = 4) := ct_us (q_pair iv_σ_44 (Q_take iv_σ_44.1.1 (vp_mono (below_in (d := 4) rfl (by decide) (by decide)) (by decide)))).2 ct_σ_44
                    have hus_σ5 : ∀ j : Nat, j < 8 → (((f_take σ_44 (f_below ((r1 + ((47 : Int32) * y3_44)) >>> ((1 : Int32) &&& (31 : Int32))) (4 : Int32))).2).1 (22 + j) 2).toInt ≤ (uf_44 j).toInt := us_le (q_pair iv_σ_44 (Q_take iv_σ_44.1.1 (vp_mono (below_in (d := 4) rfl (by decide) (by decide)) (by decide)))).2 hus_σ_44
                    generalize (f_take σ_44 (f_below ((r1 + ((47 : Int32) * y3_44)) >>> ((1 : Int32) &&& (31 : Int32))) (4 : Int32))).2 = σ5 at hP iv_σ5 pf_σ5 ct_σ5 hus_σ5
                    generalize (f_take σ_44 (f_below ((r1 + ((47 : Int32) * y3_44)) >>> ((1 : Int32) &&& (31 : Int32))) (4 : Int32))).1 = r6
                    refine lv_pop hx hb dL_law_197 rfl ?_
                    refine lv_goto (tgt := 368) hx hb dL_law_198 (by decide) ?_
                    exact J_368 σ5 _ _ _ iv_σ5 pf_σ5 ct_σ5 hus_σ5 hP hU hS (lv_sub hl [3, 4, 5, 6] rfl)
                · skip
                  by_cases c_92_2 : (f_below (r1 + ((47 : Int32) * y3_44)) (11 : Int32)) = (2 : Int32)
                  · skip
                    refine lv_tableIn (off := 109) (tgt := 201) hx hb dL_law_92 (by rw [c_92_2]; decide) (by rw [c_92_2]; decide) (by rw [c_92_2]; rfl) (by decide) ?_
                    refine lv_aload_n hx hb dL_law_201 rfl (lv_at hl 5 rfl) ?_
                    refine lv_iload hx hb dL_law_202 (lv_at hl 0 rfl) ?_
                    refine lv_iload hx hb dL_law_204 (lv_at hl 2 rfl) ?_
                    refine lv_iconst (v := (3 : Int32)) hx hb dL_law_206 (by decide) ?_
                    refine lv_ishr hx hb dL_law_207 ?_
                    refine lv_bipush (v := (100 : Int32)) hx hb dL_law_208 (by decide) ?_
                    refine kx_below X hP hS hU hUA ⟨Nat.le_of_ble_eq_true rfl, Nat.le_of_ble_eq_true rfl⟩ ⟨Nat.le_of_ble_eq_true rfl, Nat.le_of_ble_eq_true rfl⟩ wd74 hl.1 (Nat.le_of_ble_eq_true rfl) dL_law_210 ((r1 + ((47 : Int32) * y3_44)) >>> ((3 : Int32) &&& (31 : Int32))) (100 : Int32) (by decide) (fun H locs hP hU hS => ?_)
                    refine kx_walk X hP hS hU hUA ⟨Nat.le_of_ble_eq_true rfl, Nat.le_of_ble_eq_true rfl⟩ ⟨Nat.le_of_ble_eq_true rfl, Nat.le_of_ble_eq_true rfl⟩ wd142 hl.1 (Nat.le_of_ble_eq_true rfl) dL_law_213 (f_below ((r1 + ((47 : Int32) * y3_44)) >>> ((2 : Int32) &&& (31 : Int32))) (5 : Int32)) (f_below ((r1 + ((47 : Int32) * y3_44)) >>> ((3 : Int32) &&& (31 : Int32))) (100 : Int32)) iv_σ_44.1.1 (by rw [ct_σ_44.1]; exact inr_n (below_in (d := 5) rfl (by decide) (by decide)) (by decide)) (rg_b (below_in (d := 100) rfl (by decide) (by decide)) (by decide) (by decide)) (fun H locs hP hU hS => ?_)
                    have iv_σ7 : INV ((f_walk σ_44 (f_below ((r1 + ((47 : Int32) * y3_44)) >>> ((2 : Int32) &&& (31 : Int32))) (5 : Int32)) (f_below ((r1 + ((47 : Int32) * y3_44)) >>> ((3 : Int32) &&& (31 : Int32))) (100 : Int32))).2) := (inv_walk iv_σ_44 (by rw [ct_σ_44.1]; exact inr_n (below_in (d := 5) rfl (by decide) (by decide)) (by decide))).1
                    have pf_σ7 : PF ((f_walk σ_44 (f_below ((r1 + ((47 : Int32) * y3_44)) >>> ((2 : Int32) &&& (31 : Int32))) (5 : Int32)) (f_below ((r1 + ((47 : Int32) * y3_44)) >>> ((3 : Int32) &&& (31 : Int32))) (100 : Int32))).2) := pf_walk iv_σ_44.1.1 pf_σ_44 (vp_mono (below_in (d := 5) rfl (by decide) (by decide)) (by decide))
                    have ct_σ7 : (((f_walk σ_44 (f_below ((r1 + ((47 : Int32) * y3_44)) >>> ((2 : Int32) &&& (31 : Int32))) (5 : Int32)) (f_below ((r1 + ((47 : Int32) * y3_44)) >>> ((3 : Int32) &&& (31 : Int32))) (100 : Int32))).2).1 0 3 = 5 ∧ ((f_walk σ_44 (f_below ((r1 + ((47 : Int32) * y3_44)) >>> ((2 : Int32) &&& (31 : Int32))) (5 : Int32)) (f_below ((r1 + ((47 : Int32) * y3_44)) >>> ((3 : Int32) &&& (31 : Int32))) (100 : Int32))).2).1 0 4 = 8 ∧ ((f_walk σ_44 (f_below ((r1 + ((47 : Int32) * y3_44)) >>> ((2 : Int32) &&& (31 : Int32))) (5 : Int32)) (f_below ((r1 + ((47 : Int32) * y3_44)) >>> ((3 : Int32) &&& (31 : Int32))) (100 : Int32))).2).1 0 5 = 4) := ct_us (inv_walk iv_σ_44 (by rw [ct_σ_44.1]; exact inr_n (below_in (d := 5) rfl (by decide) (by decide)) (by decide))).2 ct_σ_44
                    have hus_σ7 : ∀ j : Nat, j < 8 → (((f_walk σ_44 (f_below ((r1 + ((47 : Int32) * y3_44)) >>> ((2 : Int32) &&& (31 : Int32))) (5 : Int32)) (f_below ((r1 + ((47 : Int32) * y3_44)) >>> ((3 : Int32) &&& (31 : Int32))) (100 : Int32))).2).1 (22 + j) 2).toInt ≤ (uf_44 j).toInt := us_le (inv_walk iv_σ_44 (by rw [ct_σ_44.1]; exact inr_n (below_in (d := 5) rfl (by decide) (by decide)) (by decide))).2 hus_σ_44
                    generalize (f_walk σ_44 (f_below ((r1 + ((47 : Int32) * y3_44)) >>> ((2 : Int32) &&& (31 : Int32))) (5 : Int32)) (f_below ((r1 + ((47 : Int32) * y3_44)) >>> ((3 : Int32) &&& (31 : Int32))) (100 : Int32))).2 = σ7 at hP iv_σ7 pf_σ7 ct_σ7 hus_σ7
                    generalize (f_walk σ_44 (f_below ((r1 + ((47 : Int32) * y3_44)) >>> ((2 : Int32) &&& (31 : Int32))) (5 : Int32)) (f_below ((r1 + ((47 : Int32) * y3_44)) >>> ((3 : Int32) &&& (31 : Int32))) (100 : Int32))).1 = r8
                    refine lv_pop hx hb dL_law_216 rfl ?_
                    refine lv_goto (tgt := 368) hx hb dL_law_217 (by decide) ?_
                    exact J_368 σ7 _ _ _ iv_σ7 pf_σ7 ct_σ7 hus_σ7 hP hU hS (lv_sub hl [3, 4, 5, 6] rfl)
                  · skip
                    by_cases c_92_3 : (f_below (r1 + ((47 : Int32) * y3_44)) (11 : Int32)) = (3 : Int32)
                    · skip
                      refine lv_tableIn (off := 128) (tgt := 220) hx hb dL_law_92 (by rw [c_92_3]; decide) (by rw [c_92_3]; decide) (by rw [c_92_3]; rfl) (by decide) ?_
                      refine lv_aload_n hx hb dL_law_220 rfl (lv_at hl 5 rfl) ?_
                      refine lv_iload hx hb dL_law_221 (lv_at hl 0 rfl) ?_
                      refine lv_iload hx hb dL_law_223 (lv_at hl 1 rfl) ?_
                      refine lv_iload hx hb dL_law_225 (lv_at hl 2 rfl) ?_
                      refine lv_bipush (v := (6 : Int32)) hx hb dL_law_227 (by decide) ?_
                      refine lv_ishr hx hb dL_law_229 ?_
                      refine lv_iconst (v := (2 : Int32)) hx hb dL_law_230 (by decide) ?_
                      refine kx_below X hP hS hU hUA ⟨Nat.le_of_ble_eq_true rfl, Nat.le_of_ble_eq_true rfl⟩ ⟨Nat.le_of_ble_eq_true rfl, Nat.le_of_ble_eq_true rfl⟩ wd74 hl.1 (Nat.le_of_ble_eq_true rfl) dL_law_231 ((r1 + ((47 : Int32) * y3_44)) >>> ((6 : Int32) &&& (31 : Int32))) (2 : Int32) (by decide) (fun H locs hP hU hS => ?_)
                      refine lv_if_ne (tgt := 241) hx hb dL_law_234 (by decide) (fun c_234 => ?_) (fun c_234 => ?_)
                      · skip
                        refine lv_iconst (v := (0 : Int32)) hx hb dL_law_241 (by decide) ?_
                        refine kx_no X hP hS hU hUA ⟨Nat.le_of_ble_eq_true rfl, Nat.le_of_ble_eq_true rfl⟩ ⟨Nat.le_of_ble_eq_true rfl, Nat.le_of_ble_eq_true rfl⟩ wd327 hl.1 (Nat.le_of_ble_eq_true rfl) dL_law_242 (f_below ((r1 + ((47 : Int32) * y3_44)) >>> ((2 : Int32) &&& (31 : Int32))) (5 : Int32)) (f_below ((r1 + ((47 : Int32) * y3_44)) >>> ((1 : Int32) &&& (31 : Int32))) (4 : Int32)) (0 : Int32) iv_σ_44.1.1 (by rw [ct_σ_44.1]; exact inr_n (below_in (d := 5) rfl (by decide) (by decide)) (by decide)) (by rw [ct_σ_44.2.2]; exact inr_n (below_in (d := 4) rfl (by decide) (by decide)) (by decide)) (fun H locs hP hU hS => ?_)
                        have iv_σ9 : INV ((f_no σ_44 (f_below ((r1 + ((47 : Int32) * y3_44)) >>> ((2 : Int32) &&& (31 : Int32))) (5 : Int32)) (f_below ((r1 + ((47 : Int32) * y3_44)) >>> ((1 : Int32) &&& (31 : Int32))) (4 : Int32)) (0 : Int32)).2) := (inv_no iv_σ_44 (by rw [ct_σ_44.2.2]; exact inr_n (below_in (d := 4) rfl (by decide) (by decide)) (by decide))).1
                        have pf_σ9 : PF ((f_no σ_44 (f_below ((r1 + ((47 : Int32) * y3_44)) >>> ((2 : Int32) &&& (31 : Int32))) (5 : Int32)) (f_below ((r1 + ((47 : Int32) * y3_44)) >>> ((1 : Int32) &&& (31 : Int32))) (4 : Int32)) (0 : Int32)).2) := pf_no iv_σ_44.1.1 pf_σ_44
                        have ct_σ9 : (((f_no σ_44 (f_below ((r1 + ((47 : Int32) * y3_44)) >>> ((2 : Int32) &&& (31 : Int32))) (5 : Int32)) (f_below ((r1 + ((47 : Int32) * y3_44)) >>> ((1 : Int32) &&& (31 : Int32))) (4 : Int32)) (0 : Int32)).2).1 0 3 = 5 ∧ ((f_no σ_44 (f_below ((r1 + ((47 : Int32) * y3_44)) >>> ((2 : Int32) &&& (31 : Int32))) (5 : Int32)) (f_below ((r1 + ((47 : Int32) * y3_44)) >>> ((1 : Int32) &&& (31 : Int32))) (4 : Int32)) (0 : Int32)).2).1 0 4 = 8 ∧ ((f_no σ_44 (f_below ((r1 + ((47 : Int32) * y3_44)) >>> ((2 : Int32) &&& (31 : Int32))) (5 : Int32)) (f_below ((r1 + ((47 : Int32) * y3_44)) >>> ((1 : Int32) &&& (31 : Int32))) (4 : Int32)) (0 : Int32)).2).1 0 5 = 4) := ct_us (inv_no iv_σ_44 (by rw [ct_σ_44.2.2]; exact inr_n (below_in (d := 4) rfl (by decide) (by decide)) (by decide))).2 ct_σ_44
                        have hus_σ9 : ∀ j : Nat, j < 8 → (((f_no σ_44 (f_below ((r1 + ((47 : Int32) * y3_44)) >>> ((2 : Int32) &&& (31 : Int32))) (5 : Int32)) (f_below ((r1 + ((47 : Int32) * y3_44)) >>> ((1 : Int32) &&& (31 : Int32))) (4 : Int32)) (0 : Int32)).2).1 (22 + j) 2).toInt ≤ (uf_44 j).toInt := us_le (inv_no iv_σ_44 (by rw [ct_σ_44.2.2]; exact inr_n (below_in (d := 4) rfl (by decide) (by decide)) (by decide))).2 hus_σ_44
                        generalize (f_no σ_44 (f_below ((r1 + ((47 : Int32) * y3_44)) >>> ((2 : Int32) &&& (31 : Int32))) (5 : Int32)) (f_below ((r1 + ((47 : Int32) * y3_44)) >>> ((1 : Int32) &&& (31 : Int32))) (4 : Int32)) (0 : Int32)).2 = σ9 at hP iv_σ9 pf_σ9 ct_σ9 hus_σ9
                        generalize (f_no σ_44 (f_below ((r1 + ((47 : Int32) * y3_44)) >>> ((2 : Int32) &&& (31 : Int32))) (5 : Int32)) (f_below ((r1 + ((47 : Int32) * y3_44)) >>> ((1 : Int32) &&& (31 : Int32))) (4 : Int32)) (0 : Int32)).1 = r10
                        refine lv_pop hx hb dL_law_245 rfl ?_
                        refine lv_goto (tgt := 368) hx hb dL_law_246 (by decide) ?_
                        exact J_368 σ9 _ _ _ iv_σ9 pf_σ9 ct_σ9 hus_σ9 hP hU hS (lv_sub hl [3, 4, 5, 6] rfl)
                      · skip
                        refine lv_iconst (v := (1 : Int32)) hx hb dL_law_237 (by decide) ?_
                        refine lv_goto (tgt := 242) hx hb dL_law_238 (by decide) ?_
                        refine kx_no X hP hS hU hUA ⟨Nat.le_of_ble_eq_true rfl, Nat.le_of_ble_eq_true rfl⟩ ⟨Nat.le_of_ble_eq_true rfl, Nat.le_of_ble_eq_true rfl⟩ wd327 hl.1 (Nat.le_of_ble_eq_true rfl) dL_law_242 (f_below ((r1 + ((47 : Int32) * y3_44)) >>> ((2 : Int32) &&& (31 : Int32))) (5 : Int32)) (f_below ((r1 + ((47 : Int32) * y3_44)) >>> ((1 : Int32) &&& (31 : Int32))) (4 : Int32)) (1 : Int32) iv_σ_44.1.1 (by rw [ct_σ_44.1]; exact inr_n (below_in (d := 5) rfl (by decide) (by decide)) (by decide)) (by rw [ct_σ_44.2.2]; exact inr_n (below_in (d := 4) rfl (by decide) (by decide)) (by decide)) (fun H locs hP hU hS => ?_)
                        have iv_σ11 : INV ((f_no σ_44 (f_below ((r1 + ((47 : Int32) * y3_44)) >>> ((2 : Int32) &&& (31 : Int32))) (5 : Int32)) (f_below ((r1 + ((47 : Int32) * y3_44)) >>> ((1 : Int32) &&& (31 : Int32))) (4 : Int32)) (1 : Int32)).2) := (inv_no iv_σ_44 (by rw [ct_σ_44.2.2]; exact inr_n (below_in (d := 4) rfl (by decide) (by decide)) (by decide))).1
                        have pf_σ11 : PF ((f_no σ_44 (f_below ((r1 + ((47 : Int32) * y3_44)) >>> ((2 : Int32) &&& (31 : Int32))) (5 : Int32)) (f_below ((r1 + ((47 : Int32) * y3_44)) >>> ((1 : Int32) &&& (31 : Int32))) (4 : Int32)) (1 : Int32)).2) := pf_no iv_σ_44.1.1 pf_σ_44
                        have ct_σ11 : (((f_no σ_44 (f_below ((r1 + ((47 : Int32) * y3_44)) >>> ((2 : Int32) &&& (31 : Int32))) (5 : Int32)) (f_below ((r1 + ((47 : Int32) * y3_44)) >>> ((1 : Int32) &&& (31 : Int32))) (4 : Int32)) (1 : Int32)).2).1 0 3 = 5 ∧ ((f_no σ_44 (f_below ((r1 + ((47 : Int32) * y3_44)) >>> ((2 : Int32) &&& (31 : Int32))) (5 : Int32)) (f_below ((r1 + ((47 : Int32) * y3_44)) >>> ((1 : Int32) &&& (31 : Int32))) (4 : Int32)) (1 : Int32)).2).1 0 4 = 8 ∧ ((f_no σ_44 (f_below ((r1 + ((47 : Int32) * y3_44)) >>> ((2 : Int32) &&& (31 : Int32))) (5 : Int32)) (f_below ((r1 + ((47 : Int32) * y3_44)) >>> ((1 : Int32) &&& (31 : Int32))) (4 : Int32)) (1 : Int32)).2).1 0 5 = 4) := ct_us (inv_no iv_σ_44 (by rw [ct_σ_44.2.2]; exact inr_n (below_in (d := 4) rfl (by decide) (by decide)) (by decide))).2 ct_σ_44
                        have hus_σ11 : ∀ j : Nat, j < 8 → (((f_no σ_44 (f_below ((r1 + ((47 : Int32) * y3_44)) >>> ((2 : Int32) &&& (31 : Int32))) (5 : Int32)) (f_below ((r1 + ((47 : Int32) * y3_44)) >>> ((1 : Int32) &&& (31 : Int32))) (4 : Int32)) (1 : Int32)).2).1 (22 + j) 2).toInt ≤ (uf_44 j).toInt := us_le (inv_no iv_σ_44 (by rw [ct_σ_44.2.2]; exact inr_n (below_in (d := 4) rfl (by decide) (by decide)) (by decide))).2 hus_σ_44
                        generalize (f_no σ_44 (f_below ((r1 + ((47 : Int32) * y3_44)) >>> ((2 : Int32) &&& (31 : Int32))) (5 : Int32)) (f_below ((r1 + ((47 : Int32) * y3_44)) >>> ((1 : Int32) &&& (31 : Int32))) (4 : Int32)) (1 : Int32)).2 = σ11 at hP iv_σ11 pf_σ11 ct_σ11 hus_σ11
                        generalize (f_no σ_44 (f_below ((r1 + ((47 : Int32) * y3_44)) >>> ((2 : Int32) &&& (31 : Int32))) (5 : Int32)) (f_below ((r1 + ((47 : Int32) * y3_44)) >>> ((1 : Int32) &&& (31 : Int32))) (4 : Int32)) (1 : Int32)).1 = r12
                        refine lv_pop hx hb dL_law_245 rfl ?_
                        refine lv_goto (tgt := 368) hx hb dL_law_246 (by decide) ?_
                        exact J_368 σ11 _ _ _ iv_σ11 pf_σ11 ct_σ11 hus_σ11 hP hU hS (lv_sub hl [3, 4, 5, 6] rfl)
                    · skip
                      by_cases c_92_4 : (f_below (r1 + ((47 : Int32) * y3_44)) (11 : Int32)) = (4 : Int32)
                      · skip
                        refine lv_tableIn (off := 157) (tgt := 249) hx hb dL_law_92 (by rw [c_92_4]; decide) (by rw [c_92_4]; decide) (by rw [c_92_4]; rfl) (by decide) ?_
                        refine lv_aload_n hx hb dL_law_249 rfl (lv_at hl 5 rfl) ?_
                        refine lv_iload hx hb dL_law_250 (lv_at hl 2 rfl) ?_
                        refine lv_bipush (v := (6 : Int32)) hx hb dL_law_252 (by decide) ?_
                        refine lv_ishr hx hb dL_law_254 ?_
                        refine lv_bipush (v := (8 : Int32)) hx hb dL_law_255 (by decide) ?_
                        refine kx_below X hP hS hU hUA ⟨Nat.le_of_ble_eq_true rfl, Nat.le_of_ble_eq_true rfl⟩ ⟨Nat.le_of_ble_eq_true rfl, Nat.le_of_ble_eq_true rfl⟩ wd74 hl.1 (Nat.le_of_ble_eq_true rfl) dL_law_257 ((r1 + ((47 : Int32) * y3_44)) >>> ((6 : Int32) &&& (31 : Int32))) (8 : Int32) (by decide) (fun H locs hP hU hS => ?_)
                        refine lv_iload hx hb dL_law_260 (lv_at hl 2 rfl) ?_
                        refine lv_bipush (v := (9 : Int32)) hx hb dL_law_262 (by decide) ?_
                        refine lv_ishr hx hb dL_law_264 ?_
                        refine lv_iconst (v := (4 : Int32)) hx hb dL_law_265 (by decide) ?_
                        refine kx_below X hP hS hU hUA ⟨Nat.le_of_ble_eq_true rfl, Nat.le_of_ble_eq_true rfl⟩ ⟨Nat.le_of_ble_eq_true rfl, Nat.le_of_ble_eq_true rfl⟩ wd74 hl.1 (Nat.le_of_ble_eq_true rfl) dL_law_266 ((r1 + ((47 : Int32) * y3_44)) >>> ((9 : Int32) &&& (31 : Int32))) (4 : Int32) (by decide) (fun H locs hP hU hS => ?_)
                        refine lv_if_le (tgt := 276) hx hb dL_law_269 (by decide) (fun c_269 => ?_) (fun c_269 => ?_)
                        · skip
                          refine lv_iconst (v := (0 : Int32)) hx hb dL_law_276 (by decide) ?_
                          refine kx_weather X hP hS hU hUA ⟨Nat.le_of_ble_eq_true rfl, Nat.le_of_ble_eq_true rfl⟩ ⟨Nat.le_of_ble_eq_true rfl, Nat.le_of_ble_eq_true rfl⟩ wd331 hl.1 (Nat.le_of_ble_eq_true rfl) dL_law_277 (f_below ((r1 + ((47 : Int32) * y3_44)) >>> ((6 : Int32) &&& (31 : Int32))) (8 : Int32)) (0 : Int32) iv_σ_44.1.1 (rg_b (vp_mono (m := 10) (below_in (d := 8) rfl (by decide) (by decide)) (by decide)) (by decide) (by decide)) (by first | exact Or.inl rfl | exact Or.inr rfl) (fun H locs hP hU hS => ?_)
                          have iv_σ13 : INV ((f_weather σ_44 (f_below ((r1 + ((47 : Int32) * y3_44)) >>> ((6 : Int32) &&& (31 : Int32))) (8 : Int32)) (0 : Int32)).2) := (inv_weather iv_σ_44 (rg_b (vp_mono (m := 10) (below_in (d := 8) rfl (by decide) (by decide)) (by decide)) (by decide) (by decide))).1
                          have pf_σ13 : PF ((f_weather σ_44 (f_below ((r1 + ((47 : Int32) * y3_44)) >>> ((6 : Int32) &&& (31 : Int32))) (8 : Int32)) (0 : Int32)).2) := pf_weather iv_σ_44.1.1 pf_σ_44 (rg_b (vp_mono (m := 10) (below_in (d := 8) rfl (by decide) (by decide)) (by decide)) (by decide) (by decide))
                          have ct_σ13 : (((f_weather σ_44 (f_below ((r1 + ((47 : Int32) * y3_44)) >>> ((6 : Int32) &&& (31 : Int32))) (8 : Int32)) (0 : Int32)).2).1 0 3 = 5 ∧ ((f_weather σ_44 (f_below ((r1 + ((47 : Int32) * y3_44)) >>> ((6 : Int32) &&& (31 : Int32))) (8 : Int32)) (0 : Int32)).2).1 0 4 = 8 ∧ ((f_weather σ_44 (f_below ((r1 + ((47 : Int32) * y3_44)) >>> ((6 : Int32) &&& (31 : Int32))) (8 : Int32)) (0 : Int32)).2).1 0 5 = 4) := ct_us (inv_weather iv_σ_44 (rg_b (vp_mono (m := 10) (below_in (d := 8) rfl (by decide) (by decide)) (by decide)) (by decide) (by decide))).2 ct_σ_44
                          have hus_σ13 : ∀ j : Nat, j < 8 → (((f_weather σ_44 (f_below ((r1 + ((47 : Int32) * y3_44)) >>> ((6 : Int32) &&& (31 : Int32))) (8 : Int32)) (0 : Int32)).2).1 (22 + j) 2).toInt ≤ (uf_44 j).toInt := us_le (inv_weather iv_σ_44 (rg_b (vp_mono (m := 10) (below_in (d := 8) rfl (by decide) (by decide)) (by decide)) (by decide) (by decide))).2 hus_σ_44
                          generalize (f_weather σ_44 (f_below ((r1 + ((47 : Int32) * y3_44)) >>> ((6 : Int32) &&& (31 : Int32))) (8 : Int32)) (0 : Int32)).2 = σ13 at hP iv_σ13 pf_σ13 ct_σ13 hus_σ13
                          generalize (f_weather σ_44 (f_below ((r1 + ((47 : Int32) * y3_44)) >>> ((6 : Int32) &&& (31 : Int32))) (8 : Int32)) (0 : Int32)).1 = r14
                          refine lv_pop hx hb dL_law_280 rfl ?_
                          refine lv_goto (tgt := 368) hx hb dL_law_281 (by decide) ?_
                          exact J_368 σ13 _ _ _ iv_σ13 pf_σ13 ct_σ13 hus_σ13 hP hU hS (lv_sub hl [3, 4, 5, 6] rfl)
                        · skip
                          refine lv_iconst (v := (1 : Int32)) hx hb dL_law_272 (by decide) ?_
                          refine lv_goto (tgt := 277) hx hb dL_law_273 (by decide) ?_
                          refine kx_weather X hP hS hU hUA ⟨Nat.le_of_ble_eq_true rfl, Nat.le_of_ble_eq_true rfl⟩ ⟨Nat.le_of_ble_eq_true rfl, Nat.le_of_ble_eq_true rfl⟩ wd331 hl.1 (Nat.le_of_ble_eq_true rfl) dL_law_277 (f_below ((r1 + ((47 : Int32) * y3_44)) >>> ((6 : Int32) &&& (31 : Int32))) (8 : Int32)) (1 : Int32) iv_σ_44.1.1 (rg_b (vp_mono (m := 10) (below_in (d := 8) rfl (by decide) (by decide)) (by decide)) (by decide) (by decide)) (by first | exact Or.inl rfl | exact Or.inr rfl) (fun H locs hP hU hS => ?_)
                          have iv_σ15 : INV ((f_weather σ_44 (f_below ((r1 + ((47 : Int32) * y3_44)) >>> ((6 : Int32) &&& (31 : Int32))) (8 : Int32)) (1 : Int32)).2) := (inv_weather iv_σ_44 (rg_b (vp_mono (m := 10) (below_in (d := 8) rfl (by decide) (by decide)) (by decide)) (by decide) (by decide))).1
                          have pf_σ15 : PF ((f_weather σ_44 (f_below ((r1 + ((47 : Int32) * y3_44)) >>> ((6 : Int32) &&& (31 : Int32))) (8 : Int32)) (1 : Int32)).2) := pf_weather iv_σ_44.1.1 pf_σ_44 (rg_b (vp_mono (m := 10) (below_in (d := 8) rfl (by decide) (by decide)) (by decide)) (by decide) (by decide))
                          have ct_σ15 : (((f_weather σ_44 (f_below ((r1 + ((47 : Int32) * y3_44)) >>> ((6 : Int32) &&& (31 : Int32))) (8 : Int32)) (1 : Int32)).2).1 0 3 = 5 ∧ ((f_weather σ_44 (f_below ((r1 + ((47 : Int32) * y3_44)) >>> ((6 : Int32) &&& (31 : Int32))) (8 : Int32)) (1 : Int32)).2).1 0 4 = 8 ∧ ((f_weather σ_44 (f_below ((r1 + ((47 : Int32) * y3_44)) >>> ((6 : Int32) &&& (31 : Int32))) (8 : Int32)) (1 : Int32)).2).1 0 5 = 4) := ct_us (inv_weather iv_σ_44 (rg_b (vp_mono (m := 10) (below_in (d := 8) rfl (by decide) (by decide)) (by decide)) (by decide) (by decide))).2 ct_σ_44
                          have hus_σ15 : ∀ j : Nat, j < 8 → (((f_weather σ_44 (f_below ((r1 + ((47 : Int32) * y3_44)) >>> ((6 : Int32) &&& (31 : Int32))) (8 : Int32)) (1 : Int32)).2).1 (22 + j) 2).toInt ≤ (uf_44 j).toInt := us_le (inv_weather iv_σ_44 (rg_b (vp_mono (m := 10) (below_in (d := 8) rfl (by decide) (by decide)) (by decide)) (by decide) (by decide))).2 hus_σ_44
                          generalize (f_weather σ_44 (f_below ((r1 + ((47 : Int32) * y3_44)) >>> ((6 : Int32) &&& (31 : Int32))) (8 : Int32)) (1 : Int32)).2 = σ15 at hP iv_σ15 pf_σ15 ct_σ15 hus_σ15
                          generalize (f_weather σ_44 (f_below ((r1 + ((47 : Int32) * y3_44)) >>> ((6 : Int32) &&& (31 : Int32))) (8 : Int32)) (1 : Int32)).1 = r16
                          refine lv_pop hx hb dL_law_280 rfl ?_
                          refine lv_goto (tgt := 368) hx hb dL_law_281 (by decide) ?_
                          exact J_368 σ15 _ _ _ iv_σ15 pf_σ15 ct_σ15 hus_σ15 hP hU hS (lv_sub hl [3, 4, 5, 6] rfl)
                      · skip
                        by_cases c_92_5 : (f_below (r1 + ((47 : Int32) * y3_44)) (11 : Int32)) = (5 : Int32)
                        · skip
                          refine lv_tableIn (off := 192) (tgt := 284) hx hb dL_law_92 (by rw [c_92_5]; decide) (by rw [c_92_5]; decide) (by rw [c_92_5]; rfl) (by decide) ?_
                          refine lv_aload_n hx hb dL_law_284 rfl (lv_at hl 5 rfl) ?_
                          refine lv_iload hx hb dL_law_285 (lv_at hl 0 rfl) ?_
                          refine lv_iload hx hb dL_law_287 (lv_at hl 2 rfl) ?_
                          refine lv_bipush (v := (6 : Int32)) hx hb dL_law_289 (by decide) ?_
                          refine lv_ishr hx hb dL_law_291 ?_
                          refine lv_iconst (v := (4 : Int32)) hx hb dL_law_292 (by decide) ?_
                          refine kx_below X hP hS hU hUA ⟨Nat.le_of_ble_eq_true rfl, Nat.le_of_ble_eq_true rfl⟩ ⟨Nat.le_of_ble_eq_true rfl, Nat.le_of_ble_eq_true rfl⟩ wd74 hl.1 (Nat.le_of_ble_eq_true rfl) dL_law_293 ((r1 + ((47 : Int32) * y3_44)) >>> ((6 : Int32) &&& (31 : Int32))) (4 : Int32) (by decide) (fun H locs hP hU hS => ?_)
                          refine lv_iload hx hb dL_law_296 (lv_at hl 2 rfl) ?_
                          refine lv_iconst (v := (4 : Int32)) hx hb dL_law_298 (by decide) ?_
                          refine lv_ishr hx hb dL_law_299 ?_
                          refine lv_bipush (v := (10 : Int32)) hx hb dL_law_300 (by decide) ?_
                          refine kx_below X hP hS hU hUA ⟨Nat.le_of_ble_eq_true rfl, Nat.le_of_ble_eq_true rfl⟩ ⟨Nat.le_of_ble_eq_true rfl, Nat.le_of_ble_eq_true rfl⟩ wd74 hl.1 (Nat.le_of_ble_eq_true rfl) dL_law_302 ((r1 + ((47 : Int32) * y3_44)) >>> ((4 : Int32) &&& (31 : Int32))) (10 : Int32) (by decide) (fun H locs hP hU hS => ?_)
                          refine kx_skill X hP hS hU hUA ⟨Nat.le_of_ble_eq_true rfl, Nat.le_of_ble_eq_true rfl⟩ ⟨Nat.le_of_ble_eq_true rfl, Nat.le_of_ble_eq_true rfl⟩ wd123 hl.1 (Nat.le_of_ble_eq_true rfl) dL_law_305 (f_below ((r1 + ((47 : Int32) * y3_44)) >>> ((2 : Int32) &&& (31 : Int32))) (5 : Int32)) (f_below ((r1 + ((47 : Int32) * y3_44)) >>> ((6 : Int32) &&& (31 : Int32))) (4 : Int32)) (f_below ((r1 + ((47 : Int32) * y3_44)) >>> ((4 : Int32) &&& (31 : Int32))) (10 : Int32)) iv_σ_44.1.1 (by rw [ct_σ_44.1]; exact inr_n (below_in (d := 5) rfl (by decide) (by decide)) (by decide)) (below_in (d := 4) rfl (by decide) (by decide)) (rg_b (below_in (d := 10) rfl (by decide) (by decide)) (by decide) (by decide)) (fun H locs hP hU hS => ?_)
                          have iv_σ17 : INV ((f_skill σ_44 (f_below ((r1 + ((47 : Int32) * y3_44)) >>> ((2 : Int32) &&& (31 : Int32))) (5 : Int32)) (f_below ((r1 + ((47 : Int32) * y3_44)) >>> ((6 : Int32) &&& (31 : Int32))) (4 : Int32)) (f_below ((r1 + ((47 : Int32) * y3_44)) >>> ((4 : Int32) &&& (31 : Int32))) (10 : Int32))).2) := (q_pair iv_σ_44 (Q_skill (vp_mono (below_in (d := 5) rfl (by decide) (by decide)) (by decide)))).1
                          have pf_σ17 : PF ((f_skill σ_44 (f_below ((r1 + ((47 : Int32) * y3_44)) >>> ((2 : Int32) &&& (31 : Int32))) (5 : Int32)) (f_below ((r1 + ((47 : Int32) * y3_44)) >>> ((6 : Int32) &&& (31 : Int32))) (4 : Int32)) (f_below ((r1 + ((47 : Int32) * y3_44)) >>> ((4 : Int32) &&& (31 : Int32))) (10 : Int32))).2) := PF.q iv_σ_44.1.1 pf_σ_44 (Q_skill (vp_mono (below_in (d := 5) rfl (by decide) (by decide)) (by decide)))
                          have ct_σ17 : (((f_skill σ_44 (f_below ((r1 + ((47 : Int32) * y3_44)) >>> ((2 : Int32) &&& (31 : Int32))) (5 : Int32)) (f_below ((r1 + ((47 : Int32) * y3_44)) >>> ((6 : Int32) &&& (31 : Int32))) (4 : Int32)) (f_below ((r1 + ((47 : Int32) * y3_44)) >>> ((4 : Int32) &&& (31 : Int32))) (10 : Int32))).2).1 0 3 = 5 ∧ ((f_skill σ_44 (f_below ((r1 + ((47 : Int32) * y3_44)) >>> ((2 : Int32) &&& (31 : Int32))) (5 : Int32)) (f_below ((r1 + ((47 : Int32) * y3_44)) >>> ((6 : Int32) &&& (31 : Int32))) (4 : Int32)) (f_below ((r1 + ((47 : Int32) * y3_44)) >>> ((4 : Int32) &&& (31 : Int32))) (10 : Int32))).2).1 0 4 = 8 ∧ ((f_skill σ_44 (f_below ((r1 + ((47 : Int32) * y3_44)) >>> ((2 : Int32) &&& (31 : Int32))) (5 : Int32)) (f_below ((r1 + ((47 : Int32) * y3_44)) >>> ((6 : Int32) &&& (31 : Int32))) (4 : Int32)) (f_below ((r1 + ((47 : Int32) * y3_44)) >>> ((4 : Int32) &&& (31 : Int32))) (10 : Int32))).2).1 0 5 = 4) := ct_us (q_pair iv_σ_44 (Q_skill (vp_mono (below_in (d := 5) rfl (by decide) (by decide)) (by decide)))).2 ct_σ_44
                          have hus_σ17 : ∀ j : Nat, j < 8 → (((f_skill σ_44 (f_below ((r1 + ((47 : Int32) * y3_44)) >>> ((2 : Int32) &&& (31 : Int32))) (5 : Int32)) (f_below ((r1 + ((47 : Int32) * y3_44)) >>> ((6 : Int32) &&& (31 : Int32))) (4 : Int32)) (f_below ((r1 + ((47 : Int32) * y3_44)) >>> ((4 : Int32) &&& (31 : Int32))) (10 : Int32))).2).1 (22 + j) 2).toInt ≤ (uf_44 j).toInt := us_le (q_pair iv_σ_44 (Q_skill (vp_mono (below_in (d := 5) rfl (by decide) (by decide)) (by decide)))).2 hus_σ_44
                          generalize (f_skill σ_44 (f_below ((r1 + ((47 : Int32) * y3_44)) >>> ((2 : Int32) &&& (31 : Int32))) (5 : Int32)) (f_below ((r1 + ((47 : Int32) * y3_44)) >>> ((6 : Int32) &&& (31 : Int32))) (4 : Int32)) (f_below ((r1 + ((47 : Int32) * y3_44)) >>> ((4 : Int32) &&& (31 : Int32))) (10 : Int32))).2 = σ17 at hP iv_σ17 pf_σ17 ct_σ17 hus_σ17
                          generalize (f_skill σ_44 (f_below ((r1 + ((47 : Int32) * y3_44)) >>> ((2 : Int32) &&& (31 : Int32))) (5 : Int32)) (f_below ((r1 + ((47 : Int32) * y3_44)) >>> ((6 : Int32) &&& (31 : Int32))) (4 : Int32)) (f_below ((r1 + ((47 : Int32) * y3_44)) >>> ((4 : Int32) &&& (31 : Int32))) (10 : Int32))).1 = r18
                          refine lv_pop hx hb dL_law_308 rfl ?_
                          refine lv_goto (tgt := 368) hx hb dL_law_309 (by decide) ?_
                          exact J_368 σ17 _ _ _ iv_σ17 pf_σ17 ct_σ17 hus_σ17 hP hU hS (lv_sub hl [3, 4, 5, 6] rfl)
                        · skip
                          by_cases c_92_6 : (f_below (r1 + ((47 : Int32) * y3_44)) (11 : Int32)) = (6 : Int32)
                          · skip
                            refine lv_tableIn (off := 220) (tgt := 312) hx hb dL_law_92 (by rw [c_92_6]; decide) (by rw [c_92_6]; decide) (by rw [c_92_6]; rfl) (by decide) ?_
                            refine lv_aload_n hx hb dL_law_312 rfl (lv_at hl 5 rfl) ?_
                            refine lv_bipush (v := (7 : Int32)) hx hb dL_law_313 (by decide) ?_
                            refine kx_many X hP hS hU hUA ⟨Nat.le_of_ble_eq_true rfl, Nat.le_of_ble_eq_true rfl⟩ ⟨Nat.le_of_ble_eq_true rfl, Nat.le_of_ble_eq_true rfl⟩ wd335 hl.1 (Nat.le_of_ble_eq_true rfl) dL_law_315 (7 : Int32) iv_σ_44.1.1 (⟨by decide, by decide⟩) (fun H locs hP hU hS => ?_)
                            refine lv_if_ne (tgt := 368) hx hb dL_law_318 (by decide) (fun c_318 => ?_) (fun c_318 => ?_)
                            · skip
                              exact J_368 σ_44 _ _ _ iv_σ_44 pf_σ_44 ct_σ_44 hus_σ_44 hP hU hS (lv_sub hl [3, 4, 5, 6] rfl)
                            · skip
                              refine lv_aload_n hx hb dL_law_321 rfl (lv_at hl 5 rfl) ?_
                              refine lv_iconst (v := (1 : Int32)) hx hb dL_law_322 (by decide) ?_
                              refine lv_iload hx hb dL_law_323 (lv_at hl 2 rfl) ?_
                              refine lv_iconst (v := (3 : Int32)) hx hb dL_law_325 (by decide) ?_
                              refine lv_ishr hx hb dL_law_326 ?_
                              refine lv_iconst (v := (3 : Int32)) hx hb dL_law_327 (by decide) ?_
                              refine kx_below X hP hS hU hUA ⟨Nat.le_of_ble_eq_true rfl, Nat.le_of_ble_eq_true rfl⟩ ⟨Nat.le_of_ble_eq_true rfl, Nat.le_of_ble_eq_true rfl⟩ wd74 hl.1 (Nat.le_of_ble_eq_true rfl) dL_law_328 ((r1 + ((47 : Int32) * y3_44)) >>> ((3 : Int32) &&& (31 : Int32))) (3 : Int32) (by decide) (fun H locs hP hU hS => ?_)
                              refine lv_iadd hx hb dL_law_331 ?_
                              refine kx_pass X hP hS hU hUA ⟨Nat.le_of_ble_eq_true rfl, Nat.le_of_ble_eq_true rfl⟩ ⟨Nat.le_of_ble_eq_true rfl, Nat.le_of_ble_eq_true rfl⟩ wd355 hl.1 (Nat.le_of_ble_eq_true rfl) dL_law_332 ((1 : Int32) + (f_below ((r1 + ((47 : Int32) * y3_44)) >>> ((3 : Int32) &&& (31 : Int32))) (3 : Int32))) iv_σ_44.1.1 (rg_1 (below_in (d := 3) rfl (by decide) (by decide)) (by decide) (by decide) (by decide)) (by rw [rd_m7] at c_318; exact c_318) (fun H locs hP hU hS => ?_)
                              have iv_σ19 : INV ((f_pass σ_44 ((1 : Int32) + (f_below ((r1 + ((47 : Int32) * y3_44)) >>> ((3 : Int32) &&& (31 : Int32))) (3 : Int32)))).2) := (q_pair iv_σ_44 (Q_pass iv_σ_44.1.1)).1
                              have pf_σ19 : PF ((f_pass σ_44 ((1 : Int32) + (f_below ((r1 + ((47 : Int32) * y3_44)) >>> ((3 : Int32) &&& (31 : Int32))) (3 : Int32)))).2) := PF.q iv_σ_44.1.1 pf_σ_44 (Q_pass iv_σ_44.1.1)
                              have ct_σ19 : (((f_pass σ_44 ((1 : Int32) + (f_below ((r1 + ((47 : Int32) * y3_44)) >>> ((3 : Int32) &&& (31 : Int32))) (3 : Int32)))).2).1 0 3 = 5 ∧ ((f_pass σ_44 ((1 : Int32) + (f_below ((r1 + ((47 : Int32) * y3_44)) >>> ((3 : Int32) &&& (31 : Int32))) (3 : Int32)))).2).1 0 4 = 8 ∧ ((f_pass σ_44 ((1 : Int32) + (f_below ((r1 + ((47 : Int32) * y3_44)) >>> ((3 : Int32) &&& (31 : Int32))) (3 : Int32)))).2).1 0 5 = 4) := ct_us (q_pair iv_σ_44 (Q_pass iv_σ_44.1.1)).2 ct_σ_44
                              have hus_σ19 : ∀ j : Nat, j < 8 → (((f_pass σ_44 ((1 : Int32) + (f_below ((r1 + ((47 : Int32) * y3_44)) >>> ((3 : Int32) &&& (31 : Int32))) (3 : Int32)))).2).1 (22 + j) 2).toInt ≤ (uf_44 j).toInt := us_le (q_pair iv_σ_44 (Q_pass iv_σ_44.1.1)).2 hus_σ_44
                              generalize (f_pass σ_44 ((1 : Int32) + (f_below ((r1 + ((47 : Int32) * y3_44)) >>> ((3 : Int32) &&& (31 : Int32))) (3 : Int32)))).2 = σ19 at hP iv_σ19 pf_σ19 ct_σ19 hus_σ19
                              generalize (f_pass σ_44 ((1 : Int32) + (f_below ((r1 + ((47 : Int32) * y3_44)) >>> ((3 : Int32) &&& (31 : Int32))) (3 : Int32)))).1 = r20
                              refine lv_pop hx hb dL_law_335 rfl ?_
                              refine lv_goto (tgt := 368) hx hb dL_law_336 (by decide) ?_
                              exact J_368 σ19 _ _ _ iv_σ19 pf_σ19 ct_σ19 hus_σ19 hP hU hS (lv_sub hl [3, 4, 5, 6] rfl)
                          · skip
                            by_cases c_92_7 : (f_below (r1 + ((47 : Int32) * y3_44)) (11 : Int32)) = (7 : Int32)
                            · skip
                              refine lv_tableIn (off := 247) (tgt := 339) hx hb dL_law_92 (by rw [c_92_7]; decide) (by rw [c_92_7]; decide) (by rw [c_92_7]; rfl) (by decide) ?_
                              refine lv_aload_n hx hb dL_law_339 rfl (lv_at hl 5 rfl) ?_
                              refine lv_iload hx hb dL_law_340 (lv_at hl 1 rfl) ?_
                              refine lv_iload hx hb dL_law_342 (lv_at hl 0 rfl) ?_
                              refine lv_iload hx hb dL_law_344 (lv_at hl 2 rfl) ?_
                              refine lv_iconst (v := (3 : Int32)) hx hb dL_law_346 (by decide) ?_
                              refine lv_ishr hx hb dL_law_347 ?_
                              refine lv_bipush (v := (100 : Int32)) hx hb dL_law_348 (by decide) ?_
                              refine kx_below X hP hS hU hUA ⟨Nat.le_of_ble_eq_true rfl, Nat.le_of_ble_eq_true rfl⟩ ⟨Nat.le_of_ble_eq_true rfl, Nat.le_of_ble_eq_true rfl⟩ wd74 hl.1 (Nat.le_of_ble_eq_true rfl) dL_law_350 ((r1 + ((47 : Int32) * y3_44)) >>> ((3 : Int32) &&& (31 : Int32))) (100 : Int32) (by decide) (fun H locs hP hU hS => ?_)
                              refine lv_iconst (v := (1 : Int32)) hx hb dL_law_353 (by decide) ?_
                              refine lv_iload hx hb dL_law_354 (lv_at hl 2 rfl) ?_
                              refine lv_iconst (v := (4 : Int32)) hx hb dL_law_356 (by decide) ?_
                              refine lv_ishr hx hb dL_law_357 ?_
                              refine lv_bipush (v := (12 : Int32)) hx hb dL_law_358 (by decide) ?_
                              refine kx_below X hP hS hU hUA ⟨Nat.le_of_ble_eq_true rfl, Nat.le_of_ble_eq_true rfl⟩ ⟨Nat.le_of_ble_eq_true rfl, Nat.le_of_ble_eq_true rfl⟩ wd74 hl.1 (Nat.le_of_ble_eq_true rfl) dL_law_360 ((r1 + ((47 : Int32) * y3_44)) >>> ((4 : Int32) &&& (31 : Int32))) (12 : Int32) (by decide) (fun H locs hP hU hS => ?_)
                              refine lv_iadd hx hb dL_law_363 ?_
                              refine kx_change X hP hS hU hUA ⟨Nat.le_of_ble_eq_true rfl, Nat.le_of_ble_eq_true rfl⟩ ⟨Nat.le_of_ble_eq_true rfl, Nat.le_of_ble_eq_true rfl⟩ wd366 hl.1 (Nat.le_of_ble_eq_true rfl) dL_law_364 (f_below ((r1 + ((47 : Int32) * y3_44)) >>> ((1 : Int32) &&& (31 : Int32))) (4 : Int32)) (f_below ((r1 + ((47 : Int32) * y3_44)) >>> ((2 : Int32) &&& (31 : Int32))) (5 : Int32)) (f_below ((r1 + ((47 : Int32) * y3_44)) >>> ((3 : Int32) &&& (31 : Int32))) (100 : Int32)) ((1 : Int32) + (f_below ((r1 + ((47 : Int32) * y3_44)) >>> ((4 : Int32) &&& (31 : Int32))) (12 : Int32))) iv_σ_44.1.1 (by rw [ct_σ_44.2.2]; exact inr_n (below_in (d := 4) rfl (by decide) (by decide)) (by decide)) (by rw [ct_σ_44.1]; exact inr_n (below_in (d := 5) rfl (by decide) (by decide)) (by decide)) (rg_b (below_in (d := 100) rfl (by decide) (by decide)) (by decide) (by decide)) (rg_1 (below_in (d := 12) rfl (by decide) (by decide)) (by decide) (by decide) (by decide)) (fun H locs hP hU hS => ?_)
                              have iv_σ21 : INV ((f_change σ_44 (f_below ((r1 + ((47 : Int32) * y3_44)) >>> ((1 : Int32) &&& (31 : Int32))) (4 : Int32)) (f_below ((r1 + ((47 : Int32) * y3_44)) >>> ((2 : Int32) &&& (31 : Int32))) (5 : Int32)) (f_below ((r1 + ((47 : Int32) * y3_44)) >>> ((3 : Int32) &&& (31 : Int32))) (100 : Int32)) ((1 : Int32) + (f_below ((r1 + ((47 : Int32) * y3_44)) >>> ((4 : Int32) &&& (31 : Int32))) (12 : Int32)))).2) := (inv_change iv_σ_44 (by rw [ct_σ_44.2.2]; exact inr_n (below_in (d := 4) rfl (by decide) (by decide)) (by decide)) (vp_mono (below_in (d := 5) rfl (by decide) (by decide)) (by decide)) (vp_1 (below_in (d := 12) rfl (by decide) (by decide)) (by decide) (by decide))).1
                              have pf_σ21 : PF ((f_change σ_44 (f_below ((r1 + ((47 : Int32) * y3_44)) >>> ((1 : Int32) &&& (31 : Int32))) (4 : Int32)) (f_below ((r1 + ((47 : Int32) * y3_44)) >>> ((2 : Int32) &&& (31 : Int32))) (5 : Int32)) (f_below ((r1 + ((47 : Int32) * y3_44)) >>> ((3 : Int32) &&& (31 : Int32))) (100 : Int32)) ((1 : Int32) + (f_below ((r1 + ((47 : Int32) * y3_44)) >>> ((4 : Int32) &&& (31 : Int32))) (12 : Int32)))).2) := pf_change iv_σ_44 pf_σ_44 (by rw [ct_σ_44.2.2]; exact inr_n (below_in (d := 4) rfl (by decide) (by decide)) (by decide)) (by rw [ct_σ_44.1]; exact inr_n (below_in (d := 5) rfl (by decide) (by decide)) (by decide)) (vp_1 (below_in (d := 12) rfl (by decide) (by decide)) (by decide) (by decide))
                              have ct_σ21 : (((f_change σ_44 (f_below ((r1 + ((47 : Int32) * y3_44)) >>> ((1 : Int32) &&& (31 : Int32))) (4 : Int32)) (f_below ((r1 + ((47 : Int32) * y3_44)) >>> ((2 : Int32) &&& (31 : Int32))) (5 : Int32)) (f_below ((r1 + ((47 : Int32) * y3_44)) >>> ((3 : Int32) &&& (31 : Int32))) (100 : Int32)) ((1 : Int32) + (f_below ((r1 + ((47 : Int32) * y3_44)) >>> ((4 : Int32) &&& (31 : Int32))) (12 : Int32)))).2).1 0 3 = 5 ∧ ((f_change σ_44 (f_below ((r1 + ((47 : Int32) * y3_44)) >>> ((1 : Int32) &&& (31 : Int32))) (4 : Int32)) (f_below ((r1 + ((47 : Int32) * y3_44)) >>> ((2 : Int32) &&& (31 : Int32))) (5 : Int32)) (f_below ((r1 + ((47 : Int32) * y3_44)) >>> ((3 : Int32) &&& (31 : Int32))) (100 : Int32)) ((1 : Int32) + (f_below ((r1 + ((47 : Int32) * y3_44)) >>> ((4 : Int32) &&& (31 : Int32))) (12 : Int32)))).2).1 0 4 = 8 ∧ ((f_change σ_44 (f_below ((r1 + ((47 : Int32) * y3_44)) >>> ((1 : Int32) &&& (31 : Int32))) (4 : Int32)) (f_below ((r1 + ((47 : Int32) * y3_44)) >>> ((2 : Int32) &&& (31 : Int32))) (5 : Int32)) (f_below ((r1 + ((47 : Int32) * y3_44)) >>> ((3 : Int32) &&& (31 : Int32))) (100 : Int32)) ((1 : Int32) + (f_below ((r1 + ((47 : Int32) * y3_44)) >>> ((4 : Int32) &&& (31 : Int32))) (12 : Int32)))).2).1 0 5 = 4) := ct_us (inv_change iv_σ_44 (by rw [ct_σ_44.2.2]; exact inr_n (below_in (d := 4) rfl (by decide) (by decide)) (by decide)) (vp_mono (below_in (d := 5) rfl (by decide) (by decide)) (by decide)) (vp_1 (below_in (d := 12) rfl (by decide) (by decide)) (by decide) (by decide))).2 ct_σ_44
                              have hus_σ21 : ∀ j : Nat, j < 8 → (((f_change σ_44 (f_below ((r1 + ((47 : Int32) * y3_44)) >>> ((1 : Int32) &&& (31 : Int32))) (4 : Int32)) (f_below ((r1 + ((47 : Int32) * y3_44)) >>> ((2 : Int32) &&& (31 : Int32))) (5 : Int32)) (f_below ((r1 + ((47 : Int32) * y3_44)) >>> ((3 : Int32) &&& (31 : Int32))) (100 : Int32)) ((1 : Int32) + (f_below ((r1 + ((47 : Int32) * y3_44)) >>> ((4 : Int32) &&& (31 : Int32))) (12 : Int32)))).2).1 (22 + j) 2).toInt ≤ (uf_44 j).toInt := us_le (inv_change iv_σ_44 (by rw [ct_σ_44.2.2]; exact inr_n (below_in (d := 4) rfl (by decide) (by decide)) (by decide)) (vp_mono (below_in (d := 5) rfl (by decide) (by decide)) (by decide)) (vp_1 (below_in (d := 12) rfl (by decide) (by decide)) (by decide) (by decide))).2 hus_σ_44
                              generalize (f_change σ_44 (f_below ((r1 + ((47 : Int32) * y3_44)) >>> ((1 : Int32) &&& (31 : Int32))) (4 : Int32)) (f_below ((r1 + ((47 : Int32) * y3_44)) >>> ((2 : Int32) &&& (31 : Int32))) (5 : Int32)) (f_below ((r1 + ((47 : Int32) * y3_44)) >>> ((3 : Int32) &&& (31 : Int32))) (100 : Int32)) ((1 : Int32) + (f_below ((r1 + ((47 : Int32) * y3_44)) >>> ((4 : Int32) &&& (31 : Int32))) (12 : Int32)))).2 = σ21 at hP iv_σ21 pf_σ21 ct_σ21 hus_σ21
                              generalize (f_change σ_44 (f_below ((r1 + ((47 : Int32) * y3_44)) >>> ((1 : Int32) &&& (31 : Int32))) (4 : Int32)) (f_below ((r1 + ((47 : Int32) * y3_44)) >>> ((2 : Int32) &&& (31 : Int32))) (5 : Int32)) (f_below ((r1 + ((47 : Int32) * y3_44)) >>> ((3 : Int32) &&& (31 : Int32))) (100 : Int32)) ((1 : Int32) + (f_below ((r1 + ((47 : Int32) * y3_44)) >>> ((4 : Int32) &&& (31 : Int32))) (12 : Int32)))).1 = r22
                              refine lv_pop hx hb dL_law_367 rfl ?_
                              exact J_368 σ21 _ _ _ iv_σ21 pf_σ21 ct_σ21 hus_σ21 hP hU hS (lv_sub hl [3, 4, 5, 6] rfl)
                            · skip
                              by_cases c_92_8 : (f_below (r1 + ((47 : Int32) * y3_44)) (11 : Int32)) = (8 : Int32)
                              · skip
                                refine lv_tableIn (off := 60) (tgt := 152) hx hb dL_law_92 (by rw [c_92_8]; decide) (by rw [c_92_8]; decide) (by rw [c_92_8]; rfl) (by decide) ?_
                                refine lv_aload_n hx hb dL_law_152 rfl (lv_at hl 5 rfl) ?_
                                refine lv_iload hx hb dL_law_153 (lv_at hl 1 rfl) ?_
                                refine lv_bipush (v := (11 : Int32)) hx hb dL_law_155 (by decide) ?_
                                refine kx_ofGag X hP hS hU hUA ⟨Nat.le_of_ble_eq_true rfl, Nat.le_of_ble_eq_true rfl⟩ ⟨Nat.le_of_ble_eq_true rfl, Nat.le_of_ble_eq_true rfl⟩ wd163 hl.1 (Nat.le_of_ble_eq_true rfl) dL_law_157 (f_below ((r1 + ((47 : Int32) * y3_44)) >>> ((1 : Int32) &&& (31 : Int32))) (4 : Int32)) (11 : Int32) iv_σ_44.1.1 (by rw [ct_σ_44.2.2]; exact inr_n (below_in (d := 4) rfl (by decide) (by decide)) (by decide)) (⟨by decide, by decide⟩) (fun H locs hP hU hS => ?_)
                                refine lv_if_ne (tgt := 368) hx hb dL_law_160 (by decide) (fun c_160 => ?_) (fun c_160 => ?_)
                                · skip
                                  exact J_368 σ_44 _ _ _ iv_σ_44 pf_σ_44 ct_σ_44 hus_σ_44 hP hU hS (lv_sub hl [3, 4, 5, 6] rfl)
                                · skip
                                  refine lv_aload_n hx hb dL_law_163 rfl (lv_at hl 5 rfl) ?_
                                  refine lv_iload hx hb dL_law_164 (lv_at hl 1 rfl) ?_
                                  refine kx_ready X hP hS hU hUA ⟨Nat.le_of_ble_eq_true rfl, Nat.le_of_ble_eq_true rfl⟩ ⟨Nat.le_of_ble_eq_true rfl, Nat.le_of_ble_eq_true rfl⟩ wd271 hl.1 (Nat.le_of_ble_eq_true rfl) dL_law_166 (f_below ((r1 + ((47 : Int32) * y3_44)) >>> ((1 : Int32) &&& (31 : Int32))) (4 : Int32)) iv_σ_44 pf_σ_44 ct_σ_44 (below_in (d := 4) rfl (by decide) (by decide)) (one_0 (by rw [rd_g11] at c_160; exact c_160)) (fun σ23 H locs hpost hP hU hS => ?_)
                                  have iv_σ23 := iv_σ_44.q hpost
                                  have pf_σ23 := PF.q iv_σ_44.1.1 pf_σ_44 hpost
                                  have ct_σ23 := ct_us (US.q iv_σ_44.1 hpost) ct_σ_44
                                  have hus_σ23 := us_le (US.q iv_σ_44.1 hpost) hus_σ_44
                                  have ha_σ23 := q_a0 hpost (vp_mono (below_in (d := 4) rfl (by decide) (by decide)) (by decide)) (one_0 (by rw [rd_g11] at c_160; exact c_160))
                                  refine lv_aload_n hx hb dL_law_169 rfl (lv_at hl 5 rfl) ?_
                                  refine lv_iload hx hb dL_law_170 (lv_at hl 1 rfl) ?_
                                  refine kx_arm X hP hS hU hUA ⟨Nat.le_of_ble_eq_true rfl, Nat.le_of_ble_eq_true rfl⟩ ⟨Nat.le_of_ble_eq_true rfl, Nat.le_of_ble_eq_true rfl⟩ wd302 hl.1 (Nat.le_of_ble_eq_true rfl) dL_law_172 (f_below ((r1 + ((47 : Int32) * y3_44)) >>> ((1 : Int32) &&& (31 : Int32))) (4 : Int32)) iv_σ23.1.1 (by rw [ct_σ23.2.2]; exact inr_n (below_in (d := 4) rfl (by decide) (by decide)) (by decide)) ha_σ23 (fun H locs hP hU hS => ?_)
                                  have iv_σ24 : INV ((f_arm σ23 (f_below ((r1 + ((47 : Int32) * y3_44)) >>> ((1 : Int32) &&& (31 : Int32))) (4 : Int32))).2) := (inv_arm iv_σ23 (by rw [ct_σ23.2.2]; exact inr_n (below_in (d := 4) rfl (by decide) (by decide)) (by decide))).1
                                  have pf_σ24 : PF ((f_arm σ23 (f_below ((r1 + ((47 : Int32) * y3_44)) >>> ((1 : Int32) &&& (31 : Int32))) (4 : Int32))).2) := pf_arm iv_σ23.1.1 pf_σ23
                                  have ct_σ24 : (((f_arm σ23 (f_below ((r1 + ((47 : Int32) * y3_44)) >>> ((1 : Int32) &&& (31 : Int32))) (4 : Int32))).2).1 0 3 = 5 ∧ ((f_arm σ23 (f_below ((r1 + ((47 : Int32) * y3_44)) >>> ((1 : Int32) &&& (31 : Int32))) (4 : Int32))).2).1 0 4 = 8 ∧ ((f_arm σ23 (f_below ((r1 + ((47 : Int32) * y3_44)) >>> ((1 : Int32) &&& (31 : Int32))) (4 : Int32))).2).1 0 5 = 4) := ct_us (inv_arm iv_σ23 (by rw [ct_σ23.2.2]; exact inr_n (below_in (d := 4) rfl (by decide) (by decide)) (by decide))).2 ct_σ23
                                  have hus_σ24 : ∀ j : Nat, j < 8 → (((f_arm σ23 (f_below ((r1 + ((47 : Int32) * y3_44)) >>> ((1 : Int32) &&& (31 : Int32))) (4 : Int32))).2).1 (22 + j) 2).toInt ≤ (uf_44 j).toInt := us_le (inv_arm iv_σ23 (by rw [ct_σ23.2.2]; exact inr_n (below_in (d := 4) rfl (by decide) (by decide)) (by decide))).2 hus_σ23
                                  generalize (f_arm σ23 (f_below ((r1 + ((47 : Int32) * y3_44)) >>> ((1 : Int32) &&& (31 : Int32))) (4 : Int32))).2 = σ24 at hP iv_σ24 pf_σ24 ct_σ24 hus_σ24
                                  generalize (f_arm σ23 (f_below ((r1 + ((47 : Int32) * y3_44)) >>> ((1 : Int32) &&& (31 : Int32))) (4 : Int32))).1 = r25
                                  refine lv_pop hx hb dL_law_175 rfl ?_
                                  refine lv_goto (tgt := 368) hx hb dL_law_176 (by decide) ?_
                                  exact J_368 σ24 _ _ _ iv_σ24 pf_σ24 ct_σ24 hus_σ24 hP hU hS (lv_sub hl [3, 4, 5, 6] rfl)
                              · skip
                                by_cases c_92_9 : (f_below (r1 + ((47 : Int32) * y3_44)) (11 : Int32)) = (9 : Int32)
                                · skip
                                  refine lv_tableIn (off := 60) (tgt := 152) hx hb dL_law_92 (by rw [c_92_9]; decide) (by rw [c_92_9]; decide) (by rw [c_92_9]; rfl) (by decide) ?_
                                  refine lv_aload_n hx hb dL_law_152 rfl (lv_at hl 5 rfl) ?_
                                  refine lv_iload hx hb dL_law_153 (lv_at hl 1 rfl) ?_
                                  refine lv_bipush (v := (11 : Int32)) hx hb dL_law_155 (by decide) ?_
                                  refine kx_ofGag X hP hS hU hUA ⟨Nat.le_of_ble_eq_true rfl, Nat.le_of_ble_eq_true rfl⟩ ⟨Nat.le_of_ble_eq_true rfl, Nat.le_of_ble_eq_true rfl⟩ wd163 hl.1 (Nat.le_of_ble_eq_true rfl) dL_law_157 (f_below ((r1 + ((47 : Int32) * y3_44)) >>> ((1 : Int32) &&& (31 : Int32))) (4 : Int32)) (11 : Int32) iv_σ_44.1.1 (by rw [ct_σ_44.2.2]; exact inr_n (below_in (d := 4) rfl (by decide) (by decide)) (by decide)) (⟨by decide, by decide⟩) (fun H locs hP hU hS => ?_)
                                  refine lv_if_ne (tgt := 368) hx hb dL_law_160 (by decide) (fun c_160 => ?_) (fun c_160 => ?_)
                                  · skip
                                    exact J_368 σ_44 _ _ _ iv_σ_44 pf_σ_44 ct_σ_44 hus_σ_44 hP hU hS (lv_sub hl [3, 4, 5, 6] rfl)
                                  · skip
                                    refine lv_aload_n hx hb dL_law_163 rfl (lv_at hl 5 rfl) ?_
                                    refine lv_iload hx hb dL_law_164 (lv_at hl 1 rfl) ?_
                                    refine kx_ready X hP hS hU hUA ⟨Nat.le_of_ble_eq_true rfl, Nat.le_of_ble_eq_true rfl⟩ ⟨Nat.le_of_ble_eq_true rfl, Nat.le_of_ble_eq_true rfl⟩ wd271 hl.1 (Nat.le_of_ble_eq_true rfl) dL_law_166 (f_below ((r1 + ((47 : Int32) * y3_44)) >>> ((1 : Int32) &&& (31 : Int32))) (4 : Int32)) iv_σ_44 pf_σ_44 ct_σ_44 (below_in (d := 4) rfl (by decide) (by decide)) (one_0 (by rw [rd_g11] at c_160; exact c_160)) (fun σ26 H locs hpost hP hU hS => ?_)
                                    have iv_σ26 := iv_σ_44.q hpost
                                    have pf_σ26 := PF.q iv_σ_44.1.1 pf_σ_44 hpost
                                    have ct_σ26 := ct_us (US.q iv_σ_44.1 hpost) ct_σ_44
                                    have hus_σ26 := us_le (US.q iv_σ_44.1 hpost) hus_σ_44
                                    have ha_σ26 := q_a0 hpost (vp_mono (below_in (d := 4) rfl (by decide) (by decide)) (by decide)) (one_0 (by rw [rd_g11] at c_160; exact c_160))
                                    refine lv_aload_n hx hb dL_law_169 rfl (lv_at hl 5 rfl) ?_
                                    refine lv_iload hx hb dL_law_170 (lv_at hl 1 rfl) ?_
                                    refine kx_arm X hP hS hU hUA ⟨Nat.le_of_ble_eq_true rfl, Nat.le_of_ble_eq_true rfl⟩ ⟨Nat.le_of_ble_eq_true rfl, Nat.le_of_ble_eq_true rfl⟩ wd302 hl.1 (Nat.le_of_ble_eq_true rfl) dL_law_172 (f_below ((r1 + ((47 : Int32) * y3_44)) >>> ((1 : Int32) &&& (31 : Int32))) (4 : Int32)) iv_σ26.1.1 (by rw [ct_σ26.2.2]; exact inr_n (below_in (d := 4) rfl (by decide) (by decide)) (by decide)) ha_σ26 (fun H locs hP hU hS => ?_)
                                    have iv_σ27 : INV ((f_arm σ26 (f_below ((r1 + ((47 : Int32) * y3_44)) >>> ((1 : Int32) &&& (31 : Int32))) (4 : Int32))).2) := (inv_arm iv_σ26 (by rw [ct_σ26.2.2]; exact inr_n (below_in (d := 4) rfl (by decide) (by decide)) (by decide))).1
                                    have pf_σ27 : PF ((f_arm σ26 (f_below ((r1 + ((47 : Int32) * y3_44)) >>> ((1 : Int32) &&& (31 : Int32))) (4 : Int32))).2) := pf_arm iv_σ26.1.1 pf_σ26
                                    have ct_σ27 : (((f_arm σ26 (f_below ((r1 + ((47 : Int32) * y3_44)) >>> ((1 : Int32) &&& (31 : Int32))) (4 : Int32))).2).1 0 3 = 5 ∧ ((f_arm σ26 (f_below ((r1 + ((47 : Int32) * y3_44)) >>> ((1 : Int32) &&& (31 : Int32))) (4 : Int32))).2).1 0 4 = 8 ∧ ((f_arm σ26 (f_below ((r1 + ((47 : Int32) * y3_44)) >>> ((1 : Int32) &&& (31 : Int32))) (4 : Int32))).2).1 0 5 = 4) := ct_us (inv_arm iv_σ26 (by rw [ct_σ26.2.2]; exact inr_n (below_in (d := 4) rfl (by decide) (by decide)) (by decide))).2 ct_σ26
                                    have hus_σ27 : ∀ j : Nat, j < 8 → (((f_arm σ26 (f_below ((r1 + ((47 : Int32) * y3_44)) >>> ((1 : Int32) &&& (31 : Int32))) (4 : Int32))).2).1 (22 + j) 2).toInt ≤ (uf_44 j).toInt := us_le (inv_arm iv_σ26 (by rw [ct_σ26.2.2]; exact inr_n (below_in (d := 4) rfl (by decide) (by decide)) (by decide))).2 hus_σ26
                                    generalize (f_arm σ26 (f_below ((r1 + ((47 : Int32) * y3_44)) >>> ((1 : Int32) &&& (31 : Int32))) (4 : Int32))).2 = σ27 at hP iv_σ27 pf_σ27 ct_σ27 hus_σ27
                                    generalize (f_arm σ26 (f_below ((r1 + ((47 : Int32) * y3_44)) >>> ((1 : Int32) &&& (31 : Int32))) (4 : Int32))).1 = r28
                                    refine lv_pop hx hb dL_law_175 rfl ?_
                                    refine lv_goto (tgt := 368) hx hb dL_law_176 (by decide) ?_
                                    exact J_368 σ27 _ _ _ iv_σ27 pf_σ27 ct_σ27 hus_σ27 hP hU hS (lv_sub hl [3, 4, 5, 6] rfl)
                                · skip
                                  by_cases c_92_10 : (f_below (r1 + ((47 : Int32) * y3_44)) (11 : Int32)) = (10 : Int32)
                                  · skip
                                    refine lv_tableIn (off := 60) (tgt := 152) hx hb dL_law_92 (by rw [c_92_10]; decide) (by rw [c_92_10]; decide) (by rw [c_92_10]; rfl) (by decide) ?_
                                    refine lv_aload_n hx hb dL_law_152 rfl (lv_at hl 5 rfl) ?_
                                    refine lv_iload hx hb dL_law_153 (lv_at hl 1 rfl) ?_
                                    refine lv_bipush (v := (11 : Int32)) hx hb dL_law_155 (by decide) ?_
                                    refine kx_ofGag X hP hS hU hUA ⟨Nat.le_of_ble_eq_true rfl, Nat.le_of_ble_eq_true rfl⟩ ⟨Nat.le_of_ble_eq_true rfl, Nat.le_of_ble_eq_true rfl⟩ wd163 hl.1 (Nat.le_of_ble_eq_true rfl) dL_law_157 (f_below ((r1 + ((47 : Int32) * y3_44)) >>> ((1 : Int32) &&& (31 : Int32))) (4 : Int32)) (11 : Int32) iv_σ_44.1.1 (by rw [ct_σ_44.2.2]; exact inr_n (below_in (d := 4) rfl (by decide) (by decide)) (by decide)) (⟨by decide, by decide⟩) (fun H locs hP hU hS => ?_)
                                    refine lv_if_ne (tgt := 368) hx hb dL_law_160 (by decide) (fun c_160 => ?_) (fun c_160 => ?_)
                                    · skip
                                      exact J_368 σ_44 _ _ _ iv_σ_44 pf_σ_44 ct_σ_44 hus_σ_44 hP hU hS (lv_sub hl [3, 4, 5, 6] rfl)
                                    · skip
                                      refine lv_aload_n hx hb dL_law_163 rfl (lv_at hl 5 rfl) ?_
                                      refine lv_iload hx hb dL_law_164 (lv_at hl 1 rfl) ?_
                                      refine kx_ready X hP hS hU hUA ⟨Nat.le_of_ble_eq_true rfl, Nat.le_of_ble_eq_true rfl⟩ ⟨Nat.le_of_ble_eq_true rfl, Nat.le_of_ble_eq_true rfl⟩ wd271 hl.1 (Nat.le_of_ble_eq_true rfl) dL_law_166 (f_below ((r1 + ((47 : Int32) * y3_44)) >>> ((1 : Int32) &&& (31 : Int32))) (4 : Int32)) iv_σ_44 pf_σ_44 ct_σ_44 (below_in (d := 4) rfl (by decide) (by decide)) (one_0 (by rw [rd_g11] at c_160; exact c_160)) (fun σ29 H locs hpost hP hU hS => ?_)
                                      have iv_σ29 := iv_σ_44.q hpost
                                      have pf_σ29 := PF.q iv_σ_44.1.1 pf_σ_44 hpost
                                      have ct_σ29 := ct_us (US.q iv_σ_44.1 hpost) ct_σ_44
                                      have hus_σ29 := us_le (US.q iv_σ_44.1 hpost) hus_σ_44
                                      have ha_σ29 := q_a0 hpost (vp_mono (below_in (d := 4) rfl (by decide) (by decide)) (by decide)) (one_0 (by rw [rd_g11] at c_160; exact c_160))
                                      refine lv_aload_n hx hb dL_law_169 rfl (lv_at hl 5 rfl) ?_
                                      refine lv_iload hx hb dL_law_170 (lv_at hl 1 rfl) ?_
                                      refine kx_arm X hP hS hU hUA ⟨Nat.le_of_ble_eq_true rfl, Nat.le_of_ble_eq_true rfl⟩ ⟨Nat.le_of_ble_eq_true rfl, Nat.le_of_ble_eq_true rfl⟩ wd302 hl.1 (Nat.le_of_ble_eq_true rfl) dL_law_172 (f_below ((r1 + ((47 : Int32) * y3_44)) >>> ((1 : Int32) &&& (31 : Int32))) (4 : Int32)) iv_σ29.1.1 (by rw [ct_σ29.2.2]; exact inr_n (below_in (d := 4) rfl (by decide) (by decide)) (by decide)) ha_σ29 (fun H locs hP hU hS => ?_)
                                      have iv_σ30 : INV ((f_arm σ29 (f_below ((r1 + ((47 : Int32) * y3_44)) >>> ((1 : Int32) &&& (31 : Int32))) (4 : Int32))).2) := (inv_arm iv_σ29 (by rw [ct_σ29.2.2]; exact inr_n (below_in (d := 4) rfl (by decide) (by decide)) (by decide))).1
                                      have pf_σ30 : PF ((f_arm σ29 (f_below ((r1 + ((47 : Int32) * y3_44)) >>> ((1 : Int32) &&& (31 : Int32))) (4 : Int32))).2) := pf_arm iv_σ29.1.1 pf_σ29
                                      have ct_σ30 : (((f_arm σ29 (f_below ((r1 + ((47 : Int32) * y3_44)) >>> ((1 : Int32) &&& (31 : Int32))) (4 : Int32))).2).1 0 3 = 5 ∧ ((f_arm σ29 (f_below ((r1 + ((47 : Int32) * y3_44)) >>> ((1 : Int32) &&& (31 : Int32))) (4 : Int32))).2).1 0 4 = 8 ∧ ((f_arm σ29 (f_below ((r1 + ((47 : Int32) * y3_44)) >>> ((1 : Int32) &&& (31 : Int32))) (4 : Int32))).2).1 0 5 = 4) := ct_us (inv_arm iv_σ29 (by rw [ct_σ29.2.2]; exact inr_n (below_in (d := 4) rfl (by decide) (by decide)) (by decide))).2 ct_σ29
                                      have hus_σ30 : ∀ j : Nat, j < 8 → (((f_arm σ29 (f_below ((r1 + ((47 : Int32) * y3_44)) >>> ((1 : Int32) &&& (31 : Int32))) (4 : Int32))).2).1 (22 + j) 2).toInt ≤ (uf_44 j).toInt := us_le (inv_arm iv_σ29 (by rw [ct_σ29.2.2]; exact inr_n (below_in (d := 4) rfl (by decide) (by decide)) (by decide))).2 hus_σ29
                                      generalize (f_arm σ29 (f_below ((r1 + ((47 : Int32) * y3_44)) >>> ((1 : Int32) &&& (31 : Int32))) (4 : Int32))).2 = σ30 at hP iv_σ30 pf_σ30 ct_σ30 hus_σ30
                                      generalize (f_arm σ29 (f_below ((r1 + ((47 : Int32) * y3_44)) >>> ((1 : Int32) &&& (31 : Int32))) (4 : Int32))).1 = r31
                                      refine lv_pop hx hb dL_law_175 rfl ?_
                                      refine lv_goto (tgt := 368) hx hb dL_law_176 (by decide) ?_
                                      exact J_368 σ30 _ _ _ iv_σ30 pf_σ30 ct_σ30 hus_σ30 hP hU hS (lv_sub hl [3, 4, 5, 6] rfl)
                                  · skip
                                    refine lv_tableOut (tgt := 339) hx hb dL_law_92 (by have h0 := lv_neT c_92_0 (a := 0) (by decide); have h1 := lv_neT c_92_1 (a := 1) (by decide); have h2 := lv_neT c_92_2 (a := 2) (by decide); have h3 := lv_neT c_92_3 (a := 3) (by decide); have h4 := lv_neT c_92_4 (a := 4) (by decide); have h5 := lv_neT c_92_5 (a := 5) (by decide); have h6 := lv_neT c_92_6 (a := 6) (by decide); have h7 := lv_neT c_92_7 (a := 7) (by decide); have h8 := lv_neT c_92_8 (a := 8) (by decide); have h9 := lv_neT c_92_9 (a := 9) (by decide); have h10 := lv_neT c_92_10 (a := 10) (by decide); omega) (by decide) ?_
                                    refine lv_aload_n hx hb dL_law_339 rfl (lv_at hl 5 rfl) ?_
                                    refine lv_iload hx hb dL_law_340 (lv_at hl 1 rfl) ?_
                                    refine lv_iload hx hb dL_law_342 (lv_at hl 0 rfl) ?_
                                    refine lv_iload hx hb dL_law_344 (lv_at hl 2 rfl) ?_
                                    refine lv_iconst (v := (3 : Int32)) hx hb dL_law_346 (by decide) ?_
                                    refine lv_ishr hx hb dL_law_347 ?_
                                    refine lv_bipush (v := (100 : Int32)) hx hb dL_law_348 (by decide) ?_
                                    refine kx_below X hP hS hU hUA ⟨Nat.le_of_ble_eq_true rfl, Nat.le_of_ble_eq_true rfl⟩ ⟨Nat.le_of_ble_eq_true rfl, Nat.le_of_ble_eq_true rfl⟩ wd74 hl.1 (Nat.le_of_ble_eq_true rfl) dL_law_350 ((r1 + ((47 : Int32) * y3_44)) >>> ((3 : Int32) &&& (31 : Int32))) (100 : Int32) (by decide) (fun H locs hP hU hS => ?_)
                                    refine lv_iconst (v := (1 : Int32)) hx hb dL_law_353 (by decide) ?_
                                    refine lv_iload hx hb dL_law_354 (lv_at hl 2 rfl) ?_
                                    refine lv_iconst (v := (4 : Int32)) hx hb dL_law_356 (by decide) ?_
                                    refine lv_ishr hx hb dL_law_357 ?_
                                    refine lv_bipush (v := (12 : Int32)) hx hb dL_law_358 (by decide) ?_
                                    refine kx_below X hP hS hU hUA ⟨Nat.le_of_ble_eq_true rfl, Nat.le_of_ble_eq_true rfl⟩ ⟨Nat.le_of_ble_eq_true rfl, Nat.le_of_ble_eq_true rfl⟩ wd74 hl.1 (Nat.le_of_ble_eq_true rfl) dL_law_360 ((r1 + ((47 : Int32) * y3_44)) >>> ((4 : Int32) &&& (31 : Int32))) (12 : Int32) (by decide) (fun H locs hP hU hS => ?_)
                                    refine lv_iadd hx hb dL_law_363 ?_
                                    refine kx_change X hP hS hU hUA ⟨Nat.le_of_ble_eq_true rfl, Nat.le_of_ble_eq_true rfl⟩ ⟨Nat.le_of_ble_eq_true rfl, Nat.le_of_ble_eq_true rfl⟩ wd366 hl.1 (Nat.le_of_ble_eq_true rfl) dL_law_364 (f_below ((r1 + ((47 : Int32) * y3_44)) >>> ((1 : Int32) &&& (31 : Int32))) (4 : Int32)) (f_below ((r1 + ((47 : Int32) * y3_44)) >>> ((2 : Int32) &&& (31 : Int32))) (5 : Int32)) (f_below ((r1 + ((47 : Int32) * y3_44)) >>> ((3 : Int32) &&& (31 : Int32))) (100 : Int32)) ((1 : Int32) + (f_below ((r1 + ((47 : Int32) * y3_44)) >>> ((4 : Int32) &&& (31 : Int32))) (12 : Int32))) iv_σ_44.1.1 (by rw [ct_σ_44.2.2]; exact inr_n (below_in (d := 4) rfl (by decide) (by decide)) (by decide)) (by rw [ct_σ_44.1]; exact inr_n (below_in (d := 5) rfl (by decide) (by decide)) (by decide)) (rg_b (below_in (d := 100) rfl (by decide) (by decide)) (by decide) (by decide)) (rg_1 (below_in (d := 12) rfl (by decide) (by decide)) (by decide) (by decide) (by decide)) (fun H locs hP hU hS => ?_)
                                    have iv_σ32 : INV ((f_change σ_44 (f_below ((r1 + ((47 : Int32) * y3_44)) >>> ((1 : Int32) &&& (31 : Int32))) (4 : Int32)) (f_below ((r1 + ((47 : Int32) * y3_44)) >>> ((2 : Int32) &&& (31 : Int32))) (5 : Int32)) (f_below ((r1 + ((47 : Int32) * y3_44)) >>> ((3 : Int32) &&& (31 : Int32))) (100 : Int32)) ((1 : Int32) + (f_below ((r1 + ((47 : Int32) * y3_44)) >>> ((4 : Int32) &&& (31 : Int32))) (12 : Int32)))).2) := (inv_change iv_σ_44 (by rw [ct_σ_44.2.2]; exact inr_n (below_in (d := 4) rfl (by decide) (by decide)) (by decide)) (vp_mono (below_in (d := 5) rfl (by decide) (by decide)) (by decide)) (vp_1 (below_in (d := 12) rfl (by decide) (by decide)) (by decide) (by decide))).1
                                    have pf_σ32 : PF ((f_change σ_44 (f_below ((r1 + ((47 : Int32) * y3_44)) >>> ((1 : Int32) &&& (31 : Int32))) (4 : Int32)) (f_below ((r1 + ((47 : Int32) * y3_44)) >>> ((2 : Int32) &&& (31 : Int32))) (5 : Int32)) (f_below ((r1 + ((47 : Int32) * y3_44)) >>> ((3 : Int32) &&& (31 : Int32))) (100 : Int32)) ((1 : Int32) + (f_below ((r1 + ((47 : Int32) * y3_44)) >>> ((4 : Int32) &&& (31 : Int32))) (12 : Int32)))).2) := pf_change iv_σ_44 pf_σ_44 (by rw [ct_σ_44.2.2]; exact inr_n (below_in (d := 4) rfl (by decide) (by decide)) (by decide)) (by rw [ct_σ_44.1]; exact inr_n (below_in (d := 5) rfl (by decide) (by decide)) (by decide)) (vp_1 (below_in (d := 12) rfl (by decide) (by decide)) (by decide) (by decide))
                                    have ct_σ32 : (((f_change σ_44 (f_below ((r1 + ((47 : Int32) * y3_44)) >>> ((1 : Int32) &&& (31 : Int32))) (4 : Int32)) (f_below ((r1 + ((47 : Int32) * y3_44)) >>> ((2 : Int32) &&& (31 : Int32))) (5 : Int32)) (f_below ((r1 + ((47 : Int32) * y3_44)) >>> ((3 : Int32) &&& (31 : Int32))) (100 : Int32)) ((1 : Int32) + (f_below ((r1 + ((47 : Int32) * y3_44)) >>> ((4 : Int32) &&& (31 : Int32))) (12 : Int32)))).2).1 0 3 = 5 ∧ ((f_change σ_44 (f_below ((r1 + ((47 : Int32) * y3_44)) >>> ((1 : Int32) &&& (31 : Int32))) (4 : Int32)) (f_below ((r1 + ((47 : Int32) * y3_44)) >>> ((2 : Int32) &&& (31 : Int32))) (5 : Int32)) (f_below ((r1 + ((47 : Int32) * y3_44)) >>> ((3 : Int32) &&& (31 : Int32))) (100 : Int32)) ((1 : Int32) + (f_below ((r1 + ((47 : Int32) * y3_44)) >>> ((4 : Int32) &&& (31 : Int32))) (12 : Int32)))).2).1 0 4 = 8 ∧ ((f_change σ_44 (f_below ((r1 + ((47 : Int32) * y3_44)) >>> ((1 : Int32) &&& (31 : Int32))) (4 : Int32)) (f_below ((r1 + ((47 : Int32) * y3_44)) >>> ((2 : Int32) &&& (31 : Int32))) (5 : Int32)) (f_below ((r1 + ((47 : Int32) * y3_44)) >>> ((3 : Int32) &&& (31 : Int32))) (100 : Int32)) ((1 : Int32) + (f_below ((r1 + ((47 : Int32) * y3_44)) >>> ((4 : Int32) &&& (31 : Int32))) (12 : Int32)))).2).1 0 5 = 4) := ct_us (inv_change iv_σ_44 (by rw [ct_σ_44.2.2]; exact inr_n (below_in (d := 4) rfl (by decide) (by decide)) (by decide)) (vp_mono (below_in (d := 5) rfl (by decide) (by decide)) (by decide)) (vp_1 (below_in (d := 12) rfl (by decide) (by decide)) (by decide) (by decide))).2 ct_σ_44
                                    have hus_σ32 : ∀ j : Nat, j < 8 → (((f_change σ_44 (f_below ((r1 + ((47 : Int32) * y3_44)) >>> ((1 : Int32) &&& (31 : Int32))) (4 : Int32)) (f_below ((r1 + ((47 : Int32) * y3_44)) >>> ((2 : Int32) &&& (31 : Int32))) (5 : Int32)) (f_below ((r1 + ((47 : Int32) * y3_44)) >>> ((3 : Int32) &&& (31 : Int32))) (100 : Int32)) ((1 : Int32) + (f_below ((r1 + ((47 : Int32) * y3_44)) >>> ((4 : Int32) &&& (31 : Int32))) (12 : Int32)))).2).1 (22 + j) 2).toInt ≤ (uf_44 j).toInt := us_le (inv_change iv_σ_44 (by rw [ct_σ_44.2.2]; exact inr_n (below_in (d := 4) rfl (by decide) (by decide)) (by decide)) (vp_mono (below_in (d := 5) rfl (by decide) (by decide)) (by decide)) (vp_1 (below_in (d := 12) rfl (by decide) (by decide)) (by decide) (by decide))).2 hus_σ_44
                                    generalize (f_change σ_44 (f_below ((r1 + ((47 : Int32) * y3_44)) >>> ((1 : Int32) &&& (31 : Int32))) (4 : Int32)) (f_below ((r1 + ((47 : Int32) * y3_44)) >>> ((2 : Int32) &&& (31 : Int32))) (5 : Int32)) (f_below ((r1 + ((47 : Int32) * y3_44)) >>> ((3 : Int32) &&& (31 : Int32))) (100 : Int32)) ((1 : Int32) + (f_below ((r1 + ((47 : Int32) * y3_44)) >>> ((4 : Int32) &&& (31 : Int32))) (12 : Int32)))).2 = σ32 at hP iv_σ32 pf_σ32 ct_σ32 hus_σ32
                                    generalize (f_change σ_44 (f_below ((r1 + ((47 : Int32) * y3_44)) >>> ((1 : Int32) &&& (31 : Int32))) (4 : Int32)) (f_below ((r1 + ((47 : Int32) * y3_44)) >>> ((2 : Int32) &&& (31 : Int32))) (5 : Int32)) (f_below ((r1 + ((47 : Int32) * y3_44)) >>> ((3 : Int32) &&& (31 : Int32))) (100 : Int32)) ((1 : Int32) + (f_below ((r1 + ((47 : Int32) * y3_44)) >>> ((4 : Int32) &&& (31 : Int32))) (12 : Int32)))).1 = r33
                                    refine lv_pop hx hb dL_law_367 rfl ?_
                                    exact J_368 σ32 _ _ _ iv_σ32 pf_σ32 ct_σ32 hus_σ32 hP hU hS (lv_sub hl [3, 4, 5, 6] rfl)
        exact L_44 128 σ uf_21 (0 : Int32) _ _ _ (lp_z (by decide)) iv_σ pf_σ ct_σ (fun j hj => hu_21 j hj (by have q := i_le.mp c_24; rw [show (8 : Int32).toInt = 8 from rfl] at q; omega)) hP hU hS (lv_sub hl [0, 1, 2, 3] rfl)
      · have hlt_21 : y3_21.toInt < 8 := lt_nle c_24 (by decide)
        skip
        refine lv_aload_n hx hb dL_law_27 rfl (lv_at hl 1 rfl) ?_
        refine lv_iload_n hx hb dL_law_28 rfl (lv_at hl 0 rfl) ?_
        refine lv_aload_n hx hb dL_law_29 rfl (lv_at hl 2 rfl) ?_
        refine lv_iload_n hx hb dL_law_30 rfl (lv_at hl 0 rfl) ?_
        refine lv_iconst (v := (2 : Int32)) hx hb dL_law_31 (by decide) ?_
        refine kx_ofKit X hP hS hU hUA ⟨Nat.le_of_ble_eq_true rfl, Nat.le_of_ble_eq_true rfl⟩ ⟨Nat.le_of_ble_eq_true rfl, Nat.le_of_ble_eq_true rfl⟩ wd267 hl.1 (Nat.le_of_ble_eq_true rfl) dL_law_32 y3_21 (2 : Int32) iv_σ.1.1 (by rw [ct_σ.2.1]; exact inr_n (lp_i hi_21 hlt_21) (by decide)) (⟨by decide, by decide⟩) (fun H locs hP hU hS => ?_)
        refine u_st X hP hU hqA hqn hS (lp_i hi_21 hlt_21) dL_law_35 (fun H locs hP hU hS => ?_)
        refine lv_iinc (v := (y3_21 + (1 : Int32))) (lv' := [(3, .int (y3_21 + (1 : Int32))), (2, .ref qa), (1, .ref (ad 0)), (0, .ref b)]) hx hb dL_law_36 hl (k := 0) rfl rfl (by decide) rfl (fun ls hl => ?_)
        refine lv_goto (tgt := 21) hx hb dL_law_39 (by decide) ?_
        exact ih_21 (upd uf_21 y3_21.toNatClampNeg (f_ofKit σ y3_21 (2 : Int32))) (y3_21 + (1 : Int32)) _ _ _ (lp_s hi_21 hlt_21) (uA_step hi_21 hlt_21 hu_21) hP hU hS (lv_sub hl [0, 1, 2, 3] rfl)
  exact L_21 128 uf (0 : Int32) _ _ _ (lp_z (by decide)) (fun j hj h => absurd h (by rw [show (0 : Int32).toInt = 0 from rfl]; omega)) hP hU hS (lv_sub hl [0, 1, 2, 3] rfl)
