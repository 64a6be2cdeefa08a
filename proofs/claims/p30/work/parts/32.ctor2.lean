set_option maxHeartbeats 4000000 in
set_option maxRecDepth 100000 in
theorem c_init (l : Launch) (D : va_G) (h0 sz : Nat) : Met l yX3_init (wm yX3_init cX3_init 2 none) ({ frames := 2, cells := 39, slots := 252, locals := 32 } : Room) (va_Pc [.ref h0] (fun U => U.heap.size = sz ∧ va_P D vwCl [(h0, .inr (3, [.null, .null, .null, .int (0 : Int32), .int (0 : Int32), .int (0 : Int32), .null, .null, .int (0 : Int32), .int (0 : Int32), .int (0 : Int32), .int (0 : Int32), .int (0 : Int32), .int (0 : Int32), .long (0 : Int64)]))] U.heap ∧ va_K D vwCl [] U ∧ va_D (fun _ => True) [(h0, .inr (3, [.null, .null, .null, .int (0 : Int32), .int (0 : Int32), .int (0 : Int32), .null, .null, .int (0 : Int32), .int (0 : Int32), .int (0 : Int32), .int (0 : Int32), .int (0 : Int32), .int (0 : Int32), .long (0 : Int64)]))] ∧ (va_AO "Stuntledger$Person" U ∧ va_AO "Stuntledger$Piece" U ∧ va_AO "Stuntledger$Gag" U) ∧ (va_Nw (.methodLinkNest RX3 67 yX1_init "Stuntledger") U ∧ va_Nw (.methodLinkNest RX3 68 yX2_init "Stuntledger") U ∧ va_Nw (.methodLinkNest RX3 69 yX0_init "Stuntledger") U))) (va_Qv (fun _ : (Nat → Nat) × (Nat → ClassId) => True) (fun u t => va_P D vwCl (wl u.1 u.2 s0) t.heap ∧ va_K D vwCl (tyl u.2) t ∧ (∀ i j, i < 40 → j < 40 → u.1 i = u.1 j → i = j) ∧ u.1 0 = h0 ∧ ∀ c, c < 40 → va_A [(h0, .inr (3, [.null, .null, .null, .int (0 : Int32), .int (0 : Int32), .int (0 : Int32), .null, .null, .int (0 : Int32), .int (0 : Int32), .int (0 : Int32), .int (0 : Int32), .int (0 : Int32), .int (0 : Int32), .long (0 : Int64)]))] sz (u.1 c)) (va_A [(h0, .inr (3, [.null, .null, .null, .int (0 : Int32), .int (0 : Int32), .int (0 : Int32), .null, .null, .int (0 : Int32), .int (0 : Int32), .int (0 : Int32), .int (0 : Int32), .int (0 : Int32), .int (0 : Int32), .long (0 : Int64)]))] sz)) 39 252 (va_A [(h0, .inr (3, [.null, .null, .null, .int (0 : Int32), .int (0 : Int32), .int (0 : Int32), .null, .null, .int (0 : Int32), .int (0 : Int32), .int (0 : Int32), .int (0 : Int32), .int (0 : Int32), .int (0 : Int32), .long (0 : Int64)]))] sz) := by
  refine Met.ofW (cc := cX3_init) (maxL := 2) (ret := none) (by decide) rfl ?_
  intro p e s m args below meth c s₁ B hml hv
  obtain ⟨rfl, hsz, hP, hK, hD0, ⟨hoP, hoK, hoG⟩, hnP, hnK, hnG⟩ := hv
  have hx := B.exec
  have hb := B.bytes
  have hr := B.returns
  have hts : ∀ w ∈ wsL_law0, w.before _ s = true := fun w hw => atoms_spec (ws := wm yX3_init cX3_init 2 none) B.pre w (List.mem_cons_of_mem _ hw)
  have hown : s.vm.findClass RX3 = some m.cls := findClass_of_methodNamed B.named
  have hlocks := B.notSynchronized
  have hin : meth.name = "<init>" := (name_of_methodNamed B.named B.method).1
  subst hsz
  have hD := hD0.self (sz := s.heap.size)
  generalize hAe : va_A [(h0, .inr (3, [.null, .null, .null, .int (0 : Int32), .int (0 : Int32), .int (0 : Int32), .null, .null, .int (0 : Int32), .int (0 : Int32), .int (0 : Int32), .int (0 : Int32), .int (0 : Int32), .int (0 : Int32), .long (0 : Int64)]))] s.heap.size = A at hD ⊢
  have hA : ∀ q : Nat, s.heap.size ≤ q → A q := fun q h => by rw [← hAe]; exact Or.inr h
  have hS : va_S A s.heap s.heap [] := va_S.rf
  have hl := lv_entry ([.ref h0]) (n := 2) (Nat.le_of_ble_eq_true rfl)
  rw [lg_entry_eq]
  generalize (lg_sl ([.ref h0]) ++ List.replicate (2 - (lg_sl ([.ref h0])).length) Slot.unset).toArray = ls at hl ⊢
  have hl : lv_has ls 2 [(0, .ref h0)] := hl
  refine lv_aload_n hx hb dX3_init_0 rfl (lv_at hl 0 rfl) ?_
  refine W.objInit hx hb hown (hts _ wd7) (hts _ wd8) (hts _ wd9) rfl (by rw [hml]; exact hl.1) rfl dX3_init_1 (Nat.le_of_ble_eq_true rfl) (Nat.le_of_ble_eq_true rfl) ?_
  refine W.eq (g2 := F0 m 4 ls []) rfl ?_
  refine lv_aload_n hx hb dX3_init_4 rfl (lv_at hl 0 rfl) ?_
  refine lv_bipush (v := (8 : Int32)) hx hb dX3_init_5 (by decide) ?_
  refine va_newq (N' := 8) hx hb hown (hts _ wd10) hoP hK hP hD hS hA (by decide) rfl (Nat.le_of_ble_eq_true rfl) (Nat.le_of_ble_eq_true rfl) (Nat.le_of_ble_eq_true rfl) dX3_init_7 (fun a1 cP H hK hP hD hS => ?_)
  have hK : va_K D vwCl [(cP, .object "Stuntledger$Person")] s := hK
  have hP : va_P D vwCl [(h0, .inr (3, [.null, .null, .null, .int (0 : Int32), .int (0 : Int32), .int (0 : Int32), .null, .null, .int (0 : Int32), .int (0 : Int32), .int (0 : Int32), .int (0 : Int32), .int (0 : Int32), .int (0 : Int32), .long (0 : Int64)])), (a1, .inl (cP, 8, .inr (.inr (.inr (.inr (fun _ => none))))))] H := hP
  have hD : va_D A [(h0, .inr (3, [.null, .null, .null, .int (0 : Int32), .int (0 : Int32), .int (0 : Int32), .null, .null, .int (0 : Int32), .int (0 : Int32), .int (0 : Int32), .int (0 : Int32), .int (0 : Int32), .int (0 : Int32), .long (0 : Int64)])), (a1, .inl (cP, 8, .inr (.inr (.inr (.inr (fun _ => none))))))] := hD
  refine W.widen (k := 1) (n := 8) (by omega) (by omega) ?_
  refine va_putF (D := D) (ci := 3) (v := .ref a1) (ty := .array (.object "Stuntledger$Person")) (C := RX3) (T := TX3) (N := 15) hx hb hts iX3 tyX3 tyX3_ok nmX3 hown hK hP hD hS 0 rfl rfl 0 (by decide) (hts _ wd11) (fun _ h9 => h9) rfl hin rfl (by decide +kernel) rfl rfl (Nat.le_of_ble_eq_true rfl) dX3_init_10 (fun H locs hP hD hS => ?_)
  have hP : va_P D vwCl [(h0, .inr (3, [.ref a1, .null, .null, .int (0 : Int32), .int (0 : Int32), .int (0 : Int32), .null, .null, .int (0 : Int32), .int (0 : Int32), .int (0 : Int32), .int (0 : Int32), .int (0 : Int32), .int (0 : Int32), .long (0 : Int64)])), (a1, .inl (cP, 8, .inr (.inr (.inr (.inr (fun _ => none))))))] H := hP
  have hD : va_D A [(h0, .inr (3, [.ref a1, .null, .null, .int (0 : Int32), .int (0 : Int32), .int (0 : Int32), .null, .null, .int (0 : Int32), .int (0 : Int32), .int (0 : Int32), .int (0 : Int32), .int (0 : Int32), .int (0 : Int32), .long (0 : Int64)])), (a1, .inl (cP, 8, .inr (.inr (.inr (.inr (fun _ => none))))))] := hD
  refine lv_aload_n hx hb dX3_init_13 rfl (lv_at hl 0 rfl) ?_
  refine lv_bipush (v := (12 : Int32)) hx hb dX3_init_14 (by decide) ?_
  refine va_newq (N' := 12) hx hb hown (hts _ wd12) hoK hK hP hD hS hA (by decide) rfl (Nat.le_of_ble_eq_true rfl) (Nat.le_of_ble_eq_true rfl) (Nat.le_of_ble_eq_true rfl) dX3_init_16 (fun a2 cK H hK hP hD hS => ?_)
  have hK : va_K D vwCl [(cP, .object "Stuntledger$Person"), (cK, .object "Stuntledger$Piece")] s := hK
  have hP : va_P D vwCl [(h0, .inr (3, [.ref a1, .null, .null, .int (0 : Int32), .int (0 : Int32), .int (0 : Int32), .null, .null, .int (0 : Int32), .int (0 : Int32), .int (0 : Int32), .int (0 : Int32), .int (0 : Int32), .int (0 : Int32), .long (0 : Int64)])), (a1, .inl (cP, 8, .inr (.inr (.inr (.inr (fun _ => none)))))), (a2, .inl (cK, 12, .inr (.inr (.inr (.inr (fun _ => none))))))] H := hP
  have hD : va_D A [(h0, .inr (3, [.ref a1, .null, .null, .int (0 : Int32), .int (0 : Int32), .int (0 : Int32), .null, .null, .int (0 : Int32), .int (0 : Int32), .int (0 : Int32), .int (0 : Int32), .int (0 : Int32), .int (0 : Int32), .long (0 : Int64)])), (a1, .inl (cP, 8, .inr (.inr (.inr (.inr (fun _ => none)))))), (a2, .inl (cK, 12, .inr (.inr (.inr (.inr (fun _ => none))))))] := hD
  refine W.widen (k := 2) (n := 20) (by omega) (by omega) ?_
  refine va_putF (D := D) (ci := 3) (v := .ref a2) (ty := .array (.object "Stuntledger$Piece")) (C := RX3) (T := TX3) (N := 15) hx hb hts iX3 tyX3 tyX3_ok nmX3 hown hK hP hD hS 0 rfl rfl 1 (by decide) (hts _ wd13) (fun _ h9 => h9) rfl hin rfl (by decide +kernel) rfl rfl (Nat.le_of_ble_eq_true rfl) dX3_init_19 (fun H locs hP hD hS => ?_)
  have hP : va_P D vwCl [(h0, .inr (3, [.ref a1, .ref a2, .null, .int (0 : Int32), .int (0 : Int32), .int (0 : Int32), .null, .null, .int (0 : Int32), .int (0 : Int32), .int (0 : Int32), .int (0 : Int32), .int (0 : Int32), .int (0 : Int32), .long (0 : Int64)])), (a1, .inl (cP, 8, .inr (.inr (.inr (.inr (fun _ => none)))))), (a2, .inl (cK, 12, .inr (.inr (.inr (.inr (fun _ => none))))))] H := hP
  have hD : va_D A [(h0, .inr (3, [.ref a1, .ref a2, .null, .int (0 : Int32), .int (0 : Int32), .int (0 : Int32), .null, .null, .int (0 : Int32), .int (0 : Int32), .int (0 : Int32), .int (0 : Int32), .int (0 : Int32), .int (0 : Int32), .long (0 : Int64)])), (a1, .inl (cP, 8, .inr (.inr (.inr (.inr (fun _ => none)))))), (a2, .inl (cK, 12, .inr (.inr (.inr (.inr (fun _ => none))))))] := hD
  refine lv_aload_n hx hb dX3_init_22 rfl (lv_at hl 0 rfl) ?_
  refine lv_bipush (v := (6 : Int32)) hx hb dX3_init_23 (by decide) ?_
  refine va_newq (N' := 6) hx hb hown (hts _ wd14) hoG hK hP hD hS hA (by decide) rfl (Nat.le_of_ble_eq_true rfl) (Nat.le_of_ble_eq_true rfl) (Nat.le_of_ble_eq_true rfl) dX3_init_25 (fun a3 cG H hK hP hD hS => ?_)
  have hK : va_K D vwCl [(cP, .object "Stuntledger$Person"), (cK, .object "Stuntledger$Piece"), (cG, .object "Stuntledger$Gag")] s := hK
  have hP : va_P D vwCl [(h0, .inr (3, [.ref a1, .ref a2, .null, .int (0 : Int32), .int (0 : Int32), .int (0 : Int32), .null, .null, .int (0 : Int32), .int (0 : Int32), .int (0 : Int32), .int (0 : Int32), .int (0 : Int32), .int (0 : Int32), .long (0 : Int64)])), (a1, .inl (cP, 8, .inr (.inr (.inr (.inr (fun _ => none)))))), (a2, .inl (cK, 12, .inr (.inr (.inr (.inr (fun _ => none)))))), (a3, .inl (cG, 6, .inr (.inr (.inr (.inr (fun _ => none))))))] H := hP
  have hD : va_D A [(h0, .inr (3, [.ref a1, .ref a2, .null, .int (0 : Int32), .int (0 : Int32), .int (0 : Int32), .null, .null, .int (0 : Int32), .int (0 : Int32), .int (0 : Int32), .int (0 : Int32), .int (0 : Int32), .int (0 : Int32), .long (0 : Int64)])), (a1, .inl (cP, 8, .inr (.inr (.inr (.inr (fun _ => none)))))), (a2, .inl (cK, 12, .inr (.inr (.inr (.inr (fun _ => none)))))), (a3, .inl (cG, 6, .inr (.inr (.inr (.inr (fun _ => none))))))] := hD
  refine W.widen (k := 3) (n := 26) (by omega) (by omega) ?_
  refine va_putF (D := D) (ci := 3) (v := .ref a3) (ty := .array (.object "Stuntledger$Gag")) (C := RX3) (T := TX3) (N := 15) hx hb hts iX3 tyX3 tyX3_ok nmX3 hown hK hP hD hS 0 rfl rfl 2 (by decide) (hts _ wd15) (fun _ h9 => h9) rfl hin rfl (by decide +kernel) rfl rfl (Nat.le_of_ble_eq_true rfl) dX3_init_28 (fun H locs hP hD hS => ?_)
  have hP : va_P D vwCl [(h0, .inr (3, [.ref a1, .ref a2, .ref a3, .int (0 : Int32), .int (0 : Int32), .int (0 : Int32), .null, .null, .int (0 : Int32), .int (0 : Int32), .int (0 : Int32), .int (0 : Int32), .int (0 : Int32), .int (0 : Int32), .long (0 : Int64)])), (a1, .inl (cP, 8, .inr (.inr (.inr (.inr (fun _ => none)))))), (a2, .inl (cK, 12, .inr (.inr (.inr (.inr (fun _ => none)))))), (a3, .inl (cG, 6, .inr (.inr (.inr (.inr (fun _ => none))))))] H := hP
  have hD : va_D A [(h0, .inr (3, [.ref a1, .ref a2, .ref a3, .int (0 : Int32), .int (0 : Int32), .int (0 : Int32), .null, .null, .int (0 : Int32), .int (0 : Int32), .int (0 : Int32), .int (0 : Int32), .int (0 : Int32), .int (0 : Int32), .long (0 : Int64)])), (a1, .inl (cP, 8, .inr (.inr (.inr (.inr (fun _ => none)))))), (a2, .inl (cK, 12, .inr (.inr (.inr (.inr (fun _ => none)))))), (a3, .inl (cG, 6, .inr (.inr (.inr (.inr (fun _ => none))))))] := hD
  refine lv_aload_n hx hb dX3_init_31 rfl (lv_at hl 0 rfl) ?_
  refine lv_iconst (v := (0 : Int32)) hx hb dX3_init_32 (by decide) ?_
  refine va_put (D := D) (ci := 3) (v := .int (0 : Int32)) (ty := .int) (C := RX3) (T := TX3) (N := 15) hx hb hts iX3 tyX3 tyX3_ok nmX3 hown hK hP hD hS 0 rfl rfl 3 (by decide) (hts _ wd16) (fun _ h9 => h9) rfl (by decide +kernel) rfl rfl (Nat.le_of_ble_eq_true rfl) dX3_init_33 (fun H locs hP hD hS => ?_)
  have hP : va_P D vwCl [(h0, .inr (3, [.ref a1, .ref a2, .ref a3, .int (0 : Int32), .int (0 : Int32), .int (0 : Int32), .null, .null, .int (0 : Int32), .int (0 : Int32), .int (0 : Int32), .int (0 : Int32), .int (0 : Int32), .int (0 : Int32), .long (0 : Int64)])), (a1, .inl (cP, 8, .inr (.inr (.inr (.inr (fun _ => none)))))), (a2, .inl (cK, 12, .inr (.inr (.inr (.inr (fun _ => none)))))), (a3, .inl (cG, 6, .inr (.inr (.inr (.inr (fun _ => none))))))] H := hP
  have hD : va_D A [(h0, .inr (3, [.ref a1, .ref a2, .ref a3, .int (0 : Int32), .int (0 : Int32), .int (0 : Int32), .null, .null, .int (0 : Int32), .int (0 : Int32), .int (0 : Int32), .int (0 : Int32), .int (0 : Int32), .int (0 : Int32), .long (0 : Int64)])), (a1, .inl (cP, 8, .inr (.inr (.inr (.inr (fun _ => none)))))), (a2, .inl (cK, 12, .inr (.inr (.inr (.inr (fun _ => none)))))), (a3, .inl (cG, 6, .inr (.inr (.inr (.inr (fun _ => none))))))] := hD
  refine lv_aload_n hx hb dX3_init_36 rfl (lv_at hl 0 rfl) ?_
  refine lv_iconst (v := (0 : Int32)) hx hb dX3_init_37 (by decide) ?_
  refine va_put (D := D) (ci := 3) (v := .int (0 : Int32)) (ty := .int) (C := RX3) (T := TX3) (N := 15) hx hb hts iX3 tyX3 tyX3_ok nmX3 hown hK hP hD hS 0 rfl rfl 4 (by decide) (hts _ wd17) (fun _ h9 => h9) rfl (by decide +kernel) rfl rfl (Nat.le_of_ble_eq_true rfl) dX3_init_38 (fun H locs hP hD hS => ?_)
  have hP : va_P D vwCl [(h0, .inr (3, [.ref a1, .ref a2, .ref a3, .int (0 : Int32), .int (0 : Int32), .int (0 : Int32), .null, .null, .int (0 : Int32), .int (0 : Int32), .int (0 : Int32), .int (0 : Int32), .int (0 : Int32), .int (0 : Int32), .long (0 : Int64)])), (a1, .inl (cP, 8, .inr (.inr (.inr (.inr (fun _ => none)))))), (a2, .inl (cK, 12, .inr (.inr (.inr (.inr (fun _ => none)))))), (a3, .inl (cG, 6, .inr (.inr (.inr (.inr (fun _ => none))))))] H := hP
  have hD : va_D A [(h0, .inr (3, [.ref a1, .ref a2, .ref a3, .int (0 : Int32), .int (0 : Int32), .int (0 : Int32), .null, .null, .int (0 : Int32), .int (0 : Int32), .int (0 : Int32), .int (0 : Int32), .int (0 : Int32), .int (0 : Int32), .long (0 : Int64)])), (a1, .inl (cP, 8, .inr (.inr (.inr (.inr (fun _ => none)))))), (a2, .inl (cK, 12, .inr (.inr (.inr (.inr (fun _ => none)))))), (a3, .inl (cG, 6, .inr (.inr (.inr (.inr (fun _ => none))))))] := hD
  refine lv_aload_n hx hb dX3_init_41 rfl (lv_at hl 0 rfl) ?_
  refine lv_iconst (v := (0 : Int32)) hx hb dX3_init_42 (by decide) ?_
  refine va_put (D := D) (ci := 3) (v := .int (0 : Int32)) (ty := .int) (C := RX3) (T := TX3) (N := 15) hx hb hts iX3 tyX3 tyX3_ok nmX3 hown hK hP hD hS 0 rfl rfl 5 (by decide) (hts _ wd18) (fun _ h9 => h9) rfl (by decide +kernel) rfl rfl (Nat.le_of_ble_eq_true rfl) dX3_init_43 (fun H locs hP hD hS => ?_)
  have hP : va_P D vwCl [(h0, .inr (3, [.ref a1, .ref a2, .ref a3, .int (0 : Int32), .int (0 : Int32), .int (0 : Int32), .null, .null, .int (0 : Int32), .int (0 : Int32), .int (0 : Int32), .int (0 : Int32), .int (0 : Int32), .int (0 : Int32), .long (0 : Int64)])), (a1, .inl (cP, 8, .inr (.inr (.inr (.inr (fun _ => none)))))), (a2, .inl (cK, 12, .inr (.inr (.inr (.inr (fun _ => none)))))), (a3, .inl (cG, 6, .inr (.inr (.inr (.inr (fun _ => none))))))] H := hP
  have hD : va_D A [(h0, .inr (3, [.ref a1, .ref a2, .ref a3, .int (0 : Int32), .int (0 : Int32), .int (0 : Int32), .null, .null, .int (0 : Int32), .int (0 : Int32), .int (0 : Int32), .int (0 : Int32), .int (0 : Int32), .int (0 : Int32), .long (0 : Int64)])), (a1, .inl (cP, 8, .inr (.inr (.inr (.inr (fun _ => none)))))), (a2, .inl (cK, 12, .inr (.inr (.inr (.inr (fun _ => none)))))), (a3, .inl (cG, 6, .inr (.inr (.inr (.inr (fun _ => none))))))] := hD
  refine lv_aload_n hx hb dX3_init_46 rfl (lv_at hl 0 rfl) ?_
  refine lv_iconst (v := (4 : Int32)) hx hb dX3_init_47 (by decide) ?_
  refine va_newa (atype := .int) (ty := .int) (N' := 4) (a0 := (4, .inl (fun _ => (0 : Int32)))) hx hb (hts _ wd3) rfl hK hP hD hS hA (fun _ => rfl) (by decide) rfl (Nat.le_of_ble_eq_true rfl) (Nat.le_of_ble_eq_true rfl) (Nat.le_of_ble_eq_true rfl) dX3_init_48 (fun a4 cI H hK hP hD hS => ?_)
  have hK : va_K D vwCl [(cP, .object "Stuntledger$Person"), (cK, .object "Stuntledger$Piece"), (cG, .object "Stuntledger$Gag"), (cI, .int)] s := hK
  have hP : va_P D vwCl [(h0, .inr (3, [.ref a1, .ref a2, .ref a3, .int (0 : Int32), .int (0 : Int32), .int (0 : Int32), .null, .null, .int (0 : Int32), .int (0 : Int32), .int (0 : Int32), .int (0 : Int32), .int (0 : Int32), .int (0 : Int32), .long (0 : Int64)])), (a1, .inl (cP, 8, .inr (.inr (.inr (.inr (fun _ => none)))))), (a2, .inl (cK, 12, .inr (.inr (.inr (.inr (fun _ => none)))))), (a3, .inl (cG, 6, .inr (.inr (.inr (.inr (fun _ => none)))))), (a4, .inl (cI, 4, .inl (fun _ => (0 : Int32))))] H := hP
  have hD : va_D A [(h0, .inr (3, [.ref a1, .ref a2, .ref a3, .int (0 : Int32), .int (0 : Int32), .int (0 : Int32), .null, .null, .int (0 : Int32), .int (0 : Int32), .int (0 : Int32), .int (0 : Int32), .int (0 : Int32), .int (0 : Int32), .long (0 : Int64)])), (a1, .inl (cP, 8, .inr (.inr (.inr (.inr (fun _ => none)))))), (a2, .inl (cK, 12, .inr (.inr (.inr (.inr (fun _ => none)))))), (a3, .inl (cG, 6, .inr (.inr (.inr (.inr (fun _ => none)))))), (a4, .inl (cI, 4, .inl (fun _ => (0 : Int32))))] := hD
  refine W.widen (k := 4) (n := 30) (by omega) (by omega) ?_
  refine va_putF (D := D) (ci := 3) (v := .ref a4) (ty := .array .int) (C := RX3) (T := TX3) (N := 15) hx hb hts iX3 tyX3 tyX3_ok nmX3 hown hK hP hD hS 0 rfl rfl 6 (by decide) (hts _ wd19) (fun _ h9 => h9) rfl hin rfl (by decide +kernel) rfl rfl (Nat.le_of_ble_eq_true rfl) dX3_init_50 (fun H locs hP hD hS => ?_)
  have hP : va_P D vwCl [(h0, .inr (3, [.ref a1, .ref a2, .ref a3, .int (0 : Int32), .int (0 : Int32), .int (0 : Int32), .ref a4, .null, .int (0 : Int32), .int (0 : Int32), .int (0 : Int32), .int (0 : Int32), .int (0 : Int32), .int (0 : Int32), .long (0 : Int64)])), (a1, .inl (cP, 8, .inr (.inr (.inr (.inr (fun _ => none)))))), (a2, .inl (cK, 12, .inr (.inr (.inr (.inr (fun _ => none)))))), (a3, .inl (cG, 6, .inr (.inr (.inr (.inr (fun _ => none)))))), (a4, .inl (cI, 4, .inl (fun _ => (0 : Int32))))] H := hP
  have hD : va_D A [(h0, .inr (3, [.ref a1, .ref a2, .ref a3, .int (0 : Int32), .int (0 : Int32), .int (0 : Int32), .ref a4, .null, .int (0 : Int32), .int (0 : Int32), .int (0 : Int32), .int (0 : Int32), .int (0 : Int32), .int (0 : Int32), .long (0 : Int64)])), (a1, .inl (cP, 8, .inr (.inr (.inr (.inr (fun _ => none)))))), (a2, .inl (cK, 12, .inr (.inr (.inr (.inr (fun _ => none)))))), (a3, .inl (cG, 6, .inr (.inr (.inr (.inr (fun _ => none)))))), (a4, .inl (cI, 4, .inl (fun _ => (0 : Int32))))] := hD
  refine lv_aload_n hx hb dX3_init_53 rfl (lv_at hl 0 rfl) ?_
  refine lv_iconst (v := (4 : Int32)) hx hb dX3_init_54 (by decide) ?_
  refine va_newa (atype := .int) (ty := .int) (N' := 4) (a0 := (4, .inl (fun _ => (0 : Int32)))) hx hb (hts _ wd3) rfl hK hP hD hS hA (fun _ => rfl) (by decide) rfl (Nat.le_of_ble_eq_true rfl) (Nat.le_of_ble_eq_true rfl) (Nat.le_of_ble_eq_true rfl) dX3_init_55 (fun a5 cJ H hK hP hD hS => ?_)
  have hK : va_K D vwCl [(cP, .object "Stuntledger$Person"), (cK, .object "Stuntledger$Piece"), (cG, .object "Stuntledger$Gag"), (cI, .int), (cJ, .int)] s := hK
  have hP : va_P D vwCl [(h0, .inr (3, [.ref a1, .ref a2, .ref a3, .int (0 : Int32), .int (0 : Int32), .int (0 : Int32), .ref a4, .null, .int (0 : Int32), .int (0 : Int32), .int (0 : Int32), .int (0 : Int32), .int (0 : Int32), .int (0 : Int32), .long (0 : Int64)])), (a1, .inl (cP, 8, .inr (.inr (.inr (.inr (fun _ => none)))))), (a2, .inl (cK, 12, .inr (.inr (.inr (.inr (fun _ => none)))))), (a3, .inl (cG, 6, .inr (.inr (.inr (.inr (fun _ => none)))))), (a4, .inl (cI, 4, .inl (fun _ => (0 : Int32)))), (a5, .inl (cJ, 4, .inl (fun _ => (0 : Int32))))] H := hP
  have hD : va_D A [(h0, .inr (3, [.ref a1, .ref a2, .ref a3, .int (0 : Int32), .int (0 : Int32), .int (0 : Int32), .ref a4, .null, .int (0 : Int32), .int (0 : Int32), .int (0 : Int32), .int (0 : Int32), .int (0 : Int32), .int (0 : Int32), .long (0 : Int64)])), (a1, .inl (cP, 8, .inr (.inr (.inr (.inr (fun _ => none)))))), (a2, .inl (cK, 12, .inr (.inr (.inr (.inr (fun _ => none)))))), (a3, .inl (cG, 6, .inr (.inr (.inr (.inr (fun _ => none)))))), (a4, .inl (cI, 4, .inl (fun _ => (0 : Int32)))), (a5, .inl (cJ, 4, .inl (fun _ => (0 : Int32))))] := hD
  refine W.widen (k := 5) (n := 34) (by omega) (by omega) ?_
  refine va_putF (D := D) (ci := 3) (v := .ref a5) (ty := .array .int) (C := RX3) (T := TX3) (N := 15) hx hb hts iX3 tyX3 tyX3_ok nmX3 hown hK hP hD hS 0 rfl rfl 7 (by decide) (hts _ wd20) (fun _ h9 => h9) rfl hin rfl (by decide +kernel) rfl rfl (Nat.le_of_ble_eq_true rfl) dX3_init_57 (fun H locs hP hD hS => ?_)
  have hP : va_P D vwCl [(h0, .inr (3, [.ref a1, .ref a2, .ref a3, .int (0 : Int32), .int (0 : Int32), .int (0 : Int32), .ref a4, .ref a5, .int (0 : Int32), .int (0 : Int32), .int (0 : Int32), .int (0 : Int32), .int (0 : Int32), .int (0 : Int32), .long (0 : Int64)])), (a1, .inl (cP, 8, .inr (.inr (.inr (.inr (fun _ => none)))))), (a2, .inl (cK, 12, .inr (.inr (.inr (.inr (fun _ => none)))))), (a3, .inl (cG, 6, .inr (.inr (.inr (.inr (fun _ => none)))))), (a4, .inl (cI, 4, .inl (fun _ => (0 : Int32)))), (a5, .inl (cJ, 4, .inl (fun _ => (0 : Int32))))] H := hP
  have hD : va_D A [(h0, .inr (3, [.ref a1, .ref a2, .ref a3, .int (0 : Int32), .int (0 : Int32), .int (0 : Int32), .ref a4, .ref a5, .int (0 : Int32), .int (0 : Int32), .int (0 : Int32), .int (0 : Int32), .int (0 : Int32), .int (0 : Int32), .long (0 : Int64)])), (a1, .inl (cP, 8, .inr (.inr (.inr (.inr (fun _ => none)))))), (a2, .inl (cK, 12, .inr (.inr (.inr (.inr (fun _ => none)))))), (a3, .inl (cG, 6, .inr (.inr (.inr (.inr (fun _ => none)))))), (a4, .inl (cI, 4, .inl (fun _ => (0 : Int32)))), (a5, .inl (cJ, 4, .inl (fun _ => (0 : Int32))))] := hD
  refine lv_aload_n hx hb dX3_init_60 rfl (lv_at hl 0 rfl) ?_
  refine lv_iconst (v := (0 : Int32)) hx hb dX3_init_61 (by decide) ?_
  refine va_put (D := D) (ci := 3) (v := .int (0 : Int32)) (ty := .int) (C := RX3) (T := TX3) (N := 15) hx hb hts iX3 tyX3 tyX3_ok nmX3 hown hK hP hD hS 0 rfl rfl 8 (by decide) (hts _ wd21) (fun _ h9 => h9) rfl (by decide +kernel) rfl rfl (Nat.le_of_ble_eq_true rfl) dX3_init_62 (fun H locs hP hD hS => ?_)
  have hP : va_P D vwCl [(h0, .inr (3, [.ref a1, .ref a2, .ref a3, .int (0 : Int32), .int (0 : Int32), .int (0 : Int32), .ref a4, .ref a5, .int (0 : Int32), .int (0 : Int32), .int (0 : Int32), .int (0 : Int32), .int (0 : Int32), .int (0 : Int32), .long (0 : Int64)])), (a1, .inl (cP, 8, .inr (.inr (.inr (.inr (fun _ => none)))))), (a2, .inl (cK, 12, .inr (.inr (.inr (.inr (fun _ => none)))))), (a3, .inl (cG, 6, .inr (.inr (.inr (.inr (fun _ => none)))))), (a4, .inl (cI, 4, .inl (fun _ => (0 : Int32)))), (a5, .inl (cJ, 4, .inl (fun _ => (0 : Int32))))] H := hP
  have hD : va_D A [(h0, .inr (3, [.ref a1, .ref a2, .ref a3, .int (0 : Int32), .int (0 : Int32), .int (0 : Int32), .ref a4, .ref a5, .int (0 : Int32), .int (0 : Int32), .int (0 : Int32), .int (0 : Int32), .int (0 : Int32), .int (0 : Int32), .long (0 : Int64)])), (a1, .inl (cP, 8, .inr (.inr (.inr (.inr (fun _ => none)))))), (a2, .inl (cK, 12, .inr (.inr (.inr (.inr (fun _ => none)))))), (a3, .inl (cG, 6, .inr (.inr (.inr (.inr (fun _ => none)))))), (a4, .inl (cI, 4, .inl (fun _ => (0 : Int32)))), (a5, .inl (cJ, 4, .inl (fun _ => (0 : Int32))))] := hD
  refine lv_aload_n hx hb dX3_init_65 rfl (lv_at hl 0 rfl) ?_
  refine lv_iconst (v := (0 : Int32)) hx hb dX3_init_66 (by decide) ?_
  refine va_put (D := D) (ci := 3) (v := .int (0 : Int32)) (ty := .int) (C := RX3) (T := TX3) (N := 15) hx hb hts iX3 tyX3 tyX3_ok nmX3 hown hK hP hD hS 0 rfl rfl 9 (by decide) (hts _ wd22) (fun _ h9 => h9) rfl (by decide +kernel) rfl rfl (Nat.le_of_ble_eq_true rfl) dX3_init_67 (fun H locs hP hD hS => ?_)
  have hP : va_P D vwCl [(h0, .inr (3, [.ref a1, .ref a2, .ref a3, .int (0 : Int32), .int (0 : Int32), .int (0 : Int32), .ref a4, .ref a5, .int (0 : Int32), .int (0 : Int32), .int (0 : Int32), .int (0 : Int32), .int (0 : Int32), .int (0 : Int32), .long (0 : Int64)])), (a1, .inl (cP, 8, .inr (.inr (.inr (.inr (fun _ => none)))))), (a2, .inl (cK, 12, .inr (.inr (.inr (.inr (fun _ => none)))))), (a3, .inl (cG, 6, .inr (.inr (.inr (.inr (fun _ => none)))))), (a4, .inl (cI, 4, .inl (fun _ => (0 : Int32)))), (a5, .inl (cJ, 4, .inl (fun _ => (0 : Int32))))] H := hP
  have hD : va_D A [(h0, .inr (3, [.ref a1, .ref a2, .ref a3, .int (0 : Int32), .int (0 : Int32), .int (0 : Int32), .ref a4, .ref a5, .int (0 : Int32), .int (0 : Int32), .int (0 : Int32), .int (0 : Int32), .int (0 : Int32), .int (0 : Int32), .long (0 : Int64)])), (a1, .inl (cP, 8, .inr (.inr (.inr (.inr (fun _ => none)))))), (a2, .inl (cK, 12, .inr (.inr (.inr (.inr (fun _ => none)))))), (a3, .inl (cG, 6, .inr (.inr (.inr (.inr (fun _ => none)))))), (a4, .inl (cI, 4, .inl (fun _ => (0 : Int32)))), (a5, .inl (cJ, 4, .inl (fun _ => (0 : Int32))))] := hD
  refine lv_aload_n hx hb dX3_init_70 rfl (lv_at hl 0 rfl) ?_
  refine lv_iconst (v := (1 : Int32)) hx hb dX3_init_71 (by decide) ?_
  refine va_put (D := D) (ci := 3) (v := .int (1 : Int32)) (ty := .boolean) (C := RX3) (T := TX3) (N := 15) hx hb hts iX3 tyX3 tyX3_ok nmX3 hown hK hP hD hS 0 rfl rfl 10 (by decide) (hts _ wd23) (fun _ h9 => h9) rfl (by decide +kernel) rfl rfl (Nat.le_of_ble_eq_true rfl) dX3_init_72 (fun H locs hP hD hS => ?_)
  have hP : va_P D vwCl [(h0, .inr (3, [.ref a1, .ref a2, .ref a3, .int (0 : Int32), .int (0 : Int32), .int (0 : Int32), .ref a4, .ref a5, .int (0 : Int32), .int (0 : Int32), .int (1 : Int32), .int (0 : Int32), .int (0 : Int32), .int (0 : Int32), .long (0 : Int64)])), (a1, .inl (cP, 8, .inr (.inr (.inr (.inr (fun _ => none)))))), (a2, .inl (cK, 12, .inr (.inr (.inr (.inr (fun _ => none)))))), (a3, .inl (cG, 6, .inr (.inr (.inr (.inr (fun _ => none)))))), (a4, .inl (cI, 4, .inl (fun _ => (0 : Int32)))), (a5, .inl (cJ, 4, .inl (fun _ => (0 : Int32))))] H := hP
  have hD : va_D A [(h0, .inr (3, [.ref a1, .ref a2, .ref a3, .int (0 : Int32), .int (0 : Int32), .int (0 : Int32), .ref a4, .ref a5, .int (0 : Int32), .int (0 : Int32), .int (1 : Int32), .int (0 : Int32), .int (0 : Int32), .int (0 : Int32), .long (0 : Int64)])), (a1, .inl (cP, 8, .inr (.inr (.inr (.inr (fun _ => none)))))), (a2, .inl (cK, 12, .inr (.inr (.inr (.inr (fun _ => none)))))), (a3, .inl (cG, 6, .inr (.inr (.inr (.inr (fun _ => none)))))), (a4, .inl (cI, 4, .inl (fun _ => (0 : Int32)))), (a5, .inl (cJ, 4, .inl (fun _ => (0 : Int32))))] := hD
  refine lv_aload_n hx hb dX3_init_75 rfl (lv_at hl 0 rfl) ?_
  refine lv_iconst (v := (0 : Int32)) hx hb dX3_init_76 (by decide) ?_
  refine va_put (D := D) (ci := 3) (v := .int (0 : Int32)) (ty := .int) (C := RX3) (T := TX3) (N := 15) hx hb hts iX3 tyX3 tyX3_ok nmX3 hown hK hP hD hS 0 rfl rfl 11 (by decide) (hts _ wd24) (fun _ h9 => h9) rfl (by decide +kernel) rfl rfl (Nat.le_of_ble_eq_true rfl) dX3_init_77 (fun H locs hP hD hS => ?_)
  have hP : va_P D vwCl [(h0, .inr (3, [.ref a1, .ref a2, .ref a3, .int (0 : Int32), .int (0 : Int32), .int (0 : Int32), .ref a4, .ref a5, .int (0 : Int32), .int (0 : Int32), .int (1 : Int32), .int (0 : Int32), .int (0 : Int32), .int (0 : Int32), .long (0 : Int64)])), (a1, .inl (cP, 8, .inr (.inr (.inr (.inr (fun _ => none)))))), (a2, .inl (cK, 12, .inr (.inr (.inr (.inr (fun _ => none)))))), (a3, .inl (cG, 6, .inr (.inr (.inr (.inr (fun _ => none)))))), (a4, .inl (cI, 4, .inl (fun _ => (0 : Int32)))), (a5, .inl (cJ, 4, .inl (fun _ => (0 : Int32))))] H := hP
  have hD : va_D A [(h0, .inr (3, [.ref a1, .ref a2, .ref a3, .int (0 : Int32), .int (0 : Int32), .int (0 : Int32), .ref a4, .ref a5, .int (0 : Int32), .int (0 : Int32), .int (1 : Int32), .int (0 : Int32), .int (0 : Int32), .int (0 : Int32), .long (0 : Int64)])), (a1, .inl (cP, 8, .inr (.inr (.inr (.inr (fun _ => none)))))), (a2, .inl (cK, 12, .inr (.inr (.inr (.inr (fun _ => none)))))), (a3, .inl (cG, 6, .inr (.inr (.inr (.inr (fun _ => none)))))), (a4, .inl (cI, 4, .inl (fun _ => (0 : Int32)))), (a5, .inl (cJ, 4, .inl (fun _ => (0 : Int32))))] := hD
  refine lv_aload_n hx hb dX3_init_80 rfl (lv_at hl 0 rfl) ?_
  refine lv_iconst (v := (0 : Int32)) hx hb dX3_init_81 (by decide) ?_
  refine va_put (D := D) (ci := 3) (v := .int (0 : Int32)) (ty := .int) (C := RX3) (T := TX3) (N := 15) hx hb hts iX3 tyX3 tyX3_ok nmX3 hown hK hP hD hS 0 rfl rfl 12 (by decide) (hts _ wd25) (fun _ h9 => h9) rfl (by decide +kernel) rfl rfl (Nat.le_of_ble_eq_true rfl) dX3_init_82 (fun H locs hP hD hS => ?_)
  have hP : va_P D vwCl [(h0, .inr (3, [.ref a1, .ref a2, .ref a3, .int (0 : Int32), .int (0 : Int32), .int (0 : Int32), .ref a4, .ref a5, .int (0 : Int32), .int (0 : Int32), .int (1 : Int32), .int (0 : Int32), .int (0 : Int32), .int (0 : Int32), .long (0 : Int64)])), (a1, .inl (cP, 8, .inr (.inr (.inr (.inr (fun _ => none)))))), (a2, .inl (cK, 12, .inr (.inr (.inr (.inr (fun _ => none)))))), (a3, .inl (cG, 6, .inr (.inr (.inr (.inr (fun _ => none)))))), (a4, .inl (cI, 4, .inl (fun _ => (0 : Int32)))), (a5, .inl (cJ, 4, .inl (fun _ => (0 : Int32))))] H := hP
  have hD : va_D A [(h0, .inr (3, [.ref a1, .ref a2, .ref a3, .int (0 : Int32), .int (0 : Int32), .int (0 : Int32), .ref a4, .ref a5, .int (0 : Int32), .int (0 : Int32), .int (1 : Int32), .int (0 : Int32), .int (0 : Int32), .int (0 : Int32), .long (0 : Int64)])), (a1, .inl (cP, 8, .inr (.inr (.inr (.inr (fun _ => none)))))), (a2, .inl (cK, 12, .inr (.inr (.inr (.inr (fun _ => none)))))), (a3, .inl (cG, 6, .inr (.inr (.inr (.inr (fun _ => none)))))), (a4, .inl (cI, 4, .inl (fun _ => (0 : Int32)))), (a5, .inl (cJ, 4, .inl (fun _ => (0 : Int32))))] := hD
  refine lv_aload_n hx hb dX3_init_85 rfl (lv_at hl 0 rfl) ?_
  refine lv_iconst (v := (0 : Int32)) hx hb dX3_init_86 (by decide) ?_
  refine va_put (D := D) (ci := 3) (v := .int (0 : Int32)) (ty := .int) (C := RX3) (T := TX3) (N := 15) hx hb hts iX3 tyX3 tyX3_ok nmX3 hown hK hP hD hS 0 rfl rfl 13 (by decide) (hts _ wd26) (fun _ h9 => h9) rfl (by decide +kernel) rfl rfl (Nat.le_of_ble_eq_true rfl) dX3_init_87 (fun H locs hP hD hS => ?_)
  have hP : va_P D vwCl [(h0, .inr (3, [.ref a1, .ref a2, .ref a3, .int (0 : Int32), .int (0 : Int32), .int (0 : Int32), .ref a4, .ref a5, .int (0 : Int32), .int (0 : Int32), .int (1 : Int32), .int (0 : Int32), .int (0 : Int32), .int (0 : Int32), .long (0 : Int64)])), (a1, .inl (cP, 8, .inr (.inr (.inr (.inr (fun _ => none)))))), (a2, .inl (cK, 12, .inr (.inr (.inr (.inr (fun _ => none)))))), (a3, .inl (cG, 6, .inr (.inr (.inr (.inr (fun _ => none)))))), (a4, .inl (cI, 4, .inl (fun _ => (0 : Int32)))), (a5, .inl (cJ, 4, .inl (fun _ => (0 : Int32))))] H := hP
  have hD : va_D A [(h0, .inr (3, [.ref a1, .ref a2, .ref a3, .int (0 : Int32), .int (0 : Int32), .int (0 : Int32), .ref a4, .ref a5, .int (0 : Int32), .int (0 : Int32), .int (1 : Int32), .int (0 : Int32), .int (0 : Int32), .int (0 : Int32), .long (0 : Int64)])), (a1, .inl (cP, 8, .inr (.inr (.inr (.inr (fun _ => none)))))), (a2, .inl (cK, 12, .inr (.inr (.inr (.inr (fun _ => none)))))), (a3, .inl (cG, 6, .inr (.inr (.inr (.inr (fun _ => none)))))), (a4, .inl (cI, 4, .inl (fun _ => (0 : Int32)))), (a5, .inl (cJ, 4, .inl (fun _ => (0 : Int32))))] := hD
  refine lv_aload_n hx hb dX3_init_90 rfl (lv_at hl 0 rfl) ?_
  refine lv_lconst (v := (0 : Int64)) hx hb dX3_init_91 (by decide) ?_
  refine va_put (D := D) (ci := 3) (v := .long (0 : Int64)) (ty := .long) (C := RX3) (T := TX3) (N := 15) hx hb hts iX3 tyX3 tyX3_ok nmX3 hown hK hP hD hS 0 rfl rfl 14 (by decide) (hts _ wd27) (fun _ h9 => h9) rfl (by decide +kernel) rfl rfl (Nat.le_of_ble_eq_true rfl) dX3_init_92 (fun H locs hP hD hS => ?_)
  have hP : va_P D vwCl [(h0, .inr (3, [.ref a1, .ref a2, .ref a3, .int (0 : Int32), .int (0 : Int32), .int (0 : Int32), .ref a4, .ref a5, .int (0 : Int32), .int (0 : Int32), .int (1 : Int32), .int (0 : Int32), .int (0 : Int32), .int (0 : Int32), .long (0 : Int64)])), (a1, .inl (cP, 8, .inr (.inr (.inr (.inr (fun _ => none)))))), (a2, .inl (cK, 12, .inr (.inr (.inr (.inr (fun _ => none)))))), (a3, .inl (cG, 6, .inr (.inr (.inr (.inr (fun _ => none)))))), (a4, .inl (cI, 4, .inl (fun _ => (0 : Int32)))), (a5, .inl (cJ, 4, .inl (fun _ => (0 : Int32))))] H := hP
  have hD : va_D A [(h0, .inr (3, [.ref a1, .ref a2, .ref a3, .int (0 : Int32), .int (0 : Int32), .int (0 : Int32), .ref a4, .ref a5, .int (0 : Int32), .int (0 : Int32), .int (1 : Int32), .int (0 : Int32), .int (0 : Int32), .int (0 : Int32), .long (0 : Int64)])), (a1, .inl (cP, 8, .inr (.inr (.inr (.inr (fun _ => none)))))), (a2, .inl (cK, 12, .inr (.inr (.inr (.inr (fun _ => none)))))), (a3, .inl (cG, 6, .inr (.inr (.inr (.inr (fun _ => none)))))), (a4, .inl (cI, 4, .inl (fun _ => (0 : Int32)))), (a5, .inl (cJ, 4, .inl (fun _ => (0 : Int32))))] := hD
  refine lv_iconst (v := (0 : Int32)) hx hb dX3_init_95 (by decide) ?_
  refine lv_istore_n (lv' := [(1, .int (0 : Int32)), (0, .ref h0)]) hx hb dX3_init_96 rfl hl (by decide) rfl (fun ls hl => ?_)
  have eJ : cJ = cI := by
    have z1 : s.vm.findClass _ = some cJ := (hK.2 4 _ rfl).2
    have z2 : s.vm.findClass _ = some cI := (hK.2 3 _ rfl).2
    exact Option.some.inj (z1.symm.trans z2)
  subst eJ
  obtain ⟨ca, eca⟩ : ∃ z : Nat → ClassId, z = fun k => if k = 0 then cP else if k = 1 then cK else if k = 2 then cG else cJ := ⟨_, rfl⟩
  obtain ⟨ad, ead⟩ : ∃ z : Nat → Nat, z = fun k => if k = 0 then h0 else if k = 1 then a1 else if k = 2 then a2 else if k = 3 then a3 else if k = 4 then a4 else a5 := ⟨_, rfl⟩
  have ew : ws3 ad ca 0 0 0 = [(h0, .inr (3, [.ref a1, .ref a2, .ref a3, .int (0 : Int32), .int (0 : Int32), .int (0 : Int32), .ref a4, .ref a5, .int (0 : Int32), .int (0 : Int32), .int (1 : Int32), .int (0 : Int32), .int (0 : Int32), .int (0 : Int32), .long (0 : Int64)])), (a1, .inl (cP, 8, .inr (.inr (.inr (.inr (fun _ => none)))))), (a2, .inl (cK, 12, .inr (.inr (.inr (.inr (fun _ => none)))))), (a3, .inl (cG, 6, .inr (.inr (.inr (.inr (fun _ => none)))))), (a4, .inl (cJ, 4, .inl (fun _ => (0 : Int32)))), (a5, .inl (cJ, 4, .inl (fun _ => (0 : Int32))))] := by
    have e0 : ∀ (b : Nat → Nat) (z : Nat), (fun x : Nat => if x < 0 then some (b (z + x)) else none) = (fun _ => none) := by
      intro b z
      funext x
      rw [if_neg (by omega)]
    have ez : ∀ c, c = 4 ∨ c = 5 → s0.1 c = fun _ => 0 := by
      intro c hc
      funext b
      exact s0_z (by omega) (by omega) (by omega)
    rw [ead, eca]
    simp [ws3, L3, R3, R4, R5, cI3, wc, fM, ez 4 (Or.inl rfl), ez 5 (Or.inr rfl)]
    simp [s0]
  have hK : va_K D vwCl (tyl ca) s := by
    have : tyl ca = [(cP, .object "Stuntledger$Person"), (cK, .object "Stuntledger$Piece"), (cG, .object "Stuntledger$Gag"), (cJ, .int)] := by rw [eca]; simp [tyl]
    rw [this]
    exact hK.sub [0, 1, 2, 3] rfl
  have e0 : ad 0 = h0 := by rw [ead]; rfl
  rw [← ew] at hP hD
  clear ew ead eca
  generalize hQ : MQ below _ _ s 39 252 A = QQ
  have L_151 : ∀ (n i : Nat) (x : Int32) (ad : Nat → Nat) (H : Heap) (locs : List Loc) (ls : Array Slot), i ≤ 6 → 6 + 1 ≤ i + n → x = nI i → ad 0 = h0 → va_P D vwCl (ws3 ad ca 8 12 i) H → va_D A (ws3 ad ca 8 12 i) → va_S A s.heap H locs → lv_has ls 2 [(1, .int x), (0, .ref h0)] → W p l e (headSpec (wm yX3_init cX3_init 2 none) ({ frames := 2, cells := 39, slots := 252, locals := 32 } : Room)).room s m ([.ref h0] : List Value).toArray below meth c H locs (33 + 1 * i) (198 + 9 * i) QQ (F0 m 151 ls []) := by
    intro n
    induction n with
    | zero => intro i x ad H locs ls h1 h2; exact absurd h2 (by omega)
    | succ n ih =>
      intro i x ad H locs ls hi hin2 ex e0 hP hD hS hl
      refine lv_iload_n hx hb dX3_init_151 rfl (lv_at hl 0 rfl) ?_
      refine lv_bipush (v := (6 : Int32)) hx hb dX3_init_152 (by decide) ?_
      refine lv_icmp_ge (tgt := 176) hx hb dX3_init_154 (by decide) (fun c_1 => ?_) (fun c_1 => ?_)
      · have hN : i = 6 := by
          rcases Nat.lt_or_ge i 6 with q | q
          · have q2 := i_le.mp c_1
            rw [ex, nI_toInt (by omega), show (6 : Int32).toInt = 6 from rfl] at q2
            omega
          · omega
        subst hN
        obtain ⟨hPw, hIw, hAw⟩ := ws3_end hP hD
        refine W.cs (cells' := 39) (slots' := 252) (by omega) (by omega) ?_
        rw [← hQ]
        exact W.vret hx hb hr (fun t ht hW => ⟨⟨(ad, ca), rfl, trivial, by rw [ht]; exact hPw, va_K.moved hW.alike hK, hIw, e0, hAw⟩, hS.F ht⟩) hS.2.2 dX3_init_176
      · have hlt : i < 6 := by
          rcases Nat.lt_or_ge i 6 with q | q
          · exact q
          · exact absurd (by rw [ex]; exact nI_le (a := 6) q (by omega)) c_1
        refine lv_aload_n hx hb dX3_init_157 rfl (lv_at hl 1 rfl) ?_
        refine va_get (D := D) (ci := 3) (v := .ref (ad 3)) (C := RX3) (T := TX3) (N := 15) hx hb hts iX3 hown hK hP 0 (fs := fM ad s0) (by rw [← e0]; rfl) rfl 2 (by decide) (hts _ wd15) (fun _ h9 => h9) rfl dX3_init_158 ?_
        refine lv_iload_n hx hb dX3_init_161 rfl (lv_at hl 0 rfl) ?_
        have hcc : 33 + 1 * i + 1 ≤ 39 := by omega
        have hss : 198 + 9 * i + 9 ≤ 252 := by omega
        refine va_new (ci := 0) (fs := [.int 0, .int 0, .int 0, .int 0, .int 0, .int 0, .int 0, .int 0, .int 0]) (C := RX0) (T := TX0) (N := 9) hx hb hts iX0 tyX0 tyX0_ok hown (hts _ wd14) (hts _ wd32) (hts _ wd33) hK hP hD hS hA rfl (fun j hj => by rcases (show j = 0 ∨ j = 1 ∨ j = 2 ∨ j = 3 ∨ j = 4 ∨ j = 5 ∨ j = 6 ∨ j = 7 ∨ j = 8 by omega) with rfl | rfl | rfl | rfl | rfl | rfl | rfl | rfl | rfl <;> rfl) (show _ ≤ 39 by omega) (show _ ≤ 252 by omega) dX3_init_162 (fun q1 H hP hD hS => ?_)
        refine lv_dup hx hb dX3_init_165 rfl ?_
        have hPc := last_P hP
        have hDc := last_D hD
        have hKc := hK.sub (tys' := []) [] rfl
        have hFc := last_F hD hS hA
        refine va_callv (va_runIN (As := []) (rest := [.ref q1, .int x, .ref (ad 3)]) ⟨hx, hb, hml, hown, hts⟩ (c_Gag_init l D q1 H.size) ⟨va_cnB 0 hts (gw_of (w0 := []) (fun _ h => by cases h) wd55) rfl rfl rfl hnG (hts _ wd33) (by decide +kernel) ⟨Nat.le_of_ble_eq_true rfl, Nat.le_of_ble_eq_true rfl⟩, rfl, hts _ wd54⟩ ⟨fun a U g mk q => by obtain ⟨q0, q5, qP, qK, qD⟩ := q; exact ⟨q0, q5, qP, va_K.moved (u := U) (U := U.calling g mk a) (Vm.Alike.refl U.vm) qK, qD⟩, fun U hU hW => ⟨rfl, by rw [hU], by rw [hU]; exact hPc, va_K.moved hW.alike hKc, hDc⟩⟩ rfl rfl hl.1 rfl (lv_room (Nat.le_of_ble_eq_true rfl)) dX3_init_166 ⟨show _ ≤ 39 by omega, show _ ≤ 252 by omega⟩) hS (fun q _ h => hFc q h) hFc (fun u t H1 locs ht hvm hw hB hz1 hk1 hS => ?_)
        obtain ⟨hP1, hK1, hD1⟩ := hB
        rw [ht] at hP1
        obtain ⟨hP, hD⟩ := join_last hP hD hk1 hFc hP1 hD1
        refine va_astq (r := (RX0, TX0, 9)) hx hb hK hP hD hS 3 2 (ws3 ad ca 8 12 i).length 0 (a := ad 3) (cA := ca 2) (n := 6) (f := fun x => if x < i then some (ad (34 + x)) else none) rfl rfl (by rw [List.getElem?_append_right (Nat.le_refl _), Nat.sub_self]; rfl) rfl (by rw [ex]; exact vp_in_nI hlt (by omega)) dX3_init_169 (fun H locs hP hD hS => ?_)
        have ec : x.toNatClampNeg = i := by rw [ex]; exact nI_clamp (by omega)
        obtain ⟨ad', ea⟩ : ∃ z, z = va_up ad (34 + i) q1 := ⟨_, rfl⟩
        rw [ec] at hP hD
        have es := ws3_G (ca := ca) hlt ea
        have hP : va_P D vwCl (ws3 ad' ca 8 12 (i + 1)) H := by rw [← es]; exact hP
        have hD : va_D A (ws3 ad' ca 8 12 (i + 1)) := by rw [← es]; exact hD
        refine lv_iinc (v := (x + (1 : Int32))) (lv' := [(1, .int (x + (1 : Int32))), (0, .ref h0)]) hx hb dX3_init_170 hl (k := 0) rfl rfl (by decide) rfl (fun ls hl => ?_)
        refine lv_goto (tgt := 151) hx hb dX3_init_173 (by decide) ?_
        refine W.cs (cells' := 33 + 1 * (i + 1)) (slots' := 198 + 9 * (i + 1)) (by omega) (by omega) ?_
        exact ih (i + 1) (x + 1) ad' H locs ls (by omega) (by omega) (by rw [ex]; exact nI_1 i) (by rw [ea, va_up_ne _ _ (by omega)]; exact e0) hP hD hS hl
  have L_124 : ∀ (n i : Nat) (x : Int32) (ad : Nat → Nat) (H : Heap) (locs : List Loc) (ls : Array Slot), i ≤ 12 → 12 + 1 ≤ i + n → x = nI i → ad 0 = h0 → va_P D vwCl (ws3 ad ca 8 i 0) H → va_D A (ws3 ad ca 8 i 0) → va_S A s.heap H locs → lv_has ls 2 [(1, .int x), (0, .ref h0)] → W p l e (headSpec (wm yX3_init cX3_init 2 none) ({ frames := 2, cells := 39, slots := 252, locals := 32 } : Room)).room s m ([.ref h0] : List Value).toArray below meth c H locs (21 + 1 * i) (138 + 5 * i) QQ (F0 m 124 ls []) := by
    intro n
    induction n with
    | zero => intro i x ad H locs ls h1 h2; exact absurd h2 (by omega)
    | succ n ih =>
      intro i x ad H locs ls hi hin2 ex e0 hP hD hS hl
      refine lv_iload_n hx hb dX3_init_124 rfl (lv_at hl 0 rfl) ?_
      refine lv_bipush (v := (12 : Int32)) hx hb dX3_init_125 (by decide) ?_
      refine lv_icmp_ge (tgt := 149) hx hb dX3_init_127 (by decide) (fun c_1 => ?_) (fun c_1 => ?_)
      · have hN : i = 12 := by
          rcases Nat.lt_or_ge i 12 with q | q
          · have q2 := i_le.mp c_1
            rw [ex, nI_toInt (by omega), show (12 : Int32).toInt = 12 from rfl] at q2
            omega
          · omega
        subst hN
        refine lv_iconst (v := (0 : Int32)) hx hb dX3_init_149 (by decide) ?_
        refine lv_istore_n (lv' := [(1, .int (0 : Int32)), (0, .ref h0)]) hx hb dX3_init_150 rfl hl (by decide) rfl (fun ls hl => ?_)
        refine W.cs (cells' := 33 + 1 * 0) (slots' := 198 + 9 * 0) (by omega) (by omega) ?_
        exact L_151 7 0 0 ad H locs ls (by omega) (by omega) rfl e0 hP hD hS hl
      · have hlt : i < 12 := by
          rcases Nat.lt_or_ge i 12 with q | q
          · exact q
          · exact absurd (by rw [ex]; exact nI_le (a := 12) q (by omega)) c_1
        refine lv_aload_n hx hb dX3_init_130 rfl (lv_at hl 1 rfl) ?_
        refine va_get (D := D) (ci := 3) (v := .ref (ad 2)) (C := RX3) (T := TX3) (N := 15) hx hb hts iX3 hown hK hP 0 (fs := fM ad s0) (by rw [← e0]; rfl) rfl 1 (by decide) (hts _ wd13) (fun _ h9 => h9) rfl dX3_init_131 ?_
        refine lv_iload_n hx hb dX3_init_134 rfl (lv_at hl 0 rfl) ?_
        have hcc : 21 + 1 * i + 1 ≤ 39 := by omega
        have hss : 138 + 5 * i + 5 ≤ 252 := by omega
        refine va_new (ci := 2) (fs := [.int 0, .int 0, .int 0, .int 0, .int 0]) (C := RX2) (T := TX2) (N := 5) hx hb hts iX2 tyX2 tyX2_ok hown (hts _ wd12) (hts _ wd30) (hts _ wd31) hK hP hD hS hA rfl (fun j hj => by rcases (show j = 0 ∨ j = 1 ∨ j = 2 ∨ j = 3 ∨ j = 4 by omega) with rfl | rfl | rfl | rfl | rfl <;> rfl) (show _ ≤ 39 by omega) (show _ ≤ 252 by omega) dX3_init_135 (fun q1 H hP hD hS => ?_)
        refine lv_dup hx hb dX3_init_138 rfl ?_
        have hPc := last_P hP
        have hDc := last_D hD
        have hKc := hK.sub (tys' := []) [] rfl
        have hFc := last_F hD hS hA
        refine va_callv (va_runIN (As := []) (rest := [.ref q1, .int x, .ref (ad 2)]) ⟨hx, hb, hml, hown, hts⟩ (c_Piece_init l D q1 H.size) ⟨va_cnB 0 hts (gw_of (w0 := []) (fun _ h => by cases h) wd47) rfl rfl rfl hnK (hts _ wd31) (by decide +kernel) ⟨Nat.le_of_ble_eq_true rfl, Nat.le_of_ble_eq_true rfl⟩, rfl, hts _ wd46⟩ ⟨fun a U g mk q => by obtain ⟨q0, q5, qP, qK, qD⟩ := q; exact ⟨q0, q5, qP, va_K.moved (u := U) (U := U.calling g mk a) (Vm.Alike.refl U.vm) qK, qD⟩, fun U hU hW => ⟨rfl, by rw [hU], by rw [hU]; exact hPc, va_K.moved hW.alike hKc, hDc⟩⟩ rfl rfl hl.1 rfl (lv_room (Nat.le_of_ble_eq_true rfl)) dX3_init_139 ⟨show _ ≤ 39 by omega, show _ ≤ 252 by omega⟩) hS (fun q _ h => hFc q h) hFc (fun u t H1 locs ht hvm hw hB hz1 hk1 hS => ?_)
        obtain ⟨hP1, hK1, hD1⟩ := hB
        rw [ht] at hP1
        obtain ⟨hP, hD⟩ := join_last hP hD hk1 hFc hP1 hD1
        refine va_astq (r := (RX2, TX2, 5)) hx hb hK hP hD hS 2 1 (ws3 ad ca 8 i 0).length 2 (a := ad 2) (cA := ca 1) (n := 12) (f := fun x => if x < i then some (ad (22 + x)) else none) rfl rfl (by rw [List.getElem?_append_right (Nat.le_refl _), Nat.sub_self]; rfl) rfl (by rw [ex]; exact vp_in_nI hlt (by omega)) dX3_init_142 (fun H locs hP hD hS => ?_)
        have ec : x.toNatClampNeg = i := by rw [ex]; exact nI_clamp (by omega)
        obtain ⟨ad', ea⟩ : ∃ z, z = va_up ad (22 + i) q1 := ⟨_, rfl⟩
        rw [ec] at hP hD
        have es := ws3_K (ca := ca) hlt ea
        have hP : va_P D vwCl (ws3 ad' ca 8 (i + 1) 0) H := by rw [← es]; exact hP
        have hD : va_D A (ws3 ad' ca 8 (i + 1) 0) := by rw [← es]; exact hD
        refine lv_iinc (v := (x + (1 : Int32))) (lv' := [(1, .int (x + (1 : Int32))), (0, .ref h0)]) hx hb dX3_init_143 hl (k := 0) rfl rfl (by decide) rfl (fun ls hl => ?_)
        refine lv_goto (tgt := 124) hx hb dX3_init_146 (by decide) ?_
        refine W.cs (cells' := 21 + 1 * (i + 1)) (slots' := 138 + 5 * (i + 1)) (by omega) (by omega) ?_
        exact ih (i + 1) (x + 1) ad' H locs ls (by omega) (by omega) (by rw [ex]; exact nI_1 i) (by rw [ea, va_up_ne _ _ (by omega)]; exact e0) hP hD hS hl
  have L_97 : ∀ (n i : Nat) (x : Int32) (ad : Nat → Nat) (H : Heap) (locs : List Loc) (ls : Array Slot), i ≤ 8 → 8 + 1 ≤ i + n → x = nI i → ad 0 = h0 → va_P D vwCl (ws3 ad ca i 0 0) H → va_D A (ws3 ad ca i 0 0) → va_S A s.heap H locs → lv_has ls 2 [(1, .int x), (0, .ref h0)] → W p l e (headSpec (wm yX3_init cX3_init 2 none) ({ frames := 2, cells := 39, slots := 252, locals := 32 } : Room)).room s m ([.ref h0] : List Value).toArray below meth c H locs (5 + 2 * i) (34 + 13 * i) QQ (F0 m 97 ls []) := by
    intro n
    induction n with
    | zero => intro i x ad H locs ls h1 h2; exact absurd h2 (by omega)
    | succ n ih =>
      intro i x ad H locs ls hi hin2 ex e0 hP hD hS hl
      refine lv_iload_n hx hb dX3_init_97 rfl (lv_at hl 0 rfl) ?_
      refine lv_bipush (v := (8 : Int32)) hx hb dX3_init_98 (by decide) ?_
      refine lv_icmp_ge (tgt := 122) hx hb dX3_init_100 (by decide) (fun c_1 => ?_) (fun c_1 => ?_)
      · have hN : i = 8 := by
          rcases Nat.lt_or_ge i 8 with q | q
          · have q2 := i_le.mp c_1
            rw [ex, nI_toInt (by omega), show (8 : Int32).toInt = 8 from rfl] at q2
            omega
          · omega
        subst hN
        refine lv_iconst (v := (0 : Int32)) hx hb dX3_init_122 (by decide) ?_
        refine lv_istore_n (lv' := [(1, .int (0 : Int32)), (0, .ref h0)]) hx hb dX3_init_123 rfl hl (by decide) rfl (fun ls hl => ?_)
        refine W.cs (cells' := 21 + 1 * 0) (slots' := 138 + 5 * 0) (by omega) (by omega) ?_
        exact L_124 13 0 0 ad H locs ls (by omega) (by omega) rfl e0 hP hD hS hl
      · have hlt : i < 8 := by
          rcases Nat.lt_or_ge i 8 with q | q
          · exact q
          · exact absurd (by rw [ex]; exact nI_le (a := 8) q (by omega)) c_1
        refine lv_aload_n hx hb dX3_init_103 rfl (lv_at hl 1 rfl) ?_
        refine va_get (D := D) (ci := 3) (v := .ref (ad 1)) (C := RX3) (T := TX3) (N := 15) hx hb hts iX3 hown hK hP 0 (fs := fM ad s0) (by rw [← e0]; rfl) rfl 0 (by decide) (hts _ wd11) (fun _ h9 => h9) rfl dX3_init_104 ?_
        refine lv_iload_n hx hb dX3_init_107 rfl (lv_at hl 0 rfl) ?_
        have hcc : 5 + 2 * i + 2 ≤ 39 := by omega
        have hss : 34 + 13 * i + 13 ≤ 252 := by omega
        refine va_new (ci := 1) (fs := [.null, .int 0, .int 0, .int 0, .int 0, .int 0, .int 0, .int 0, .int 0]) (C := RX1) (T := TX1) (N := 9) hx hb hts iX1 tyX1 tyX1_ok hown (hts _ wd10) (hts _ wd28) (hts _ wd29) hK hP hD hS hA rfl (fun j hj => by rcases (show j = 0 ∨ j = 1 ∨ j = 2 ∨ j = 3 ∨ j = 4 ∨ j = 5 ∨ j = 6 ∨ j = 7 ∨ j = 8 by omega) with rfl | rfl | rfl | rfl | rfl | rfl | rfl | rfl | rfl <;> rfl) (show _ ≤ 39 by omega) (show _ ≤ 252 by omega) dX3_init_108 (fun q1 H hP hD hS => ?_)
        refine lv_dup hx hb dX3_init_111 rfl ?_
        have hPc := last_P hP
        have hDc := last_D hD
        have hKc := hK.sub (tys' := []) [] rfl
        have hFc := last_F hD hS hA
        refine va_callv (va_runIN (As := []) (rest := [.ref q1, .int x, .ref (ad 1)]) ⟨hx, hb, hml, hown, hts⟩ (c_Person_init l D q1 H.size) ⟨va_cnB 0 hts (gw_of (w0 := []) (fun _ h => by cases h) wd35) rfl rfl rfl hnP (hts _ wd29) (by decide +kernel) ⟨Nat.le_of_ble_eq_true rfl, Nat.le_of_ble_eq_true rfl⟩, rfl, hts _ wd34⟩ ⟨fun a U g mk q => by obtain ⟨q0, q5, qP, qK, qD⟩ := q; exact ⟨q0, q5, qP, va_K.moved (u := U) (U := U.calling g mk a) (Vm.Alike.refl U.vm) qK, qD⟩, fun U hU hW => ⟨rfl, by rw [hU], by rw [hU]; exact hPc, va_K.moved hW.alike hKc, hDc⟩⟩ rfl rfl hl.1 rfl (lv_room (Nat.le_of_ble_eq_true rfl)) dX3_init_112 ⟨show _ ≤ 39 by omega, show _ ≤ 252 by omega⟩) hS (fun q _ h => hFc q h) hFc (fun u t H1 locs ht hvm hw hB hz1 hk1 hS => ?_)
        obtain ⟨q2, cI2⟩ := u
        obtain ⟨hP1, hK1, hD1⟩ := hB
        rw [ht] at hP1
        have hK1 := va_K.moved hvm.symm hK1
        have eI : cI2 = ca 3 := by
          have z1 : s.vm.findClass _ = some cI2 := (hK1.2 0 _ rfl).2
          have z2 : s.vm.findClass _ = some (ca 3) := (hK.2 3 _ rfl).2
          exact Option.some.inj (z1.symm.trans z2)
        subst eI
        obtain ⟨hP, hD⟩ := join_last hP hD hk1 hFc hP1 hD1
        refine va_astq (r := (RX1, TX1, 9)) hx hb hK hP hD hS 1 0 (ws3 ad ca i 0 0).length 1 (a := ad 1) (cA := ca 0) (n := 8) (f := fun x => if x < i then some (ad (6 + x)) else none) rfl rfl (by rw [List.getElem?_append_right (Nat.le_refl _), Nat.sub_self]; rfl) rfl (by rw [ex]; exact vp_in_nI hlt (by omega)) dX3_init_115 (fun H locs hP hD hS => ?_)
        have ec : x.toNatClampNeg = i := by rw [ex]; exact nI_clamp (by omega)
        obtain ⟨ad', ea⟩ : ∃ z, z = va_up (va_up ad (6 + i) q1) (14 + i) q2 := ⟨_, rfl⟩
        rw [ec] at hP hD
        have es := ws3_P (ca := ca) hlt ea
        have hP : va_P D vwCl (ws3 ad' ca (i + 1) 0 0) H := by rw [← es]; exact hP
        have hD : va_D A (ws3 ad' ca (i + 1) 0 0) := by rw [← es]; exact hD
        refine lv_iinc (v := (x + (1 : Int32))) (lv' := [(1, .int (x + (1 : Int32))), (0, .ref h0)]) hx hb dX3_init_116 hl (k := 0) rfl rfl (by decide) rfl (fun ls hl => ?_)
        refine lv_goto (tgt := 97) hx hb dX3_init_119 (by decide) ?_
        refine W.cs (cells' := 5 + 2 * (i + 1)) (slots' := 34 + 13 * (i + 1)) (by omega) (by omega) ?_
        exact ih (i + 1) (x + 1) ad' H locs ls (by omega) (by omega) (by rw [ex]; exact nI_1 i) (by rw [ea, va_up_ne _ _ (by omega), va_up_ne _ _ (by omega)]; exact e0) hP hD hS hl
  refine W.cs (cells' := 5 + 2 * 0) (slots' := 34 + 13 * 0) (by omega) (by omega) ?_
  exact L_97 9 0 0 ad H locs ls (by omega) (by omega) rfl e0 hP hD hS hl
