set_option maxHeartbeats 4000000 in
set_option maxRecDepth 100000 in
theorem c_bitCount (l : Launch) (D : va_G) (ad : Nat → Nat) (ca : Nat → ClassId) (tw : Nat) (hI : ∀ i j, i < 40 → j < 40 → ad i = ad j → i = j) (σ : St) (x0 : Int32) : Met l yJ6_bitCount_0f7a4 (wm yJ6_bitCount_0f7a4 cJ6_bitCount_0f7a4 1 (some .int)) ({ frames := 0, cells := 0, slots := 0, locals := 0 } : Room) (va_Pc [.int x0] (wPre D ad ca tw σ)) (va_Qi (fun r u => r = f_bitCount x0 ∧ u = σ) (wB D ad ca) (Aw ad)) 0 0 (Aw ad) := by
  refine Met.ofW (cc := cJ6_bitCount_0f7a4) (maxL := 1) (ret := (some .int)) (by decide) rfl ?_
  intro p e s m args below meth c s₁ B hml hv
  obtain ⟨rfl, hv⟩ := hv
  have X := q_open (own := RJ6) B rfl hml hI hv
  have hx := X.1
  have hb := X.2.1
  have hts := X.2.2.2.2.1
  have hr := B.returns
  have hlocks := B.notSynchronized
  have hP := hv.1
  have hS : va_S (Aw ad) s.heap s.heap [] := va_S.rf
  have hl := lv_entry ([.int x0]) (n := 1) (Nat.le_of_ble_eq_true rfl)
  rw [lg_entry_eq]
  generalize (lg_sl ([.int x0]) ++ List.replicate (1 - (lg_sl ([.int x0])).length) Slot.unset).toArray = ls at hl ⊢
  have hl : lv_has ls 1 [(0, .int x0)] := hl
  refine lv_iload_n hx hb dJ6_bitCount_0f7a4_0 rfl (lv_at hl 0 rfl) ?_
  refine lv_iload_n hx hb dJ6_bitCount_0f7a4_1 rfl (lv_at hl 0 rfl) ?_
  refine lv_iconst (v := (1 : Int32)) hx hb dJ6_bitCount_0f7a4_2 (by decide) ?_
  refine lv_iushr (v := (x0.toUInt32 >>> (Int32.toUInt32 (1 : Int32) &&& Int32.toUInt32 31)).toInt32) hx hb dJ6_bitCount_0f7a4_3 rfl ?_
  refine lv_ldcw (v := (1431655765 : Int32)) hx hb X.2.2.2.1 (hts _ wd216) dJ6_bitCount_0f7a4_4 ?_
  refine lv_iand hx hb dJ6_bitCount_0f7a4_7 ?_
  refine lv_isub hx hb dJ6_bitCount_0f7a4_8 ?_
  refine lv_topi (fun z1 ez1 => ?_)
  refine lv_istore_n (lv' := [(0, .int z1)]) hx hb dJ6_bitCount_0f7a4_9 rfl hl (by decide) rfl (fun ls hl => ?_)
  refine lv_iload_n hx hb dJ6_bitCount_0f7a4_10 rfl (lv_at hl 0 rfl) ?_
  refine lv_ldcw (v := (858993459 : Int32)) hx hb X.2.2.2.1 (hts _ wd217) dJ6_bitCount_0f7a4_11 ?_
  refine lv_iand hx hb dJ6_bitCount_0f7a4_14 ?_
  refine lv_iload_n hx hb dJ6_bitCount_0f7a4_15 rfl (lv_at hl 0 rfl) ?_
  refine lv_iconst (v := (2 : Int32)) hx hb dJ6_bitCount_0f7a4_16 (by decide) ?_
  refine lv_iushr (v := (z1.toUInt32 >>> (Int32.toUInt32 (2 : Int32) &&& Int32.toUInt32 31)).toInt32) hx hb dJ6_bitCount_0f7a4_17 rfl ?_
  refine lv_ldcw (v := (858993459 : Int32)) hx hb X.2.2.2.1 (hts _ wd217) dJ6_bitCount_0f7a4_18 ?_
  refine lv_iand hx hb dJ6_bitCount_0f7a4_21 ?_
  refine lv_iadd hx hb dJ6_bitCount_0f7a4_22 ?_
  refine lv_topi (fun z2 ez2 => ?_)
  refine lv_istore_n (lv' := [(0, .int z2)]) hx hb dJ6_bitCount_0f7a4_23 rfl hl (by decide) rfl (fun ls hl => ?_)
  refine lv_iload_n hx hb dJ6_bitCount_0f7a4_24 rfl (lv_at hl 0 rfl) ?_
  refine lv_iload_n hx hb dJ6_bitCount_0f7a4_25 rfl (lv_at hl 0 rfl) ?_
  refine lv_iconst (v := (4 : Int32)) hx hb dJ6_bitCount_0f7a4_26 (by decide) ?_
  refine lv_iushr (v := (z2.toUInt32 >>> (Int32.toUInt32 (4 : Int32) &&& Int32.toUInt32 31)).toInt32) hx hb dJ6_bitCount_0f7a4_27 rfl ?_
  refine lv_iadd hx hb dJ6_bitCount_0f7a4_28 ?_
  refine lv_ldcw (v := (252645135 : Int32)) hx hb X.2.2.2.1 (hts _ wd218) dJ6_bitCount_0f7a4_29 ?_
  refine lv_iand hx hb dJ6_bitCount_0f7a4_32 ?_
  refine lv_topi (fun z3 ez3 => ?_)
  refine lv_istore_n (lv' := [(0, .int z3)]) hx hb dJ6_bitCount_0f7a4_33 rfl hl (by decide) rfl (fun ls hl => ?_)
  refine lv_iload_n hx hb dJ6_bitCount_0f7a4_34 rfl (lv_at hl 0 rfl) ?_
  refine lv_iload_n hx hb dJ6_bitCount_0f7a4_35 rfl (lv_at hl 0 rfl) ?_
  refine lv_bipush (v := (8 : Int32)) hx hb dJ6_bitCount_0f7a4_36 (by decide) ?_
  refine lv_iushr (v := (z3.toUInt32 >>> (Int32.toUInt32 (8 : Int32) &&& Int32.toUInt32 31)).toInt32) hx hb dJ6_bitCount_0f7a4_38 rfl ?_
  refine lv_iadd hx hb dJ6_bitCount_0f7a4_39 ?_
  refine lv_topi (fun z4 ez4 => ?_)
  refine lv_istore_n (lv' := [(0, .int z4)]) hx hb dJ6_bitCount_0f7a4_40 rfl hl (by decide) rfl (fun ls hl => ?_)
  refine lv_iload_n hx hb dJ6_bitCount_0f7a4_41 rfl (lv_at hl 0 rfl) ?_
  refine lv_iload_n hx hb dJ6_bitCount_0f7a4_42 rfl (lv_at hl 0 rfl) ?_
  refine lv_bipush (v := (16 : Int32)) hx hb dJ6_bitCount_0f7a4_43 (by decide) ?_
  refine lv_iushr (v := (z4.toUInt32 >>> (Int32.toUInt32 (16 : Int32) &&& Int32.toUInt32 31)).toInt32) hx hb dJ6_bitCount_0f7a4_45 rfl ?_
  refine lv_iadd hx hb dJ6_bitCount_0f7a4_46 ?_
  refine lv_topi (fun z5 ez5 => ?_)
  refine lv_istore_n (lv' := [(0, .int z5)]) hx hb dJ6_bitCount_0f7a4_47 rfl hl (by decide) rfl (fun ls hl => ?_)
  refine lv_iload_n hx hb dJ6_bitCount_0f7a4_48 rfl (lv_at hl 0 rfl) ?_
  refine lv_bipush (v := (63 : Int32)) hx hb dJ6_bitCount_0f7a4_49 (by decide) ?_
  refine lv_iand hx hb dJ6_bitCount_0f7a4_51 ?_
  exact W.iret (v := (z5 &&& (63 : Int32))) hx hb hr (fun t ht hW => ⟨⟨(z5 &&& (63 : Int32)), σ, rfl, ⟨by subst ez5 ez4 ez3 ez2 ez1; rfl, rfl⟩, wB_of ht hP⟩, hS.F ht⟩) hS.2.2 dJ6_bitCount_0f7a4_52
theorem k_bitCount {p : Program} {l : Launch} {e : Env} {R : Room} {s : State} {m : MethodId} {args : Array Value} {below : List Frame} {meth : Method} {c : Code} {H : Heap} {locs : List Loc} {cells slots : Nat} {Q : State → Prop} {cc : ByteArray} {pc : Nat} {ls : Array Slot} {rest : List Value} {D : va_G} {A : Nat → Prop} {ad : Nat → Nat} {ca : Nat → ClassId} {tw nL : Nat} {σ : St} {own : String} {index : Nat} (X : Cx p s m args c own cc nL D ad ca tw A) (hP : va_P D vwCl (wl ad ca σ) H) (hS : va_S A s.heap H locs) (hR : 1 ≤ R.frames ∧ 20 ≤ R.locals) (hcap : cells ≤ R.cells ∧ slots ≤ R.slots) (hlk : Cond.methodLink own index yJ6_bitCount_0f7a4 ∈ wsL_law0) (hsz : ls.size = nL) (hrs : (rest.map fun v => v.category).sum ≤ 8) (hdg : decode cc pc = .ok (.invokestatic index, 3)) (x0 : Int32)
    (kk : ∀ (H1 : Heap) (locs1 : List Loc), va_P D vwCl (wl ad ca σ) H1 → va_S A s.heap H1 locs1 → W p l e R s m args below meth c H1 locs1 cells slots Q (F0 m (pc + 3) ls (.int (f_bitCount x0) :: rest))) : W p l e R s m args below meth c H locs cells slots Q (F0 m pc ls (.int x0 :: rest)) := by
  refine q_bi X hS (q_runS (as := [.int x0]) X hP hS (q_cwS (rm := ({ frames := 0, cells := 0, slots := 0, locals := 0 } : Room)) (k := 1) X.2.2.2.2.1 hlk wd213 wd214 wd215 rfl rfl (by decide +kernel) ⟨hR.1, hR.2⟩) (c_bitCount l D ad ca tw X.2.2.2.2.2.2.1 σ x0) rfl hsz rfl hrs hdg hcap) (fun r u H1 locs1 h1 h2 h3 => ?_)
  obtain ⟨rfl, rfl⟩ := h1
  exact kk H1 locs1 h2 h3
set_option maxHeartbeats 4000000 in
set_option maxRecDepth 100000 in
theorem c_requirePerson (l : Launch) (D : va_G) (ad : Nat → Nat) (ca : Nat → ClassId) (tw : Nat) (hI : ∀ i j, i < 40 → j < 40 → ad i = ad j → i = j) (σ : St) (x1 : Int32) (hwf : WF σ) (hq : inr x1 (σ.1 0 3)) : Met l yX3_requirePerson (wm yX3_requirePerson cX3_requirePerson 2 none) ({ frames := 0, cells := 0, slots := 0, locals := 0 } : Room) (va_Pc [.ref (ad 0), .int x1] (wPre D ad ca tw σ)) (va_Qv (fun u => u = σ) (wB D ad ca) (Aw ad)) 0 0 (Aw ad) := by
  refine Met.ofW (cc := cX3_requirePerson) (maxL := 2) (ret := none) (by decide) rfl ?_
  intro p e s m args below meth c s₁ B hml hv
  obtain ⟨rfl, hv⟩ := hv
  have X := q_open (own := RX3) B rfl hml hI hv
  have hx := X.1
  have hb := X.2.1
  have hts := X.2.2.2.2.1
  have hr := B.returns
  have hlocks := B.notSynchronized
  have hP := hv.1
  have hS : va_S (Aw ad) s.heap s.heap [] := va_S.rf
  have hl := lv_entry ([.ref (ad 0), .int x1]) (n := 2) (Nat.le_of_ble_eq_true rfl)
  rw [lg_entry_eq]
  generalize (lg_sl ([.ref (ad 0), .int x1]) ++ List.replicate (2 - (lg_sl ([.ref (ad 0), .int x1])).length) Slot.unset).toArray = ls at hl ⊢
  have hl : lv_has ls 2 [(0, .ref (ad 0)), (1, .int x1)] := hl
  refine lv_iload_n hx hb dX3_requirePerson_0 rfl (lv_at hl 1 rfl) ?_
  refine lv_if_lt (tgt := 12) hx hb dX3_requirePerson_1 (by decide) (fun c_1 => ?_) (fun c_1 => ?_)
  · exact absurd (i_lt.mp c_1) (by rw [show (0 : Int32).toInt = 0 from rfl]; have q := hq.1; omega)
  · refine lv_iload_n hx hb dX3_requirePerson_4 rfl (lv_at hl 1 rfl) ?_
    refine lv_aload_n hx hb dX3_requirePerson_5 rfl (lv_at hl 0 rfl) ?_
    refine q_getM (v := .int (σ.1 0 3)) X hP 3 (by decide) (hts _ wd16) rfl dX3_requirePerson_6 ?_
    refine lv_icmp_lt (tgt := 23) hx hb dX3_requirePerson_9 (by decide) (fun c_9 => ?_) (fun c_9 => ?_)
    · exact W.vret hx hb hr (fun t ht hW => ⟨⟨σ, rfl, rfl, wB_of ht hP⟩, hS.F ht⟩) hS.2.2 dX3_requirePerson_23
    · exact absurd (i_lt.mpr hq.2) c_9
theorem k_requirePerson {p : Program} {l : Launch} {e : Env} {R : Room} {s : State} {m : MethodId} {args : Array Value} {below : List Frame} {meth : Method} {c : Code} {H : Heap} {locs : List Loc} {cells slots : Nat} {Q : State → Prop} {cc : ByteArray} {pc : Nat} {ls : Array Slot} {rest : List Value} {D : va_G} {A : Nat → Prop} {ad : Nat → Nat} {ca : Nat → ClassId} {tw nL : Nat} {σ : St} {own : String} {index : Nat} (X : Cx p s m args c own cc nL D ad ca tw A) (hP : va_P D vwCl (wl ad ca σ) H) (hS : va_S A s.heap H locs) (hR : 1 ≤ R.frames ∧ 21 ≤ R.locals) (hcap : cells ≤ R.cells ∧ slots ≤ R.slots) (hlk : Cond.methodLink own index yX3_requirePerson ∈ wsL_law0) (hsz : ls.size = nL) (hrs : (rest.map fun v => v.category).sum ≤ 8) (hdg : decode cc pc = .ok (.invokevirtual index, 3)) (x1 : Int32) (hwf : WF σ) (hq : inr x1 (σ.1 0 3))
    (kk : ∀ (H1 : Heap) (locs1 : List Loc), va_P D vwCl (wl ad ca σ) H1 → va_S A s.heap H1 locs1 → W p l e R s m args below meth c H1 locs1 cells slots Q (F0 m (pc + 3) ls (rest))) : W p l e R s m args below meth c H locs cells slots Q (F0 m pc ls (.int x1 :: .ref (ad 0) :: rest)) := by
  refine q_bv X hS (q_runV (as := [.int x1]) X hP hS (q_cwV (rm := ({ frames := 0, cells := 0, slots := 0, locals := 0 } : Room)) (k := 1) X.2.2.2.2.1 hlk wd129 wd130 wd2 wd131 rfl rfl (by decide +kernel) rfl ⟨hR.1, hR.2⟩) (c_requirePerson l D ad ca tw X.2.2.2.2.2.2.1 σ x1 hwf hq) rfl hsz rfl hrs hdg hcap) (fun u H1 locs1 h1 h2 h3 => ?_)
  subst h1
  exact kk H1 locs1 h2 h3
set_option maxHeartbeats 4000000 in
set_option maxRecDepth 100000 in
theorem c_requirePiece (l : Launch) (D : va_G) (ad : Nat → Nat) (ca : Nat → ClassId) (tw : Nat) (hI : ∀ i j, i < 40 → j < 40 → ad i = ad j → i = j) (σ : St) (x1 : Int32) (hwf : WF σ) (hq : inr x1 (σ.1 0 4)) : Met l yX3_requirePiece (wm yX3_requirePiece cX3_requirePiece 2 none) ({ frames := 0, cells := 0, slots := 0, locals := 0 } : Room) (va_Pc [.ref (ad 0), .int x1] (wPre D ad ca tw σ)) (va_Qv (fun u => u = σ) (wB D ad ca) (Aw ad)) 0 0 (Aw ad) := by
  refine Met.ofW (cc := cX3_requirePiece) (maxL := 2) (ret := none) (by decide) rfl ?_
  intro p e s m args below meth c s₁ B hml hv
  obtain ⟨rfl, hv⟩ := hv
  have X := q_open (own := RX3) B rfl hml hI hv
  have hx := X.1
  have hb := X.2.1
  have hts := X.2.2.2.2.1
  have hr := B.returns
  have hlocks := B.notSynchronized
  have hP := hv.1
  have hS : va_S (Aw ad) s.heap s.heap [] := va_S.rf
  have hl := lv_entry ([.ref (ad 0), .int x1]) (n := 2) (Nat.le_of_ble_eq_true rfl)
  rw [lg_entry_eq]
  generalize (lg_sl ([.ref (ad 0), .int x1]) ++ List.replicate (2 - (lg_sl ([.ref (ad 0), .int x1])).length) Slot.unset).toArray = ls at hl ⊢
  have hl : lv_has ls 2 [(0, .ref (ad 0)), (1, .int x1)] := hl
  refine lv_iload_n hx hb dX3_requirePiece_0 rfl (lv_at hl 1 rfl) ?_
  refine lv_if_lt (tgt := 12) hx hb dX3_requirePiece_1 (by decide) (fun c_1 => ?_) (fun c_1 => ?_)
  · exact absurd (i_lt.mp c_1) (by rw [show (0 : Int32).toInt = 0 from rfl]; have q := hq.1; omega)
  · refine lv_iload_n hx hb dX3_requirePiece_4 rfl (lv_at hl 1 rfl) ?_
    refine lv_aload_n hx hb dX3_requirePiece_5 rfl (lv_at hl 0 rfl) ?_
    refine q_getM (v := .int (σ.1 0 4)) X hP 4 (by decide) (hts _ wd17) rfl dX3_requirePiece_6 ?_
    refine lv_icmp_lt (tgt := 23) hx hb dX3_requirePiece_9 (by decide) (fun c_9 => ?_) (fun c_9 => ?_)
    · exact W.vret hx hb hr (fun t ht hW => ⟨⟨σ, rfl, rfl, wB_of ht hP⟩, hS.F ht⟩) hS.2.2 dX3_requirePiece_23
    · exact absurd (i_lt.mpr hq.2) c_9
theorem k_requirePiece {p : Program} {l : Launch} {e : Env} {R : Room} {s : State} {m : MethodId} {args : Array Value} {below : List Frame} {meth : Method} {c : Code} {H : Heap} {locs : List Loc} {cells slots : Nat} {Q : State → Prop} {cc : ByteArray} {pc : Nat} {ls : Array Slot} {rest : List Value} {D : va_G} {A : Nat → Prop} {ad : Nat → Nat} {ca : Nat → ClassId} {tw nL : Nat} {σ : St} {own : String} {index : Nat} (X : Cx p s m args c own cc nL D ad ca tw A) (hP : va_P D vwCl (wl ad ca σ) H) (hS : va_S A s.heap H locs) (hR : 1 ≤ R.frames ∧ 21 ≤ R.locals) (hcap : cells ≤ R.cells ∧ slots ≤ R.slots) (hlk : Cond.methodLink own index yX3_requirePiece ∈ wsL_law0) (hsz : ls.size = nL) (hrs : (rest.map fun v => v.category).sum ≤ 8) (hdg : decode cc pc = .ok (.invokevirtual index, 3)) (x1 : Int32) (hwf : WF σ) (hq : inr x1 (σ.1 0 4))
    (kk : ∀ (H1 : Heap) (locs1 : List Loc), va_P D vwCl (wl ad ca σ) H1 → va_S A s.heap H1 locs1 → W p l e R s m args below meth c H1 locs1 cells slots Q (F0 m (pc + 3) ls (rest))) : W p l e R s m args below meth c H locs cells slots Q (F0 m pc ls (.int x1 :: .ref (ad 0) :: rest)) := by
  refine q_bv X hS (q_runV (as := [.int x1]) X hP hS (q_cwV (rm := ({ frames := 0, cells := 0, slots := 0, locals := 0 } : Room)) (k := 1) X.2.2.2.2.1 hlk wd253 wd254 wd2 wd255 rfl rfl (by decide +kernel) rfl ⟨hR.1, hR.2⟩) (c_requirePiece l D ad ca tw X.2.2.2.2.2.2.1 σ x1 hwf hq) rfl hsz rfl hrs hdg hcap) (fun u H1 locs1 h1 h2 h3 => ?_)
  subst h1
  exact kk H1 locs1 h2 h3
set_option maxHeartbeats 4000000 in
set_option maxRecDepth 100000 in
theorem c_requireGag (l : Launch) (D : va_G) (ad : Nat → Nat) (ca : Nat → ClassId) (tw : Nat) (hI : ∀ i j, i < 40 → j < 40 → ad i = ad j → i = j) (σ : St) (x1 : Int32) (hwf : WF σ) (hq : inr x1 (σ.1 0 5)) : Met l yX3_requireGag (wm yX3_requireGag cX3_requireGag 2 none) ({ frames := 0, cells := 0, slots := 0, locals := 0 } : Room) (va_Pc [.ref (ad 0), .int x1] (wPre D ad ca tw σ)) (va_Qv (fun u => u = σ) (wB D ad ca) (Aw ad)) 0 0 (Aw ad) := by
  refine Met.ofW (cc := cX3_requireGag) (maxL := 2) (ret := none) (by decide) rfl ?_
  intro p e s m args below meth c s₁ B hml hv
  obtain ⟨rfl, hv⟩ := hv
  have X := q_open (own := RX3) B rfl hml hI hv
  have hx := X.1
  have hb := X.2.1
  have hts := X.2.2.2.2.1
  have hr := B.returns
  have hlocks := B.notSynchronized
  have hP := hv.1
  have hS : va_S (Aw ad) s.heap s.heap [] := va_S.rf
  have hl := lv_entry ([.ref (ad 0), .int x1]) (n := 2) (Nat.le_of_ble_eq_true rfl)
  rw [lg_entry_eq]
  generalize (lg_sl ([.ref (ad 0), .int x1]) ++ List.replicate (2 - (lg_sl ([.ref (ad 0), .int x1])).length) Slot.unset).toArray = ls at hl ⊢
  have hl : lv_has ls 2 [(0, .ref (ad 0)), (1, .int x1)] := hl
  refine lv_iload_n hx hb dX3_requireGag_0 rfl (lv_at hl 1 rfl) ?_
  refine lv_if_lt (tgt := 12) hx hb dX3_requireGag_1 (by decide) (fun c_1 => ?_) (fun c_1 => ?_)
  · exact absurd (i_lt.mp c_1) (by rw [show (0 : Int32).toInt = 0 from rfl]; have q := hq.1; omega)
  · refine lv_iload_n hx hb dX3_requireGag_4 rfl (lv_at hl 1 rfl) ?_
    refine lv_aload_n hx hb dX3_requireGag_5 rfl (lv_at hl 0 rfl) ?_
    refine q_getM (v := .int (σ.1 0 5)) X hP 5 (by decide) (hts _ wd18) rfl dX3_requireGag_6 ?_
    refine lv_icmp_lt (tgt := 23) hx hb dX3_requireGag_9 (by decide) (fun c_9 => ?_) (fun c_9 => ?_)
    · exact W.vret hx hb hr (fun t ht hW => ⟨⟨σ, rfl, rfl, wB_of ht hP⟩, hS.F ht⟩) hS.2.2 dX3_requireGag_23
    · exact absurd (i_lt.mpr hq.2) c_9
theorem k_requireGag {p : Program} {l : Launch} {e : Env} {R : Room} {s : State} {m : MethodId} {args : Array Value} {below : List Frame} {meth : Method} {c : Code} {H : Heap} {locs : List Loc} {cells slots : Nat} {Q : State → Prop} {cc : ByteArray} {pc : Nat} {ls : Array Slot} {rest : List Value} {D : va_G} {A : Nat → Prop} {ad : Nat → Nat} {ca : Nat → ClassId} {tw nL : Nat} {σ : St} {own : String} {index : Nat} (X : Cx p s m args c own cc nL D ad ca tw A) (hP : va_P D vwCl (wl ad ca σ) H) (hS : va_S A s.heap H locs) (hR : 1 ≤ R.frames ∧ 21 ≤ R.locals) (hcap : cells ≤ R.cells ∧ slots ≤ R.slots) (hlk : Cond.methodLink own index yX3_requireGag ∈ wsL_law0) (hsz : ls.size = nL) (hrs : (rest.map fun v => v.category).sum ≤ 8) (hdg : decode cc pc = .ok (.invokevirtual index, 3)) (x1 : Int32) (hwf : WF σ) (hq : inr x1 (σ.1 0 5))
    (kk : ∀ (H1 : Heap) (locs1 : List Loc), va_P D vwCl (wl ad ca σ) H1 → va_S A s.heap H1 locs1 → W p l e R s m args below meth c H1 locs1 cells slots Q (F0 m (pc + 3) ls (rest))) : W p l e R s m args below meth c H locs cells slots Q (F0 m pc ls (.int x1 :: .ref (ad 0) :: rest)) := by
  refine q_bv X hS (q_runV (as := [.int x1]) X hP hS (q_cwV (rm := ({ frames := 0, cells := 0, slots := 0, locals := 0 } : Room)) (k := 1) X.2.2.2.2.1 hlk wd171 wd172 wd2 wd173 rfl rfl (by decide +kernel) rfl ⟨hR.1, hR.2⟩) (c_requireGag l D ad ca tw X.2.2.2.2.2.2.1 σ x1 hwf hq) rfl hsz rfl hrs hdg hcap) (fun u H1 locs1 h1 h2 h3 => ?_)
  subst h1
  exact kk H1 locs1 h2 h3
set_option maxHeartbeats 4000000 in
set_option maxRecDepth 100000 in
theorem c_requireKind (l : Launch) (D : va_G) (ad : Nat → Nat) (ca : Nat → ClassId) (tw : Nat) (hI : ∀ i j, i < 40 → j < 40 → ad i = ad j → i = j) (σ : St) (x0 : Int32) (hwf : WF σ) (hq : vp_in x0 4) : Met l yX3_requireKind (wm yX3_requireKind cX3_requireKind 1 none) ({ frames := 0, cells := 0, slots := 0, locals := 0 } : Room) (va_Pc [.int x0] (wPre D ad ca tw σ)) (va_Qv (fun u => u = σ) (wB D ad ca) (Aw ad)) 0 0 (Aw ad) := by
  refine Met.ofW (cc := cX3_requireKind) (maxL := 1) (ret := none) (by decide) rfl ?_
  intro p e s m args below meth c s₁ B hml hv
  obtain ⟨rfl, hv⟩ := hv
  have X := q_open (own := RX3) B rfl hml hI hv
  have hx := X.1
  have hb := X.2.1
  have hts := X.2.2.2.2.1
  have hr := B.returns
  have hlocks := B.notSynchronized
  have hP := hv.1
  have hS : va_S (Aw ad) s.heap s.heap [] := va_S.rf
  have hl := lv_entry ([.int x0]) (n := 1) (Nat.le_of_ble_eq_true rfl)
  rw [lg_entry_eq]
  generalize (lg_sl ([.int x0]) ++ List.replicate (1 - (lg_sl ([.int x0])).length) Slot.unset).toArray = ls at hl ⊢
  have hl : lv_has ls 1 [(0, .int x0)] := hl
  refine lv_iload_n hx hb dX3_requireKind_0 rfl (lv_at hl 0 rfl) ?_
  refine lv_if_lt (tgt := 9) hx hb dX3_requireKind_1 (by decide) (fun c_1 => ?_) (fun c_1 => ?_)
  · exact absurd (i_lt.mp c_1) (by rw [show (0 : Int32).toInt = 0 from rfl]; have q := (vp_in_iff.mp hq).1; omega)
  · refine lv_iload_n hx hb dX3_requireKind_4 rfl (lv_at hl 0 rfl) ?_
    refine lv_iconst (v := (4 : Int32)) hx hb dX3_requireKind_5 (by decide) ?_
    refine lv_icmp_lt (tgt := 20) hx hb dX3_requireKind_6 (by decide) (fun c_6 => ?_) (fun c_6 => ?_)
    · exact W.vret hx hb hr (fun t ht hW => ⟨⟨σ, rfl, rfl, wB_of ht hP⟩, hS.F ht⟩) hS.2.2 dX3_requireKind_20
    · exact absurd (i_lt.mpr (by rw [show (4 : Int32).toInt = 4 from rfl]; have q := (vp_in_iff.mp hq).2; omega)) c_6
theorem k_requireKind {p : Program} {l : Launch} {e : Env} {R : Room} {s : State} {m : MethodId} {args : Array Value} {below : List Frame} {meth : Method} {c : Code} {H : Heap} {locs : List Loc} {cells slots : Nat} {Q : State → Prop} {cc : ByteArray} {pc : Nat} {ls : Array Slot} {rest : List Value} {D : va_G} {A : Nat → Prop} {ad : Nat → Nat} {ca : Nat → ClassId} {tw nL : Nat} {σ : St} {own : String} {index : Nat} (X : Cx p s m args c own cc nL D ad ca tw A) (hP : va_P D vwCl (wl ad ca σ) H) (hS : va_S A s.heap H locs) (hR : 1 ≤ R.frames ∧ 20 ≤ R.locals) (hcap : cells ≤ R.cells ∧ slots ≤ R.slots) (hlk : Cond.methodLink own index yX3_requireKind ∈ wsL_law0) (hsz : ls.size = nL) (hrs : (rest.map fun v => v.category).sum ≤ 8) (hdg : decode cc pc = .ok (.invokestatic index, 3)) (x0 : Int32) (hwf : WF σ) (hq : vp_in x0 4)
    (kk : ∀ (H1 : Heap) (locs1 : List Loc), va_P D vwCl (wl ad ca σ) H1 → va_S A s.heap H1 locs1 → W p l e R s m args below meth c H1 locs1 cells slots Q (F0 m (pc + 3) ls (rest))) : W p l e R s m args below meth c H locs cells slots Q (F0 m pc ls (.int x0 :: rest)) := by
  refine q_bv X hS (q_runS (as := [.int x0]) X hP hS (q_cwS (rm := ({ frames := 0, cells := 0, slots := 0, locals := 0 } : Room)) (k := 1) X.2.2.2.2.1 hlk wd135 wd2 wd136 rfl rfl (by decide +kernel) ⟨hR.1, hR.2⟩) (c_requireKind l D ad ca tw X.2.2.2.2.2.2.1 σ x0 hwf hq) rfl hsz rfl hrs hdg hcap) (fun u H1 locs1 h1 h2 h3 => ?_)
  subst h1
  exact kk H1 locs1 h2 h3
set_option maxHeartbeats 4000000 in
set_option maxRecDepth 100000 in
theorem c_requireRange (l : Launch) (D : va_G) (ad : Nat → Nat) (ca : Nat → ClassId) (tw : Nat) (hI : ∀ i j, i < 40 → j < 40 → ad i = ad j → i = j) (σ : St) (x0 : Int32) (x1 : Int32) (x2 : Int32) (hwf : WF σ) (hq : x1.toInt ≤ x0.toInt ∧ x0.toInt ≤ x2.toInt) : Met l yX3_requireRange (wm yX3_requireRange cX3_requireRange 3 none) ({ frames := 0, cells := 0, slots := 0, locals := 0 } : Room) (va_Pc [.int x0, .int x1, .int x2] (wPre D ad ca tw σ)) (va_Qv (fun u => u = σ) (wB D ad ca) (Aw ad)) 0 0 (Aw ad) := by
  refine Met.ofW (cc := cX3_requireRange) (maxL := 3) (ret := none) (by decide) rfl ?_
  intro p e s m args below meth c s₁ B hml hv
  obtain ⟨rfl, hv⟩ := hv
  have X := q_open (own := RX3) B rfl hml hI hv
  have hx := X.1
  have hb := X.2.1
  have hts := X.2.2.2.2.1
  have hr := B.returns
  have hlocks := B.notSynchronized
  have hP := hv.1
  have hS : va_S (Aw ad) s.heap s.heap [] := va_S.rf
  have hl := lv_entry ([.int x0, .int x1, .int x2]) (n := 3) (Nat.le_of_ble_eq_true rfl)
  rw [lg_entry_eq]
  generalize (lg_sl ([.int x0, .int x1, .int x2]) ++ List.replicate (3 - (lg_sl ([.int x0, .int x1, .int x2])).length) Slot.unset).toArray = ls at hl ⊢
  have hl : lv_has ls 3 [(0, .int x0), (1, .int x1), (2, .int x2)] := hl
  refine lv_iload_n hx hb dX3_requireRange_0 rfl (lv_at hl 0 rfl) ?_
  refine lv_iload_n hx hb dX3_requireRange_1 rfl (lv_at hl 1 rfl) ?_
  refine lv_icmp_lt (tgt := 10) hx hb dX3_requireRange_2 (by decide) (fun c_2 => ?_) (fun c_2 => ?_)
  · exact absurd (i_lt.mp c_2) (by have q := hq.1; omega)
  · refine lv_iload_n hx hb dX3_requireRange_5 rfl (lv_at hl 0 rfl) ?_
    refine lv_iload_n hx hb dX3_requireRange_6 rfl (lv_at hl 2 rfl) ?_
    refine lv_icmp_le (tgt := 21) hx hb dX3_requireRange_7 (by decide) (fun c_7 => ?_) (fun c_7 => ?_)
    · exact W.vret hx hb hr (fun t ht hW => ⟨⟨σ, rfl, rfl, wB_of ht hP⟩, hS.F ht⟩) hS.2.2 dX3_requireRange_21
    · exact absurd (i_le.mpr hq.2) c_7
theorem k_requireRange {p : Program} {l : Launch} {e : Env} {R : Room} {s : State} {m : MethodId} {args : Array Value} {below : List Frame} {meth : Method} {c : Code} {H : Heap} {locs : List Loc} {cells slots : Nat} {Q : State → Prop} {cc : ByteArray} {pc : Nat} {ls : Array Slot} {rest : List Value} {D : va_G} {A : Nat → Prop} {ad : Nat → Nat} {ca : Nat → ClassId} {tw nL : Nat} {σ : St} {own : String} {index : Nat} (X : Cx p s m args c own cc nL D ad ca tw A) (hP : va_P D vwCl (wl ad ca σ) H) (hS : va_S A s.heap H locs) (hR : 1 ≤ R.frames ∧ 22 ≤ R.locals) (hcap : cells ≤ R.cells ∧ slots ≤ R.slots) (hlk : Cond.methodLink own index yX3_requireRange ∈ wsL_law0) (hsz : ls.size = nL) (hrs : (rest.map fun v => v.category).sum ≤ 8) (hdg : decode cc pc = .ok (.invokestatic index, 3)) (x0 : Int32) (x1 : Int32) (x2 : Int32) (hwf : WF σ) (hq : x1.toInt ≤ x0.toInt ∧ x0.toInt ≤ x2.toInt)
    (kk : ∀ (H1 : Heap) (locs1 : List Loc), va_P D vwCl (wl ad ca σ) H1 → va_S A s.heap H1 locs1 → W p l e R s m args below meth c H1 locs1 cells slots Q (F0 m (pc + 3) ls (rest))) : W p l e R s m args below meth c H locs cells slots Q (F0 m pc ls (.int x2 :: .int x1 :: .int x0 :: rest)) := by
  refine q_bv X hS (q_runS (as := [.int x0, .int x1, .int x2]) X hP hS (q_cwS (rm := ({ frames := 0, cells := 0, slots := 0, locals := 0 } : Room)) (k := 3) X.2.2.2.2.1 hlk wd138 wd2 wd139 rfl rfl (by decide +kernel) ⟨hR.1, hR.2⟩) (c_requireRange l D ad ca tw X.2.2.2.2.2.2.1 σ x0 x1 x2 hwf hq) rfl hsz rfl hrs hdg hcap) (fun u H1 locs1 h1 h2 h3 => ?_)
  subst h1
  exact kk H1 locs1 h2 h3
set_option maxHeartbeats 4000000 in
set_option maxRecDepth 100000 in
theorem c_requireArmed (l : Launch) (D : va_G) (ad : Nat → Nat) (ca : Nat → ClassId) (tw : Nat) (hI : ∀ i j, i < 40 → j < 40 → ad i = ad j → i = j) (σ : St) (x1 : Int32) (hwf : WF σ) (hg : vp_in x1 6) (ha : ¬ σ.1 (34 + x1.toNatClampNeg) 8 = 0) : Met l yX3_requireArmed (wm yX3_requireArmed cX3_requireArmed 2 none) ({ frames := 0, cells := 0, slots := 0, locals := 0 } : Room) (va_Pc [.ref (ad 0), .int x1] (wPre D ad ca tw σ)) (va_Qv (fun u => u = σ) (wB D ad ca) (Aw ad)) 0 0 (Aw ad) := by
  refine Met.ofW (cc := cX3_requireArmed) (maxL := 2) (ret := none) (by decide) rfl ?_
  intro p e s m args below meth c s₁ B hml hv
  obtain ⟨rfl, hv⟩ := hv
  have X := q_open (own := RX3) B rfl hml hI hv
  have hx := X.1
  have hb := X.2.1
  have hts := X.2.2.2.2.1
  have hr := B.returns
  have hlocks := B.notSynchronized
  have hP := hv.1
  have hS : va_S (Aw ad) s.heap s.heap [] := va_S.rf
  have hl := lv_entry ([.ref (ad 0), .int x1]) (n := 2) (Nat.le_of_ble_eq_true rfl)
  rw [lg_entry_eq]
  generalize (lg_sl ([.ref (ad 0), .int x1]) ++ List.replicate (2 - (lg_sl ([.ref (ad 0), .int x1])).length) Slot.unset).toArray = ls at hl ⊢
  have hl : lv_has ls 2 [(0, .ref (ad 0)), (1, .int x1)] := hl
  refine lv_aload_n hx hb dX3_requireArmed_0 rfl (lv_at hl 0 rfl) ?_
  refine q_getM (v := .ref (ad 3)) X hP 2 (by decide) (hts _ wd15) rfl dX3_requireArmed_1 ?_
  refine lv_iload_n hx hb dX3_requireArmed_4 rfl (lv_at hl 1 rfl) ?_
  refine q_aldG X hP hg dX3_requireArmed_5 ?_
  refine q_getG (v := .int (σ.1 (34 + x1.toNatClampNeg) 8)) X hP x1.toNatClampNeg (ix_lt hg) 8 (by decide) (hts _ wd122) rfl dX3_requireArmed_6 ?_
  refine lv_if_ne (tgt := 23) hx hb dX3_requireArmed_9 (by decide) (fun c_9 => ?_) (fun c_9 => ?_)
  · exact W.vret hx hb hr (fun t ht hW => ⟨⟨σ, rfl, rfl, wB_of ht hP⟩, hS.F ht⟩) hS.2.2 dX3_requireArmed_23
  · first | exact absurd c_9 hg | exact absurd hg c_9 | exact absurd c_9 ha | exact absurd ha c_9
theorem k_requireArmed {p : Program} {l : Launch} {e : Env} {R : Room} {s : State} {m : MethodId} {args : Array Value} {below : List Frame} {meth : Method} {c : Code} {H : Heap} {locs : List Loc} {cells slots : Nat} {Q : State → Prop} {cc : ByteArray} {pc : Nat} {ls : Array Slot} {rest : List Value} {D : va_G} {A : Nat → Prop} {ad : Nat → Nat} {ca : Nat → ClassId} {tw nL : Nat} {σ : St} {own : String} {index : Nat} (X : Cx p s m args c own cc nL D ad ca tw A) (hP : va_P D vwCl (wl ad ca σ) H) (hS : va_S A s.heap H locs) (hR : 1 ≤ R.frames ∧ 21 ≤ R.locals) (hcap : cells ≤ R.cells ∧ slots ≤ R.slots) (hlk : Cond.methodLink own index yX3_requireArmed ∈ wsL_law0) (hsz : ls.size = nL) (hrs : (rest.map fun v => v.category).sum ≤ 8) (hdg : decode cc pc = .ok (.invokevirtual index, 3)) (x1 : Int32) (hwf : WF σ) (hg : vp_in x1 6) (ha : ¬ σ.1 (34 + x1.toNatClampNeg) 8 = 0)
    (kk : ∀ (H1 : Heap) (locs1 : List Loc), va_P D vwCl (wl ad ca σ) H1 → va_S A s.heap H1 locs1 → W p l e R s m args below meth c H1 locs1 cells slots Q (F0 m (pc + 3) ls (rest))) : W p l e R s m args below meth c H locs cells slots Q (F0 m pc ls (.int x1 :: .ref (ad 0) :: rest)) := by
  refine q_bv X hS (q_runV (as := [.int x1]) X hP hS (q_cwV (rm := ({ frames := 0, cells := 0, slots := 0, locals := 0 } : Room)) (k := 1) X.2.2.2.2.1 hlk wd311 wd312 wd2 wd313 rfl rfl (by decide +kernel) rfl ⟨hR.1, hR.2⟩) (c_requireArmed l D ad ca tw X.2.2.2.2.2.2.1 σ x1 hwf hg ha) rfl hsz rfl hrs hdg hcap) (fun u H1 locs1 h1 h2 h3 => ?_)
  subst h1
  exact kk H1 locs1 h2 h3
set_option maxHeartbeats 4000000 in
set_option maxRecDepth 100000 in
theorem c_mixed (l : Launch) (D : va_G) (ad : Nat → Nat) (ca : Nat → ClassId) (tw : Nat) (hI : ∀ i j, i < 40 → j < 40 → ad i = ad j → i = j) (σ : St) (x0 : Int64) (x2 : Int32) (hwf : WF σ)  : Met l yX3_mixed (wm yX3_mixed cX3_mixed 3 (some .long)) ({ frames := 0, cells := 0, slots := 0, locals := 0 } : Room) (va_Pc [.long x0, .int x2] (wPre D ad ca tw σ)) (va_Ql (fun r u => r = f_mixed x0 x2 ∧ u = σ) (wB D ad ca) (Aw ad)) 0 0 (Aw ad) := by
  generalize hF : f_mixed x0 x2 = F
  refine Met.ofW (cc := cX3_mixed) (maxL := 3) (ret := (some .long)) (by decide) rfl ?_
  intro p e s m args below meth c s₁ B hml hv
  obtain ⟨rfl, hv⟩ := hv
  have X := q_open (own := RX3) B rfl hml hI hv
  have hx := X.1
  have hb := X.2.1
  have hts := X.2.2.2.2.1
  have hr := B.returns
  have hlocks := B.notSynchronized
  have hP := hv.1
  have hS : va_S (Aw ad) s.heap s.heap [] := va_S.rf
  have hl := lv_entry ([.long x0, .int x2]) (n := 3) (Nat.le_of_ble_eq_true rfl)
  rw [lg_entry_eq]
  generalize (lg_sl ([.long x0, .int x2]) ++ List.replicate (3 - (lg_sl ([.long x0, .int x2])).length) Slot.unset).toArray = ls at hl ⊢
  have hl : lv_has ls 3 [(0, .long x0), (2, .int x2)] := hl
  unfold f_mixed at hF
  replace hF : ((x0 * (31 : Int64)) + x2.toInt64) = F := hF
  refine lv_lload_n hx hb dX3_mixed_0 rfl (lv_at hl 0 rfl) ?_
  refine lv_ldc2 (v := (31 : Int64)) hx hb X.2.2.2.1 (hts _ wd382) dX3_mixed_1 ?_
  refine lv_lmul hx hb dX3_mixed_4 ?_
  refine lv_iload_n hx hb dX3_mixed_5 rfl (lv_at hl 1 rfl) ?_
  refine lv_i2l hx hb dX3_mixed_6 rfl ?_
  refine lv_ladd hx hb dX3_mixed_7 ?_
  exact W.lret (v := ((x0 * (31 : Int64)) + x2.toInt64)) hx hb hr (fun t ht hW => ⟨⟨((x0 * (31 : Int64)) + x2.toInt64), σ, rfl, ⟨hF, rfl⟩, wB_of ht hP⟩, hS.F ht⟩) hS.2.2 dX3_mixed_8
theorem k_mixed {p : Program} {l : Launch} {e : Env} {R : Room} {s : State} {m : MethodId} {args : Array Value} {below : List Frame} {meth : Method} {c : Code} {H : Heap} {locs : List Loc} {cells slots : Nat} {Q : State → Prop} {cc : ByteArray} {pc : Nat} {ls : Array Slot} {rest : List Value} {D : va_G} {A : Nat → Prop} {ad : Nat → Nat} {ca : Nat → ClassId} {tw nL : Nat} {σ : St} {own : String} {index : Nat} (X : Cx p s m args c own cc nL D ad ca tw A) (hP : va_P D vwCl (wl ad ca σ) H) (hS : va_S A s.heap H locs) (hR : 1 ≤ R.frames ∧ 22 ≤ R.locals) (hcap : cells ≤ R.cells ∧ slots ≤ R.slots) (hlk : Cond.methodLink own index yX3_mixed ∈ wsL_law0) (hsz : ls.size = nL) (hrs : (rest.map fun v => v.category).sum ≤ 8) (hdg : decode cc pc = .ok (.invokestatic index, 3)) (x0 : Int64) (x2 : Int32) (hwf : WF σ) 
    (kk : ∀ (H1 : Heap) (locs1 : List Loc), va_P D vwCl (wl ad ca σ) H1 → va_S A s.heap H1 locs1 → W p l e R s m args below meth c H1 locs1 cells slots Q (F0 m (pc + 3) ls (.long (f_mixed x0 x2) :: rest))) : W p l e R s m args below meth c H locs cells slots Q (F0 m pc ls (.int x2 :: .long x0 :: rest)) := by
  refine q_bl X hS (q_runS (as := [.long x0, .int x2]) X hP hS (q_cwS (rm := ({ frames := 0, cells := 0, slots := 0, locals := 0 } : Room)) (k := 2) X.2.2.2.2.1 hlk wd380 wd2 wd381 rfl rfl (by decide +kernel) ⟨hR.1, hR.2⟩) (c_mixed l D ad ca tw X.2.2.2.2.2.2.1 σ x0 x2 hwf ) rfl hsz rfl hrs hdg hcap) (fun r u H1 locs1 h1 h2 h3 => ?_)
  obtain ⟨rfl, rfl⟩ := h1
  exact kk H1 locs1 h2 h3
set_option maxHeartbeats 4000000 in
set_option maxRecDepth 100000 in
theorem c_oneIf (l : Launch) (D : va_G) (ad : Nat → Nat) (ca : Nat → ClassId) (tw : Nat) (hI : ∀ i j, i < 40 → j < 40 → ad i = ad j → i = j) (σ : St) (x0 : Int32) (hwf : WF σ)  : Met l yX3_oneIf (wm yX3_oneIf cX3_oneIf 1 (some .int)) ({ frames := 0, cells := 0, slots := 0, locals := 0 } : Room) (va_Pc [.int x0] (wPre D ad ca tw σ)) (va_Qi (fun r u => r = f_oneIf x0 ∧ u = σ) (wB D ad ca) (Aw ad)) 0 0 (Aw ad) := by
  generalize hF : f_oneIf x0 = F
  refine Met.ofW (cc := cX3_oneIf) (maxL := 1) (ret := (some .int)) (by decide) rfl ?_
  intro p e s m args below meth c s₁ B hml hv
  obtain ⟨rfl, hv⟩ := hv
  have X := q_open (own := RX3) B rfl hml hI hv
  have hx := X.1
  have hb := X.2.1
  have hts := X.2.2.2.2.1
  have hr := B.returns
  have hlocks := B.notSynchronized
  have hP := hv.1
  have hS : va_S (Aw ad) s.heap s.heap [] := va_S.rf
  have hl := lv_entry ([.int x0]) (n := 1) (Nat.le_of_ble_eq_true rfl)
  rw [lg_entry_eq]
  generalize (lg_sl ([.int x0]) ++ List.replicate (1 - (lg_sl ([.int x0])).length) Slot.unset).toArray = ls at hl ⊢
  have hl : lv_has ls 1 [(0, .int x0)] := hl
  unfold f_oneIf at hF
  replace hF : (if x0 = (0 : Int32) then (0 : Int32) else (1 : Int32)) = F := hF
  refine lv_iload_n hx hb dX3_oneIf_0 rfl (lv_at hl 0 rfl) ?_
  refine lv_if_eq (tgt := 8) hx hb dX3_oneIf_1 (by decide) (fun c_1 => ?_) (fun c_1 => ?_)
  · rw [if_pos c_1] at hF
    refine lv_iconst (v := (0 : Int32)) hx hb dX3_oneIf_8 (by decide) ?_
    exact W.iret (v := (0 : Int32)) hx hb hr (fun t ht hW => ⟨⟨(0 : Int32), σ, rfl, ⟨hF, rfl⟩, wB_of ht hP⟩, hS.F ht⟩) hS.2.2 dX3_oneIf_9
  · rw [if_neg c_1] at hF
    refine lv_iconst (v := (1 : Int32)) hx hb dX3_oneIf_4 (by decide) ?_
    refine lv_goto (tgt := 9) hx hb dX3_oneIf_5 (by decide) ?_
    exact W.iret (v := (1 : Int32)) hx hb hr (fun t ht hW => ⟨⟨(1 : Int32), σ, rfl, ⟨hF, rfl⟩, wB_of ht hP⟩, hS.F ht⟩) hS.2.2 dX3_oneIf_9
theorem k_oneIf {p : Program} {l : Launch} {e : Env} {R : Room} {s : State} {m : MethodId} {args : Array Value} {below : List Frame} {meth : Method} {c : Code} {H : Heap} {locs : List Loc} {cells slots : Nat} {Q : State → Prop} {cc : ByteArray} {pc : Nat} {ls : Array Slot} {rest : List Value} {D : va_G} {A : Nat → Prop} {ad : Nat → Nat} {ca : Nat → ClassId} {tw nL : Nat} {σ : St} {own : String} {index : Nat} (X : Cx p s m args c own cc nL D ad ca tw A) (hP : va_P D vwCl (wl ad ca σ) H) (hS : va_S A s.heap H locs) (hR : 1 ≤ R.frames ∧ 20 ≤ R.locals) (hcap : cells ≤ R.cells ∧ slots ≤ R.slots) (hlk : Cond.methodLink own index yX3_oneIf ∈ wsL_law0) (hsz : ls.size = nL) (hrs : (rest.map fun v => v.category).sum ≤ 8) (hdg : decode cc pc = .ok (.invokestatic index, 3)) (x0 : Int32) (hwf : WF σ) 
    (kk : ∀ (H1 : Heap) (locs1 : List Loc), va_P D vwCl (wl ad ca σ) H1 → va_S A s.heap H1 locs1 → W p l e R s m args below meth c H1 locs1 cells slots Q (F0 m (pc + 3) ls (.int (f_oneIf x0) :: rest))) : W p l e R s m args below meth c H locs cells slots Q (F0 m pc ls (.int x0 :: rest)) := by
  refine q_bi X hS (q_runS (as := [.int x0]) X hP hS (q_cwS (rm := ({ frames := 0, cells := 0, slots := 0, locals := 0 } : Room)) (k := 1) X.2.2.2.2.1 hlk wd205 wd2 wd206 rfl rfl (by decide +kernel) ⟨hR.1, hR.2⟩) (c_oneIf l D ad ca tw X.2.2.2.2.2.2.1 σ x0 hwf ) rfl hsz rfl hrs hdg hcap) (fun r u H1 locs1 h1 h2 h3 => ?_)
  obtain ⟨rfl, rfl⟩ := h1
  exact kk H1 locs1 h2 h3
set_option maxHeartbeats 4000000 in
set_option maxRecDepth 100000 in
theorem c_isInSet (l : Launch) (D : va_G) (ad : Nat → Nat) (ca : Nat → ClassId) (tw : Nat) (hI : ∀ i j, i < 40 → j < 40 → ad i = ad j → i = j) (σ : St) (x0 : Int32) (x1 : Int32) (hwf : WF σ)  : Met l yX3_isInSet (wm yX3_isInSet cX3_isInSet 2 (some .boolean)) ({ frames := 0, cells := 0, slots := 0, locals := 0 } : Room) (va_Pc [.int x0, .int x1] (wPre D ad ca tw σ)) (va_Qi (fun r u => r = f_isInSet x0 x1 ∧ u = σ) (wB D ad ca) (Aw ad)) 0 0 (Aw ad) := by
  generalize hF : f_isInSet x0 x1 = F
  refine Met.ofW (cc := cX3_isInSet) (maxL := 2) (ret := (some .boolean)) (by decide) rfl ?_
  intro p e s m args below meth c s₁ B hml hv
  obtain ⟨rfl, hv⟩ := hv
  have X := q_open (own := RX3) B rfl hml hI hv
  have hx := X.1
  have hb := X.2.1
  have hts := X.2.2.2.2.1
  have hr := B.returns
  have hlocks := B.notSynchronized
  have hP := hv.1
  have hS : va_S (Aw ad) s.heap s.heap [] := va_S.rf
  have hl := lv_entry ([.int x0, .int x1]) (n := 2) (Nat.le_of_ble_eq_true rfl)
  rw [lg_entry_eq]
  generalize (lg_sl ([.int x0, .int x1]) ++ List.replicate (2 - (lg_sl ([.int x0, .int x1])).length) Slot.unset).toArray = ls at hl ⊢
  have hl : lv_has ls 2 [(0, .int x0), (1, .int x1)] := hl
  unfold f_isInSet at hF
  replace hF : (if (x0 &&& ((1 : Int32) <<< (x1 &&& (31 : Int32)))) = (0 : Int32) then (0 : Int32) else (1 : Int32)) = F := hF
  refine lv_iload_n hx hb dX3_isInSet_0 rfl (lv_at hl 0 rfl) ?_
  refine lv_iconst (v := (1 : Int32)) hx hb dX3_isInSet_1 (by decide) ?_
  refine lv_iload_n hx hb dX3_isInSet_2 rfl (lv_at hl 1 rfl) ?_
  refine lv_ishl hx hb dX3_isInSet_3 ?_
  refine lv_iand hx hb dX3_isInSet_4 ?_
  refine lv_if_eq (tgt := 12) hx hb dX3_isInSet_5 (by decide) (fun c_5 => ?_) (fun c_5 => ?_)
  · rw [if_pos c_5] at hF
    refine lv_iconst (v := (0 : Int32)) hx hb dX3_isInSet_12 (by decide) ?_
    exact W.zret (ty := .boolean) (v := (0 : Int32)) hx hb hr rfl (fun t ht hW => ⟨⟨(0 : Int32), σ, rfl, ⟨hF, rfl⟩, wB_of ht hP⟩, hS.F ht⟩) hS.2.2 dX3_isInSet_13
  · rw [if_neg c_5] at hF
    refine lv_iconst (v := (1 : Int32)) hx hb dX3_isInSet_8 (by decide) ?_
    refine lv_goto (tgt := 13) hx hb dX3_isInSet_9 (by decide) ?_
    exact W.zret (ty := .boolean) (v := (1 : Int32)) hx hb hr rfl (fun t ht hW => ⟨⟨(1 : Int32), σ, rfl, ⟨hF, rfl⟩, wB_of ht hP⟩, hS.F ht⟩) hS.2.2 dX3_isInSet_13
theorem k_isInSet {p : Program} {l : Launch} {e : Env} {R : Room} {s : State} {m : MethodId} {args : Array Value} {below : List Frame} {meth : Method} {c : Code} {H : Heap} {locs : List Loc} {cells slots : Nat} {Q : State → Prop} {cc : ByteArray} {pc : Nat} {ls : Array Slot} {rest : List Value} {D : va_G} {A : Nat → Prop} {ad : Nat → Nat} {ca : Nat → ClassId} {tw nL : Nat} {σ : St} {own : String} {index : Nat} (X : Cx p s m args c own cc nL D ad ca tw A) (hP : va_P D vwCl (wl ad ca σ) H) (hS : va_S A s.heap H locs) (hR : 1 ≤ R.frames ∧ 21 ≤ R.locals) (hcap : cells ≤ R.cells ∧ slots ≤ R.slots) (hlk : Cond.methodLink own index yX3_isInSet ∈ wsL_law0) (hsz : ls.size = nL) (hrs : (rest.map fun v => v.category).sum ≤ 8) (hdg : decode cc pc = .ok (.invokestatic index, 3)) (x0 : Int32) (x1 : Int32) (hwf : WF σ) 
    (kk : ∀ (H1 : Heap) (locs1 : List Loc), va_P D vwCl (wl ad ca σ) H1 → va_S A s.heap H1 locs1 → W p l e R s m args below meth c H1 locs1 cells slots Q (F0 m (pc + 3) ls (.int (f_isInSet x0 x1) :: rest))) : W p l e R s m args below meth c H locs cells slots Q (F0 m pc ls (.int x1 :: .int x0 :: rest)) := by
  refine q_bi X hS (q_runS (as := [.int x0, .int x1]) X hP hS (q_cwS (rm := ({ frames := 0, cells := 0, slots := 0, locals := 0 } : Room)) (k := 2) X.2.2.2.2.1 hlk wd300 wd2 wd301 rfl rfl (by decide +kernel) ⟨hR.1, hR.2⟩) (c_isInSet l D ad ca tw X.2.2.2.2.2.2.1 σ x0 x1 hwf ) rfl hsz rfl hrs hdg hcap) (fun r u H1 locs1 h1 h2 h3 => ?_)
  obtain ⟨rfl, rfl⟩ := h1
  exact kk H1 locs1 h2 h3
set_option maxHeartbeats 4000000 in
set_option maxRecDepth 100000 in
theorem c_distance (l : Launch) (D : va_G) (ad : Nat → Nat) (ca : Nat → ClassId) (tw : Nat) (hI : ∀ i j, i < 40 → j < 40 → ad i = ad j → i = j) (σ : St) (x0 : Int32) (x1 : Int32) (hwf : WF σ)  : Met l yX3_distance (wm yX3_distance cX3_distance 2 (some .int)) ({ frames := 1, cells := 0, slots := 0, locals := 21 } : Room) (va_Pc [.int x0, .int x1] (wPre D ad ca tw σ)) (va_Qi (fun r u => r = f_distance x0 x1 ∧ u = σ) (wB D ad ca) (Aw ad)) 0 0 (Aw ad) := by
  generalize hF : f_distance x0 x1 = F
  refine Met.ofW (cc := cX3_distance) (maxL := 2) (ret := (some .int)) (by decide) rfl ?_
  intro p e s m args below meth c s₁ B hml hv
  obtain ⟨rfl, hv⟩ := hv
  have X := q_open (own := RX3) B rfl hml hI hv
  have hx := X.1
  have hb := X.2.1
  have hts := X.2.2.2.2.1
  have hr := B.returns
  have hlocks := B.notSynchronized
  have hP := hv.1
  have hS : va_S (Aw ad) s.heap s.heap [] := va_S.rf
  have hl := lv_entry ([.int x0, .int x1]) (n := 2) (Nat.le_of_ble_eq_true rfl)
  rw [lg_entry_eq]
  generalize (lg_sl ([.int x0, .int x1]) ++ List.replicate (2 - (lg_sl ([.int x0, .int x1])).length) Slot.unset).toArray = ls at hl ⊢
  have hl : lv_has ls 2 [(0, .int x0), (1, .int x1)] := hl
  unfold f_distance at hF
  replace hF : (if (0 : Int32) ≤ (x0 - x1) then (x0 - x1) else (0 : Int32) - (x0 - x1)) = F := hF
  refine lv_iload_n hx hb dX3_distance_0 rfl (lv_at hl 0 rfl) ?_
  refine lv_iload_n hx hb dX3_distance_1 rfl (lv_at hl 1 rfl) ?_
  refine lv_isub hx hb dX3_distance_2 ?_
  refine va_mabs hx hb (X.2.2.1.trans hl.1.symm) X.2.2.2.1 (hts _ wd104) (hts _ wd105) (hts _ wd106) (hts _ wd107) (Nat.le_of_ble_eq_true rfl) (Nat.le_of_ble_eq_true rfl) (Nat.zero_le _) (Nat.zero_le _) dX3_distance_3 ?_
  exact W.iret (v := (if (0 : Int32) ≤ (x0 - x1) then (x0 - x1) else (0 : Int32) - (x0 - x1))) hx hb hr (fun t ht hW => ⟨⟨(if (0 : Int32) ≤ (x0 - x1) then (x0 - x1) else (0 : Int32) - (x0 - x1)), σ, rfl, ⟨hF, rfl⟩, wB_of ht hP⟩, hS.F ht⟩) hS.2.2 dX3_distance_6
theorem k_distance {p : Program} {l : Launch} {e : Env} {R : Room} {s : State} {m : MethodId} {args : Array Value} {below : List Frame} {meth : Method} {c : Code} {H : Heap} {locs : List Loc} {cells slots : Nat} {Q : State → Prop} {cc : ByteArray} {pc : Nat} {ls : Array Slot} {rest : List Value} {D : va_G} {A : Nat → Prop} {ad : Nat → Nat} {ca : Nat → ClassId} {tw nL : Nat} {σ : St} {own : String} {index : Nat} (X : Cx p s m args c own cc nL D ad ca tw A) (hP : va_P D vwCl (wl ad ca σ) H) (hS : va_S A s.heap H locs) (hR : 2 ≤ R.frames ∧ 42 ≤ R.locals) (hcap : cells ≤ R.cells ∧ slots ≤ R.slots) (hlk : Cond.methodLink own index yX3_distance ∈ wsL_law0) (hsz : ls.size = nL) (hrs : (rest.map fun v => v.category).sum ≤ 8) (hdg : decode cc pc = .ok (.invokestatic index, 3)) (x0 : Int32) (x1 : Int32) (hwf : WF σ) 
    (kk : ∀ (H1 : Heap) (locs1 : List Loc), va_P D vwCl (wl ad ca σ) H1 → va_S A s.heap H1 locs1 → W p l e R s m args below meth c H1 locs1 cells slots Q (F0 m (pc + 3) ls (.int (f_distance x0 x1) :: rest))) : W p l e R s m args below meth c H locs cells slots Q (F0 m pc ls (.int x1 :: .int x0 :: rest)) := by
  refine q_bi X hS (q_runS (as := [.int x0, .int x1]) X hP hS (q_cwS (rm := ({ frames := 1, cells := 0, slots := 0, locals := 21 } : Room)) (k := 2) X.2.2.2.2.1 hlk wd102 wd2 wd103 rfl rfl (by decide +kernel) ⟨hR.1, hR.2⟩) (c_distance l D ad ca tw X.2.2.2.2.2.2.1 σ x0 x1 hwf ) rfl hsz rfl hrs hdg hcap) (fun r u H1 locs1 h1 h2 h3 => ?_)
  obtain ⟨rfl, rfl⟩ := h1
  exact kk H1 locs1 h2 h3
set_option maxHeartbeats 4000000 in
set_option maxRecDepth 100000 in
theorem c_energyAt (l : Launch) (D : va_G) (ad : Nat → Nat) (ca : Nat → ClassId) (tw : Nat) (hI : ∀ i j, i < 40 → j < 40 → ad i = ad j → i = j) (σ : St) (x1 : Int32) (x2 : Int32) (hwf : WF σ)  : Met l yX3_energyAt (wm yX3_energyAt cX3_energyAt 3 (some .int)) ({ frames := 0, cells := 0, slots := 0, locals := 0 } : Room) (va_Pc [.ref (ad 0), .int x1, .int x2] (wPre D ad ca tw σ)) (va_Qi (fun r u => r = f_energyAt σ x1 x2 ∧ u = σ) (wB D ad ca) (Aw ad)) 0 0 (Aw ad) := by
  generalize hF : f_energyAt σ x1 x2 = F
  refine Met.ofW (cc := cX3_energyAt) (maxL := 3) (ret := (some .int)) (by decide) rfl ?_
  intro p e s m args below meth c s₁ B hml hv
  obtain ⟨rfl, hv⟩ := hv
  have X := q_open (own := RX3) B rfl hml hI hv
  have hx := X.1
  have hb := X.2.1
  have hts := X.2.2.2.2.1
  have hr := B.returns
  have hlocks := B.notSynchronized
  have hP := hv.1
  have hS : va_S (Aw ad) s.heap s.heap [] := va_S.rf
  have hl := lv_entry ([.ref (ad 0), .int x1, .int x2]) (n := 3) (Nat.le_of_ble_eq_true rfl)
  rw [lg_entry_eq]
  generalize (lg_sl ([.ref (ad 0), .int x1, .int x2]) ++ List.replicate (3 - (lg_sl ([.ref (ad 0), .int x1, .int x2])).length) Slot.unset).toArray = ls at hl ⊢
  have hl : lv_has ls 3 [(0, .ref (ad 0)), (1, .int x1), (2, .int x2)] := hl
  unfold f_energyAt at hF
  replace hF : (if x1 = (0 : Int32) then ((10 : Int32) * x2) else (if x1 = (1 : Int32) then ((x2 * x2) / (2 : Int32)) else (if x1 = (2 : Int32) then (((6 : Int32) * x2) + ((σ.1 0 9) * x2)) else ((5 : Int32) * x2)))) = F := hF
  refine lv_iload_n hx hb dX3_energyAt_0 rfl (lv_at hl 1 rfl) ?_
  by_cases c_1_0 : x1 = (0 : Int32)
  · rw [if_pos c_1_0] at hF
    refine lv_tableIn (off := 27) (tgt := 28) hx hb dX3_energyAt_1 (by rw [c_1_0]; decide) (by rw [c_1_0]; decide) (by rw [c_1_0]; rfl) (by decide) ?_
    refine lv_bipush (v := (10 : Int32)) hx hb dX3_energyAt_28 (by decide) ?_
    refine lv_iload_n hx hb dX3_energyAt_30 rfl (lv_at hl 2 rfl) ?_
    refine lv_imul hx hb dX3_energyAt_31 ?_
    exact W.iret (v := ((10 : Int32) * x2)) hx hb hr (fun t ht hW => ⟨⟨((10 : Int32) * x2), σ, rfl, ⟨hF, rfl⟩, wB_of ht hP⟩, hS.F ht⟩) hS.2.2 dX3_energyAt_32
  · rw [if_neg c_1_0] at hF
    by_cases c_1_1 : x1 = (1 : Int32)
    · rw [if_pos c_1_1] at hF
      refine lv_tableIn (off := 32) (tgt := 33) hx hb dX3_energyAt_1 (by rw [c_1_1]; decide) (by rw [c_1_1]; decide) (by rw [c_1_1]; rfl) (by decide) ?_
      refine lv_iload_n hx hb dX3_energyAt_33 rfl (lv_at hl 2 rfl) ?_
      refine lv_iload_n hx hb dX3_energyAt_34 rfl (lv_at hl 2 rfl) ?_
      refine lv_imul hx hb dX3_energyAt_35 ?_
      refine lv_iconst (v := (2 : Int32)) hx hb dX3_energyAt_36 (by decide) ?_
      refine lv_idiv hx hb dX3_energyAt_37 (by decide) ?_
      exact W.iret (v := ((x2 * x2) / (2 : Int32))) hx hb hr (fun t ht hW => ⟨⟨((x2 * x2) / (2 : Int32)), σ, rfl, ⟨hF, rfl⟩, wB_of ht hP⟩, hS.F ht⟩) hS.2.2 dX3_energyAt_38
    · rw [if_neg c_1_1] at hF
      by_cases c_1_2 : x1 = (2 : Int32)
      · rw [if_pos c_1_2] at hF
        refine lv_tableIn (off := 38) (tgt := 39) hx hb dX3_energyAt_1 (by rw [c_1_2]; decide) (by rw [c_1_2]; decide) (by rw [c_1_2]; rfl) (by decide) ?_
        refine lv_bipush (v := (6 : Int32)) hx hb dX3_energyAt_39 (by decide) ?_
        refine lv_iload_n hx hb dX3_energyAt_41 rfl (lv_at hl 2 rfl) ?_
        refine lv_imul hx hb dX3_energyAt_42 ?_
        refine lv_aload_n hx hb dX3_energyAt_43 rfl (lv_at hl 0 rfl) ?_
        refine q_getM (v := .int (σ.1 0 9)) X hP 9 (by decide) (hts _ wd22) rfl dX3_energyAt_44 ?_
        refine lv_iload_n hx hb dX3_energyAt_47 rfl (lv_at hl 2 rfl) ?_
        refine lv_imul hx hb dX3_energyAt_48 ?_
        refine lv_iadd hx hb dX3_energyAt_49 ?_
        exact W.iret (v := (((6 : Int32) * x2) + ((σ.1 0 9) * x2))) hx hb hr (fun t ht hW => ⟨⟨(((6 : Int32) * x2) + ((σ.1 0 9) * x2)), σ, rfl, ⟨hF, rfl⟩, wB_of ht hP⟩, hS.F ht⟩) hS.2.2 dX3_energyAt_50
      · rw [if_neg c_1_2] at hF
        refine lv_tableOut (tgt := 51) hx hb dX3_energyAt_1 (by have h0 := lv_neT c_1_0 (a := 0) (by decide); have h1 := lv_neT c_1_1 (a := 1) (by decide); have h2 := lv_neT c_1_2 (a := 2) (by decide); omega) (by decide) ?_
        refine lv_iconst (v := (5 : Int32)) hx hb dX3_energyAt_51 (by decide) ?_
        refine lv_iload_n hx hb dX3_energyAt_52 rfl (lv_at hl 2 rfl) ?_
        refine lv_imul hx hb dX3_energyAt_53 ?_
        exact W.iret (v := ((5 : Int32) * x2)) hx hb hr (fun t ht hW => ⟨⟨((5 : Int32) * x2), σ, rfl, ⟨hF, rfl⟩, wB_of ht hP⟩, hS.F ht⟩) hS.2.2 dX3_energyAt_54
theorem k_energyAt {p : Program} {l : Launch} {e : Env} {R : Room} {s : State} {m : MethodId} {args : Array Value} {below : List Frame} {meth : Method} {c : Code} {H : Heap} {locs : List Loc} {cells slots : Nat} {Q : State → Prop} {cc : ByteArray} {pc : Nat} {ls : Array Slot} {rest : List Value} {D : va_G} {A : Nat → Prop} {ad : Nat → Nat} {ca : Nat → ClassId} {tw nL : Nat} {σ : St} {own : String} {index : Nat} (X : Cx p s m args c own cc nL D ad ca tw A) (hP : va_P D vwCl (wl ad ca σ) H) (hS : va_S A s.heap H locs) (hR : 1 ≤ R.frames ∧ 22 ≤ R.locals) (hcap : cells ≤ R.cells ∧ slots ≤ R.slots) (hlk : Cond.methodLink own index yX3_energyAt ∈ wsL_law0) (hsz : ls.size = nL) (hrs : (rest.map fun v => v.category).sum ≤ 8) (hdg : decode cc pc = .ok (.invokevirtual index, 3)) (x1 : Int32) (x2 : Int32) (hwf : WF σ) 
    (kk : ∀ (H1 : Heap) (locs1 : List Loc), va_P D vwCl (wl ad ca σ) H1 → va_S A s.heap H1 locs1 → W p l e R s m args below meth c H1 locs1 cells slots Q (F0 m (pc + 3) ls (.int (f_energyAt σ x1 x2) :: rest))) : W p l e R s m args below meth c H locs cells slots Q (F0 m pc ls (.int x2 :: .int x1 :: .ref (ad 0) :: rest)) := by
  refine q_bi X hS (q_runV (as := [.int x1, .int x2]) X hP hS (q_cwV (rm := ({ frames := 0, cells := 0, slots := 0, locals := 0 } : Room)) (k := 2) X.2.2.2.2.1 hlk wd115 wd116 wd2 wd117 rfl rfl (by decide +kernel) rfl ⟨hR.1, hR.2⟩) (c_energyAt l D ad ca tw X.2.2.2.2.2.2.1 σ x1 x2 hwf ) rfl hsz rfl hrs hdg hcap) (fun r u H1 locs1 h1 h2 h3 => ?_)
  obtain ⟨rfl, rfl⟩ := h1
  exact kk H1 locs1 h2 h3
set_option maxHeartbeats 4000000 in
set_option maxRecDepth 100000 in
theorem c_energyOf (l : Launch) (D : va_G) (ad : Nat → Nat) (ca : Nat → ClassId) (tw : Nat) (hI : ∀ i j, i < 40 → j < 40 → ad i = ad j → i = j) (σ : St) (x1 : Int32) (hwf : WF σ) (hg : vp_in x1 6) : Met l yX3_energyOf (wm yX3_energyOf cX3_energyOf 2 (some .int)) ({ frames := 1, cells := 0, slots := 0, locals := 22 } : Room) (va_Pc [.ref (ad 0), .int x1] (wPre D ad ca tw σ)) (va_Qi (fun r u => r = f_energyOf σ x1 ∧ u = σ) (wB D ad ca) (Aw ad)) 0 0 (Aw ad) := by
  generalize hF : f_energyOf σ x1 = F
  refine Met.ofW (cc := cX3_energyOf) (maxL := 2) (ret := (some .int)) (by decide) rfl ?_
  intro p e s m args below meth c s₁ B hml hv
  obtain ⟨rfl, hv⟩ := hv
  have X := q_open (own := RX3) B rfl hml hI hv
  have hx := X.1
  have hb := X.2.1
  have hts := X.2.2.2.2.1
  have hr := B.returns
  have hlocks := B.notSynchronized
  have hP := hv.1
  have hS : va_S (Aw ad) s.heap s.heap [] := va_S.rf
  have hl := lv_entry ([.ref (ad 0), .int x1]) (n := 2) (Nat.le_of_ble_eq_true rfl)
  rw [lg_entry_eq]
  generalize (lg_sl ([.ref (ad 0), .int x1]) ++ List.replicate (2 - (lg_sl ([.ref (ad 0), .int x1])).length) Slot.unset).toArray = ls at hl ⊢
  have hl : lv_has ls 2 [(0, .ref (ad 0)), (1, .int x1)] := hl
  unfold f_energyOf at hF
  replace hF : (f_energyAt σ (σ.1 (34 + x1.toNatClampNeg) 0) (σ.1 (34 + x1.toNatClampNeg) 3)) = F := hF
  refine lv_aload_n hx hb dX3_energyOf_0 rfl (lv_at hl 0 rfl) ?_
  refine lv_aload_n hx hb dX3_energyOf_1 rfl (lv_at hl 0 rfl) ?_
  refine q_getM (v := .ref (ad 3)) X hP 2 (by decide) (hts _ wd15) rfl dX3_energyOf_2 ?_
  refine lv_iload_n hx hb dX3_energyOf_5 rfl (lv_at hl 1 rfl) ?_
  refine q_aldG X hP hg dX3_energyOf_6 ?_
  refine q_getG (v := .int (σ.1 (34 + x1.toNatClampNeg) 0)) X hP x1.toNatClampNeg (ix_lt hg) 0 (by decide) (hts _ wd112) rfl dX3_energyOf_7 ?_
  refine lv_aload_n hx hb dX3_energyOf_10 rfl (lv_at hl 0 rfl) ?_
  refine q_getM (v := .ref (ad 3)) X hP 2 (by decide) (hts _ wd15) rfl dX3_energyOf_11 ?_
  refine lv_iload_n hx hb dX3_energyOf_14 rfl (lv_at hl 1 rfl) ?_
  refine q_aldG X hP hg dX3_energyOf_15 ?_
  refine q_getG (v := .int (σ.1 (34 + x1.toNatClampNeg) 3)) X hP x1.toNatClampNeg (ix_lt hg) 3 (by decide) (hts _ wd113) rfl dX3_energyOf_16 ?_
  refine k_energyAt X hP hS ⟨Nat.le_of_ble_eq_true rfl, Nat.le_of_ble_eq_true rfl⟩ ⟨Nat.zero_le _, Nat.zero_le _⟩ wd114 hl.1 (Nat.le_of_ble_eq_true rfl) dX3_energyOf_19 (σ.1 (34 + x1.toNatClampNeg) 0) (σ.1 (34 + x1.toNatClampNeg) 3) hwf  (fun H locs hP hS => ?_)
  exact W.iret (v := (f_energyAt σ (σ.1 (34 + x1.toNatClampNeg) 0) (σ.1 (34 + x1.toNatClampNeg) 3))) hx hb hr (fun t ht hW => ⟨⟨(f_energyAt σ (σ.1 (34 + x1.toNatClampNeg) 0) (σ.1 (34 + x1.toNatClampNeg) 3)), σ, rfl, ⟨hF, rfl⟩, wB_of ht hP⟩, hS.F ht⟩) hS.2.2 dX3_energyOf_22
theorem k_energyOf {p : Program} {l : Launch} {e : Env} {R : Room} {s : State} {m : MethodId} {args : Array Value} {below : List Frame} {meth : Method} {c : Code} {H : Heap} {locs : List Loc} {cells slots : Nat} {Q : State → Prop} {cc : ByteArray} {pc : Nat} {ls : Array Slot} {rest : List Value} {D : va_G} {A : Nat → Prop} {ad : Nat → Nat} {ca : Nat → ClassId} {tw nL : Nat} {σ : St} {own : String} {index : Nat} (X : Cx p s m args c own cc nL D ad ca tw A) (hP : va_P D vwCl (wl ad ca σ) H) (hS : va_S A s.heap H locs) (hR : 2 ≤ R.frames ∧ 43 ≤ R.locals) (hcap : cells ≤ R.cells ∧ slots ≤ R.slots) (hlk : Cond.methodLink own index yX3_energyOf ∈ wsL_law0) (hsz : ls.size = nL) (hrs : (rest.map fun v => v.category).sum ≤ 8) (hdg : decode cc pc = .ok (.invokevirtual index, 3)) (x1 : Int32) (hwf : WF σ) (hg : vp_in x1 6)
    (kk : ∀ (H1 : Heap) (locs1 : List Loc), va_P D vwCl (wl ad ca σ) H1 → va_S A s.heap H1 locs1 → W p l e R s m args below meth c H1 locs1 cells slots Q (F0 m (pc + 3) ls (.int (f_energyOf σ x1) :: rest))) : W p l e R s m args below meth c H locs cells slots Q (F0 m pc ls (.int x1 :: .ref (ad 0) :: rest)) := by
  refine q_bi X hS (q_runV (as := [.int x1]) X hP hS (q_cwV (rm := ({ frames := 1, cells := 0, slots := 0, locals := 22 } : Room)) (k := 1) X.2.2.2.2.1 hlk wd175 wd176 wd2 wd177 rfl rfl (by decide +kernel) rfl ⟨hR.1, hR.2⟩) (c_energyOf l D ad ca tw X.2.2.2.2.2.2.1 σ x1 hwf hg) rfl hsz rfl hrs hdg hcap) (fun r u H1 locs1 h1 h2 h3 => ?_)
  obtain ⟨rfl, rfl⟩ := h1
  exact kk H1 locs1 h2 h3
set_option maxHeartbeats 4000000 in
set_option maxRecDepth 100000 in
theorem c_ringOf (l : Launch) (D : va_G) (ad : Nat → Nat) (ca : Nat → ClassId) (tw : Nat) (hI : ∀ i j, i < 40 → j < 40 → ad i = ad j → i = j) (σ : St) (x1 : Int32) (hwf : WF σ) (hg : vp_in x1 6) : Met l yX3_ringOf (wm yX3_ringOf cX3_ringOf 2 (some .int)) ({ frames := 1, cells := 0, slots := 0, locals := 22 } : Room) (va_Pc [.ref (ad 0), .int x1] (wPre D ad ca tw σ)) (va_Qi (fun r u => r = f_ringOf σ x1 ∧ u = σ) (wB D ad ca) (Aw ad)) 0 0 (Aw ad) := by
  generalize hF : f_ringOf σ x1 = F
  refine Met.ofW (cc := cX3_ringOf) (maxL := 2) (ret := (some .int)) (by decide) rfl ?_
  intro p e s m args below meth c s₁ B hml hv
  obtain ⟨rfl, hv⟩ := hv
  have X := q_open (own := RX3) B rfl hml hI hv
  have hx := X.1
  have hb := X.2.1
  have hts := X.2.2.2.2.1
  have hr := B.returns
  have hlocks := B.notSynchronized
  have hP := hv.1
  have hS : va_S (Aw ad) s.heap s.heap [] := va_S.rf
  have hl := lv_entry ([.ref (ad 0), .int x1]) (n := 2) (Nat.le_of_ble_eq_true rfl)
  rw [lg_entry_eq]
  generalize (lg_sl ([.ref (ad 0), .int x1]) ++ List.replicate (2 - (lg_sl ([.ref (ad 0), .int x1])).length) Slot.unset).toArray = ls at hl ⊢
  have hl : lv_has ls 2 [(0, .ref (ad 0)), (1, .int x1)] := hl
  unfold f_ringOf at hF
  replace hF : ((f_energyAt σ (σ.1 (34 + x1.toNatClampNeg) 0) (σ.1 (34 + x1.toNatClampNeg) 3)) / (15 : Int32)) = F := hF
  refine lv_aload_n hx hb dX3_ringOf_0 rfl (lv_at hl 0 rfl) ?_
  refine lv_aload_n hx hb dX3_ringOf_1 rfl (lv_at hl 0 rfl) ?_
  refine q_getM (v := .ref (ad 3)) X hP 2 (by decide) (hts _ wd15) rfl dX3_ringOf_2 ?_
  refine lv_iload_n hx hb dX3_ringOf_5 rfl (lv_at hl 1 rfl) ?_
  refine q_aldG X hP hg dX3_ringOf_6 ?_
  refine q_getG (v := .int (σ.1 (34 + x1.toNatClampNeg) 0)) X hP x1.toNatClampNeg (ix_lt hg) 0 (by decide) (hts _ wd112) rfl dX3_ringOf_7 ?_
  refine lv_aload_n hx hb dX3_ringOf_10 rfl (lv_at hl 0 rfl) ?_
  refine q_getM (v := .ref (ad 3)) X hP 2 (by decide) (hts _ wd15) rfl dX3_ringOf_11 ?_
  refine lv_iload_n hx hb dX3_ringOf_14 rfl (lv_at hl 1 rfl) ?_
  refine q_aldG X hP hg dX3_ringOf_15 ?_
  refine q_getG (v := .int (σ.1 (34 + x1.toNatClampNeg) 3)) X hP x1.toNatClampNeg (ix_lt hg) 3 (by decide) (hts _ wd113) rfl dX3_ringOf_16 ?_
  refine k_energyAt X hP hS ⟨Nat.le_of_ble_eq_true rfl, Nat.le_of_ble_eq_true rfl⟩ ⟨Nat.zero_le _, Nat.zero_le _⟩ wd114 hl.1 (Nat.le_of_ble_eq_true rfl) dX3_ringOf_19 (σ.1 (34 + x1.toNatClampNeg) 0) (σ.1 (34 + x1.toNatClampNeg) 3) hwf  (fun H locs hP hS => ?_)
  refine lv_bipush (v := (15 : Int32)) hx hb dX3_ringOf_22 (by decide) ?_
  refine lv_idiv hx hb dX3_ringOf_24 (by decide) ?_
  exact W.iret (v := ((f_energyAt σ (σ.1 (34 + x1.toNatClampNeg) 0) (σ.1 (34 + x1.toNatClampNeg) 3)) / (15 : Int32))) hx hb hr (fun t ht hW => ⟨⟨((f_energyAt σ (σ.1 (34 + x1.toNatClampNeg) 0) (σ.1 (34 + x1.toNatClampNeg) 3)) / (15 : Int32)), σ, rfl, ⟨hF, rfl⟩, wB_of ht hP⟩, hS.F ht⟩) hS.2.2 dX3_ringOf_25
theorem k_ringOf {p : Program} {l : Launch} {e : Env} {R : Room} {s : State} {m : MethodId} {args : Array Value} {below : List Frame} {meth : Method} {c : Code} {H : Heap} {locs : List Loc} {cells slots : Nat} {Q : State → Prop} {cc : ByteArray} {pc : Nat} {ls : Array Slot} {rest : List Value} {D : va_G} {A : Nat → Prop} {ad : Nat → Nat} {ca : Nat → ClassId} {tw nL : Nat} {σ : St} {own : String} {index : Nat} (X : Cx p s m args c own cc nL D ad ca tw A) (hP : va_P D vwCl (wl ad ca σ) H) (hS : va_S A s.heap H locs) (hR : 2 ≤ R.frames ∧ 43 ≤ R.locals) (hcap : cells ≤ R.cells ∧ slots ≤ R.slots) (hlk : Cond.methodLink own index yX3_ringOf ∈ wsL_law0) (hsz : ls.size = nL) (hrs : (rest.map fun v => v.category).sum ≤ 8) (hdg : decode cc pc = .ok (.invokevirtual index, 3)) (x1 : Int32) (hwf : WF σ) (hg : vp_in x1 6)
    (kk : ∀ (H1 : Heap) (locs1 : List Loc), va_P D vwCl (wl ad ca σ) H1 → va_S A s.heap H1 locs1 → W p l e R s m args below meth c H1 locs1 cells slots Q (F0 m (pc + 3) ls (.int (f_ringOf σ x1) :: rest))) : W p l e R s m args below meth c H locs cells slots Q (F0 m pc ls (.int x1 :: .ref (ad 0) :: rest)) := by
  refine q_bi X hS (q_runV (as := [.int x1]) X hP hS (q_cwV (rm := ({ frames := 1, cells := 0, slots := 0, locals := 22 } : Room)) (k := 1) X.2.2.2.2.1 hlk wd109 wd110 wd2 wd111 rfl rfl (by decide +kernel) rfl ⟨hR.1, hR.2⟩) (c_ringOf l D ad ca tw X.2.2.2.2.2.2.1 σ x1 hwf hg) rfl hsz rfl hrs hdg hcap) (fun r u H1 locs1 h1 h2 h3 => ?_)
  obtain ⟨rfl, rfl⟩ := h1
  exact kk H1 locs1 h2 h3
set_option maxHeartbeats 4000000 in
set_option maxRecDepth 100000 in
theorem c_isFit (l : Launch) (D : va_G) (ad : Nat → Nat) (ca : Nat → ClassId) (tw : Nat) (hI : ∀ i j, i < 40 → j < 40 → ad i = ad j → i = j) (σ : St) (x1 : Int32) (hwf : WF σ) (hk : vp_in x1 12) : Met l yX3_isFit (wm yX3_isFit cX3_isFit 3 (some .boolean)) ({ frames := 0, cells := 0, slots := 0, locals := 0 } : Room) (va_Pc [.ref (ad 0), .int x1] (wPre D ad ca tw σ)) (va_Qi (fun r u => r = f_isFit σ x1 ∧ u = σ) (wB D ad ca) (Aw ad)) 0 0 (Aw ad) := by
  generalize hF : f_isFit σ x1 = F
  refine Met.ofW (cc := cX3_isFit) (maxL := 3) (ret := (some .boolean)) (by decide) rfl ?_
  intro p e s m args below meth c s₁ B hml hv
  obtain ⟨rfl, hv⟩ := hv
  have X := q_open (own := RX3) B rfl hml hI hv
  have hx := X.1
  have hb := X.2.1
  have hts := X.2.2.2.2.1
  have hr := B.returns
  have hlocks := B.notSynchronized
  have hP := hv.1
  have hS : va_S (Aw ad) s.heap s.heap [] := va_S.rf
  have hl := lv_entry ([.ref (ad 0), .int x1]) (n := 3) (Nat.le_of_ble_eq_true rfl)
  rw [lg_entry_eq]
  generalize (lg_sl ([.ref (ad 0), .int x1]) ++ List.replicate (3 - (lg_sl ([.ref (ad 0), .int x1])).length) Slot.unset).toArray = ls at hl ⊢
  have hl : lv_has ls 3 [(0, .ref (ad 0)), (1, .int x1)] := hl
  unfold f_isFit at hF
  replace hF : (if (σ.1 (22 + x1.toNatClampNeg) 2) ≤ (0 : Int32) then (0 : Int32) else (if (σ.1 (22 + x1.toNatClampNeg) 3) = (-1 : Int32) then (0 : Int32) else (if (2 : Int32) < ((σ.1 0 8) - (σ.1 (22 + x1.toNatClampNeg) 3)) then (0 : Int32) else (1 : Int32)))) = F := hF
  refine lv_aload_n hx hb dX3_isFit_0 rfl (lv_at hl 0 rfl) ?_
  refine q_getM (v := .ref (ad 2)) X hP 1 (by decide) (hts _ wd13) rfl dX3_isFit_1 ?_
  refine lv_iload_n hx hb dX3_isFit_4 rfl (lv_at hl 1 rfl) ?_
  refine q_aldK X hP hk dX3_isFit_5 ?_
  refine lv_astore_n (lv' := [(2, .ref (ad (22 + x1.toNatClampNeg))), (0, .ref (ad 0)), (1, .int x1)]) hx hb dX3_isFit_6 rfl hl (by decide) rfl (fun ls hl => ?_)
  refine lv_aload_n hx hb dX3_isFit_7 rfl (lv_at hl 0 rfl) ?_
  refine q_getK (v := .int (σ.1 (22 + x1.toNatClampNeg) 2)) X hP x1.toNatClampNeg (ix_lt hk) 2 (by decide) (hts _ wd193) rfl dX3_isFit_8 ?_
  refine lv_if_le (tgt := 39) hx hb dX3_isFit_11 (by decide) (fun c_11 => ?_) (fun c_11 => ?_)
  · rw [if_pos c_11] at hF
    refine lv_iconst (v := (0 : Int32)) hx hb dX3_isFit_39 (by decide) ?_
    exact W.zret (ty := .boolean) (v := (0 : Int32)) hx hb hr rfl (fun t ht hW => ⟨⟨(0 : Int32), σ, rfl, ⟨hF, rfl⟩, wB_of ht hP⟩, hS.F ht⟩) hS.2.2 dX3_isFit_40
  · rw [if_neg c_11] at hF
    refine lv_aload_n hx hb dX3_isFit_14 rfl (lv_at hl 0 rfl) ?_
    refine q_getK (v := .int (σ.1 (22 + x1.toNatClampNeg) 3)) X hP x1.toNatClampNeg (ix_lt hk) 3 (by decide) (hts _ wd194) rfl dX3_isFit_15 ?_
    refine lv_iconst (v := (-1 : Int32)) hx hb dX3_isFit_18 (by decide) ?_
    refine lv_icmp_eq (tgt := 39) hx hb dX3_isFit_19 (by decide) (fun c_19 => ?_) (fun c_19 => ?_)
    · rw [if_pos c_19] at hF
      refine lv_iconst (v := (0 : Int32)) hx hb dX3_isFit_39 (by decide) ?_
      exact W.zret (ty := .boolean) (v := (0 : Int32)) hx hb hr rfl (fun t ht hW => ⟨⟨(0 : Int32), σ, rfl, ⟨hF, rfl⟩, wB_of ht hP⟩, hS.F ht⟩) hS.2.2 dX3_isFit_40
    · rw [if_neg c_19] at hF
      refine lv_aload_n hx hb dX3_isFit_22 rfl (lv_at hl 1 rfl) ?_
      refine q_getM (v := .int (σ.1 0 8)) X hP 8 (by decide) (hts _ wd21) rfl dX3_isFit_23 ?_
      refine lv_aload_n hx hb dX3_isFit_26 rfl (lv_at hl 0 rfl) ?_
      refine q_getK (v := .int (σ.1 (22 + x1.toNatClampNeg) 3)) X hP x1.toNatClampNeg (ix_lt hk) 3 (by decide) (hts _ wd194) rfl dX3_isFit_27 ?_
      refine lv_isub hx hb dX3_isFit_30 ?_
      refine lv_iconst (v := (2 : Int32)) hx hb dX3_isFit_31 (by decide) ?_
      refine lv_icmp_gt (tgt := 39) hx hb dX3_isFit_32 (by decide) (fun c_32 => ?_) (fun c_32 => ?_)
      · rw [if_pos c_32] at hF
        refine lv_iconst (v := (0 : Int32)) hx hb dX3_isFit_39 (by decide) ?_
        exact W.zret (ty := .boolean) (v := (0 : Int32)) hx hb hr rfl (fun t ht hW => ⟨⟨(0 : Int32), σ, rfl, ⟨hF, rfl⟩, wB_of ht hP⟩, hS.F ht⟩) hS.2.2 dX3_isFit_40
      · rw [if_neg c_32] at hF
        refine lv_iconst (v := (1 : Int32)) hx hb dX3_isFit_35 (by decide) ?_
        refine lv_goto (tgt := 40) hx hb dX3_isFit_36 (by decide) ?_
        exact W.zret (ty := .boolean) (v := (1 : Int32)) hx hb hr rfl (fun t ht hW => ⟨⟨(1 : Int32), σ, rfl, ⟨hF, rfl⟩, wB_of ht hP⟩, hS.F ht⟩) hS.2.2 dX3_isFit_40
theorem k_isFit {p : Program} {l : Launch} {e : Env} {R : Room} {s : State} {m : MethodId} {args : Array Value} {below : List Frame} {meth : Method} {c : Code} {H : Heap} {locs : List Loc} {cells slots : Nat} {Q : State → Prop} {cc : ByteArray} {pc : Nat} {ls : Array Slot} {rest : List Value} {D : va_G} {A : Nat → Prop} {ad : Nat → Nat} {ca : Nat → ClassId} {tw nL : Nat} {σ : St} {own : String} {index : Nat} (X : Cx p s m args c own cc nL D ad ca tw A) (hP : va_P D vwCl (wl ad ca σ) H) (hS : va_S A s.heap H locs) (hR : 1 ≤ R.frames ∧ 22 ≤ R.locals) (hcap : cells ≤ R.cells ∧ slots ≤ R.slots) (hlk : Cond.methodLink own index yX3_isFit ∈ wsL_law0) (hsz : ls.size = nL) (hrs : (rest.map fun v => v.category).sum ≤ 8) (hdg : decode cc pc = .ok (.invokevirtual index, 3)) (x1 : Int32) (hwf : WF σ) (hk : vp_in x1 12)
    (kk : ∀ (H1 : Heap) (locs1 : List Loc), va_P D vwCl (wl ad ca σ) H1 → va_S A s.heap H1 locs1 → W p l e R s m args below meth c H1 locs1 cells slots Q (F0 m (pc + 3) ls (.int (f_isFit σ x1) :: rest))) : W p l e R s m args below meth c H locs cells slots Q (F0 m pc ls (.int x1 :: .ref (ad 0) :: rest)) := by
  refine q_bi X hS (q_runV (as := [.int x1]) X hP hS (q_cwV (rm := ({ frames := 0, cells := 0, slots := 0, locals := 0 } : Room)) (k := 1) X.2.2.2.2.1 hlk wd190 wd191 wd2 wd192 rfl rfl (by decide +kernel) rfl ⟨hR.1, hR.2⟩) (c_isFit l D ad ca tw X.2.2.2.2.2.2.1 σ x1 hwf hk) rfl hsz rfl hrs hdg hcap) (fun r u H1 locs1 h1 h2 h3 => ?_)
  obtain ⟨rfl, rfl⟩ := h1
  exact kk H1 locs1 h2 h3
set_option maxHeartbeats 4000000 in
set_option maxRecDepth 100000 in
theorem c_guards (l : Launch) (D : va_G) (ad : Nat → Nat) (ca : Nat → ClassId) (tw : Nat) (hI : ∀ i j, i < 40 → j < 40 → ad i = ad j → i = j) (σ : St) (x1 : Int32) (x2 : Int32) (hwf : WF σ) (hk : vp_in x1 12) (hg : vp_in x2 6) : Met l yX3_guards (wm yX3_guards cX3_guards 3 (some .boolean)) ({ frames := 1, cells := 0, slots := 0, locals := 22 } : Room) (va_Pc [.ref (ad 0), .int x1, .int x2] (wPre D ad ca tw σ)) (va_Qi (fun r u => r = f_guards σ x1 x2 ∧ u = σ) (wB D ad ca) (Aw ad)) 0 0 (Aw ad) := by
  generalize hF : f_guards σ x1 x2 = F
  refine Met.ofW (cc := cX3_guards) (maxL := 3) (ret := (some .boolean)) (by decide) rfl ?_
  intro p e s m args below meth c s₁ B hml hv
  obtain ⟨rfl, hv⟩ := hv
  have X := q_open (own := RX3) B rfl hml hI hv
  have hx := X.1
  have hb := X.2.1
  have hts := X.2.2.2.2.1
  have hr := B.returns
  have hlocks := B.notSynchronized
  have hP := hv.1
  have hS : va_S (Aw ad) s.heap s.heap [] := va_S.rf
  have hl := lv_entry ([.ref (ad 0), .int x1, .int x2]) (n := 3) (Nat.le_of_ble_eq_true rfl)
  rw [lg_entry_eq]
  generalize (lg_sl ([.ref (ad 0), .int x1, .int x2]) ++ List.replicate (3 - (lg_sl ([.ref (ad 0), .int x1, .int x2])).length) Slot.unset).toArray = ls at hl ⊢
  have hl : lv_has ls 3 [(0, .ref (ad 0)), (1, .int x1), (2, .int x2)] := hl
  unfold f_guards at hF
  replace hF : (if (σ.1 (22 + x1.toNatClampNeg) 4) = x2 then (if (σ.1 (22 + x1.toNatClampNeg) 0) = (σ.1 (34 + x2.toNatClampNeg) 0) then (if (f_isFit σ x1) = (0 : Int32) then (0 : Int32) else (1 : Int32)) else (0 : Int32)) else (0 : Int32)) = F := hF
  refine lv_aload_n hx hb dX3_guards_0 rfl (lv_at hl 0 rfl) ?_
  refine q_getM (v := .ref (ad 2)) X hP 1 (by decide) (hts _ wd13) rfl dX3_guards_1 ?_
  refine lv_iload_n hx hb dX3_guards_4 rfl (lv_at hl 1 rfl) ?_
  refine q_aldK X hP hk dX3_guards_5 ?_
  refine q_getK (v := .int (σ.1 (22 + x1.toNatClampNeg) 4)) X hP x1.toNatClampNeg (ix_lt hk) 4 (by decide) (hts _ wd187) rfl dX3_guards_6 ?_
  refine lv_iload_n hx hb dX3_guards_9 rfl (lv_at hl 2 rfl) ?_
  refine lv_icmp_ne (tgt := 46) hx hb dX3_guards_10 (by decide) (fun c_10 => ?_) (fun c_10 => ?_)
  · rw [if_neg c_10] at hF
    refine lv_iconst (v := (0 : Int32)) hx hb dX3_guards_46 (by decide) ?_
    exact W.zret (ty := .boolean) (v := (0 : Int32)) hx hb hr rfl (fun t ht hW => ⟨⟨(0 : Int32), σ, rfl, ⟨hF, rfl⟩, wB_of ht hP⟩, hS.F ht⟩) hS.2.2 dX3_guards_47
  · rw [if_pos c_10] at hF
    refine lv_aload_n hx hb dX3_guards_13 rfl (lv_at hl 0 rfl) ?_
    refine q_getM (v := .ref (ad 2)) X hP 1 (by decide) (hts _ wd13) rfl dX3_guards_14 ?_
    refine lv_iload_n hx hb dX3_guards_17 rfl (lv_at hl 1 rfl) ?_
    refine q_aldK X hP hk dX3_guards_18 ?_
    refine q_getK (v := .int (σ.1 (22 + x1.toNatClampNeg) 0)) X hP x1.toNatClampNeg (ix_lt hk) 0 (by decide) (hts _ wd188) rfl dX3_guards_19 ?_
    refine lv_aload_n hx hb dX3_guards_22 rfl (lv_at hl 0 rfl) ?_
    refine q_getM (v := .ref (ad 3)) X hP 2 (by decide) (hts _ wd15) rfl dX3_guards_23 ?_
    refine lv_iload_n hx hb dX3_guards_26 rfl (lv_at hl 2 rfl) ?_
    refine q_aldG X hP hg dX3_guards_27 ?_
    refine q_getG (v := .int (σ.1 (34 + x2.toNatClampNeg) 0)) X hP x2.toNatClampNeg (ix_lt hg) 0 (by decide) (hts _ wd112) rfl dX3_guards_28 ?_
    refine lv_icmp_ne (tgt := 46) hx hb dX3_guards_31 (by decide) (fun c_31 => ?_) (fun c_31 => ?_)
    · rw [if_neg c_31] at hF
      refine lv_iconst (v := (0 : Int32)) hx hb dX3_guards_46 (by decide) ?_
      exact W.zret (ty := .boolean) (v := (0 : Int32)) hx hb hr rfl (fun t ht hW => ⟨⟨(0 : Int32), σ, rfl, ⟨hF, rfl⟩, wB_of ht hP⟩, hS.F ht⟩) hS.2.2 dX3_guards_47
    · rw [if_pos c_31] at hF
      refine lv_aload_n hx hb dX3_guards_34 rfl (lv_at hl 0 rfl) ?_
      refine lv_iload_n hx hb dX3_guards_35 rfl (lv_at hl 1 rfl) ?_
      refine k_isFit X hP hS ⟨Nat.le_of_ble_eq_true rfl, Nat.le_of_ble_eq_true rfl⟩ ⟨Nat.zero_le _, Nat.zero_le _⟩ wd189 hl.1 (Nat.le_of_ble_eq_true rfl) dX3_guards_36 x1 hwf hk (fun H locs hP hS => ?_)
      refine lv_if_eq (tgt := 46) hx hb dX3_guards_39 (by decide) (fun c_39 => ?_) (fun c_39 => ?_)
      · rw [if_pos c_39] at hF
        refine lv_iconst (v := (0 : Int32)) hx hb dX3_guards_46 (by decide) ?_
        exact W.zret (ty := .boolean) (v := (0 : Int32)) hx hb hr rfl (fun t ht hW => ⟨⟨(0 : Int32), σ, rfl, ⟨hF, rfl⟩, wB_of ht hP⟩, hS.F ht⟩) hS.2.2 dX3_guards_47
      · rw [if_neg c_39] at hF
        refine lv_iconst (v := (1 : Int32)) hx hb dX3_guards_42 (by decide) ?_
        refine lv_goto (tgt := 47) hx hb dX3_guards_43 (by decide) ?_
        exact W.zret (ty := .boolean) (v := (1 : Int32)) hx hb hr rfl (fun t ht hW => ⟨⟨(1 : Int32), σ, rfl, ⟨hF, rfl⟩, wB_of ht hP⟩, hS.F ht⟩) hS.2.2 dX3_guards_47
theorem k_guards {p : Program} {l : Launch} {e : Env} {R : Room} {s : State} {m : MethodId} {args : Array Value} {below : List Frame} {meth : Method} {c : Code} {H : Heap} {locs : List Loc} {cells slots : Nat} {Q : State → Prop} {cc : ByteArray} {pc : Nat} {ls : Array Slot} {rest : List Value} {D : va_G} {A : Nat → Prop} {ad : Nat → Nat} {ca : Nat → ClassId} {tw nL : Nat} {σ : St} {own : String} {index : Nat} (X : Cx p s m args c own cc nL D ad ca tw A) (hP : va_P D vwCl (wl ad ca σ) H) (hS : va_S A s.heap H locs) (hR : 2 ≤ R.frames ∧ 44 ≤ R.locals) (hcap : cells ≤ R.cells ∧ slots ≤ R.slots) (hlk : Cond.methodLink own index yX3_guards ∈ wsL_law0) (hsz : ls.size = nL) (hrs : (rest.map fun v => v.category).sum ≤ 8) (hdg : decode cc pc = .ok (.invokevirtual index, 3)) (x1 : Int32) (x2 : Int32) (hwf : WF σ) (hk : vp_in x1 12) (hg : vp_in x2 6)
    (kk : ∀ (H1 : Heap) (locs1 : List Loc), va_P D vwCl (wl ad ca σ) H1 → va_S A s.heap H1 locs1 → W p l e R s m args below meth c H1 locs1 cells slots Q (F0 m (pc + 3) ls (.int (f_guards σ x1 x2) :: rest))) : W p l e R s m args below meth c H locs cells slots Q (F0 m pc ls (.int x2 :: .int x1 :: .ref (ad 0) :: rest)) := by
  refine q_bi X hS (q_runV (as := [.int x1, .int x2]) X hP hS (q_cwV (rm := ({ frames := 1, cells := 0, slots := 0, locals := 22 } : Room)) (k := 2) X.2.2.2.2.1 hlk wd184 wd185 wd2 wd186 rfl rfl (by decide +kernel) rfl ⟨hR.1, hR.2⟩) (c_guards l D ad ca tw X.2.2.2.2.2.2.1 σ x1 x2 hwf hk hg) rfl hsz rfl hrs hdg hcap) (fun r u H1 locs1 h1 h2 h3 => ?_)
  obtain ⟨rfl, rfl⟩ := h1
  exact kk H1 locs1 h2 h3
set_option maxHeartbeats 4000000 in
set_option maxRecDepth 100000 in
theorem c_guardOf (l : Launch) (D : va_G) (ad : Nat → Nat) (ca : Nat → ClassId) (tw : Nat) (hI : ∀ i j, i < 40 → j < 40 → ad i = ad j → i = j) (σ : St) (x1 : Int32) (hwf : WF σ) (hg : vp_in x1 6) : Met l yX3_guardOf (wm yX3_guardOf cX3_guardOf 4 (some .int)) ({ frames := 2, cells := 0, slots := 0, locals := 44 } : Room) (va_Pc [.ref (ad 0), .int x1] (wPre D ad ca tw σ)) (va_Qi (fun r u => r = f_guardOf σ x1 ∧ u = σ) (wB D ad ca) (Aw ad)) 0 0 (Aw ad) := by
  generalize hF : f_guardOf σ x1 = F
  refine Met.ofW (cc := cX3_guardOf) (maxL := 4) (ret := (some .int)) (by decide) rfl ?_
  intro p e s m args below meth c s₁ B hml hv
  obtain ⟨rfl, hv⟩ := hv
  have X := q_open (own := RX3) B rfl hml hI hv
  have hx := X.1
  have hb := X.2.1
  have hts := X.2.2.2.2.1
  have hr := B.returns
  have hlocks := B.notSynchronized
  have hP := hv.1
  have hS : va_S (Aw ad) s.heap s.heap [] := va_S.rf
  have hl := lv_entry ([.ref (ad 0), .int x1]) (n := 4) (Nat.le_of_ble_eq_true rfl)
  rw [lg_entry_eq]
  generalize (lg_sl ([.ref (ad 0), .int x1]) ++ List.replicate (4 - (lg_sl ([.ref (ad 0), .int x1])).length) Slot.unset).toArray = ls at hl ⊢
  have hl : lv_has ls 4 [(0, .ref (ad 0)), (1, .int x1)] := hl
  unfold f_guardOf at hF
  replace hF : (f_guardOf_L4 σ x1 128 (0 : Int32) (0 : Int32)) = F := hF
  refine lv_iconst (v := (0 : Int32)) hx hb dX3_guardOf_0 (by decide) ?_
  refine lv_istore_n (lv' := [(2, .int (0 : Int32)), (0, .ref (ad 0)), (1, .int x1)]) hx hb dX3_guardOf_1 rfl hl (by decide) rfl (fun ls hl => ?_)
  refine lv_iconst (v := (0 : Int32)) hx hb dX3_guardOf_2 (by decide) ?_
  refine lv_istore_n (lv' := [(3, .int (0 : Int32)), (2, .int (0 : Int32)), (0, .ref (ad 0)), (1, .int x1)]) hx hb dX3_guardOf_3 rfl hl (by decide) rfl (fun ls hl => ?_)
  have L_4 : ∀ (n_4 : Nat) (y3_4 : Int32) (y2_4 : Int32) (H : Heap) (locs : List Loc) (ls : Array Slot), lpI 12 y3_4 n_4 → va_P D vwCl (wl ad ca σ) H → va_S (Aw ad) s.heap H locs → lv_has ls 4 [(3, .int y3_4), (2, .int y2_4), (0, .ref (ad 0)), (1, .int x1)] → f_guardOf_L4 σ x1 (n_4) y3_4 y2_4 = F → W p l e (headSpec (wm yX3_guardOf cX3_guardOf 4 (some .int)) ({ frames := 2, cells := 0, slots := 0, locals := 44 } : Room)).room s m ([.ref (ad 0), .int x1] : List Value).toArray below meth c H locs 0 0 (MQ below (va_Qi (fun r u => r = F ∧ u = σ) (wB D ad ca) (Aw ad)) ([.ref (ad 0), .int x1] : List Value).toArray s 0 0 (Aw ad)) (F0 m 4 ls []) := by
    intro n_4
    induction n_4 with
    | zero => intro y3_4 y2_4 H locs ls hi_4 _ _ _ _; exact absurd hi_4 (fun h => lp_0 h)
    | succ n_4 ih_4 =>
      intro y3_4 y2_4 H locs ls hi_4 hP hS hl hF
      rw [f_guardOf_L4] at hF
      refine lv_iload_n hx hb dX3_guardOf_4 rfl (lv_at hl 0 rfl) ?_
      refine lv_aload_n hx hb dX3_guardOf_5 rfl (lv_at hl 2 rfl) ?_
      refine q_getM (v := .int (σ.1 0 4)) X hP 4 (by decide) (hts _ wd17) rfl dX3_guardOf_6 ?_
      refine lv_icmp_ge (tgt := 39) hx hb dX3_guardOf_9 (by decide) (fun c_9 => ?_) (fun c_9 => ?_)
      · rw [if_pos c_9] at hF
        refine lv_iload_n hx hb dX3_guardOf_39 rfl (lv_at hl 1 rfl) ?_
        exact W.iret (v := y2_4) hx hb hr (fun t ht hW => ⟨⟨y2_4, σ, rfl, ⟨hF, rfl⟩, wB_of ht hP⟩, hS.F ht⟩) hS.2.2 dX3_guardOf_40
      · have hlt_4 : y3_4.toInt < 12 := lt_nle c_9 hwf.2.1.2
        rw [if_neg c_9] at hF
        refine lv_aload_n hx hb dX3_guardOf_12 rfl (lv_at hl 2 rfl) ?_
        refine lv_iload_n hx hb dX3_guardOf_13 rfl (lv_at hl 0 rfl) ?_
        refine lv_iload_n hx hb dX3_guardOf_14 rfl (lv_at hl 3 rfl) ?_
        refine k_guards X hP hS ⟨Nat.le_of_ble_eq_true rfl, Nat.le_of_ble_eq_true rfl⟩ ⟨Nat.zero_le _, Nat.zero_le _⟩ wd183 hl.1 (Nat.le_of_ble_eq_true rfl) dX3_guardOf_15 y3_4 x1 hwf (lp_i hi_4 hlt_4) hg (fun H locs hP hS => ?_)
        refine lv_if_eq (tgt := 33) hx hb dX3_guardOf_18 (by decide) (fun c_18 => ?_) (fun c_18 => ?_)
        · rw [if_pos c_18] at hF
          refine lv_iinc (v := (y3_4 + (1 : Int32))) (lv' := [(3, .int (y3_4 + (1 : Int32))), (2, .int y2_4), (0, .ref (ad 0)), (1, .int x1)]) hx hb dX3_guardOf_33 hl (k := 0) rfl rfl (by decide) rfl (fun ls hl => ?_)
          refine lv_goto (tgt := 4) hx hb dX3_guardOf_36 (by decide) ?_
          exact ih_4 (y3_4 + (1 : Int32)) y2_4 _ _ _ (lp_s hi_4 hlt_4) hP hS (lv_sub hl [0, 1, 2, 3] rfl) hF
        · rw [if_neg c_18] at hF
          refine lv_iload_n hx hb dX3_guardOf_21 rfl (lv_at hl 1 rfl) ?_
          refine lv_aload_n hx hb dX3_guardOf_22 rfl (lv_at hl 2 rfl) ?_
          refine q_getM (v := .ref (ad 2)) X hP 1 (by decide) (hts _ wd13) rfl dX3_guardOf_23 ?_
          refine lv_iload_n hx hb dX3_guardOf_26 rfl (lv_at hl 0 rfl) ?_
          refine q_aldK X hP (lp_i hi_4 hlt_4) dX3_guardOf_27 ?_
          refine q_getK (v := .int (σ.1 (22 + y3_4.toNatClampNeg) 1)) X hP y3_4.toNatClampNeg (ix_lt (lp_i hi_4 hlt_4)) 1 (by decide) (hts _ wd182) rfl dX3_guardOf_28 ?_
          refine lv_iadd hx hb dX3_guardOf_31 ?_
          refine lv_istore_n (lv' := [(2, .int (y2_4 + (σ.1 (22 + y3_4.toNatClampNeg) 1))), (3, .int y3_4), (0, .ref (ad 0)), (1, .int x1)]) hx hb dX3_guardOf_32 rfl hl (by decide) rfl (fun ls hl => ?_)
          refine lv_iinc (v := (y3_4 + (1 : Int32))) (lv' := [(3, .int (y3_4 + (1 : Int32))), (2, .int (y2_4 + (σ.1 (22 + y3_4.toNatClampNeg) 1))), (0, .ref (ad 0)), (1, .int x1)]) hx hb dX3_guardOf_33 hl (k := 1) rfl rfl (by decide) rfl (fun ls hl => ?_)
          refine lv_goto (tgt := 4) hx hb dX3_guardOf_36 (by decide) ?_
          exact ih_4 (y3_4 + (1 : Int32)) (y2_4 + (σ.1 (22 + y3_4.toNatClampNeg) 1)) _ _ _ (lp_s hi_4 hlt_4) hP hS (lv_sub hl [0, 1, 2, 3] rfl) hF
  exact L_4 128 (0 : Int32) (0 : Int32) _ _ _ (lp_z (by decide)) hP hS hl hF
theorem k_guardOf {p : Program} {l : Launch} {e : Env} {R : Room} {s : State} {m : MethodId} {args : Array Value} {below : List Frame} {meth : Method} {c : Code} {H : Heap} {locs : List Loc} {cells slots : Nat} {Q : State → Prop} {cc : ByteArray} {pc : Nat} {ls : Array Slot} {rest : List Value} {D : va_G} {A : Nat → Prop} {ad : Nat → Nat} {ca : Nat → ClassId} {tw nL : Nat} {σ : St} {own : String} {index : Nat} (X : Cx p s m args c own cc nL D ad ca tw A) (hP : va_P D vwCl (wl ad ca σ) H) (hS : va_S A s.heap H locs) (hR : 3 ≤ R.frames ∧ 67 ≤ R.locals) (hcap : cells ≤ R.cells ∧ slots ≤ R.slots) (hlk : Cond.methodLink own index yX3_guardOf ∈ wsL_law0) (hsz : ls.size = nL) (hrs : (rest.map fun v => v.category).sum ≤ 8) (hdg : decode cc pc = .ok (.invokevirtual index, 3)) (x1 : Int32) (hwf : WF σ) (hg : vp_in x1 6)
    (kk : ∀ (H1 : Heap) (locs1 : List Loc), va_P D vwCl (wl ad ca σ) H1 → va_S A s.heap H1 locs1 → W p l e R s m args below meth c H1 locs1 cells slots Q (F0 m (pc + 3) ls (.int (f_guardOf σ x1) :: rest))) : W p l e R s m args below meth c H locs cells slots Q (F0 m pc ls (.int x1 :: .ref (ad 0) :: rest)) := by
  refine q_bi X hS (q_runV (as := [.int x1]) X hP hS (q_cwV (rm := ({ frames := 2, cells := 0, slots := 0, locals := 44 } : Room)) (k := 1) X.2.2.2.2.1 hlk wd179 wd180 wd2 wd181 rfl rfl (by decide +kernel) rfl ⟨hR.1, hR.2⟩) (c_guardOf l D ad ca tw X.2.2.2.2.2.2.1 σ x1 hwf hg) rfl hsz rfl hrs hdg hcap) (fun r u H1 locs1 h1 h2 h3 => ?_)
  obtain ⟨rfl, rfl⟩ := h1
  exact kk H1 locs1 h2 h3
set_option maxHeartbeats 4000000 in
set_option maxRecDepth 100000 in
theorem c_performersShare (l : Launch) (D : va_G) (ad : Nat → Nat) (ca : Nat → ClassId) (tw : Nat) (hI : ∀ i j, i < 40 → j < 40 → ad i = ad j → i = j) (σ : St) (x1 : Int32) (x2 : Int32) (hwf : WF σ) (hp : vp_in x1 8) (hk : vp_in x2 4) : Met l yX3_performersShare (wm yX3_performersShare cX3_performersShare 4 (some .int)) ({ frames := 0, cells := 0, slots := 0, locals := 0 } : Room) (va_Pc [.ref (ad 0), .int x1, .int x2] (wPre D ad ca tw σ)) (va_Qi (fun r u => r = f_performersShare σ x1 x2 ∧ u = σ) (wB D ad ca) (Aw ad)) 0 0 (Aw ad) := by
  generalize hF : f_performersShare σ x1 x2 = F
  refine Met.ofW (cc := cX3_performersShare) (maxL := 4) (ret := (some .int)) (by decide) rfl ?_
  intro p e s m args below meth c s₁ B hml hv
  obtain ⟨rfl, hv⟩ := hv
  have X := q_open (own := RX3) B rfl hml hI hv
  have hx := X.1
  have hb := X.2.1
  have hts := X.2.2.2.2.1
  have hr := B.returns
  have hlocks := B.notSynchronized
  have hP := hv.1
  have hS : va_S (Aw ad) s.heap s.heap [] := va_S.rf
  have hl := lv_entry ([.ref (ad 0), .int x1, .int x2]) (n := 4) (Nat.le_of_ble_eq_true rfl)
  rw [lg_entry_eq]
  generalize (lg_sl ([.ref (ad 0), .int x1, .int x2]) ++ List.replicate (4 - (lg_sl ([.ref (ad 0), .int x1, .int x2])).length) Slot.unset).toArray = ls at hl ⊢
  have hl : lv_has ls 4 [(0, .ref (ad 0)), (1, .int x1), (2, .int x2)] := hl
  unfold f_performersShare at hF
  replace hF : (((((5 : Int32) * (σ.1 (6 + x1.toNatClampNeg + 8) x2.toNatClampNeg)) + (20 : Int32)) - ((σ.1 (6 + x1.toNatClampNeg) 6) / (2 : Int32))) - ((5 : Int32) * (σ.1 4 x2.toNatClampNeg))) = F := hF
  refine lv_aload_n hx hb dX3_performersShare_0 rfl (lv_at hl 0 rfl) ?_
  refine q_getM (v := .ref (ad 1)) X hP 0 (by decide) (hts _ wd11) rfl dX3_performersShare_1 ?_
  refine lv_iload_n hx hb dX3_performersShare_4 rfl (lv_at hl 1 rfl) ?_
  refine q_aldP X hP hp dX3_performersShare_5 ?_
  refine lv_astore_n (lv' := [(3, .ref (ad (6 + x1.toNatClampNeg))), (0, .ref (ad 0)), (1, .int x1), (2, .int x2)]) hx hb dX3_performersShare_6 rfl hl (by decide) rfl (fun ls hl => ?_)
  refine lv_iconst (v := (5 : Int32)) hx hb dX3_performersShare_7 (by decide) ?_
  refine lv_aload_n hx hb dX3_performersShare_8 rfl (lv_at hl 0 rfl) ?_
  refine q_getP (v := .ref (ad (6 + x1.toNatClampNeg + 8))) X hP x1.toNatClampNeg (ix_lt hp) 0 (by decide) (hts _ wd127) rfl dX3_performersShare_9 ?_
  refine lv_iload_n hx hb dX3_performersShare_12 rfl (lv_at hl 3 rfl) ?_
  refine q_iald X hP (6 + x1.toNatClampNeg + 8) (Or.inr (by have := (ix_lt hp); omega)) hk dX3_performersShare_13 ?_
  refine lv_imul hx hb dX3_performersShare_14 ?_
  refine lv_bipush (v := (20 : Int32)) hx hb dX3_performersShare_15 (by decide) ?_
  refine lv_iadd hx hb dX3_performersShare_17 ?_
  refine lv_aload_n hx hb dX3_performersShare_18 rfl (lv_at hl 0 rfl) ?_
  refine q_getP (v := .int (σ.1 (6 + x1.toNatClampNeg) 6)) X hP x1.toNatClampNeg (ix_lt hp) 6 (by decide) (hts _ wd203) rfl dX3_performersShare_19 ?_
  refine lv_iconst (v := (2 : Int32)) hx hb dX3_performersShare_22 (by decide) ?_
  refine lv_idiv hx hb dX3_performersShare_23 (by decide) ?_
  refine lv_isub hx hb dX3_performersShare_24 ?_
  refine lv_iconst (v := (5 : Int32)) hx hb dX3_performersShare_25 (by decide) ?_
  refine lv_aload_n hx hb dX3_performersShare_26 rfl (lv_at hl 1 rfl) ?_
  refine q_getM (v := .ref (ad 4)) X hP 6 (by decide) (hts _ wd19) rfl dX3_performersShare_27 ?_
  refine lv_iload_n hx hb dX3_performersShare_30 rfl (lv_at hl 3 rfl) ?_
  refine q_iald X hP 4 (by decide) hk dX3_performersShare_31 ?_
  refine lv_imul hx hb dX3_performersShare_32 ?_
  refine lv_isub hx hb dX3_performersShare_33 ?_
  exact W.iret (v := (((((5 : Int32) * (σ.1 (6 + x1.toNatClampNeg + 8) x2.toNatClampNeg)) + (20 : Int32)) - ((σ.1 (6 + x1.toNatClampNeg) 6) / (2 : Int32))) - ((5 : Int32) * (σ.1 4 x2.toNatClampNeg)))) hx hb hr (fun t ht hW => ⟨⟨(((((5 : Int32) * (σ.1 (6 + x1.toNatClampNeg + 8) x2.toNatClampNeg)) + (20 : Int32)) - ((σ.1 (6 + x1.toNatClampNeg) 6) / (2 : Int32))) - ((5 : Int32) * (σ.1 4 x2.toNatClampNeg))), σ, rfl, ⟨hF, rfl⟩, wB_of ht hP⟩, hS.F ht⟩) hS.2.2 dX3_performersShare_34
theorem k_performersShare {p : Program} {l : Launch} {e : Env} {R : Room} {s : State} {m : MethodId} {args : Array Value} {below : List Frame} {meth : Method} {c : Code} {H : Heap} {locs : List Loc} {cells slots : Nat} {Q : State → Prop} {cc : ByteArray} {pc : Nat} {ls : Array Slot} {rest : List Value} {D : va_G} {A : Nat → Prop} {ad : Nat → Nat} {ca : Nat → ClassId} {tw nL : Nat} {σ : St} {own : String} {index : Nat} (X : Cx p s m args c own cc nL D ad ca tw A) (hP : va_P D vwCl (wl ad ca σ) H) (hS : va_S A s.heap H locs) (hR : 1 ≤ R.frames ∧ 23 ≤ R.locals) (hcap : cells ≤ R.cells ∧ slots ≤ R.slots) (hlk : Cond.methodLink own index yX3_performersShare ∈ wsL_law0) (hsz : ls.size = nL) (hrs : (rest.map fun v => v.category).sum ≤ 8) (hdg : decode cc pc = .ok (.invokevirtual index, 3)) (x1 : Int32) (x2 : Int32) (hwf : WF σ) (hp : vp_in x1 8) (hk : vp_in x2 4)
    (kk : ∀ (H1 : Heap) (locs1 : List Loc), va_P D vwCl (wl ad ca σ) H1 → va_S A s.heap H1 locs1 → W p l e R s m args below meth c H1 locs1 cells slots Q (F0 m (pc + 3) ls (.int (f_performersShare σ x1 x2) :: rest))) : W p l e R s m args below meth c H locs cells slots Q (F0 m pc ls (.int x2 :: .int x1 :: .ref (ad 0) :: rest)) := by
  refine q_bi X hS (q_runV (as := [.int x1, .int x2]) X hP hS (q_cwV (rm := ({ frames := 0, cells := 0, slots := 0, locals := 0 } : Room)) (k := 2) X.2.2.2.2.1 hlk wd200 wd201 wd2 wd202 rfl rfl (by decide +kernel) rfl ⟨hR.1, hR.2⟩) (c_performersShare l D ad ca tw X.2.2.2.2.2.2.1 σ x1 x2 hwf hp hk) rfl hsz rfl hrs hdg hcap) (fun r u H1 locs1 h1 h2 h3 => ?_)
  obtain ⟨rfl, rfl⟩ := h1
  exact kk H1 locs1 h2 h3
set_option maxHeartbeats 4000000 in
set_option maxRecDepth 100000 in
theorem c_marginOf (l : Launch) (D : va_G) (ad : Nat → Nat) (ca : Nat → ClassId) (tw : Nat) (hI : ∀ i j, i < 40 → j < 40 → ad i = ad j → i = j) (σ : St) (x1 : Int32) (hwf : WF σ) (hg : vp_in x1 6) : Met l yX3_marginOf (wm yX3_marginOf cX3_marginOf 2 (some .int)) ({ frames := 3, cells := 0, slots := 0, locals := 67 } : Room) (va_Pc [.ref (ad 0), .int x1] (wPre D ad ca tw σ)) (va_Qi (fun r u => r = f_marginOf σ x1 ∧ u = σ) (wB D ad ca) (Aw ad)) 0 0 (Aw ad) := by
  generalize hF : f_marginOf σ x1 = F
  refine Met.ofW (cc := cX3_marginOf) (maxL := 2) (ret := (some .int)) (by decide) rfl ?_
  intro p e s m args below meth c s₁ B hml hv
  obtain ⟨rfl, hv⟩ := hv
  have X := q_open (own := RX3) B rfl hml hI hv
  have hx := X.1
  have hb := X.2.1
  have hts := X.2.2.2.2.1
  have hr := B.returns
  have hlocks := B.notSynchronized
  have hP := hv.1
  have hS : va_S (Aw ad) s.heap s.heap [] := va_S.rf
  have hl := lv_entry ([.ref (ad 0), .int x1]) (n := 2) (Nat.le_of_ble_eq_true rfl)
  rw [lg_entry_eq]
  generalize (lg_sl ([.ref (ad 0), .int x1]) ++ List.replicate (2 - (lg_sl ([.ref (ad 0), .int x1])).length) Slot.unset).toArray = ls at hl ⊢
  have hl : lv_has ls 2 [(0, .ref (ad 0)), (1, .int x1)] := hl
  unfold f_marginOf at hF
  replace hF : (((f_guardOf σ x1) + (f_performersShare σ (σ.1 (34 + x1.toNatClampNeg) 1) (σ.1 (34 + x1.toNatClampNeg) 0))) - (f_energyOf σ x1)) = F := hF
  refine lv_aload_n hx hb dX3_marginOf_0 rfl (lv_at hl 0 rfl) ?_
  refine lv_iload_n hx hb dX3_marginOf_1 rfl (lv_at hl 1 rfl) ?_
  refine k_guardOf X hP hS ⟨Nat.le_of_ble_eq_true rfl, Nat.le_of_ble_eq_true rfl⟩ ⟨Nat.zero_le _, Nat.zero_le _⟩ wd178 hl.1 (Nat.le_of_ble_eq_true rfl) dX3_marginOf_2 x1 hwf hg (fun H locs hP hS => ?_)
  refine lv_aload_n hx hb dX3_marginOf_5 rfl (lv_at hl 0 rfl) ?_
  refine lv_aload_n hx hb dX3_marginOf_6 rfl (lv_at hl 0 rfl) ?_
  refine q_getM (v := .ref (ad 3)) X hP 2 (by decide) (hts _ wd15) rfl dX3_marginOf_7 ?_
  refine lv_iload_n hx hb dX3_marginOf_10 rfl (lv_at hl 1 rfl) ?_
  refine q_aldG X hP hg dX3_marginOf_11 ?_
  refine q_getG (v := .int (σ.1 (34 + x1.toNatClampNeg) 1)) X hP x1.toNatClampNeg (ix_lt hg) 1 (by decide) (hts _ wd98) rfl dX3_marginOf_12 ?_
  refine lv_aload_n hx hb dX3_marginOf_15 rfl (lv_at hl 0 rfl) ?_
  refine q_getM (v := .ref (ad 3)) X hP 2 (by decide) (hts _ wd15) rfl dX3_marginOf_16 ?_
  refine lv_iload_n hx hb dX3_marginOf_19 rfl (lv_at hl 1 rfl) ?_
  refine q_aldG X hP hg dX3_marginOf_20 ?_
  refine q_getG (v := .int (σ.1 (34 + x1.toNatClampNeg) 0)) X hP x1.toNatClampNeg (ix_lt hg) 0 (by decide) (hts _ wd112) rfl dX3_marginOf_21 ?_
  refine k_performersShare X hP hS ⟨Nat.le_of_ble_eq_true rfl, Nat.le_of_ble_eq_true rfl⟩ ⟨Nat.zero_le _, Nat.zero_le _⟩ wd199 hl.1 (Nat.le_of_ble_eq_true rfl) dX3_marginOf_24 (σ.1 (34 + x1.toNatClampNeg) 1) (σ.1 (34 + x1.toNatClampNeg) 0) hwf (WF.gp hwf hg) (WF.gk hwf hg) (fun H locs hP hS => ?_)
  refine lv_iadd hx hb dX3_marginOf_27 ?_
  refine lv_aload_n hx hb dX3_marginOf_28 rfl (lv_at hl 0 rfl) ?_
  refine lv_iload_n hx hb dX3_marginOf_29 rfl (lv_at hl 1 rfl) ?_
  refine k_energyOf X hP hS ⟨Nat.le_of_ble_eq_true rfl, Nat.le_of_ble_eq_true rfl⟩ ⟨Nat.zero_le _, Nat.zero_le _⟩ wd174 hl.1 (Nat.le_of_ble_eq_true rfl) dX3_marginOf_30 x1 hwf hg (fun H locs hP hS => ?_)
  refine lv_isub hx hb dX3_marginOf_33 ?_
  exact W.iret (v := (((f_guardOf σ x1) + (f_performersShare σ (σ.1 (34 + x1.toNatClampNeg) 1) (σ.1 (34 + x1.toNatClampNeg) 0))) - (f_energyOf σ x1))) hx hb hr (fun t ht hW => ⟨⟨(((f_guardOf σ x1) + (f_performersShare σ (σ.1 (34 + x1.toNatClampNeg) 1) (σ.1 (34 + x1.toNatClampNeg) 0))) - (f_energyOf σ x1)), σ, rfl, ⟨hF, rfl⟩, wB_of ht hP⟩, hS.F ht⟩) hS.2.2 dX3_marginOf_34
theorem k_marginOf {p : Program} {l : Launch} {e : Env} {R : Room} {s : State} {m : MethodId} {args : Array Value} {below : List Frame} {meth : Method} {c : Code} {H : Heap} {locs : List Loc} {cells slots : Nat} {Q : State → Prop} {cc : ByteArray} {pc : Nat} {ls : Array Slot} {rest : List Value} {D : va_G} {A : Nat → Prop} {ad : Nat → Nat} {ca : Nat → ClassId} {tw nL : Nat} {σ : St} {own : String} {index : Nat} (X : Cx p s m args c own cc nL D ad ca tw A) (hP : va_P D vwCl (wl ad ca σ) H) (hS : va_S A s.heap H locs) (hR : 4 ≤ R.frames ∧ 88 ≤ R.locals) (hcap : cells ≤ R.cells ∧ slots ≤ R.slots) (hlk : Cond.methodLink own index yX3_marginOf ∈ wsL_law0) (hsz : ls.size = nL) (hrs : (rest.map fun v => v.category).sum ≤ 8) (hdg : decode cc pc = .ok (.invokevirtual index, 3)) (x1 : Int32) (hwf : WF σ) (hg : vp_in x1 6)
    (kk : ∀ (H1 : Heap) (locs1 : List Loc), va_P D vwCl (wl ad ca σ) H1 → va_S A s.heap H1 locs1 → W p l e R s m args below meth c H1 locs1 cells slots Q (F0 m (pc + 3) ls (.int (f_marginOf σ x1) :: rest))) : W p l e R s m args below meth c H locs cells slots Q (F0 m pc ls (.int x1 :: .ref (ad 0) :: rest)) := by
  refine q_bi X hS (q_runV (as := [.int x1]) X hP hS (q_cwV (rm := ({ frames := 3, cells := 0, slots := 0, locals := 67 } : Room)) (k := 1) X.2.2.2.2.1 hlk wd196 wd197 wd2 wd198 rfl rfl (by decide +kernel) rfl ⟨hR.1, hR.2⟩) (c_marginOf l D ad ca tw X.2.2.2.2.2.2.1 σ x1 hwf hg) rfl hsz rfl hrs hdg hcap) (fun r u H1 locs1 h1 h2 h3 => ?_)
  obtain ⟨rfl, rfl⟩ := h1
  exact kk H1 locs1 h2 h3
set_option maxHeartbeats 4000000 in
set_option maxRecDepth 100000 in
theorem c_marginWithoutEnergy (l : Launch) (D : va_G) (ad : Nat → Nat) (ca : Nat → ClassId) (tw : Nat) (hI : ∀ i j, i < 40 → j < 40 → ad i = ad j → i = j) (σ : St) (x1 : Int32) (hwf : WF σ) (hg : vp_in x1 6) : Met l yX3_marginWithoutEnergy (wm yX3_marginWithoutEnergy cX3_marginWithoutEnergy 2 (some .int)) ({ frames := 4, cells := 0, slots := 0, locals := 88 } : Room) (va_Pc [.ref (ad 0), .int x1] (wPre D ad ca tw σ)) (va_Qi (fun r u => r = f_marginWithoutEnergy σ x1 ∧ u = σ) (wB D ad ca) (Aw ad)) 0 0 (Aw ad) := by
  generalize hF : f_marginWithoutEnergy σ x1 = F
  refine Met.ofW (cc := cX3_marginWithoutEnergy) (maxL := 2) (ret := (some .int)) (by decide) rfl ?_
  intro p e s m args below meth c s₁ B hml hv
  obtain ⟨rfl, hv⟩ := hv
  have X := q_open (own := RX3) B rfl hml hI hv
  have hx := X.1
  have hb := X.2.1
  have hts := X.2.2.2.2.1
  have hr := B.returns
  have hlocks := B.notSynchronized
  have hP := hv.1
  have hS : va_S (Aw ad) s.heap s.heap [] := va_S.rf
  have hl := lv_entry ([.ref (ad 0), .int x1]) (n := 2) (Nat.le_of_ble_eq_true rfl)
  rw [lg_entry_eq]
  generalize (lg_sl ([.ref (ad 0), .int x1]) ++ List.replicate (2 - (lg_sl ([.ref (ad 0), .int x1])).length) Slot.unset).toArray = ls at hl ⊢
  have hl : lv_has ls 2 [(0, .ref (ad 0)), (1, .int x1)] := hl
  unfold f_marginWithoutEnergy at hF
  replace hF : ((f_marginOf σ x1) + (f_energyOf σ x1)) = F := hF
  refine lv_aload_n hx hb dX3_marginWithoutEnergy_0 rfl (lv_at hl 0 rfl) ?_
  refine lv_iload_n hx hb dX3_marginWithoutEnergy_1 rfl (lv_at hl 1 rfl) ?_
  refine k_marginOf X hP hS ⟨Nat.le_of_ble_eq_true rfl, Nat.le_of_ble_eq_true rfl⟩ ⟨Nat.zero_le _, Nat.zero_le _⟩ wd195 hl.1 (Nat.le_of_ble_eq_true rfl) dX3_marginWithoutEnergy_2 x1 hwf hg (fun H locs hP hS => ?_)
  refine lv_aload_n hx hb dX3_marginWithoutEnergy_5 rfl (lv_at hl 0 rfl) ?_
  refine lv_iload_n hx hb dX3_marginWithoutEnergy_6 rfl (lv_at hl 1 rfl) ?_
  refine k_energyOf X hP hS ⟨Nat.le_of_ble_eq_true rfl, Nat.le_of_ble_eq_true rfl⟩ ⟨Nat.zero_le _, Nat.zero_le _⟩ wd174 hl.1 (Nat.le_of_ble_eq_true rfl) dX3_marginWithoutEnergy_7 x1 hwf hg (fun H locs hP hS => ?_)
  refine lv_iadd hx hb dX3_marginWithoutEnergy_10 ?_
  exact W.iret (v := ((f_marginOf σ x1) + (f_energyOf σ x1))) hx hb hr (fun t ht hW => ⟨⟨((f_marginOf σ x1) + (f_energyOf σ x1)), σ, rfl, ⟨hF, rfl⟩, wB_of ht hP⟩, hS.F ht⟩) hS.2.2 dX3_marginWithoutEnergy_11
theorem k_marginWithoutEnergy {p : Program} {l : Launch} {e : Env} {R : Room} {s : State} {m : MethodId} {args : Array Value} {below : List Frame} {meth : Method} {c : Code} {H : Heap} {locs : List Loc} {cells slots : Nat} {Q : State → Prop} {cc : ByteArray} {pc : Nat} {ls : Array Slot} {rest : List Value} {D : va_G} {A : Nat → Prop} {ad : Nat → Nat} {ca : Nat → ClassId} {tw nL : Nat} {σ : St} {own : String} {index : Nat} (X : Cx p s m args c own cc nL D ad ca tw A) (hP : va_P D vwCl (wl ad ca σ) H) (hS : va_S A s.heap H locs) (hR : 5 ≤ R.frames ∧ 109 ≤ R.locals) (hcap : cells ≤ R.cells ∧ slots ≤ R.slots) (hlk : Cond.methodLink own index yX3_marginWithoutEnergy ∈ wsL_law0) (hsz : ls.size = nL) (hrs : (rest.map fun v => v.category).sum ≤ 8) (hdg : decode cc pc = .ok (.invokevirtual index, 3)) (x1 : Int32) (hwf : WF σ) (hg : vp_in x1 6)
    (kk : ∀ (H1 : Heap) (locs1 : List Loc), va_P D vwCl (wl ad ca σ) H1 → va_S A s.heap H1 locs1 → W p l e R s m args below meth c H1 locs1 cells slots Q (F0 m (pc + 3) ls (.int (f_marginWithoutEnergy σ x1) :: rest))) : W p l e R s m args below meth c H locs cells slots Q (F0 m pc ls (.int x1 :: .ref (ad 0) :: rest)) := by
  refine q_bi X hS (q_runV (as := [.int x1]) X hP hS (q_cwV (rm := ({ frames := 4, cells := 0, slots := 0, locals := 88 } : Room)) (k := 1) X.2.2.2.2.1 hlk wd289 wd290 wd2 wd291 rfl rfl (by decide +kernel) rfl ⟨hR.1, hR.2⟩) (c_marginWithoutEnergy l D ad ca tw X.2.2.2.2.2.2.1 σ x1 hwf hg) rfl hsz rfl hrs hdg hcap) (fun r u H1 locs1 h1 h2 h3 => ?_)
  obtain ⟨rfl, rfl⟩ := h1
  exact kk H1 locs1 h2 h3
