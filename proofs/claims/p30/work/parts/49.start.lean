set_option maxHeartbeats 8000000 in
set_option maxRecDepth 100000 in
/-- from the entry, for every script of at most 260 ints, the law comes to its end with true -/
theorem whole_start {p : Program} {e : Env} {s : State} {m : MethodId} {below : List Frame} {meth : Method} {c : Code} (l : Launch) (hflags : l.flags = flags0) {b L : Nat} {xs : Nat → Int32} (hL : L ≤ 260) (C0 : lw_At p s m meth c b L xs) : W p l e room_1 s m #[Value.ref b] below meth c s.heap [] 0 0 (lw_Z below #[Value.ref b] s) (entryFrame m ([Value.ref b] : List Value).toArray 8) := by
  obtain ⟨hx, hb, hr, hml, hown, hts0, hX, hbl, hlocks, hgv⟩ := id C0
  have hts : ∀ w ∈ wsL_law0, w.before #[Value.ref b] s = true := fun w h => hts0 w (gi_all w h)
  have hown : s.vm.findClass RL = some m.cls := hown
  have hA : ∀ q : Nat, s.heap.size ≤ q → (fun q : Nat => s.heap.size ≤ q) q := fun _ h => h
  have hbA : ¬ (fun q : Nat => s.heap.size ≤ q) b := Nat.not_le.mpr hbl
  have hA0 : ∀ a : Nat, a < s.heap.size → ¬ (fun q : Nat => s.heap.size ≤ q) a := fun a h => Nat.not_le.mpr h
  obtain ⟨c0, i0, hKn0⟩ := u_known (C := RX0) (T := TX0) (N := 9) (n := 9) hts iX0 (hts _ wd32)
  obtain ⟨c1, i1, hKn1⟩ := u_known (C := RX1) (T := TX1) (N := 9) (n := 9) hts iX1 (hts _ wd28)
  obtain ⟨c2, i2, hKn2⟩ := u_known (C := RX2) (T := TX2) (N := 5) (n := 5) hts iX2 (hts _ wd30)
  obtain ⟨c3, i3, hKn3⟩ := u_known (C := RX3) (T := TX3) (N := 15) (n := 15) hts iX3 (hts _ wd1)
  obtain ⟨dC, dI, hKc⟩ : ∃ (dC : Nat → ClassId) (dI : Nat → Nat → Nat), ∀ (k : Nat) (q : vw_C), vwCl[k]? = some q → u_Kn s q.1 q.2.1 q.2.2 (dC k) (dI k) := by
    refine ⟨fun k => if k = 0 then c0 else if k = 1 then c1 else if k = 2 then c2 else c3, fun k => if k = 0 then i0 else if k = 1 then i1 else if k = 2 then i2 else i3, ?_⟩
    intro k q hq
    match k, hq with
    | 0, hq => cases hq; exact hKn0
    | 1, hq => cases hq; exact hKn1
    | 2, hq => cases hq; exact hKn2
    | 3, hq => cases hq; exact hKn3
    | k + 4, hq => simp [vwCl] at hq
  have hs := flat_of_before _ hgv
  obtain ⟨tw, hv, hT⟩ : ∃ tw : Nat, (Term.static "Stuntledger" "WIND_LIMITS" "[I").eval #[Value.ref b] s none [] s = some (.ref tw) ∧ va_T .int tw 4 (fun j => .int (wnd j)) (fun q : Nat => s.heap.size ≤ q) s s.heap := by
    refine va_Tof (N := 4) (by decide) (hs _ (by decide +kernel)) (va_eqt (z := 4) (hs _ (by decide +kernel))) (fun j hj => ?_) hA0
    have hj4 : j = 0 ∨ j = 1 ∨ j = 2 ∨ j = 3 := by omega
    rcases hj4 with rfl | rfl | rfl | rfl
    · exact va_eqt (t := .elem (.static "Stuntledger" "WIND_LIMITS" "[I") (.int 0)) (z := 7) (hs _ (by decide +kernel))
    · exact va_eqt (t := .elem (.static "Stuntledger" "WIND_LIMITS" "[I") (.int 1)) (z := 4) (hs _ (by decide +kernel))
    · exact va_eqt (t := .elem (.static "Stuntledger" "WIND_LIMITS" "[I") (.int 2)) (z := 6) (hs _ (by decide +kernel))
    · exact va_eqt (t := .elem (.static "Stuntledger" "WIND_LIMITS" "[I") (.int 3)) (z := 9) (hs _ (by decide +kernel))
  have hZ := va_Zref (A := (fun q : Nat => s.heap.size ≤ q)) (hts0 (.laysStatic "Stuntledger" "WIND_LIMITS" "[I") (tb2 (i := 164) rfl)) (hts _ wd2) hv hA0
  have hoP : va_AO "Stuntledger$Person" s := va_AO.of (hts0 (.arrayOver (.object "Stuntledger$Person")) (tb1 (i := 22) rfl))
  have hoK : va_AO "Stuntledger$Piece" s := va_AO.of (hts0 (.arrayOver (.object "Stuntledger$Piece")) (tb1 (i := 24) rfl))
  have hoG : va_AO "Stuntledger$Gag" s := va_AO.of (hts0 (.arrayOver (.object "Stuntledger$Gag")) (tb1 (i := 26) rfl))
  have hnP : va_Nw (.methodLinkNest RX3 67 yX1_init "Stuntledger") s := va_Nw.of rfl (hts0 (.methodLinkNest RX3 67 yX1_init "Stuntledger") (tb1 (i := 28) rfl))
  have hnK : va_Nw (.methodLinkNest RX3 68 yX2_init "Stuntledger") s := va_Nw.of rfl (hts0 (.methodLinkNest RX3 68 yX2_init "Stuntledger") (tb1 (i := 71) rfl))
  have hnG : va_Nw (.methodLinkNest RX3 69 yX0_init "Stuntledger") s := va_Nw.of rfl (hts0 (.methodLinkNest RX3 69 yX0_init "Stuntledger") (tb1 (i := 97) rfl))
  have hS : va_S (fun q : Nat => s.heap.size ≤ q) s.heap s.heap [] := va_S.rf
  have hK : va_K (dC, dI) vwCl [] s := ⟨hKc, fun k q h => by simp at h⟩
  have hP : va_P (dC, dI) vwCl [] s.heap := fun k q h => by simp at h
  have hD : va_D (fun q : Nat => s.heap.size ≤ q) [] := ⟨fun i j p q h => by simp at h, fun k q h => by simp at h⟩
  have hl := lv_entry ([.ref b]) (n := 8) (Nat.le_of_ble_eq_true rfl)
  rw [lg_entry_eq]
  generalize (lg_sl ([.ref b]) ++ List.replicate (8 - (lg_sl ([.ref b])).length) Slot.unset).toArray = ls at hl ⊢
  have hl : lv_has ls 8 [(0, .ref b)] := hl
  refine va_new (ci := 3) (fs := [.null, .null, .null, .int (0 : Int32), .int (0 : Int32), .int (0 : Int32), .null, .null, .int (0 : Int32), .int (0 : Int32), .int (0 : Int32), .int (0 : Int32), .int (0 : Int32), .int (0 : Int32), .long (0 : Int64)]) (C := RX3) (T := TX3) (N := 15) hx hb hts iX3 tyX3 tyX3_ok hown (hts _ wd0) (hts _ wd1) (hts _ wd2) hK hP hD hS hA rfl (fun j hj => by rcases (show j = 0 ∨ j = 1 ∨ j = 2 ∨ j = 3 ∨ j = 4 ∨ j = 5 ∨ j = 6 ∨ j = 7 ∨ j = 8 ∨ j = 9 ∨ j = 10 ∨ j = 11 ∨ j = 12 ∨ j = 13 ∨ j = 14 by omega) with rfl | rfl | rfl | rfl | rfl | rfl | rfl | rfl | rfl | rfl | rfl | rfl | rfl | rfl | rfl <;> rfl) (Nat.le_of_ble_eq_true rfl) (Nat.le_of_ble_eq_true rfl) dL_law_0 (fun h0 H hP hD hS => ?_)
  have hP : va_P (dC, dI) vwCl [(h0, .inr (3, [.null, .null, .null, .int (0 : Int32), .int (0 : Int32), .int (0 : Int32), .null, .null, .int (0 : Int32), .int (0 : Int32), .int (0 : Int32), .int (0 : Int32), .int (0 : Int32), .int (0 : Int32), .long (0 : Int64)]))] H := hP
  have hD : va_D (fun q : Nat => s.heap.size ≤ q) [(h0, .inr (3, [.null, .null, .null, .int (0 : Int32), .int (0 : Int32), .int (0 : Int32), .null, .null, .int (0 : Int32), .int (0 : Int32), .int (0 : Int32), .int (0 : Int32), .int (0 : Int32), .int (0 : Int32), .long (0 : Int64)]))] := hD
  refine W.widen (k := 1) (n := 15) (by omega) (by omega) ?_
  refine lv_dup hx hb dL_law_3 rfl ?_
  have hDc : va_D (fun _ => True) [(h0, .inr (3, [.null, .null, .null, .int (0 : Int32), .int (0 : Int32), .int (0 : Int32), .null, .null, .int (0 : Int32), .int (0 : Int32), .int (0 : Int32), .int (0 : Int32), .int (0 : Int32), .int (0 : Int32), .long (0 : Int64)]))] := hD.weaken (fun _ _ _ _ => trivial)
  have hFc := va_free (wc := [(h0, .inr (3, [.null, .null, .null, .int (0 : Int32), .int (0 : Int32), .int (0 : Int32), .null, .null, .int (0 : Int32), .int (0 : Int32), .int (0 : Int32), .int (0 : Int32), .int (0 : Int32), .int (0 : Int32), .long (0 : Int64)]))]) hD hS hA [0] rfl
  refine va_callv (va_runI (As := []) (rest := [.ref h0]) ⟨hx, hb, hml, hown, hts⟩ (c_init l (dC, dI) h0 H.size) (cwI 0 hts (gw_of (w0 := []) (fun _ h => by cases h) wd6) rfl rfl rfl (hts _ wd2) (hts _ wd4) (hts _ wd5) rfl (by decide +kernel) ⟨Nat.le_of_ble_eq_true rfl, Nat.le_of_ble_eq_true rfl⟩) ⟨fun a U g mk q => by obtain ⟨q0, q1, qP, qK, qD, ⟨o1, o2, o3⟩, n1, n2, n3⟩ := q; exact ⟨q0, q1, qP, va_K.moved (u := U) (U := U.calling g mk a) (Vm.Alike.refl U.vm) qK, qD, ⟨va_AO.moved (u := U) (U := U.calling g mk a) (Vm.Alike.refl U.vm) o1, va_AO.moved (u := U) (U := U.calling g mk a) (Vm.Alike.refl U.vm) o2, va_AO.moved (u := U) (U := U.calling g mk a) (Vm.Alike.refl U.vm) o3⟩, va_Nw.same rfl (u := U) (U := U.calling g mk a) rfl n1, va_Nw.same rfl (u := U) (U := U.calling g mk a) rfl n2, va_Nw.same rfl (u := U) (U := U.calling g mk a) rfl n3⟩, fun U hU hW => ⟨rfl, by rw [hU], by rw [hU]; exact hP, va_K.moved hW.alike hK, hDc, ⟨va_AO.moved hW.alike hoP, va_AO.moved hW.alike hoK, va_AO.moved hW.alike hoG⟩, va_Nw.warmM hW hnP, va_Nw.warmM hW hnK, va_Nw.warmM hW hnG⟩⟩ rfl rfl hl.1 rfl (lv_room (Nat.le_of_ble_eq_true rfl)) dL_law_4 ⟨Nat.le_of_ble_eq_true rfl, Nat.le_of_ble_eq_true rfl⟩) hS (fun q _ h => hFc q h) hFc (fun u t H1 locs ht hvm hw hB hz1 hk1 hS => ?_)
  obtain ⟨ad, ca⟩ := u
  obtain ⟨hP1, hK1, hI, e0, hAw⟩ := hB
  rw [ht] at hP1
  have hK1 := va_K.moved hvm.symm hK1
  dsimp only at hP1 hK1 hI e0 hAw
  have hAa : ∀ q, Aw ad q → (fun q : Nat => s.heap.size ≤ q) q := by
    rintro q ⟨c, hc, rfl⟩
    exact hFc _ (hAw c hc)
  subst e0
  have X : Cx p s m #[Value.ref b] c RL code 8 (dC, dI) ad ca tw (fun q : Nat => s.heap.size ≤ q) := ⟨hx, hb, hml, hown, hts, hK1, hI, hZ, hT, hAa⟩
  refine W.widen (k := 40) (n := 267) (Nat.le_of_ble_eq_true rfl) (Nat.le_of_ble_eq_true rfl) ?_
  refine lv_astore_n (lv' := [(1, .ref (ad 0)), (0, .ref b)]) hx hb dL_law_7 rfl hl (by decide) rfl (fun ls hl => ?_)
  refine lv_aload_n hx hb dL_law_8 rfl (lv_at hl 0 rfl) ?_
  refine lv_aload_n hx hb dL_law_9 rfl (lv_at hl 1 rfl) ?_
  refine lv_iconst (v := (5 : Int32)) hx hb dL_law_10 (by decide) ?_
  have hU0 : va_P (dC, dI) vwCl [] H1 := fun k q h => by simp at h
  have hUA0 : ∀ (k : Nat) (q : Nat × va_E), ([] : va_W)[k]? = some q → ¬ Aw ad q.1 := fun k q h => by simp at h
  have pf0 : PF s0 := fun g hg => absurd hg (fun z => by have q := z.2; have q2 := z.1; rw [show s0.1 0 5 = 0 from rfl, show (0 : Int32).toInt = 0 from rfl] at q; omega)
  refine kx_write X hP1 hS hU0 hUA0 ⟨Nat.le_of_ble_eq_true rfl, Nat.le_of_ble_eq_true rfl⟩ ⟨Nat.le_of_ble_eq_true rfl, Nat.le_of_ble_eq_true rfl⟩ wd66 hl.1 (Nat.le_of_ble_eq_true rfl) dL_law_11 hX hbl hbA hL (5 : Int32) ⟨by decide, by decide⟩ wi_s0 pf0 (fun σ H locs hpost hP hU hS => ?_)
  refine lv_bipush (v := (8 : Int32)) hx hb dL_law_14 (by decide) ?_
  refine va_newa (atype := .int) (ty := .int) (N' := 8) (a0 := (8, .inl (fun _ => (0 : Int32)))) hx hb (hts _ wd3) rfl hK1 hP (wl_D hI hAa) hS hA (fun _ => rfl) (by decide) rfl (Nat.le_of_ble_eq_true rfl) (Nat.le_of_ble_eq_true rfl) (Nat.le_of_ble_eq_true rfl) dL_law_16 (fun qa cU H hK2 hP2 hD2 hS => ?_)
  have eU : cU = ca 3 := by
    have z1 : s.vm.findClass _ = some cU := (hK2.2 4 _ rfl).2
    have z2 : s.vm.findClass _ = some (ca 3) := (hK2.2 3 _ rfl).2
    exact Option.some.inj (z1.symm.trans z2)
  subst eU
  have hU : va_P (dC, dI) vwCl [(qa, .inl (ca 3, 8, .inl (fun _ => (0 : Int32))))] H := last_P hP2
  have hP : va_P (dC, dI) vwCl (wl ad ca σ) H := fun k q hk => hP2 k q (by rw [List.getElem?_append_left (List.getElem?_eq_some_iff.mp hk).1]; exact hk)
  have h40 : (wl ad ca σ ++ ([(qa, .inl (ca 3, 8, .inl (fun _ => (0 : Int32))))] : va_W))[40]? = some (qa, .inl (ca 3, 8, .inl (fun _ => (0 : Int32)))) := by
    rw [List.getElem?_append_right (by rw [wl_len]; omega), wl_len]
    rfl
  have hqA : (fun q : Nat => s.heap.size ≤ q) qa := hD2.2 40 _ h40
  have hqn : ¬ Aw ad qa := by
    rintro ⟨c, hc, e⟩
    have h1 : (wl ad ca σ ++ ([(qa, .inl (ca 3, 8, .inl (fun _ => (0 : Int32))))] : va_W))[c]? = some (ad c, wc ad ca σ c) := by
      rw [List.getElem?_append_left (by rw [wl_len]; exact hc)]
      exact wl_at hc
    have := hD2.1 c 40 _ _ h1 h40 e.symm
    omega
  refine W.widen (k := 41) (n := 275) (Nat.le_of_ble_eq_true rfl) (Nat.le_of_ble_eq_true rfl) ?_
  refine lv_astore_n (lv' := [(2, .ref qa), (1, .ref (ad 0)), (0, .ref b)]) hx hb dL_law_18 rfl hl (by decide) rfl (fun ls hl => ?_)
  exact law_19 l hL C0 X σ (fun _ => 0) qa hqA hqn (INV.na hpost.1.1 hpost.1.2.1) hpost.2 ⟨hpost.1.2.2.2.1, hpost.1.2.2.2.2.1, hpost.1.2.2.2.2.2⟩ H locs ls hP hU hS hl
