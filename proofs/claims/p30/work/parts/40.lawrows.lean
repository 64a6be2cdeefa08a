/-! ===== rows for the law: calls beside other cells, the script, its own numbers ===== -/
section QL
variable {p : Program} {l : Launch} {e : Env} {R : Room} {s : State} {m : MethodId} {args : Array Value} {below : List Frame} {meth : Method} {c : Code} {H : Heap} {locs : List Loc} {cells slots : Nat} {Q : State → Prop}
variable {cc : ByteArray} {pc : Nat} {ls : Array Slot} {rest : List Value} {D : va_G} {A : Nat → Prop} {ad : Nat → Nat} {ca : Nat → ClassId} {tw nL : Nat} {σ : St} {own : String} {us : va_W}
theorem us_kept {H H1 : Heap} (hU : va_P D vwCl us H) (hUA : ∀ (k : Nat) (q : Nat × va_E), us[k]? = some q → ¬ Aw ad q.1) (hk : ∀ q : Nat, q < H.size → ¬ Aw ad q → H1[q]? = H[q]?) : va_P D vwCl us H1 :=
  hU.kept (fun k q hq => hk q.1 ((hU k q hq).lt) (hUA k q hq))
theorem q_bix {st0 : List Value} {a : Array Value} (X : Cx p s m args c own cc nL D ad ca tw A) (hS : va_S A s.heap H locs) (hU : va_P D vwCl us H) (hUA : ∀ (k : Nat) (q : Nat × va_E), us[k]? = some q → ¬ Aw ad q.1) {post : Int32 → St → Prop} (hr : va_Run p l e R s m args below meth c H locs cells slots 0 0 (F0 m pc ls st0) rest (va_Qi post (wB D ad ca) (Aw ad) a) (Aw ad))
    (kk : ∀ (r : Int32) (u : St) (H1 : Heap) (locs1 : List Loc), post r u → va_P D vwCl (wl ad ca u) H1 → va_P D vwCl us H1 → va_S A s.heap H1 locs1 → W p l e R s m args below meth c H1 locs1 cells slots Q (F0 m (pc + 3) ls (.int r :: rest))) : W p l e R s m args below meth c H locs cells slots Q (F0 m pc ls st0) :=
  va_calli hr hS (fun q _ h => X.2.2.2.2.2.2.2.2.2 q h) X.2.2.2.2.2.2.2.2.2 (fun r u t H1 locs1 ht _ hp hb _ hk hS1 => kk r u H1 locs1 hp (by rw [← ht]; exact hb) (us_kept hU hUA hk) hS1)
theorem q_blx {st0 : List Value} {a : Array Value} (X : Cx p s m args c own cc nL D ad ca tw A) (hS : va_S A s.heap H locs) (hU : va_P D vwCl us H) (hUA : ∀ (k : Nat) (q : Nat × va_E), us[k]? = some q → ¬ Aw ad q.1) {post : Int64 → St → Prop} (hr : va_Run p l e R s m args below meth c H locs cells slots 0 0 (F0 m pc ls st0) rest (va_Ql post (wB D ad ca) (Aw ad) a) (Aw ad))
    (kk : ∀ (r : Int64) (u : St) (H1 : Heap) (locs1 : List Loc), post r u → va_P D vwCl (wl ad ca u) H1 → va_P D vwCl us H1 → va_S A s.heap H1 locs1 → W p l e R s m args below meth c H1 locs1 cells slots Q (F0 m (pc + 3) ls (.long r :: rest))) : W p l e R s m args below meth c H locs cells slots Q (F0 m pc ls st0) :=
  va_calll hr hS (fun q _ h => X.2.2.2.2.2.2.2.2.2 q h) X.2.2.2.2.2.2.2.2.2 (fun r u t H1 locs1 ht _ hp hb _ hk hS1 => kk r u H1 locs1 hp (by rw [← ht]; exact hb) (us_kept hU hUA hk) hS1)
theorem q_bvx {st0 : List Value} {a : Array Value} (X : Cx p s m args c own cc nL D ad ca tw A) (hS : va_S A s.heap H locs) (hU : va_P D vwCl us H) (hUA : ∀ (k : Nat) (q : Nat × va_E), us[k]? = some q → ¬ Aw ad q.1) {post : St → Prop} (hr : va_Run p l e R s m args below meth c H locs cells slots 0 0 (F0 m pc ls st0) rest (va_Qv post (wB D ad ca) (Aw ad) a) (Aw ad))
    (kk : ∀ (u : St) (H1 : Heap) (locs1 : List Loc), post u → va_P D vwCl (wl ad ca u) H1 → va_P D vwCl us H1 → va_S A s.heap H1 locs1 → W p l e R s m args below meth c H1 locs1 cells slots Q (F0 m (pc + 3) ls rest)) : W p l e R s m args below meth c H locs cells slots Q (F0 m pc ls st0) :=
  va_callv hr hS (fun q _ h => X.2.2.2.2.2.2.2.2.2 q h) X.2.2.2.2.2.2.2.2.2 (fun u t H1 locs1 ht _ hp hb _ hk hS1 => kk u H1 locs1 hp (by rw [← ht]; exact hb) (us_kept hU hUA hk) hS1)
/-- with the script, that is no cell of the ledger -/
def wPreX (D : va_G) (ad : Nat → Nat) (ca : Nat → ClassId) (tw : Nat) (σ : St) (b L : Nat) (xs : Nat → Int32) : State → Prop := fun U => wPre D ad ca tw σ U ∧ va_X b L xs U U.heap ∧ b < U.heap.size ∧ ¬ Aw ad b
theorem q_blindX {av : List Value} {b L : Nat} {xs : Nat → Int32} : FrameBlind (va_Pc av (wPreX D ad ca tw σ b L xs)) := by
  intro a U g mk h
  obtain ⟨h1, h2, h3, h4, h5⟩ := h
  exact ⟨h1, (q_blind a U g mk ⟨rfl, h2⟩ : va_Pc a.toList (wPre D ad ca tw σ) a (U.calling g mk a)).2, va_X.moved (u := U) (U := U.calling g mk a) (Vm.Alike.refl U.vm) h3, h4, h5⟩
theorem q_preX (X : Cx p s m args c own cc nL D ad ca tw A) (hP : va_P D vwCl (wl ad ca σ) H) (hS : va_S A s.heap H locs) {b L : Nat} {xs : Nat → Int32} (hX : va_X b L xs s s.heap) (hbl : b < s.heap.size) (hbA : ¬ A b) (U : State) (hU : U.heap = H) (hW : s.WarmedH U.vm) : wPreX D ad ca tw σ b L xs U :=
  ⟨q_pre X hP hS U hU hW, (hX.kept (by rw [hU]; exact hS.2.1 b hbl hbA)).moved hW.alike, Nat.lt_of_lt_of_le hbl (by rw [hU]; exact hS.1), fun h => hbA (X.2.2.2.2.2.2.2.2.2 b h)⟩
theorem q_runSX (X : Cx p s m args c own cc nL D ad ca tw A) (hP : va_P D vwCl (wl ad ca σ) H) (hS : va_S A s.heap H locs) {b L : Nat} {xs : Nat → Int32} (hX : va_X b L xs s s.heap) (hbl : b < s.heap.size) (hbA : ¬ A b) {y : MethodName} {bytes : ByteArray} {maxL n index : Nat} {ret : Option FieldType} {ws : List Cond} {rm : Room} {as : List Value} {Qc : Array Value → State → Outcome → State → Prop} (cw : CallB R s args own index y bytes maxL ret ws rm 0 0 n ∧ (Cond.static y).before args s = true) (hM : Met l y ws rm (va_Pc as (wPreX D ad ca tw σ b L xs)) Qc 0 0 (Aw ad)) (hn : as.length = n) (hsz : ls.size = nL) {st : List Value} (hst : st = as.reverse ++ rest) (hr : (rest.map fun v => v.category).sum ≤ 8) (hdg : decode cc pc = .ok (.invokestatic index, 3)) (hcap : cells ≤ R.cells ∧ slots ≤ R.slots) :
    va_Run p l e R s m args below meth c H locs cells slots 0 0 (F0 m pc ls st) rest (Qc as.toArray) (Aw ad) :=
  va_runS (As := as) (rest := rest) ⟨X.1, X.2.1, X.2.2.1, X.2.2.2.1, X.2.2.2.2.1⟩ hM cw ⟨q_blindX, fun U hU hW => ⟨rfl, q_preX X hP hS hX hbl hbA U hU hW⟩⟩ rfl hn hsz hst (lv_room hr) hdg hcap
end QL
set_option maxHeartbeats 4000000 in
set_option maxRecDepth 100000 in
theorem c_below (l : Launch) (D : va_G) (ad : Nat → Nat) (ca : Nat → ClassId) (tw : Nat) (hI : ∀ i j, i < 40 → j < 40 → ad i = ad j → i = j) (σ : St) (x0 x1 : Int32) (hn : ¬ x1 = 0) : Met l yL_below (wm yL_below cL_below 2 (some .int)) ({ frames := 0, cells := 0, slots := 0, locals := 0 } : Room) (va_Pc [.int x0, .int x1] (wPre D ad ca tw σ)) (va_Qi (fun r u => r = f_below x0 x1 ∧ u = σ) (wB D ad ca) (Aw ad)) 0 0 (Aw ad) := by
  refine Met.ofW (cc := cL_below) (maxL := 2) (ret := (some .int)) (by decide) rfl ?_
  intro p e s m args below meth c s₁ B hml hv
  obtain ⟨rfl, hv⟩ := hv
  have X := q_open (own := RL) B rfl hml hI hv
  have hx := X.1
  have hb := X.2.1
  have hts := X.2.2.2.2.1
  have hr := B.returns
  have hlocks := B.notSynchronized
  have hP := hv.1
  have hS : va_S (Aw ad) s.heap s.heap [] := va_S.rf
  have hl := lv_entry ([.int x0, .int x1]) (n := 2) (Nat.le_of_ble_eq_true rfl)
  rw [lg_entry_eq]
  generalize (lg_sl ([.int x0, .int x1]) ++ List.replicate (2 - (lg_sl ([.int x0, .int x1])).length) Slot.unset).toArray = ls at hl ⊢
  have hl : lv_has ls 2 [(0, .int x0), (1, .int x1)] := hl
  refine lv_iload_n hx hb dL_below_0 rfl (lv_at hl 0 rfl) ?_
  refine lv_ldc (v := (2147483647 : Int32)) hx hb X.2.2.2.1 (hts _ wd77) dL_below_1 ?_
  refine lv_iand hx hb dL_below_3 ?_
  refine lv_iload_n hx hb dL_below_4 rfl (lv_at hl 1 rfl) ?_
  refine lv_irem hx hb dL_below_5 hn ?_
  exact W.iret (v := f_below x0 x1) hx hb hr (fun t ht hW => ⟨⟨f_below x0 x1, σ, rfl, ⟨rfl, rfl⟩, wB_of ht hP⟩, hS.F ht⟩) hS.2.2 dL_below_6
set_option maxHeartbeats 4000000 in
set_option maxRecDepth 100000 in
theorem c_cell (l : Launch) (D : va_G) (ad : Nat → Nat) (ca : Nat → ClassId) (tw : Nat) (hI : ∀ i j, i < 40 → j < 40 → ad i = ad j → i = j) (σ : St) (b L : Nat) (xs : Nat → Int32) (hL : L ≤ 260) (x1 : Int32) (hn : 0 ≤ x1.toInt) : Met l yL_cell (wm yL_cell cL_cell 2 (some .int)) ({ frames := 0, cells := 0, slots := 0, locals := 0 } : Room) (va_Pc [.ref b, .int x1] (wPreX D ad ca tw σ b L xs)) (va_Qi (fun _ u => u = σ) (wB D ad ca) (Aw ad)) 0 0 (Aw ad) := by
  refine Met.ofW (cc := cL_cell) (maxL := 2) (ret := (some .int)) (by decide) rfl ?_
  intro p e s m args below meth c s₁ B hml hv
  obtain ⟨rfl, hv, hX, hbl, hbA⟩ := hv
  have X := q_open (own := RL) B rfl hml hI hv
  have hx := X.1
  have hb := X.2.1
  have hts := X.2.2.2.2.1
  have hr := B.returns
  have hlocks := B.notSynchronized
  have hP := hv.1
  have hS : va_S (Aw ad) s.heap s.heap [] := va_S.rf
  have hl := lv_entry ([.ref b, .int x1]) (n := 2) (Nat.le_of_ble_eq_true rfl)
  rw [lg_entry_eq]
  generalize (lg_sl ([.ref b, .int x1]) ++ List.replicate (2 - (lg_sl ([.ref b, .int x1])).length) Slot.unset).toArray = ls at hl ⊢
  have hl : lv_has ls 2 [(0, .ref b), (1, .int x1)] := hl
  refine lv_iload_n hx hb dL_cell_0 rfl (lv_at hl 1 rfl) ?_
  refine lv_aload_n hx hb dL_cell_1 rfl (lv_at hl 0 rfl) ?_
  refine va_slen hx hb hX hbl hbA hS dL_cell_2 ?_
  refine lv_icmp_ge (tgt := 12) hx hb dL_cell_3 (by decide) (fun c_3 => ?_) (fun c_3 => ?_)
  · refine lv_ldc (v := (790386105 : Int32)) hx hb X.2.2.2.1 (hts _ wd73) dL_cell_12 ?_
    refine lv_iload_n hx hb dL_cell_14 rfl (lv_at hl 1 rfl) ?_
    refine lv_iconst (v := (3 : Int32)) hx hb dL_cell_15 (by decide) ?_
    refine lv_iadd hx hb dL_cell_16 ?_
    refine lv_imul hx hb dL_cell_17 ?_
    exact W.iret hx hb hr (fun t ht hW => ⟨⟨_, σ, rfl, rfl, wB_of ht hP⟩, hS.F ht⟩) hS.2.2 dL_cell_18
  · have hin : vp_in x1 L := by
      have q := i_nle c_3
      have q2 : (Int32.ofNat L).toInt = (L : Int) := nI_toInt (by omega)
      rw [q2] at q
      exact vp_to hn q
    refine lv_aload_n hx hb dL_cell_6 rfl (lv_at hl 0 rfl) ?_
    refine lv_iload_n hx hb dL_cell_7 rfl (lv_at hl 1 rfl) ?_
    refine va_sld hx hb hX hbl hbA hS hin dL_cell_8 ?_
    refine lv_goto (tgt := 18) hx hb dL_cell_9 (by decide) ?_
    exact W.iret hx hb hr (fun t ht hW => ⟨⟨_, σ, rfl, rfl, wB_of ht hP⟩, hS.F ht⟩) hS.2.2 dL_cell_18
