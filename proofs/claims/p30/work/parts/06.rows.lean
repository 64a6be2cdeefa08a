/-! ===== rows over the world of a ledger ===== -/
section QR
variable {p : Program} {l : Launch} {e : Env} {R : Room} {s : State} {m : MethodId} {args : Array Value} {below : List Frame} {meth : Method} {c : Code} {H : Heap} {locs : List Loc} {cells slots : Nat} {Q : State → Prop}
variable {cc : ByteArray} {pc : Nat} {ls : Array Slot} {rest : List Value} {D : va_G} {A : Nat → Prop} {ad : Nat → Nat} {ca : Nat → ClassId} {tw nL : Nat} {σ : St} {own : String}
theorem q_getG (X : Cx p s m args c own cc nL D ad ca tw A) (hP : va_P D vwCl (wl ad ca σ) H) (i : Nat) (hi : i < 6) (k : Nat) (hk : k < 9) {index : Nat} (hl : (Cond.fieldLink own index (TX0 k).1 (TX0 k).2.1 (TX0 k).2.2.1).before args s = true) {v : Value} (hv : (fG σ (34 + i))[k]? = some v) (hdg : decode cc pc = .ok (.getfield index, 3))
    (kk : W p l e R s m args below meth c H locs cells slots Q (F0 m (pc + 3) ls (v :: rest))) : W p l e R s m args below meth c H locs cells slots Q (F0 m pc ls (.ref (ad (34 + i)) :: rest)) := by
  obtain ⟨hx, hb, hml, hown, hts, hK, hI, hZ, hT, hA⟩ := X
  exact va_get hx hb hts iX0 hown hK hP (34 + i) ((wl_at (by omega)).trans (by rw [wc_G])) rfl k hk hl (fun _ h => h) hv hdg kk
theorem q_getP (X : Cx p s m args c own cc nL D ad ca tw A) (hP : va_P D vwCl (wl ad ca σ) H) (i : Nat) (hi : i < 8) (k : Nat) (hk : k < 9) {index : Nat} (hl : (Cond.fieldLink own index (TX1 k).1 (TX1 k).2.1 (TX1 k).2.2.1).before args s = true) {v : Value} (hv : (fP ad σ (6 + i))[k]? = some v) (hdg : decode cc pc = .ok (.getfield index, 3))
    (kk : W p l e R s m args below meth c H locs cells slots Q (F0 m (pc + 3) ls (v :: rest))) : W p l e R s m args below meth c H locs cells slots Q (F0 m pc ls (.ref (ad (6 + i)) :: rest)) := by
  obtain ⟨hx, hb, hml, hown, hts, hK, hI, hZ, hT, hA⟩ := X
  exact va_get hx hb hts iX1 hown hK hP (6 + i) ((wl_at (by omega)).trans (by rw [wc_P hi])) rfl k hk hl (fun _ h => h) hv hdg kk
theorem q_getK (X : Cx p s m args c own cc nL D ad ca tw A) (hP : va_P D vwCl (wl ad ca σ) H) (i : Nat) (hi : i < 12) (k : Nat) (hk : k < 5) {index : Nat} (hl : (Cond.fieldLink own index (TX2 k).1 (TX2 k).2.1 (TX2 k).2.2.1).before args s = true) {v : Value} (hv : (fK σ (22 + i))[k]? = some v) (hdg : decode cc pc = .ok (.getfield index, 3))
    (kk : W p l e R s m args below meth c H locs cells slots Q (F0 m (pc + 3) ls (v :: rest))) : W p l e R s m args below meth c H locs cells slots Q (F0 m pc ls (.ref (ad (22 + i)) :: rest)) := by
  obtain ⟨hx, hb, hml, hown, hts, hK, hI, hZ, hT, hA⟩ := X
  exact va_get hx hb hts iX2 hown hK hP (22 + i) ((wl_at (by omega)).trans (by rw [wc_K hi])) rfl k hk hl (fun _ h => h) hv hdg kk
theorem q_getM (X : Cx p s m args c own cc nL D ad ca tw A) (hP : va_P D vwCl (wl ad ca σ) H) (k : Nat) (hk : k < 15) {index : Nat} (hl : (Cond.fieldLink own index (TX3 k).1 (TX3 k).2.1 (TX3 k).2.2.1).before args s = true) {v : Value} (hv : (fM ad σ)[k]? = some v) (hdg : decode cc pc = .ok (.getfield index, 3))
    (kk : W p l e R s m args below meth c H locs cells slots Q (F0 m (pc + 3) ls (v :: rest))) : W p l e R s m args below meth c H locs cells slots Q (F0 m pc ls (.ref (ad 0) :: rest)) := by
  obtain ⟨hx, hb, hml, hown, hts, hK, hI, hZ, hT, hA⟩ := X
  exact va_get hx hb hts iX3 hown hK hP 0 (wl_at (by omega)) rfl k hk hl (fun _ h => h) hv hdg kk
theorem q_putG (X : Cx p s m args c own cc nL D ad ca tw A) (hP : va_P D vwCl (wl ad ca σ) H) (hS : va_S A s.heap H locs) (i : Nat) (hi : i < 6) (k : Nat) (hk : k < 9) {index : Nat} (hl : (Cond.fieldLink own index (TX0 k).1 (TX0 k).2.1 (TX0 k).2.2.1).before args s = true) (hfin : (TX0 k).2.2.2 = false) {ty : FieldType} (hd : parseFieldDescriptor (TX0 k).2.2.1 = some ty) {v : Int32} (hn : narrow ty (.int v) = .int v) (hfit : fits ty (.int v) = true) (hdg : decode cc pc = .ok (.putfield index, 3))
    (kk : ∀ (H1 : Heap) (locs1 : List Loc), va_P D vwCl (wl ad ca (up σ (34 + i) k v)) H1 → va_S A s.heap H1 locs1 → W p l e R s m args below meth c H1 locs1 cells slots Q (F0 m (pc + 3) ls rest)) : W p l e R s m args below meth c H locs cells slots Q (F0 m pc ls (.int v :: .ref (ad (34 + i)) :: rest)) := by
  obtain ⟨hx, hb, hml, hown, hts, hK, hI, hZ, hT, hA⟩ := X
  refine va_put hx hb hts iX0 tyX0 tyX0_ok nmX0 hown hK hP (wl_D hI hA) hS (34 + i) ((wl_at (by omega)).trans (by rw [wc_G])) rfl k hk hl (fun _ h => h) hfin hd hn hfit (by simp [fG]; exact hk) hdg (fun H1 locs1 h1 _ h3 => kk H1 locs1 ?_ h3)
  rw [wl_set (σ' := up σ (34 + i) k v) (by rw [wc_G, set_G hk]) (fun d hd => wc_ne hd)] at h1
  exact h1
theorem q_putP (X : Cx p s m args c own cc nL D ad ca tw A) (hP : va_P D vwCl (wl ad ca σ) H) (hS : va_S A s.heap H locs) (i : Nat) (hi : i < 8) (k : Nat) (h0 : 0 < k) (hk : k < 9) {index : Nat} (hl : (Cond.fieldLink own index (TX1 k).1 (TX1 k).2.1 (TX1 k).2.2.1).before args s = true) (hfin : (TX1 k).2.2.2 = false) {ty : FieldType} (hd : parseFieldDescriptor (TX1 k).2.2.1 = some ty) {v : Int32} (hn : narrow ty (.int v) = .int v) (hfit : fits ty (.int v) = true) (hdg : decode cc pc = .ok (.putfield index, 3))
    (kk : ∀ (H1 : Heap) (locs1 : List Loc), va_P D vwCl (wl ad ca (up σ (6 + i) k v)) H1 → va_S A s.heap H1 locs1 → W p l e R s m args below meth c H1 locs1 cells slots Q (F0 m (pc + 3) ls rest)) : W p l e R s m args below meth c H locs cells slots Q (F0 m pc ls (.int v :: .ref (ad (6 + i)) :: rest)) := by
  obtain ⟨hx, hb, hml, hown, hts, hK, hI, hZ, hT, hA⟩ := X
  refine va_put hx hb hts iX1 tyX1 tyX1_ok nmX1 hown hK hP (wl_D hI hA) hS (6 + i) ((wl_at (by omega)).trans (by rw [wc_P hi])) rfl k hk hl (fun _ h => h) hfin hd hn hfit (by simp [fP]; exact hk) hdg (fun H1 locs1 h1 _ h3 => kk H1 locs1 ?_ h3)
  rw [wl_set (σ' := up σ (6 + i) k v) (by rw [wc_P hi, set_P h0 hk]) (fun d hd => wc_ne hd)] at h1
  exact h1
theorem q_putK (X : Cx p s m args c own cc nL D ad ca tw A) (hP : va_P D vwCl (wl ad ca σ) H) (hS : va_S A s.heap H locs) (i : Nat) (hi : i < 12) (k : Nat) (hk : k < 5) {index : Nat} (hl : (Cond.fieldLink own index (TX2 k).1 (TX2 k).2.1 (TX2 k).2.2.1).before args s = true) (hfin : (TX2 k).2.2.2 = false) {ty : FieldType} (hd : parseFieldDescriptor (TX2 k).2.2.1 = some ty) {v : Int32} (hn : narrow ty (.int v) = .int v) (hfit : fits ty (.int v) = true) (hdg : decode cc pc = .ok (.putfield index, 3))
    (kk : ∀ (H1 : Heap) (locs1 : List Loc), va_P D vwCl (wl ad ca (up σ (22 + i) k v)) H1 → va_S A s.heap H1 locs1 → W p l e R s m args below meth c H1 locs1 cells slots Q (F0 m (pc + 3) ls rest)) : W p l e R s m args below meth c H locs cells slots Q (F0 m pc ls (.int v :: .ref (ad (22 + i)) :: rest)) := by
  obtain ⟨hx, hb, hml, hown, hts, hK, hI, hZ, hT, hA⟩ := X
  refine va_put hx hb hts iX2 tyX2 tyX2_ok nmX2 hown hK hP (wl_D hI hA) hS (22 + i) ((wl_at (by omega)).trans (by rw [wc_K hi])) rfl k hk hl (fun _ h => h) hfin hd hn hfit (by simp [fK]; exact hk) hdg (fun H1 locs1 h1 _ h3 => kk H1 locs1 ?_ h3)
  rw [wl_set (σ' := up σ (22 + i) k v) (by rw [wc_K hi, set_K hk]) (fun d hd => wc_ne hd)] at h1
  exact h1
theorem q_putM (X : Cx p s m args c own cc nL D ad ca tw A) (hP : va_P D vwCl (wl ad ca σ) H) (hS : va_S A s.heap H locs) (k : Nat) (hk : k = 3 ∨ k = 4 ∨ k = 5 ∨ k = 8 ∨ k = 9 ∨ k = 10 ∨ k = 11 ∨ k = 12 ∨ k = 13) {index : Nat} (hl : (Cond.fieldLink own index (TX3 k).1 (TX3 k).2.1 (TX3 k).2.2.1).before args s = true) (hfin : (TX3 k).2.2.2 = false) {ty : FieldType} (hd : parseFieldDescriptor (TX3 k).2.2.1 = some ty) {v : Int32} (hn : narrow ty (.int v) = .int v) (hfit : fits ty (.int v) = true) (hdg : decode cc pc = .ok (.putfield index, 3))
    (kk : ∀ (H1 : Heap) (locs1 : List Loc), va_P D vwCl (wl ad ca (up σ 0 k v)) H1 → va_S A s.heap H1 locs1 → W p l e R s m args below meth c H1 locs1 cells slots Q (F0 m (pc + 3) ls rest)) : W p l e R s m args below meth c H locs cells slots Q (F0 m pc ls (.int v :: .ref (ad 0) :: rest)) := by
  obtain ⟨hx, hb, hml, hown, hts, hK, hI, hZ, hT, hA⟩ := X
  refine va_put hx hb hts iX3 tyX3 tyX3_ok nmX3 hown hK hP (wl_D hI hA) hS 0 (wl_at (by omega)) rfl k (by omega) hl (fun _ h => h) hfin hd hn hfit (by show k < 15; omega) hdg (fun H1 locs1 h1 _ h3 => kk H1 locs1 ?_ h3)
  rw [wl_set (σ' := up σ 0 k v) (by rw [wc_M, set_M hk]) (fun d hd => wc_ne hd)] at h1
  exact h1
theorem q_putL (X : Cx p s m args c own cc nL D ad ca tw A) (hP : va_P D vwCl (wl ad ca σ) H) (hS : va_S A s.heap H locs) {index : Nat} (hl : (Cond.fieldLink own index (TX3 14).1 (TX3 14).2.1 (TX3 14).2.2.1).before args s = true) {v : Int64} (hdg : decode cc pc = .ok (.putfield index, 3))
    (kk : ∀ (H1 : Heap) (locs1 : List Loc), va_P D vwCl (wl ad ca (upL σ v)) H1 → va_S A s.heap H1 locs1 → W p l e R s m args below meth c H1 locs1 cells slots Q (F0 m (pc + 3) ls rest)) : W p l e R s m args below meth c H locs cells slots Q (F0 m pc ls (.long v :: .ref (ad 0) :: rest)) := by
  obtain ⟨hx, hb, hml, hown, hts, hK, hI, hZ, hT, hA⟩ := X
  refine va_put (ty := .long) hx hb hts iX3 tyX3 tyX3_ok nmX3 hown hK hP (wl_D hI hA) hS 0 (wl_at (by omega)) rfl 14 (by omega) hl (fun _ h => h) rfl (by decide +kernel) rfl rfl (by show 14 < 15; omega) hdg (fun H1 locs1 h1 _ h3 => kk H1 locs1 ?_ h3)
  rw [wl_set (σ' := upL σ v) (by rw [wc_M, set_L]) (fun d hd => wc_neL hd)] at h1
  exact h1
theorem q_aldP (X : Cx p s m args c own cc nL D ad ca tw A) (hP : va_P D vwCl (wl ad ca σ) H) {i : Int32} (hin : vp_in i 8) (hdg : decode cc pc = .ok (.aaload, 1))
    (kk : W p l e R s m args below meth c H locs cells slots Q (F0 m (pc + 1) ls (.ref (ad (6 + i.toNatClampNeg)) :: rest))) : W p l e R s m args below meth c H locs cells slots Q (F0 m pc ls (.int i :: .ref (ad 1) :: rest)) := by
  obtain ⟨hx, hb, hml, hown, hts, hK, hI, hZ, hT, hA⟩ := X
  exact va_aldq hx hb hK hP 1 0 (f := fun j => some (ad (6 + j))) (wl_at (by omega)) rfl hin hdg kk
theorem q_aldK (X : Cx p s m args c own cc nL D ad ca tw A) (hP : va_P D vwCl (wl ad ca σ) H) {i : Int32} (hin : vp_in i 12) (hdg : decode cc pc = .ok (.aaload, 1))
    (kk : W p l e R s m args below meth c H locs cells slots Q (F0 m (pc + 1) ls (.ref (ad (22 + i.toNatClampNeg)) :: rest))) : W p l e R s m args below meth c H locs cells slots Q (F0 m pc ls (.int i :: .ref (ad 2) :: rest)) := by
  obtain ⟨hx, hb, hml, hown, hts, hK, hI, hZ, hT, hA⟩ := X
  exact va_aldq hx hb hK hP 2 1 (f := fun j => some (ad (22 + j))) (wl_at (by omega)) rfl hin hdg kk
theorem q_aldG (X : Cx p s m args c own cc nL D ad ca tw A) (hP : va_P D vwCl (wl ad ca σ) H) {i : Int32} (hin : vp_in i 6) (hdg : decode cc pc = .ok (.aaload, 1))
    (kk : W p l e R s m args below meth c H locs cells slots Q (F0 m (pc + 1) ls (.ref (ad (34 + i.toNatClampNeg)) :: rest))) : W p l e R s m args below meth c H locs cells slots Q (F0 m pc ls (.int i :: .ref (ad 3) :: rest)) := by
  obtain ⟨hx, hb, hml, hown, hts, hK, hI, hZ, hT, hA⟩ := X
  exact va_aldq hx hb hK hP 3 2 (f := fun j => some (ad (34 + j))) (wl_at (by omega)) rfl hin hdg kk
theorem q_iald (X : Cx p s m args c own cc nL D ad ca tw A) (hP : va_P D vwCl (wl ad ca σ) H) (d : Nat) (hd : (4 ≤ d ∧ d < 6) ∨ (14 ≤ d ∧ d < 22)) {i : Int32} (hin : vp_in i 4) (hdg : decode cc pc = .ok (.iaload, 1))
    (kk : W p l e R s m args below meth c H locs cells slots Q (F0 m (pc + 1) ls (.int (σ.1 d i.toNatClampNeg) :: rest))) : W p l e R s m args below meth c H locs cells slots Q (F0 m pc ls (.int i :: .ref (ad d) :: rest)) := by
  obtain ⟨hx, hb, hml, hown, hts, hK, hI, hZ, hT, hA⟩ := X
  exact va_iald hx hb hK hP d 3 (f := σ.1 d) ((wl_at (by omega)).trans (by rw [wc_S hd])) rfl hin hdg kk
theorem q_iast (X : Cx p s m args c own cc nL D ad ca tw A) (hP : va_P D vwCl (wl ad ca σ) H) (hS : va_S A s.heap H locs) (d : Nat) (hd : (4 ≤ d ∧ d < 6) ∨ (14 ≤ d ∧ d < 22)) {i v : Int32} (hin : vp_in i 4) (hdg : decode cc pc = .ok (.iastore, 1))
    (kk : ∀ (H1 : Heap) (locs1 : List Loc), va_P D vwCl (wl ad ca (up σ d i.toNatClampNeg v)) H1 → va_S A s.heap H1 locs1 → W p l e R s m args below meth c H1 locs1 cells slots Q (F0 m (pc + 1) ls rest)) : W p l e R s m args below meth c H locs cells slots Q (F0 m pc ls (.int v :: .int i :: .ref (ad d) :: rest)) := by
  obtain ⟨hx, hb, hml, hown, hts, hK, hI, hZ, hT, hA⟩ := X
  refine va_iast hx hb hK hP (wl_D hI hA) hS d 3 (f := σ.1 d) ((wl_at (by omega)).trans (by rw [wc_S hd])) rfl hin hdg (fun H1 locs1 h1 _ h3 => kk H1 locs1 ?_ h3)
  rw [wl_set (σ' := up σ d i.toNatClampNeg v) (by rw [wc_S hd, up_row]) (fun x hx => wc_ne hx)] at h1
  exact h1
theorem q_wind (X : Cx p s m args c own cc nL D ad ca tw A) (hS : va_S A s.heap H locs) {index : Nat} (hl : (Cond.fieldLink own index "Stuntledger" "WIND_LIMITS" "[I").before args s = true) (hdg : decode cc pc = .ok (.getstatic index, 3))
    (kk : W p l e R s m args below meth c H locs cells slots Q (F0 m (pc + 3) ls (.ref tw :: rest))) : W p l e R s m args below meth c H locs cells slots Q (F0 m pc ls rest) := by
  obtain ⟨hx, hb, hml, hown, hts, hK, hI, hZ, hT, hA⟩ := X
  exact va_gets hx hb hZ hS hown hl (fun _ h => h) hdg kk
theorem q_wald (X : Cx p s m args c own cc nL D ad ca tw A) (hS : va_S A s.heap H locs) {i : Int32} (hin : vp_in i 4) (hdg : decode cc pc = .ok (.iaload, 1))
    (kk : W p l e R s m args below meth c H locs cells slots Q (F0 m (pc + 1) ls (.int (wnd i.toNatClampNeg) :: rest))) : W p l e R s m args below meth c H locs cells slots Q (F0 m pc ls (.int i :: .ref tw :: rest)) := by
  obtain ⟨hx, hb, hml, hown, hts, hK, hI, hZ, hT, hA⟩ := X
  exact va_ti hx hb hT hS hin rfl hdg kk
theorem q_blind {av : List Value} : FrameBlind (va_Pc av (wPre D ad ca tw σ)) := by
  intro a U g mk h
  obtain ⟨h1, h2, h3, h4, h5⟩ := h
  exact ⟨h1, h2, va_K.moved (u := U) (U := U.calling g mk a) (Vm.Alike.refl U.vm) h3, va_Z.moved (u := U) (U := U.calling g mk a) (Vm.Alike.refl U.vm) h4, va_T.moved (u := U) (U := U.calling g mk a) (Vm.Alike.refl U.vm) h5⟩
theorem q_pre (X : Cx p s m args c own cc nL D ad ca tw A) (hP : va_P D vwCl (wl ad ca σ) H) (hS : va_S A s.heap H locs) (U : State) (hU : U.heap = H) (hW : s.WarmedH U.vm) : wPre D ad ca tw σ U := by
  obtain ⟨hx, hb, hml, hown, hts, hK, hI, hZ, hT, hA⟩ := X
  have hq : ∀ a : Nat, a < s.heap.size → ¬ A a → U.heap[a]? = s.heap[a]? := fun a h1 h2 => by rw [hU]; exact hS.2.1 a h1 h2
  exact ⟨by rw [hU]; exact hP, va_K.moved hW.alike hK, ((hZ.kept hq).moved hW.alike).narrow hA, ((hT.kept hq).moved hW.alike).narrow hA⟩
theorem q_recv (X : Cx p s m args c own cc nL D ad ca tw A) (hP : va_P D vwCl (wl ad ca σ) H) : ∃ cell : Cell, H[ad 0]? = some cell ∧ cell.vm.isStatics = false ∧ s.vm.findClass RX3 = some cell.cls := by
  obtain ⟨hx, hb, hml, hown, hts, hK, hI, hZ, hT, hA⟩ := X
  exact va_recv hK hP (ci := 3) (q0 := 0) rfl (wl_at (by omega))
/-- calls of the ledger's own methods: of an object, static -/
theorem q_runV (X : Cx p s m args c own cc nL D ad ca tw A) (hP : va_P D vwCl (wl ad ca σ) H) (hS : va_S A s.heap H locs) {y : MethodName} {bytes : ByteArray} {maxL n index : Nat} {ret : Option FieldType} {ws : List Cond} {rm : Room} {as : List Value} {Qc : Array Value → State → Outcome → State → Prop} (cw : CallW R s args own RX3 index y bytes maxL ret ws rm 0 0 n) (hM : Met l y ws rm (va_Pc (.ref (ad 0) :: as) (wPre D ad ca tw σ)) Qc 0 0 (Aw ad)) (hn : as.length = n) (hsz : ls.size = nL) {st : List Value} (hst : st = as.reverse ++ .ref (ad 0) :: rest) (hr : (rest.map fun v => v.category).sum ≤ 8) (hdg : decode cc pc = .ok (.invokevirtual index, 3)) (hcap : cells ≤ R.cells ∧ slots ≤ R.slots) :
    va_Run p l e R s m args below meth c H locs cells slots 0 0 (F0 m pc ls st) rest (Qc (Value.ref (ad 0) :: as).toArray) (Aw ad) :=
  va_runV (As := as) (rest := rest) ⟨X.1, X.2.1, X.2.2.1, X.2.2.2.1, X.2.2.2.2.1⟩ hM cw ⟨q_blind, q_recv X hP, fun U hU hW => ⟨rfl, q_pre X hP hS U hU hW⟩⟩ rfl hn hsz hst (lv_room hr) hdg hcap
theorem q_runS (X : Cx p s m args c own cc nL D ad ca tw A) (hP : va_P D vwCl (wl ad ca σ) H) (hS : va_S A s.heap H locs) {y : MethodName} {bytes : ByteArray} {maxL n index : Nat} {ret : Option FieldType} {ws : List Cond} {rm : Room} {as : List Value} {Qc : Array Value → State → Outcome → State → Prop} (cw : CallB R s args own index y bytes maxL ret ws rm 0 0 n ∧ (Cond.static y).before args s = true) (hM : Met l y ws rm (va_Pc as (wPre D ad ca tw σ)) Qc 0 0 (Aw ad)) (hn : as.length = n) (hsz : ls.size = nL) {st : List Value} (hst : st = as.reverse ++ rest) (hr : (rest.map fun v => v.category).sum ≤ 8) (hdg : decode cc pc = .ok (.invokestatic index, 3)) (hcap : cells ≤ R.cells ∧ slots ≤ R.slots) :
    va_Run p l e R s m args below meth c H locs cells slots 0 0 (F0 m pc ls st) rest (Qc as.toArray) (Aw ad) :=
  va_runS (As := as) (rest := rest) ⟨X.1, X.2.1, X.2.2.1, X.2.2.2.1, X.2.2.2.2.1⟩ hM cw ⟨q_blind, fun U hU hW => ⟨rfl, q_pre X hP hS U hU hW⟩⟩ rfl hn hsz hst (lv_room hr) hdg hcap
theorem q_bi {st0 : List Value} {a : Array Value} (X : Cx p s m args c own cc nL D ad ca tw A) (hS : va_S A s.heap H locs) {post : Int32 → St → Prop} (hr : va_Run p l e R s m args below meth c H locs cells slots 0 0 (F0 m pc ls st0) rest (va_Qi post (wB D ad ca) (Aw ad) a) (Aw ad))
    (kk : ∀ (r : Int32) (u : St) (H1 : Heap) (locs1 : List Loc), post r u → va_P D vwCl (wl ad ca u) H1 → va_S A s.heap H1 locs1 → W p l e R s m args below meth c H1 locs1 cells slots Q (F0 m (pc + 3) ls (.int r :: rest))) : W p l e R s m args below meth c H locs cells slots Q (F0 m pc ls st0) :=
  va_calli hr hS (fun q _ h => X.2.2.2.2.2.2.2.2.2 q h) X.2.2.2.2.2.2.2.2.2 (fun r u t H1 locs1 ht _ hp hb _ _ hS1 => kk r u H1 locs1 hp (by rw [← ht]; exact hb) hS1)
theorem q_bl {st0 : List Value} {a : Array Value} (X : Cx p s m args c own cc nL D ad ca tw A) (hS : va_S A s.heap H locs) {post : Int64 → St → Prop} (hr : va_Run p l e R s m args below meth c H locs cells slots 0 0 (F0 m pc ls st0) rest (va_Ql post (wB D ad ca) (Aw ad) a) (Aw ad))
    (kk : ∀ (r : Int64) (u : St) (H1 : Heap) (locs1 : List Loc), post r u → va_P D vwCl (wl ad ca u) H1 → va_S A s.heap H1 locs1 → W p l e R s m args below meth c H1 locs1 cells slots Q (F0 m (pc + 3) ls (.long r :: rest))) : W p l e R s m args below meth c H locs cells slots Q (F0 m pc ls st0) :=
  va_calll hr hS (fun q _ h => X.2.2.2.2.2.2.2.2.2 q h) X.2.2.2.2.2.2.2.2.2 (fun r u t H1 locs1 ht _ hp hb _ _ hS1 => kk r u H1 locs1 hp (by rw [← ht]; exact hb) hS1)
theorem q_bv {st0 : List Value} {a : Array Value} (X : Cx p s m args c own cc nL D ad ca tw A) (hS : va_S A s.heap H locs) {post : St → Prop} (hr : va_Run p l e R s m args below meth c H locs cells slots 0 0 (F0 m pc ls st0) rest (va_Qv post (wB D ad ca) (Aw ad) a) (Aw ad))
    (kk : ∀ (u : St) (H1 : Heap) (locs1 : List Loc), post u → va_P D vwCl (wl ad ca u) H1 → va_S A s.heap H1 locs1 → W p l e R s m args below meth c H1 locs1 cells slots Q (F0 m (pc + 3) ls rest)) : W p l e R s m args below meth c H locs cells slots Q (F0 m pc ls st0) :=
  va_callv hr hS (fun q _ h => X.2.2.2.2.2.2.2.2.2 q h) X.2.2.2.2.2.2.2.2.2 (fun u t H1 locs1 ht _ hp hb _ _ hS1 => kk u H1 locs1 hp (by rw [← ht]; exact hb) hS1)
end QR
