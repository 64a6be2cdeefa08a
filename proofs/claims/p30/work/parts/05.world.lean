/-! ===== the world of a ledger: 40 cells. σ.1 c k: the k-th number of cell c; σ.2: the sum of margins ===== -/
abbrev St : Type := (Nat → Nat → Int32) × Int64
def up (σ : St) (c k : Nat) (v : Int32) : St := (fun a b => if a = c ∧ b = k then v else σ.1 a b, σ.2)
def upL (σ : St) (v : Int64) : St := (σ.1, v)
def fM (ad : Nat → Nat) (σ : St) : List Value := [.ref (ad 1), .ref (ad 2), .ref (ad 3), .int (σ.1 0 3), .int (σ.1 0 4), .int (σ.1 0 5), .ref (ad 4), .ref (ad 5), .int (σ.1 0 8), .int (σ.1 0 9), .int (σ.1 0 10), .int (σ.1 0 11), .int (σ.1 0 12), .int (σ.1 0 13), .long σ.2]
def fP (ad : Nat → Nat) (σ : St) (c : Nat) : List Value := [.ref (ad (c + 8)), .int (σ.1 c 1), .int (σ.1 c 2), .int (σ.1 c 3), .int (σ.1 c 4), .int (σ.1 c 5), .int (σ.1 c 6), .int (σ.1 c 7), .int (σ.1 c 8)]
def fK (σ : St) (c : Nat) : List Value := [.int (σ.1 c 0), .int (σ.1 c 1), .int (σ.1 c 2), .int (σ.1 c 3), .int (σ.1 c 4)]
def fG (σ : St) (c : Nat) : List Value := [.int (σ.1 c 0), .int (σ.1 c 1), .int (σ.1 c 2), .int (σ.1 c 3), .int (σ.1 c 4), .int (σ.1 c 5), .int (σ.1 c 6), .int (σ.1 c 7), .int (σ.1 c 8)]
def wc (ad : Nat → Nat) (ca : Nat → ClassId) (σ : St) (c : Nat) : va_E :=
  if c = 0 then .inr (3, fM ad σ)
  else if c = 1 then .inl (ca 0, 8, .inr (.inr (.inr (.inr (fun j => some (ad (6 + j)))))))
  else if c = 2 then .inl (ca 1, 12, .inr (.inr (.inr (.inr (fun j => some (ad (22 + j)))))))
  else if c = 3 then .inl (ca 2, 6, .inr (.inr (.inr (.inr (fun j => some (ad (34 + j)))))))
  else if c < 6 then .inl (ca 3, 4, .inl (σ.1 c))
  else if c < 14 then .inr (1, fP ad σ c)
  else if c < 22 then .inl (ca 3, 4, .inl (σ.1 c))
  else if c < 34 then .inr (2, fK σ c)
  else .inr (0, fG σ c)
def wl (ad : Nat → Nat) (ca : Nat → ClassId) (σ : St) : va_W := (List.range 40).map (fun c => (ad c, wc ad ca σ c))
def tyl (ca : Nat → ClassId) : List (ClassId × FieldType) := [(ca 0, .object "Stuntledger$Person"), (ca 1, .object "Stuntledger$Piece"), (ca 2, .object "Stuntledger$Gag"), (ca 3, .int)]
def wnd : Nat → Int32 | 0 => 7 | 1 => 4 | 2 => 6 | _ => 9
def Aw (ad : Nat → Nat) : Nat → Prop := fun q => ∃ c, c < 40 ∧ q = ad c
theorem wl_at {ad : Nat → Nat} {ca : Nat → ClassId} {σ : St} {c : Nat} (h : c < 40) : (wl ad ca σ)[c]? = some (ad c, wc ad ca σ c) := by
  simp [wl, List.getElem?_map, List.getElem?_range h]
theorem wl_len {ad : Nat → Nat} {ca : Nat → ClassId} {σ : St} : (wl ad ca σ).length = 40 := by simp [wl]
theorem wl_some {ad : Nat → Nat} {ca : Nat → ClassId} {σ : St} {c : Nat} {q : Nat × va_E} (h : (wl ad ca σ)[c]? = some q) : c < 40 ∧ q = (ad c, wc ad ca σ c) := by
  have hl : c < 40 := by
    have := (List.getElem?_eq_some_iff.mp h).1
    rwa [wl_len] at this
  rw [wl_at hl] at h
  exact ⟨hl, (Option.some.inj h).symm⟩
theorem wl_set {ad : Nat → Nat} {ca : Nat → ClassId} {σ σ' : St} {c : Nat} {x : va_E} (hx : wc ad ca σ' c = x) (hne : ∀ d, d ≠ c → wc ad ca σ' d = wc ad ca σ d) : (wl ad ca σ).set c (ad c, x) = wl ad ca σ' := by
  apply List.ext_getElem?
  intro j
  by_cases hj : j < 40
  · by_cases h : j = c
    · subst h
      rw [List.getElem?_set_self (by rw [wl_len]; exact hj), wl_at hj, hx]
    · rw [List.getElem?_set_ne (Ne.symm h), wl_at hj, wl_at hj, hne j h]
  · rw [List.getElem?_eq_none (by rw [List.length_set, wl_len]; omega), List.getElem?_eq_none (by rw [wl_len]; omega)]
theorem up_ne {σ : St} {c k d : Nat} {v : Int32} (h : d ≠ c) : (up σ c k v).1 d = σ.1 d := by
  funext b
  simp [up, h]
theorem up_at {σ : St} {c k b : Nat} {v : Int32} : (up σ c k v).1 c b = if b = k then v else σ.1 c b := by simp [up]
theorem up_row {σ : St} {c k : Nat} {v : Int32} : (up σ c k v).1 c = upd (σ.1 c) k v := by
  funext b
  simp [up, upd]
theorem up_2 {σ : St} {c k : Nat} {v : Int32} : (up σ c k v).2 = σ.2 := rfl
theorem wc_ne {ad : Nat → Nat} {ca : Nat → ClassId} {σ : St} {c k d : Nat} {v : Int32} (h : d ≠ c) : wc ad ca (up σ c k v) d = wc ad ca σ d := by
  have e := up_ne (σ := σ) (k := k) (v := v) h
  by_cases h0 : d = 0
  · subst h0
    show (Sum.inr (3, fM ad (up σ c k v)) : va_E) = Sum.inr (3, fM ad σ)
    simp only [fM, e, up_2]
  · simp only [wc, if_neg h0, fP, fK, fG, e]
theorem wc_neL {ad : Nat → Nat} {ca : Nat → ClassId} {σ : St} {d : Nat} {v : Int64} (h : d ≠ 0) : wc ad ca (upL σ v) d = wc ad ca σ d := by
  simp only [wc, if_neg h, fP, fK, fG, upL]
theorem wc_M {ad : Nat → Nat} {ca : Nat → ClassId} {σ : St} : wc ad ca σ 0 = .inr (3, fM ad σ) := rfl
theorem wc_P {ad : Nat → Nat} {ca : Nat → ClassId} {σ : St} {i : Nat} (h : i < 8) : wc ad ca σ (6 + i) = .inr (1, fP ad σ (6 + i)) := by
  unfold wc
  rw [if_neg (by omega), if_neg (by omega), if_neg (by omega), if_neg (by omega), if_neg (by omega), if_pos (by omega)]
theorem wc_S {ad : Nat → Nat} {ca : Nat → ClassId} {σ : St} {c : Nat} (h : (4 ≤ c ∧ c < 6) ∨ (14 ≤ c ∧ c < 22)) : wc ad ca σ c = .inl (ca 3, 4, .inl (σ.1 c)) := by
  unfold wc
  rw [if_neg (by omega), if_neg (by omega), if_neg (by omega), if_neg (by omega)]
  rcases h with h | h
  · rw [if_pos (by omega)]
  · rw [if_neg (by omega), if_neg (by omega), if_pos (by omega)]
theorem wc_K {ad : Nat → Nat} {ca : Nat → ClassId} {σ : St} {i : Nat} (h : i < 12) : wc ad ca σ (22 + i) = .inr (2, fK σ (22 + i)) := by
  unfold wc
  rw [if_neg (by omega), if_neg (by omega), if_neg (by omega), if_neg (by omega), if_neg (by omega), if_neg (by omega), if_neg (by omega), if_pos (by omega)]
theorem wc_G {ad : Nat → Nat} {ca : Nat → ClassId} {σ : St} (i : Nat) : wc ad ca σ (34 + i) = .inr (0, fG σ (34 + i)) := by
  unfold wc
  rw [if_neg (by omega), if_neg (by omega), if_neg (by omega), if_neg (by omega), if_neg (by omega), if_neg (by omega), if_neg (by omega), if_neg (by omega)]
theorem lt9 {P : Nat → Prop} (h0 : P 0) (h1 : P 1) (h2 : P 2) (h3 : P 3) (h4 : P 4) (h5 : P 5) (h6 : P 6) (h7 : P 7) (h8 : P 8) : ∀ k, k < 9 → P k
  | 0, _ => h0 | 1, _ => h1 | 2, _ => h2 | 3, _ => h3 | 4, _ => h4 | 5, _ => h5 | 6, _ => h6 | 7, _ => h7 | 8, _ => h8
  | n + 9, h => absurd h (by omega)
theorem set_G {σ : St} {c k : Nat} {v : Int32} (hk : k < 9) : (fG σ c).set k (.int v) = fG (up σ c k v) c :=
  lt9 (P := fun k => (fG σ c).set k (.int v) = fG (up σ c k v) c) (by simp [fG, up_at]) (by simp [fG, up_at]) (by simp [fG, up_at]) (by simp [fG, up_at]) (by simp [fG, up_at]) (by simp [fG, up_at]) (by simp [fG, up_at]) (by simp [fG, up_at]) (by simp [fG, up_at]) k hk
theorem set_P {ad : Nat → Nat} {σ : St} {c k : Nat} {v : Int32} (h0 : 0 < k) (hk : k < 9) : (fP ad σ c).set k (.int v) = fP ad (up σ c k v) c := by
  refine lt9 (P := fun k => 0 < k → (fP ad σ c).set k (.int v) = fP ad (up σ c k v) c) ?_ ?_ ?_ ?_ ?_ ?_ ?_ ?_ ?_ k hk h0
  · intro h; omega
  all_goals (intro _; simp [fP, up_at])
theorem set_K {σ : St} {c k : Nat} {v : Int32} (hk : k < 5) : (fK σ c).set k (.int v) = fK (up σ c k v) c := by
  have : k = 0 ∨ k = 1 ∨ k = 2 ∨ k = 3 ∨ k = 4 := by omega
  rcases this with rfl | rfl | rfl | rfl | rfl <;> simp [fK, up_at]
theorem set_M {ad : Nat → Nat} {σ : St} {k : Nat} {v : Int32} (hk : k = 3 ∨ k = 4 ∨ k = 5 ∨ k = 8 ∨ k = 9 ∨ k = 10 ∨ k = 11 ∨ k = 12 ∨ k = 13) : (fM ad σ).set k (.int v) = fM ad (up σ 0 k v) := by
  rcases hk with rfl | rfl | rfl | rfl | rfl | rfl | rfl | rfl | rfl <;> simp [fM, up_at, up_2]
theorem set_L {ad : Nat → Nat} {σ : St} {v : Int64} : (fM ad σ).set 14 (.long v) = fM ad (upL σ v) := by simp [fM, upL]
/-- what holds all through a method: the machine, its code, the words, the classes, the addresses apart, the limits of the wind -/
def Cx (p : Program) (s : State) (m : MethodId) (args : Array Value) (c : Code) (own : String) (cc : ByteArray) (nL : Nat) (D : va_G) (ad : Nat → Nat) (ca : Nat → ClassId) (tw : Nat) (A : Nat → Prop) : Prop :=
  p.tables.exec = Jvm.exec ∧ c.code = cc ∧ c.maxLocals = nL ∧ s.vm.findClass own = some m.cls ∧ (∀ w ∈ wsL_law0, w.before args s = true) ∧ va_K D vwCl (tyl ca) s ∧ (∀ i j, i < 40 → j < 40 → ad i = ad j → i = j) ∧ va_Z "Stuntledger" "WIND_LIMITS" "[I" (.ref tw) A s s.heap ∧ va_T .int tw 4 (fun j => .int (wnd j)) A s s.heap ∧ (∀ q, Aw ad q → A q)
def wPre (D : va_G) (ad : Nat → Nat) (ca : Nat → ClassId) (tw : Nat) (σ : St) : State → Prop := fun U => va_P D vwCl (wl ad ca σ) U.heap ∧ va_K D vwCl (tyl ca) U ∧ va_Z "Stuntledger" "WIND_LIMITS" "[I" (.ref tw) (Aw ad) U U.heap ∧ va_T .int tw 4 (fun j => .int (wnd j)) (Aw ad) U U.heap
def wB (D : va_G) (ad : Nat → Nat) (ca : Nat → ClassId) : St → State → Prop := fun u t => va_P D vwCl (wl ad ca u) t.heap
abbrev wm (y : MethodName) (b : ByteArray) (n : Nat) (r : Option FieldType) : List Cond := .code y b n r :: wsL_law0
theorem iX3 : ∀ w ∈ wsX30, w ∈ wsL_law0 := by intro w h; unfold wsL_law0; simp only [List.mem_append]; simp only [h, true_or, or_true]
theorem iX0 : ∀ w ∈ wsX00, w ∈ wsL_law0 := by intro w h; unfold wsL_law0; simp only [List.mem_append]; simp only [h, true_or, or_true]
theorem iX1 : ∀ w ∈ wsX10, w ∈ wsL_law0 := by intro w h; unfold wsL_law0; simp only [List.mem_append]; simp only [h, true_or, or_true]
theorem iX2 : ∀ w ∈ wsX20, w ∈ wsL_law0 := by intro w h; unfold wsL_law0; simp only [List.mem_append]; simp only [h, true_or, or_true]
theorem wl_D {ad : Nat → Nat} {ca : Nat → ClassId} {σ : St} {A : Nat → Prop} (hI : ∀ i j, i < 40 → j < 40 → ad i = ad j → i = j) (hA : ∀ q, Aw ad q → A q) : va_D A (wl ad ca σ) := by
  refine ⟨fun i j x y hi hj hxy => ?_, fun k q hk => ?_⟩
  · obtain ⟨h1, rfl⟩ := wl_some hi
    obtain ⟨h2, rfl⟩ := wl_some hj
    exact hI i j h1 h2 hxy
  · obtain ⟨h1, rfl⟩ := wl_some hk
    exact hA _ ⟨k, h1, rfl⟩
