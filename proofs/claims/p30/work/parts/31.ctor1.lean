/-! ===== the ledger's own constructor ===== -/
theorem s0_z {a b : Nat} (h0 : a ≠ 0) (h1 : ¬ (6 ≤ a ∧ a < 14 ∧ b = 4)) (h2 : ¬ (22 ≤ a ∧ a < 34 ∧ (b = 3 ∨ b = 4))) : s0.1 a b = 0 := by
  show (if a = 0 then _ else if _ then _ else if _ then _ else _) = _
  rw [if_neg h0, if_neg h1, if_neg h2]
theorem s0_P {a : Nat} (h1 : 6 ≤ a) (h2 : a < 14) : s0.1 a 4 = -1 := by
  show (if a = 0 then _ else if _ then _ else if _ then _ else _) = _
  rw [if_neg (by omega), if_pos ⟨h1, h2, rfl⟩]
theorem s0_K {a b : Nat} (h1 : 22 ≤ a) (h2 : a < 34) (h : b = 3 ∨ b = 4) : s0.1 a b = -1 := by
  show (if a = 0 then _ else if _ then _ else if _ then _ else _) = _
  rw [if_neg (by omega), if_neg (by omega), if_pos ⟨h1, h2, h⟩]
/-- a cell while i people, j pieces and k gags stand -/
def cI3 (ad : Nat → Nat) (ca : Nat → ClassId) (i j k c : Nat) : va_E :=
  if c = 1 then .inl (ca 0, 8, .inr (.inr (.inr (.inr (fun x => if x < i then some (ad (6 + x)) else none)))))
  else if c = 2 then .inl (ca 1, 12, .inr (.inr (.inr (.inr (fun x => if x < j then some (ad (22 + x)) else none)))))
  else if c = 3 then .inl (ca 2, 6, .inr (.inr (.inr (.inr (fun x => if x < k then some (ad (34 + x)) else none)))))
  else wc ad ca s0 c
def R3 : Nat → List Nat | 0 => [] | i + 1 => R3 i ++ [6 + i, 14 + i]
def R4 : Nat → List Nat | 0 => [] | j + 1 => R4 j ++ [22 + j]
def R5 : Nat → List Nat | 0 => [] | k + 1 => R5 k ++ [34 + k]
def L3 (i j k : Nat) : List Nat := 0 :: 1 :: 2 :: 3 :: 4 :: 5 :: (R3 i ++ (R4 j ++ R5 k))
def ws3 (ad : Nat → Nat) (ca : Nat → ClassId) (i j k : Nat) : va_W := (L3 i j k).map (fun c => (ad c, cI3 ad ca i j k c))
theorem R3_in : ∀ {i c : Nat}, c ∈ R3 i → (6 ≤ c ∧ c < 6 + i) ∨ (14 ≤ c ∧ c < 14 + i) := by
  intro i
  induction i with
  | zero => intro c h; cases h
  | succ i ih =>
    intro c h
    rcases List.mem_append.mp h with h | h
    · rcases ih h with h | h <;> omega
    · simp only [List.mem_cons, List.not_mem_nil, or_false] at h
      omega
theorem R4_in : ∀ {i c : Nat}, c ∈ R4 i → 22 ≤ c ∧ c < 22 + i := by
  intro i
  induction i with
  | zero => intro c h; cases h
  | succ i ih =>
    intro c h
    rcases List.mem_append.mp h with h | h
    · have := ih h; omega
    · simp only [List.mem_cons, List.not_mem_nil, or_false] at h
      omega
theorem R5_in : ∀ {i c : Nat}, c ∈ R5 i → 34 ≤ c ∧ c < 34 + i := by
  intro i
  induction i with
  | zero => intro c h; cases h
  | succ i ih =>
    intro c h
    rcases List.mem_append.mp h with h | h
    · have := ih h; omega
    · simp only [List.mem_cons, List.not_mem_nil, or_false] at h
      omega
theorem nd_range : ∀ n : Nat, va_nd (List.range n) = true := by
  have key : ∀ l : List Nat, l.Nodup → va_nd l = true := by
    intro l
    induction l with
    | nil => intro _; rfl
    | cons a l ih =>
      intro h
      obtain ⟨h1, h2⟩ := List.nodup_cons.mp h
      simp [va_nd, h1, ih h2]
  intro n
  exact key _ List.nodup_range
theorem join_last {A0 : Nat → Prop} {D : va_G} {cl : List vw_C} {ws w1 : va_W} {x : Nat × va_E} {H H1 : Heap} (hP : va_P D cl (ws ++ [x]) H) (hD : va_D A0 (ws ++ [x])) (hk : ∀ q : Nat, q < H.size → ¬ va_A [x] H.size q → H1[q]? = H[q]?) (hF : ∀ q, va_A [x] H.size q → A0 q) (hP1 : va_P D cl w1 H1) (hD1 : va_D (va_A [x] H.size) w1) : va_P D cl (ws ++ w1) H1 ∧ va_D A0 (ws ++ w1) := by
  refine va_join (wc := [x]) (wr := ws) hP hD [ws.length] (List.range ws.length) ?_ ?_ (nd_range _) ?_ hk hF hP1 hD1
  · simp
  · apply List.ext_getElem?
    intro i
    rw [List.getElem?_map, List.getElem?_map]
    by_cases hi : i < ws.length
    · rw [List.getElem?_range hi, List.getElem?_eq_getElem hi]
      simp [List.getElem?_append_left hi, List.getElem?_eq_getElem hi]
    · rw [List.getElem?_eq_none (by simp; omega), List.getElem?_eq_none (by omega)]
      rfl
  · intro i hi h
    have := List.mem_range.mp hi
    simp only [List.mem_cons, List.not_mem_nil, or_false] at h
    omega
theorem last_P {D : va_G} {cl : List vw_C} {ws : va_W} {x : Nat × va_E} {H : Heap} (hP : va_P D cl (ws ++ [x]) H) : va_P D cl [x] H := by
  intro k q hk
  have hz : k < 1 := (List.getElem?_eq_some_iff.mp hk).1
  obtain rfl : k = 0 := by omega
  cases hk
  exact hP ws.length _ (by simp)
theorem last_D {A : Nat → Prop} {ws : va_W} {x : Nat × va_E} (hD : va_D A (ws ++ [x])) : va_D (fun _ => True) [x] := by
  refine ⟨fun i j p q hi hj _ => ?_, fun _ _ _ => trivial⟩
  have h1 : i < 1 := (List.getElem?_eq_some_iff.mp hi).1
  have h2 : j < 1 := (List.getElem?_eq_some_iff.mp hj).1
  omega
theorem last_F {A0 : Nat → Prop} {ws : va_W} {x : Nat × va_E} {H0 H : Heap} {locs : List Loc} (hD : va_D A0 (ws ++ [x])) (hS : va_S A0 H0 H locs) (hA : ∀ q, H0.size ≤ q → A0 q) : ∀ q, va_A [x] H.size q → A0 q := by
  intro q h
  rcases h with ⟨k, e, h⟩ | h
  · have hz : k < 1 := (List.getElem?_eq_some_iff.mp h).1
    obtain rfl : k = 0 := by omega
    cases h
    exact hD.2 ws.length (q, e) (by simp)
  · exact hA q (Nat.le_trans hS.1 h)
theorem wc_s {ad ad' : Nat → Nat} {ca : Nat → ClassId} {c : Nat} (h0 : c = 0 → ∀ x, x < 6 → ad' x = ad x) (hP : 6 ≤ c → c < 14 → ad' (c + 8) = ad (c + 8)) (h1 : c ≠ 1) (h2 : c ≠ 2) (h3 : c ≠ 3) : wc ad' ca s0 c = wc ad ca s0 c := by
  unfold wc
  by_cases q0 : c = 0
  · rw [if_pos q0, if_pos q0]
    unfold fM
    have h := h0 q0
    rw [h 1 (by omega), h 2 (by omega), h 3 (by omega), h 4 (by omega), h 5 (by omega)]
  · rw [if_neg q0, if_neg q0, if_neg h1, if_neg h1, if_neg h2, if_neg h2, if_neg h3, if_neg h3]
    by_cases q4 : c < 6
    · rw [if_pos q4, if_pos q4]
    · rw [if_neg q4, if_neg q4]
      by_cases q5 : c < 14
      · rw [if_pos q5, if_pos q5]
        unfold fP
        rw [hP (by omega) q5]
      · rw [if_neg q5, if_neg q5]
/-- one more person -/
theorem ws3_P {ad ad' : Nat → Nat} {ca : Nat → ClassId} {i q q2 : Nat} (hi : i < 8) (ha : ad' = va_up (va_up ad (6 + i) q) (14 + i) q2) :
    (ws3 ad ca i 0 0 ++ ([(q, .inr (1, [.ref q2, .int (0 : Int32), .int (0 : Int32), .int (0 : Int32), .int (-1 : Int32), .int (0 : Int32), .int (0 : Int32), .int (0 : Int32), .int (0 : Int32)])), (q2, .inl (ca 3, 4, .inl (fun _ => (0 : Int32))))] : va_W)).set 1 (ad 1, .inl (ca 0, 8, .inr (.inr (.inr (.inr (va_up (fun x => if x < i then some (ad (6 + x)) else none) i (some q))))))) = ws3 ad' ca (i + 1) 0 0 := by
  have e6 : ad' (6 + i) = q := by rw [ha, va_up_ne _ _ (by omega), va_up_self]
  have e14 : ad' (14 + i) = q2 := by rw [ha, va_up_self]
  have eo : ∀ c, c ≠ 6 + i → c ≠ 14 + i → ad' c = ad c := fun c h1 h2 => by rw [ha, va_up_ne _ _ h2, va_up_ne _ _ h1]
  have key : ∀ c, c ≠ 1 → c ≠ 2 → c ≠ 3 → (6 ≤ c → c < 14 → c < 6 + i) → wc ad' ca s0 c = wc ad ca s0 c := by
    intro c h1 h2 h3 h
    exact wc_s (fun _ x hx => eo x (by omega) (by omega)) (fun h6 h14 => eo _ (by have := h h6 h14; omega) (by have := h h6 h14; omega)) h1 h2 h3
  have c2 : cI3 ad' ca (i + 1) 0 0 2 = cI3 ad ca i 0 0 2 := by
    unfold cI3
    rw [if_neg (by decide), if_pos rfl, if_neg (by decide), if_pos rfl]
    simp
  have c3 : cI3 ad' ca (i + 1) 0 0 3 = cI3 ad ca i 0 0 3 := by
    unfold cI3
    rw [if_neg (by decide), if_neg (by decide), if_pos rfl, if_neg (by decide), if_neg (by decide), if_pos rfl]
    simp
  have cw : ∀ (b : Nat → Nat) (i c : Nat), c ≠ 1 → c ≠ 2 → c ≠ 3 → cI3 b ca i 0 0 c = wc b ca s0 c := by
    intro b i c h1 h2 h3
    unfold cI3
    rw [if_neg h1, if_neg h2, if_neg h3]
  have c1 : cI3 ad' ca (i + 1) 0 0 1 = .inl (ca 0, 8, .inr (.inr (.inr (.inr (va_up (fun x => if x < i then some (ad (6 + x)) else none) i (some q)))))) := by
    unfold cI3
    rw [if_pos rfl]
    have : (fun x => if x < i + 1 then some (ad' (6 + x)) else none) = va_up (fun x => if x < i then some (ad (6 + x)) else none) i (some q) := by
      funext x
      by_cases hx : x = i
      · subst hx
        rw [va_up_self, if_pos (by omega), e6]
      · rw [va_up_ne _ _ hx]
        by_cases h : x < i
        · rw [if_pos h, if_pos (by omega), eo _ (by omega) (by omega)]
        · rw [if_neg h, if_neg (by omega)]
    rw [this]
  have ep : cI3 ad' ca (i + 1) 0 0 (6 + i) = .inr (1, [.ref q2, .int (0 : Int32), .int (0 : Int32), .int (0 : Int32), .int (-1 : Int32), .int (0 : Int32), .int (0 : Int32), .int (0 : Int32), .int (0 : Int32)]) := by
    rw [cw _ _ _ (by omega) (by omega) (by omega), wc_P hi]
    unfold fP
    rw [show 6 + i + 8 = 14 + i by omega, e14]
    have h1 : ∀ b, b ≠ 4 → s0.1 (6 + i) b = 0 := fun b hb => s0_z (by omega) (by omega) (by omega)
    have h4 : s0.1 (6 + i) 4 = -1 := s0_P (by omega) (by omega)
    rw [h1 1 (by decide), h1 2 (by decide), h1 3 (by decide), h4, h1 5 (by decide), h1 6 (by decide), h1 7 (by decide), h1 8 (by decide)]
  have es : cI3 ad' ca (i + 1) 0 0 (14 + i) = .inl (ca 3, 4, .inl (fun _ => (0 : Int32))) := by
    rw [cw _ _ _ (by omega) (by omega) (by omega), wc_S (by omega)]
    have : s0.1 (14 + i) = fun _ => 0 := by funext b; exact s0_z (by omega) (by omega) (by omega)
    rw [this]
  have er : (R3 i).map (fun c => (ad' c, cI3 ad' ca (i + 1) 0 0 c)) = (R3 i).map (fun c => (ad c, cI3 ad ca i 0 0 c)) := by
    apply List.map_congr_left
    intro c hc
    have := R3_in hc
    show (ad' c, cI3 ad' ca (i + 1) 0 0 c) = (ad c, cI3 ad ca i 0 0 c)
    rw [eo c (by omega) (by omega), cw _ _ _ (by omega) (by omega) (by omega), cw _ _ _ (by omega) (by omega) (by omega), key c (by omega) (by omega) (by omega) (by omega)]
  have o : ∀ c, c < 6 → ad' c = ad c := fun c h => eo c (by omega) (by omega)
  unfold ws3 L3
  rw [show R3 (i + 1) = R3 i ++ [6 + i, 14 + i] from rfl]
  show (_ :: _ :: _) = _
  simp only [List.map_cons, List.map_append, R4, R5, List.map_nil, List.append_nil, er, e6, e14, ep, es, c1, c2, c3, o 0 (by omega), o 1 (by omega), o 2 (by omega), o 3 (by omega), o 4 (by omega), o 5 (by omega), cw _ _ 0 (by omega) (by omega) (by omega), cw _ _ 4 (by omega) (by omega) (by omega), cw _ _ 5 (by omega) (by omega) (by omega), key 0 (by omega) (by omega) (by omega) (by omega), key 4 (by omega) (by omega) (by omega) (by omega), key 5 (by omega) (by omega) (by omega) (by omega)]
  rfl
/-- one more piece -/
theorem ws3_K {ad ad' : Nat → Nat} {ca : Nat → ClassId} {i q : Nat} (hi : i < 12) (ha : ad' = va_up ad (22 + i) q) :
    (ws3 ad ca 8 i 0 ++ ([(q, .inr (2, [.int (0 : Int32), .int (0 : Int32), .int (0 : Int32), .int (-1 : Int32), .int (-1 : Int32)]))] : va_W)).set 2 (ad 2, .inl (ca 1, 12, .inr (.inr (.inr (.inr (va_up (fun x => if x < i then some (ad (22 + x)) else none) i (some q))))))) = ws3 ad' ca 8 (i + 1) 0 := by
  have e6 : ad' (22 + i) = q := by rw [ha, va_up_self]
  have eo : ∀ c, c ≠ 22 + i → ad' c = ad c := fun c h1 => by rw [ha, va_up_ne _ _ h1]
  have key : ∀ c, c ≠ 1 → c ≠ 2 → c ≠ 3 → wc ad' ca s0 c = wc ad ca s0 c := by
    intro c h1 h2 h3
    exact wc_s (fun _ x hx => eo x (by omega)) (fun h6 h14 => eo _ (by omega)) h1 h2 h3
  have c1 : cI3 ad' ca 8 (i + 1) 0 1 = cI3 ad ca 8 i 0 1 := by
    unfold cI3
    rw [if_pos rfl, if_pos rfl]
    have : (fun x => if x < 8 then some (ad' (6 + x)) else none) = (fun x => if x < 8 then some (ad (6 + x)) else none) := by
      funext x
      by_cases h : x < 8
      · rw [if_pos h, if_pos h, eo _ (by omega)]
      · rw [if_neg h, if_neg h]
    rw [this]
  have c3 : cI3 ad' ca 8 (i + 1) 0 3 = cI3 ad ca 8 i 0 3 := by
    unfold cI3
    rw [if_neg (by decide), if_neg (by decide), if_pos rfl, if_neg (by decide), if_neg (by decide), if_pos rfl]
    simp
  have cw : ∀ (b : Nat → Nat) (i c : Nat), c ≠ 1 → c ≠ 2 → c ≠ 3 → cI3 b ca 8 i 0 c = wc b ca s0 c := by
    intro b i c h1 h2 h3
    unfold cI3
    rw [if_neg h1, if_neg h2, if_neg h3]
  have c2 : cI3 ad' ca 8 (i + 1) 0 2 = .inl (ca 1, 12, .inr (.inr (.inr (.inr (va_up (fun x => if x < i then some (ad (22 + x)) else none) i (some q)))))) := by
    unfold cI3
    rw [if_neg (by decide), if_pos rfl]
    have : (fun x => if x < i + 1 then some (ad' (22 + x)) else none) = va_up (fun x => if x < i then some (ad (22 + x)) else none) i (some q) := by
      funext x
      by_cases hx : x = i
      · subst hx
        rw [va_up_self, if_pos (by omega), e6]
      · rw [va_up_ne _ _ hx]
        by_cases h : x < i
        · rw [if_pos h, if_pos (by omega), eo _ (by omega)]
        · rw [if_neg h, if_neg (by omega)]
    rw [this]
  have ep : cI3 ad' ca 8 (i + 1) 0 (22 + i) = .inr (2, [.int (0 : Int32), .int (0 : Int32), .int (0 : Int32), .int (-1 : Int32), .int (-1 : Int32)]) := by
    rw [cw _ _ _ (by omega) (by omega) (by omega), wc_K hi]
    unfold fK
    have h1 : ∀ b, b < 3 → s0.1 (22 + i) b = 0 := fun b hb => s0_z (by omega) (by omega) (by omega)
    have h4 : ∀ b, b = 3 ∨ b = 4 → s0.1 (22 + i) b = -1 := fun b hb => s0_K (by omega) (by omega) hb
    rw [h1 0 (by decide), h1 1 (by decide), h1 2 (by decide), h4 3 (by decide), h4 4 (by decide)]
  have er : ∀ l : List Nat, (∀ c ∈ l, 6 ≤ c ∧ c < 22 + i) → l.map (fun c => (ad' c, cI3 ad' ca 8 (i + 1) 0 c)) = l.map (fun c => (ad c, cI3 ad ca 8 i 0 c)) := by
    intro l hl
    apply List.map_congr_left
    intro c hc
    have := hl c hc
    show (ad' c, cI3 ad' ca 8 (i + 1) 0 c) = (ad c, cI3 ad ca 8 i 0 c)
    rw [eo c (by omega), cw _ _ _ (by omega) (by omega) (by omega), cw _ _ _ (by omega) (by omega) (by omega), key c (by omega) (by omega) (by omega)]
  have er3 := er (R3 8) (fun c hc => by have := R3_in hc; omega)
  have er4 := er (R4 i) (fun c hc => by have := R4_in hc; omega)
  have o : ∀ c, c < 6 → ad' c = ad c := fun c h => eo c (by omega)
  unfold ws3 L3
  rw [show R4 (i + 1) = R4 i ++ [22 + i] from rfl]
  show (_ :: _ :: _) = _
  simp only [List.map_cons, List.map_append, R5, List.map_nil, List.append_nil, er3, er4, e6, ep, c1, c2, c3, o 0 (by omega), o 1 (by omega), o 2 (by omega), o 3 (by omega), o 4 (by omega), o 5 (by omega), cw _ _ 0 (by omega) (by omega) (by omega), cw _ _ 4 (by omega) (by omega) (by omega), cw _ _ 5 (by omega) (by omega) (by omega), key 0 (by omega) (by omega) (by omega), key 4 (by omega) (by omega) (by omega), key 5 (by omega) (by omega) (by omega), List.append_assoc]
  rfl
/-- one more gag -/
theorem ws3_G {ad ad' : Nat → Nat} {ca : Nat → ClassId} {i q : Nat} (hi : i < 6) (ha : ad' = va_up ad (34 + i) q) :
    (ws3 ad ca 8 12 i ++ ([(q, .inr (0, [.int (0 : Int32), .int (0 : Int32), .int (0 : Int32), .int (0 : Int32), .int (0 : Int32), .int (0 : Int32), .int (0 : Int32), .int (0 : Int32), .int (0 : Int32)]))] : va_W)).set 3 (ad 3, .inl (ca 2, 6, .inr (.inr (.inr (.inr (va_up (fun x => if x < i then some (ad (34 + x)) else none) i (some q))))))) = ws3 ad' ca 8 12 (i + 1) := by
  have e6 : ad' (34 + i) = q := by rw [ha, va_up_self]
  have eo : ∀ c, c ≠ 34 + i → ad' c = ad c := fun c h1 => by rw [ha, va_up_ne _ _ h1]
  have key : ∀ c, c ≠ 1 → c ≠ 2 → c ≠ 3 → wc ad' ca s0 c = wc ad ca s0 c := by
    intro c h1 h2 h3
    exact wc_s (fun _ x hx => eo x (by omega)) (fun h6 h14 => eo _ (by omega)) h1 h2 h3
  have c1 : cI3 ad' ca 8 12 (i + 1) 1 = cI3 ad ca 8 12 i 1 := by
    unfold cI3
    rw [if_pos rfl, if_pos rfl]
    have : (fun x => if x < 8 then some (ad' (6 + x)) else none) = (fun x => if x < 8 then some (ad (6 + x)) else none) := by
      funext x
      by_cases h : x < 8
      · rw [if_pos h, if_pos h, eo _ (by omega)]
      · rw [if_neg h, if_neg h]
    rw [this]
  have c2 : cI3 ad' ca 8 12 (i + 1) 2 = cI3 ad ca 8 12 i 2 := by
    unfold cI3
    rw [if_neg (by decide), if_pos rfl, if_neg (by decide), if_pos rfl]
    have : (fun x => if x < 12 then some (ad' (22 + x)) else none) = (fun x => if x < 12 then some (ad (22 + x)) else none) := by
      funext x
      by_cases h : x < 12
      · rw [if_pos h, if_pos h, eo _ (by omega)]
      · rw [if_neg h, if_neg h]
    rw [this]
  have cw : ∀ (b : Nat → Nat) (i c : Nat), c ≠ 1 → c ≠ 2 → c ≠ 3 → cI3 b ca 8 12 i c = wc b ca s0 c := by
    intro b i c h1 h2 h3
    unfold cI3
    rw [if_neg h1, if_neg h2, if_neg h3]
  have c3 : cI3 ad' ca 8 12 (i + 1) 3 = .inl (ca 2, 6, .inr (.inr (.inr (.inr (va_up (fun x => if x < i then some (ad (34 + x)) else none) i (some q)))))) := by
    unfold cI3
    rw [if_neg (by decide), if_neg (by decide), if_pos rfl]
    have : (fun x => if x < i + 1 then some (ad' (34 + x)) else none) = va_up (fun x => if x < i then some (ad (34 + x)) else none) i (some q) := by
      funext x
      by_cases hx : x = i
      · subst hx
        rw [va_up_self, if_pos (by omega), e6]
      · rw [va_up_ne _ _ hx]
        by_cases h : x < i
        · rw [if_pos h, if_pos (by omega), eo _ (by omega)]
        · rw [if_neg h, if_neg (by omega)]
    rw [this]
  have ep : cI3 ad' ca 8 12 (i + 1) (34 + i) = .inr (0, [.int (0 : Int32), .int (0 : Int32), .int (0 : Int32), .int (0 : Int32), .int (0 : Int32), .int (0 : Int32), .int (0 : Int32), .int (0 : Int32), .int (0 : Int32)]) := by
    rw [cw _ _ _ (by omega) (by omega) (by omega), wc_G]
    unfold fG
    have h1 : ∀ b, s0.1 (34 + i) b = 0 := fun b => s0_z (by omega) (by omega) (by omega)
    simp only [h1]
  have er : ∀ l : List Nat, (∀ c ∈ l, 6 ≤ c ∧ c < 34 + i) → l.map (fun c => (ad' c, cI3 ad' ca 8 12 (i + 1) c)) = l.map (fun c => (ad c, cI3 ad ca 8 12 i c)) := by
    intro l hl
    apply List.map_congr_left
    intro c hc
    have := hl c hc
    show (ad' c, cI3 ad' ca 8 12 (i + 1) c) = (ad c, cI3 ad ca 8 12 i c)
    rw [eo c (by omega), cw _ _ _ (by omega) (by omega) (by omega), cw _ _ _ (by omega) (by omega) (by omega), key c (by omega) (by omega) (by omega)]
  have er3 := er (R3 8) (fun c hc => by have := R3_in hc; omega)
  have er4 := er (R4 12) (fun c hc => by have := R4_in hc; omega)
  have er5 := er (R5 i) (fun c hc => by have := R5_in hc; omega)
  have o : ∀ c, c < 6 → ad' c = ad c := fun c h => eo c (by omega)
  unfold ws3 L3
  rw [show R5 (i + 1) = R5 i ++ [34 + i] from rfl]
  show (_ :: _ :: _) = _
  simp only [List.map_cons, List.map_append, List.map_nil, er3, er4, er5, e6, ep, c1, c2, c3, o 0 (by omega), o 1 (by omega), o 2 (by omega), o 3 (by omega), o 4 (by omega), o 5 (by omega), cw _ _ 0 (by omega) (by omega) (by omega), cw _ _ 4 (by omega) (by omega) (by omega), cw _ _ 5 (by omega) (by omega) (by omega), key 0 (by omega) (by omega) (by omega), key 4 (by omega) (by omega) (by omega), key 5 (by omega) (by omega) (by omega), List.append_assoc]
  rfl
theorem arrV_congr {cA : ClassId} {n : Nat} {f g : Nat → Value} (h : ∀ j, j < n → f j = g j) : arrV cA n f = arrV cA n g := by
  unfold arrV
  congr 1
  apply Array.ext
  · simp
  · intro i h1 h2
    simp at h1
    simp [h i (by simpa using h1)]
/-- all rows stand: the world of a new ledger -/
theorem ws3_end {D : va_G} {ad : Nat → Nat} {ca : Nat → ClassId} {A : Nat → Prop} {H : Heap} (hP : va_P D vwCl (ws3 ad ca 8 12 6) H) (hD : va_D A (ws3 ad ca 8 12 6)) : va_P D vwCl (wl ad ca s0) H ∧ (∀ i j, i < 40 → j < 40 → ad i = ad j → i = j) ∧ ∀ c, c < 40 → A (ad c) := by
  have hall : ∀ c, c < 40 → ∃ k : Nat, (L3 8 12 6)[k]? = some c := by
    intro c hc
    apply List.getElem?_of_mem
    have : ∀ c, c < 40 → c ∈ L3 8 12 6 := by decide
    exact this c hc
  have hat : ∀ c, c < 40 → ∃ k : Nat, (ws3 ad ca 8 12 6)[k]? = some (ad c, cI3 ad ca 8 12 6 c) ∧ (L3 8 12 6)[k]? = some c := by
    intro c hc
    obtain ⟨k, hk⟩ := hall c hc
    exact ⟨k, by unfold ws3; rw [List.getElem?_map, hk]; rfl, hk⟩
  refine ⟨fun k q hk => ?_, fun i j hi hj h => ?_, fun c hc => ?_⟩
  · obtain ⟨hl, rfl⟩ := wl_some hk
    obtain ⟨k2, h2, -⟩ := hat k hl
    have h3 := hP k2 _ h2
    by_cases c1 : k = 1
    · subst c1
      refine Eq.trans h3 ?_
      show some (vp_cell _ _) = some (vp_cell _ _)
      rw [vp_cell_q, vp_cell_q]
      exact congrArg some (arrV_congr (fun j hj => by show va_rf (if j < 8 then some (ad (6 + j)) else none) = _; rw [if_pos hj]))
    · by_cases c2 : k = 2
      · subst c2
        refine Eq.trans h3 ?_
        show some (vp_cell _ _) = some (vp_cell _ _)
        rw [vp_cell_q, vp_cell_q]
        exact congrArg some (arrV_congr (fun j hj => by show va_rf (if j < 12 then some (ad (22 + j)) else none) = _; rw [if_pos hj]))
      · by_cases c3 : k = 3
        · subst c3
          refine Eq.trans h3 ?_
          show some (vp_cell _ _) = some (vp_cell _ _)
          rw [vp_cell_q, vp_cell_q]
          exact congrArg some (arrV_congr (fun j hj => by show va_rf (if j < 6 then some (ad (34 + j)) else none) = _; rw [if_pos hj]))
        · have e : cI3 ad ca 8 12 6 k = wc ad ca s0 k := by unfold cI3; rw [if_neg c1, if_neg c2, if_neg c3]
          rw [e] at h3
          exact h3
  · obtain ⟨k1, h1, g1⟩ := hat i hi
    obtain ⟨k2, h2, g2⟩ := hat j hj
    have := hD.1 k1 k2 _ _ h1 h2 h
    subst this
    rw [g1] at g2
    exact Option.some.inj g2
  · obtain ⟨k1, h1, -⟩ := hat c hc
    exact hD.2 k1 _ h1
