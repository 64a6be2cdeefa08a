theorem wB_of {D : va_G} {ad : Nat → Nat} {ca : Nat → ClassId} {σ : St} {t : State} {H : Heap} (ht : t.heap = H) (hP : va_P D vwCl (wl ad ca σ) H) : wB D ad ca σ t := by
  unfold wB
  rw [ht]
  exact hP
theorem lp_d {x : Int32} {f : Nat} (h : 0 ≤ x.toInt ∧ x.toInt ≤ 30 ∧ x.toInt + 1 ≤ ((f + 1 : Nat) : Int)) (c : ¬ x < 1) : 0 ≤ (x + -1).toInt ∧ (x + -1).toInt ≤ 30 ∧ (x + -1).toInt + 1 ≤ (f : Int) := by
  obtain ⟨h1, h2, h3⟩ := h
  have q := i_nlt c
  rw [show (1 : Int32).toInt = 1 from rfl] at q
  have e : (x + -1).toInt = x.toInt - 1 := by
    rw [Int32.toInt_add, show (-1 : Int32).toInt = -1 from rfl]
    rw [Int.bmod_eq_of_le] <;> omega
  refine ⟨?_, ?_, ?_⟩ <;> (rw [e]) <;> omega
theorem ne_m1 {x c : Int32} (h : inr x c) : ¬ x = (-1 : Int32) := by
  rintro rfl
  have := h.1
  rw [show (-1 : Int32).toInt = -1 from rfl] at this
  omega
theorem wf_c3 {σ τ : St} (h : WF τ) (e : τ.1 0 3 = σ.1 0 3) (h0 : 0 ≤ (σ.1 0 3).toInt) (hc : (σ.1 0 3).toInt < 8) : WF (up τ 0 3 (τ.1 0 3 + 1)) := by
  have q := i_add1 (x := τ.1 0 3) (by rw [e]; omega) (by rw [e]; omega)
  obtain ⟨a, b, c, d, f, g⟩ := h
  exact ⟨by rw [up_s, q, e]; omega, b, c, d, fun i hi => by rw [up_o (by omega), up_o (by omega), up_o (by omega), up_o (by omega)]; exact f i hi, fun i hi => by rw [up_o (by omega)]; exact g i hi⟩
theorem wf_c4 {σ τ : St} (h : WF τ) (e : τ.1 0 4 = σ.1 0 4) (h0 : 0 ≤ (σ.1 0 4).toInt) (hc : (σ.1 0 4).toInt < 12) : WF (up τ 0 4 (τ.1 0 4 + 1)) := by
  have q := i_add1 (x := τ.1 0 4) (by rw [e]; omega) (by rw [e]; omega)
  obtain ⟨a, b, c, d, f, g⟩ := h
  exact ⟨a, by rw [up_s, q, e]; omega, c, d, fun i hi => by rw [up_o (by omega), up_o (by omega), up_o (by omega), up_o (by omega)]; exact f i hi, fun i hi => by rw [up_o (by omega)]; exact g i hi⟩
theorem wf_c5 {σ τ : St} (h : WF τ) (e : τ.1 0 5 = σ.1 0 5) (h0 : 0 ≤ (σ.1 0 5).toInt) (hc : (σ.1 0 5).toInt < 6) : WF (up τ 0 5 (τ.1 0 5 + 1)) := by
  have q := i_add1 (x := τ.1 0 5) (by rw [e]; omega) (by rw [e]; omega)
  obtain ⟨a, b, c, d, f, g⟩ := h
  exact ⟨a, b, by rw [up_s, q, e]; omega, d, fun i hi => by rw [up_o (by omega), up_o (by omega), up_o (by omega), up_o (by omega)]; exact f i hi, fun i hi => by rw [up_o (by omega)]; exact g i hi⟩
theorem wf_M9 {σ : St} {v : Int32} (h : WF σ) (hv : (0 : Int32).toInt ≤ v.toInt ∧ v.toInt ≤ (9 : Int32).toInt) : WF (up σ 0 9 v) := by
  obtain ⟨a, b, c, d, f, g⟩ := h
  exact ⟨a, b, c, by rw [up_s]; exact hv, fun i hi => by rw [up_o (by omega), up_o (by omega), up_o (by omega), up_o (by omega)]; exact f i hi, fun i hi => by rw [up_o (by omega)]; exact g i hi⟩
theorem wf_G {σ : St} {i k : Nat} {v : Int32} (h : WF σ) (h0 : k = 0 → vp_in v 4) (h1 : k = 1 → vp_in v 8) (h3 : k = 3 → vp_in v 31) (h8 : k = 8 → b01 v) : WF (up σ (34 + i) k v) := by
  obtain ⟨a, b, c, d, f, g⟩ := h
  refine ⟨by rw [up_o (by omega)]; exact a, by rw [up_o (by omega)]; exact b, by rw [up_o (by omega)]; exact c, by rw [up_o (by omega)]; exact d, fun j hj => ?_, fun j hj => by rw [up_o (by omega)]; exact g j hj⟩
  obtain ⟨f0, f1, f3, f8⟩ := f j hj
  have key : ∀ (q : Nat) (P : Int32 → Prop), P (σ.1 (34 + j) q) → (k = q → P v) → P ((up σ (34 + i) k v).1 (34 + j) q) := by
    intro q P h h2
    by_cases e : 34 + j = 34 + i ∧ q = k
    · obtain ⟨e1, rfl⟩ := e
      rw [e1, up_s]
      exact h2 rfl
    · rw [up_o e]
      exact h
  exact ⟨key 0 (fun x => vp_in x 4) f0 h0, key 1 (fun x => vp_in x 8) f1 h1, key 3 (fun x => vp_in x 31) f3 h3, key 8 b01 f8 h8⟩
theorem wf_G0 {σ : St} {i : Nat} {v : Int32} (h : WF σ) (hv : vp_in v 4) : WF (up σ (34 + i) 0 v) := wf_G h (fun _ => hv) (fun h => absurd h (by decide)) (fun h => absurd h (by decide)) (fun h => absurd h (by decide))
theorem wf_G1 {σ : St} {i : Nat} {v : Int32} (h : WF σ) (hv : vp_in v 8) : WF (up σ (34 + i) 1 v) := wf_G h (fun h => absurd h (by decide)) (fun _ => hv) (fun h => absurd h (by decide)) (fun h => absurd h (by decide))
theorem wf_G3 {σ : St} {i : Nat} {v : Int32} (h : WF σ) (hv : vp_in v 31) : WF (up σ (34 + i) 3 v) := wf_G h (fun h => absurd h (by decide)) (fun h => absurd h (by decide)) (fun _ => hv) (fun h => absurd h (by decide))
theorem wf_K4 {σ : St} {i : Nat} {v : Int32} (h : WF σ) (hv : v = -1 ∨ vp_in v 6) : WF (up σ (22 + i) 4 v) := by
  by_cases hi : i < 12
  · obtain ⟨a, b, c, d, f, g⟩ := h
    refine ⟨by rw [up_o (by omega)]; exact a, by rw [up_o (by omega)]; exact b, by rw [up_o (by omega)]; exact c, by rw [up_o (by omega)]; exact d, fun j hj => by rw [up_o (by omega), up_o (by omega), up_o (by omega), up_o (by omega)]; exact f j hj, fun j hj => ?_⟩
    by_cases e : 22 + j = 22 + i ∧ 4 = 4
    · rw [e.1, up_s]
      exact hv
    · rw [up_o e]
      exact g j hj
  · obtain ⟨a, b, c, d, f, g⟩ := h
    refine ⟨by rw [up_o (by omega)]; exact a, by rw [up_o (by omega)]; exact b, by rw [up_o (by omega)]; exact c, by rw [up_o (by omega)]; exact d, fun j hj => by rw [up_o (by omega), up_o (by omega), up_o (by omega), up_o (by omega)]; exact f j hj, fun j hj => by rw [up_o (by omega)]; exact g j hj⟩
