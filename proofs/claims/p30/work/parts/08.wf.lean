/-! ===== what every state of a ledger keeps, and what its rows need of it ===== -/
def inr (x c : Int32) : Prop := 0 ≤ x.toInt ∧ x.toInt < c.toInt
def b01 (x : Int32) : Prop := x = 0 ∨ x = 1
/-- counts, the wind, each gag's kind, performer, level and armed bit, each piece's gag, lights -/
def WF (σ : St) : Prop :=
  (0 ≤ (σ.1 0 3).toInt ∧ (σ.1 0 3).toInt ≤ 8) ∧ (0 ≤ (σ.1 0 4).toInt ∧ (σ.1 0 4).toInt ≤ 12) ∧ (0 ≤ (σ.1 0 5).toInt ∧ (σ.1 0 5).toInt ≤ 6) ∧ (0 ≤ (σ.1 0 9).toInt ∧ (σ.1 0 9).toInt ≤ 9) ∧
  (∀ i, i < 6 → vp_in (σ.1 (34 + i) 0) 4 ∧ vp_in (σ.1 (34 + i) 1) 8 ∧ vp_in (σ.1 (34 + i) 3) 31 ∧ b01 (σ.1 (34 + i) 8)) ∧
  (∀ i, i < 12 → σ.1 (22 + i) 4 = -1 ∨ vp_in (σ.1 (22 + i) 4) 6)
theorem ix_lt {x : Int32} {n : Nat} (h : vp_in x n) : x.toNatClampNeg < n := Nat.not_le.mp fun q => h (Or.inr q)
theorem vp_to {x : Int32} {n : Nat} (h0 : 0 ≤ x.toInt) (h1 : x.toInt < n) : vp_in x n := vp_in_iff.mpr ⟨h0, h1⟩
theorem vp_of {x c : Int32} {n : Nat} (h : inr x c) (hc : c.toInt ≤ n) : vp_in x n := vp_to h.1 (by have := h.2; omega)
theorem WF.gk {σ : St} (h : WF σ) {g : Int32} (hg : vp_in g 6) : vp_in (σ.1 (34 + g.toNatClampNeg) 0) 4 := (h.2.2.2.2.1 _ (ix_lt hg)).1
theorem WF.gp {σ : St} (h : WF σ) {g : Int32} (hg : vp_in g 6) : vp_in (σ.1 (34 + g.toNatClampNeg) 1) 8 := (h.2.2.2.2.1 _ (ix_lt hg)).2.1
theorem WF.gl {σ : St} (h : WF σ) {g : Int32} (hg : vp_in g 6) : vp_in (σ.1 (34 + g.toNatClampNeg) 3) 31 := (h.2.2.2.2.1 _ (ix_lt hg)).2.2.1
theorem WF.ga {σ : St} (h : WF σ) {g : Int32} (hg : vp_in g 6) : b01 (σ.1 (34 + g.toNatClampNeg) 8) := (h.2.2.2.2.1 _ (ix_lt hg)).2.2.2
theorem WF.kt {σ : St} (h : WF σ) {k : Int32} (hk : vp_in k 12) : σ.1 (22 + k.toNatClampNeg) 4 = -1 ∨ vp_in (σ.1 (22 + k.toNatClampNeg) 4) 6 := h.2.2.2.2.2 _ (ix_lt hk)
theorem WF.p8 {σ : St} (h : WF σ) {x : Int32} (hx : inr x (σ.1 0 3)) : vp_in x 8 := vp_of hx h.1.2
theorem WF.k12 {σ : St} (h : WF σ) {x : Int32} (hx : inr x (σ.1 0 4)) : vp_in x 12 := vp_of hx h.2.1.2
theorem WF.g6 {σ : St} (h : WF σ) {x : Int32} (hx : inr x (σ.1 0 5)) : vp_in x 6 := vp_of hx h.2.2.1.2
theorem nb01 {x : Int32} (h : b01 x) : narrow .boolean (.int x) = .int x := by rcases h with rfl | rfl <;> rfl
theorem fb01 {x : Int32} (h : b01 x) : fits .boolean (.int x) = true := by rcases h with rfl | rfl <;> rfl
theorem i_lt {a b : Int32} : a < b ↔ a.toInt < b.toInt := Int32.lt_iff_toInt_lt
theorem i_le {a b : Int32} : a ≤ b ↔ a.toInt ≤ b.toInt := Int32.le_iff_toInt_le
theorem i_nle {a b : Int32} (h : ¬ a ≤ b) : b.toInt < a.toInt := by rw [i_le] at h; omega
theorem i_nlt {a b : Int32} (h : ¬ a < b) : b.toInt ≤ a.toInt := by rw [i_lt] at h; omega
/-- a loop that counts up to n, with fuel f -/
def lpI (n : Nat) (x : Int32) (f : Nat) : Prop := 0 ≤ x.toInt ∧ x.toInt ≤ n ∧ (n : Int) + 1 ≤ x.toInt + f
theorem lp_0 {n : Nat} {x : Int32} (h : lpI n x 0) : False := by
  obtain ⟨h1, h2, h3⟩ := h
  omega
theorem i_add1 {x : Int32} (h0 : -1000 ≤ x.toInt) (h1 : x.toInt < 1000000) : (x + 1).toInt = x.toInt + 1 := by
  rw [Int32.toInt_add, show (1 : Int32).toInt = 1 from rfl]
  rw [Int.bmod_eq_of_le] <;> omega
theorem lp_s {n : Nat} {x : Int32} {f : Nat} (h : lpI n x (f + 1)) (hx : x.toInt < n) (hn : n ≤ 1000 := by omega) : lpI n (x + 1) f := by
  obtain ⟨h1, h2, h3⟩ := h
  have e := i_add1 (x := x) (by omega) (by omega)
  refine ⟨?_, ?_, ?_⟩ <;> (try rw [e]) <;> omega
theorem lp_i {n : Nat} {x : Int32} {f : Nat} (h : lpI n x f) (hx : x.toInt < n) : vp_in x n := vp_to h.1 hx
theorem lp_z {n : Nat} (hn : n ≤ 127) : lpI n 0 128 := by
  refine ⟨?_, ?_, ?_⟩ <;> (rw [show (0 : Int32).toInt = 0 from rfl]) <;> omega
theorem lt_nle {x c : Int32} {n : Nat} (h : ¬ c ≤ x) (hc : c.toInt ≤ n) : x.toInt < n := by
  have := i_nle h
  omega
theorem lt_nlt {x c : Int32} {n : Nat} (h : ¬ c < x) (hc : c.toInt + 1 ≤ n) : x.toInt < n := by
  have := i_nlt h
  omega
/-! WF behind a write -/
theorem wf_ext {σ τ : St} (h : WF σ) (h3 : τ.1 0 3 = σ.1 0 3) (h4 : τ.1 0 4 = σ.1 0 4) (h5 : τ.1 0 5 = σ.1 0 5) (h9 : τ.1 0 9 = σ.1 0 9) (hg : ∀ i, i < 6 → τ.1 (34 + i) 0 = σ.1 (34 + i) 0 ∧ τ.1 (34 + i) 1 = σ.1 (34 + i) 1 ∧ τ.1 (34 + i) 3 = σ.1 (34 + i) 3 ∧ (τ.1 (34 + i) 8 = σ.1 (34 + i) 8 ∨ b01 (τ.1 (34 + i) 8))) (hk : ∀ i, i < 12 → τ.1 (22 + i) 4 = σ.1 (22 + i) 4) : WF τ := by
  obtain ⟨a, b, c, d, e, f⟩ := h
  refine ⟨by rw [h3]; exact a, by rw [h4]; exact b, by rw [h5]; exact c, by rw [h9]; exact d, fun i hi => ?_, fun i hi => by rw [hk i hi]; exact f i hi⟩
  obtain ⟨g0, g1, g3, g8⟩ := hg i hi
  obtain ⟨e0, e1, e3, e8⟩ := e i hi
  refine ⟨by rw [g0]; exact e0, by rw [g1]; exact e1, by rw [g3]; exact e3, ?_⟩
  rcases g8 with g8 | g8
  · rw [g8]; exact e8
  · exact g8
theorem up_o {σ : St} {c k d j : Nat} {v : Int32} (h : ¬ (d = c ∧ j = k)) : (up σ c k v).1 d j = σ.1 d j := if_neg h
theorem up_s {σ : St} {c k : Nat} {v : Int32} : (up σ c k v).1 c k = v := if_pos ⟨rfl, rfl⟩
theorem wf_up {σ : St} {c k : Nat} {v : Int32} (h : WF σ) (h0 : c = 0 → k ≠ 3 ∧ k ≠ 4 ∧ k ≠ 5 ∧ k ≠ 9) (hg : 34 ≤ c → k ≠ 0 ∧ k ≠ 1 ∧ k ≠ 3 ∧ (k = 8 → b01 v)) (hk : 22 ≤ c → c < 34 → k ≠ 4) : WF (up σ c k v) := by
  refine wf_ext h (up_o ?_) (up_o ?_) (up_o ?_) (up_o ?_) (fun i hi => ⟨up_o ?_, up_o ?_, up_o ?_, ?_⟩) (fun i hi => up_o ?_)
  · rintro ⟨rfl, rfl⟩; exact (h0 rfl).1 rfl
  · rintro ⟨rfl, rfl⟩; exact (h0 rfl).2.1 rfl
  · rintro ⟨rfl, rfl⟩; exact (h0 rfl).2.2.1 rfl
  · rintro ⟨rfl, rfl⟩; exact (h0 rfl).2.2.2 rfl
  · rintro ⟨rfl, rfl⟩; exact (hg (by omega)).1 rfl
  · rintro ⟨rfl, rfl⟩; exact (hg (by omega)).2.1 rfl
  · rintro ⟨rfl, rfl⟩; exact (hg (by omega)).2.2.1 rfl
  · by_cases q : 34 + i = c ∧ 8 = k
    · obtain ⟨rfl, rfl⟩ := q
      rw [up_s]
      exact Or.inr ((hg (by omega)).2.2.2 rfl)
    · exact Or.inl (up_o q)
  · rintro ⟨rfl, rfl⟩; exact hk (by omega) (by omega) rfl
theorem wf_L {σ : St} {v : Int64} (h : WF σ) : WF (upL σ v) := h
