/-! performers are people -/
def PF (σ : St) : Prop := ∀ g : Int32, inr g (σ.1 0 5) → inr (σ.1 (34 + g.toNatClampNeg) 1) (σ.1 0 3)
theorem PF.of {σ τ : St} (hw : WF σ) (h : PF σ) (h3 : τ.1 0 3 = σ.1 0 3) (h5 : τ.1 0 5 = σ.1 0 5) (hg : ∀ g, g < 6 → τ.1 (34 + g) 1 = σ.1 (34 + g) 1) : PF τ := by
  intro g hi
  rw [h5] at hi
  rw [h3, hg _ (ix_lt (WF.g6 hw hi))]
  exact h g hi
theorem PF.q {σ τ : St} (hw : WF σ) (h : PF σ) (q : Q σ τ) : PF τ := PF.of hw h q.1.1 q.1.2.2.1 (fun g hg => (q.2.1 g hg).2.1)
theorem PF.up {σ : St} {c k : Nat} {v : Int32} (hw : WF σ) (h : PF σ) (h0 : c = 0 → k ≠ 3 ∧ k ≠ 5) (hg : 34 ≤ c → k ≠ 1) : PF (up σ c k v) :=
  PF.of hw h (up_o (by rintro ⟨rfl, rfl⟩; exact (h0 rfl).1 rfl)) (up_o (by rintro ⟨rfl, rfl⟩; exact (h0 rfl).2 rfl)) (fun g _ => up_o (by rintro ⟨rfl, rfl⟩; exact hg (by omega) rfl))
theorem pf_arm {σ : St} {g : Int32} (hw : WF σ) (h : PF σ) : PF (f_arm σ g).2 := by
  unfold f_arm
  split
  · exact PF.up hw h (fun z => absurd z (by omega)) (fun _ => by decide)
  · exact PF.up hw h (fun z => absurd z (by omega)) (fun _ => by decide)
theorem pf_no {σ : St} {p g b : Int32} (hw : WF σ) (h : PF σ) : PF (f_no σ p g b).2 := by
  have w : ∀ v, WF (up σ (34 + g.toNatClampNeg) 6 v) := fun v => wf_up hw (fun h => absurd h (by omega)) (fun _ => ⟨by decide, by decide, by decide, fun h => absurd h (by decide)⟩) (fun h h2 => absurd h2 (by omega))
  have k : ∀ v, PF (up σ (34 + g.toNatClampNeg) 6 v) := fun v => PF.up hw h (fun z => absurd z (by omega)) (fun _ => by decide)
  unfold f_no
  split
  · exact k _
  · exact PF.q (w _) (k _) (Q_standDown _ g)
theorem pf_walk {σ : St} {x pl : Int32} (hw : WF σ) (h : PF σ) (hx : vp_in x 8) : PF (f_walk σ x pl).2 := by
  have h8 : x.toNatClampNeg < 8 := ix_lt hx
  exact PF.q (wf_up hw (fun h => absurd h (by omega)) (fun h => absurd h (by omega)) (fun h => absurd h (by omega))) (PF.up hw h (fun z => absurd z (by omega)) (fun z => absurd z (by omega))) (Q_walk 128 (up σ (6 + x.toNatClampNeg) 5 pl) 0)
theorem Q_weather {σ : St} : ∀ (n : Nat) (σh : St) (y : Int32), Q σh (f_weather_L25 σ n σh y).2 := by
  intro n
  induction n with
  | zero => intro σh y; exact Q.refl _
  | succ n ih =>
    intro σh y
    rw [f_weather_L25]
    split
    · exact Q_standDownOccupied _
    · split
      · split
        · exact ih _ _
        · exact (Q_standDown σh y).trans (ih _ _)
      · exact (Q_standDown σh y).trans (ih _ _)
theorem pf_weather {σ : St} {w b : Int32} (hw : WF σ) (h : PF σ) (hwd : (0 : Int32).toInt ≤ w.toInt ∧ w.toInt ≤ (9 : Int32).toInt) : PF (f_weather σ w b).2 := by
  have w1 : WF (up σ 0 9 w) := wf_M9 hw hwd
  have p1 : PF (up σ 0 9 w) := PF.up hw h (fun _ => by decide) (fun z => absurd z (by decide))
  have w2 : WF (up (up σ 0 9 w) 0 10 b) := wf_up w1 (fun _ => by decide) (fun h => absurd h (by decide)) (fun h => absurd h (by decide))
  have p2 : PF (up (up σ 0 9 w) 0 10 b) := PF.up w1 p1 (fun _ => by decide) (fun z => absurd z (by decide))
  exact PF.q w2 p2 (Q_weather 128 (up (up σ 0 9 w) 0 10 b) 0)
theorem pf_change {σ : St} {g x pl lv : Int32} (h : INV σ) (hp : PF σ) (hg : inr g (σ.1 0 5)) (hx : inr x (σ.1 0 3)) (hl : vp_in lv 31) : PF (f_change σ g x pl lv).2 := by
  have hw := h.1.1
  have hx8 := WF.p8 hw hx
  have w1 : WF (up σ (34 + g.toNatClampNeg) 1 x) := wf_G1 hw hx8
  have p1 : PF (up σ (34 + g.toNatClampNeg) 1 x) := by
    intro i hi
    rw [up_o (by omega)] at hi
    rw [up_o (d := 0) (j := 3) (by omega)]
    by_cases e : i.toNatClampNeg = g.toNatClampNeg
    · rw [e, up_s]; exact hx
    · rw [up_o (by omega)]; exact hp i hi
  have w2 : WF (up (up σ (34 + g.toNatClampNeg) 1 x) (34 + g.toNatClampNeg) 2 pl) := wf_up w1 (fun h => absurd h (by omega)) (fun _ => ⟨by decide, by decide, by decide, fun h => absurd h (by decide)⟩) (fun h h2 => absurd h2 (by omega))
  have p2 : PF (up (up σ (34 + g.toNatClampNeg) 1 x) (34 + g.toNatClampNeg) 2 pl) := PF.up w1 p1 (fun z => absurd z (by omega)) (fun _ => by decide)
  have w3 : WF (up (up (up σ (34 + g.toNatClampNeg) 1 x) (34 + g.toNatClampNeg) 2 pl) (34 + g.toNatClampNeg) 3 lv) := wf_G3 w2 hl
  have p3 : PF (up (up (up σ (34 + g.toNatClampNeg) 1 x) (34 + g.toNatClampNeg) 2 pl) (34 + g.toNatClampNeg) 3 lv) := PF.up w2 p2 (fun z => absurd z (by omega)) (fun _ => by decide)
  exact PF.q w3 p3 (Q_becomeChanged _ g)
theorem pf_gag {a k g x1 x2 x3 x4 : Int32} {σ : St} (h : WI a k g σ) (hp : PF σ) (hg : g.toInt < 6) (h2 : inr x2 (σ.1 0 3)) : PF (f_gag σ x1 x2 x3 x4).2 := by
  have hw := h.1.1
  have eg := h.2.2.2.2.2
  have g0 : 0 ≤ g.toInt := by rw [← eg]; exact hw.2.2.1.1
  have e1 : (g + 1).toInt = g.toInt + 1 := i_add1 (by omega) (by omega)
  have ef : (f_gag σ x1 x2 x3 x4).2 = up (up (up (up (up σ (34 + (σ.1 0 5).toNatClampNeg) 0 x1) (34 + (σ.1 0 5).toNatClampNeg) 1 x2) (34 + (σ.1 0 5).toNatClampNeg) 2 x3) (34 + (σ.1 0 5).toNatClampNeg) 3 x4) 0 5 (((up (up (up (up σ (34 + (σ.1 0 5).toNatClampNeg) 0 x1) (34 + (σ.1 0 5).toNatClampNeg) 1 x2) (34 + (σ.1 0 5).toNatClampNeg) 2 x3) (34 + (σ.1 0 5).toNatClampNeg) 3 x4).1 0 5) + (1 : Int32)) := rfl
  rw [ef, eg]
  intro i hi
  rw [up_s, up_o (by omega), up_o (by omega), up_o (by omega), up_o (by omega), eg] at hi
  have e3 : ∀ (v : Int32), (up (up (up (up (up σ (34 + g.toNatClampNeg) 0 x1) (34 + g.toNatClampNeg) 1 x2) (34 + g.toNatClampNeg) 2 x3) (34 + g.toNatClampNeg) 3 x4) 0 5 v).1 0 3 = σ.1 0 3 := fun v => by rw [up_o (by omega), up_o (by omega), up_o (by omega), up_o (by omega), up_o (by omega)]
  have ep : ∀ (v : Int32), (up (up (up (up (up σ (34 + g.toNatClampNeg) 0 x1) (34 + g.toNatClampNeg) 1 x2) (34 + g.toNatClampNeg) 2 x3) (34 + g.toNatClampNeg) 3 x4) 0 5 v).1 (34 + i.toNatClampNeg) 1 = if i.toNatClampNeg = g.toNatClampNeg then x2 else σ.1 (34 + i.toNatClampNeg) 1 := fun v => by
    rw [up_o (by omega), up_o (by omega), up_o (by omega)]
    split
    · rename_i e; rw [e, up_s]
    · rw [up_o (by omega), up_o (by omega)]
  rw [e3, ep]
  split
  · exact h2
  · rename_i e
    refine hp i ⟨hi.1, ?_⟩
    have q1 := ix_to hi.1
    have q2 := ix_to g0
    have q3 := hi.2
    rw [eg]
    omega
theorem inr_s {x : Int32} (h0 : 0 ≤ x.toInt) (h1 : x.toInt < 1000) : inr x (x + 1) := ⟨h0, by rw [i_add1 (by omega) (by omega)]; omega⟩
theorem inr_n {x : Int32} {n : Nat} (h : vp_in x n) (hn : n < 2 ^ 31) : inr x (nI n) := ⟨(vp_in_iff.mp h).1, by rw [nI_toInt hn]; exact (vp_in_iff.mp h).2⟩
theorem eq_end {x c : Int32} {n : Nat} (h : x.toInt ≤ n) (hc : c.toInt = n) (c1 : c ≤ x) : x = c := Int32.toInt_inj.mp (by have := i_le.mp c1; omega)
theorem rg_b {x lo hi : Int32} {n : Nat} (h : vp_in x n) (h1 : lo.toInt = 0) (h2 : hi.toInt + 1 = n) : lo.toInt ≤ x.toInt ∧ x.toInt ≤ hi.toInt := by
  have := vp_in_iff.mp h
  omega
theorem rg_1 {x lo hi : Int32} {n : Nat} (h : vp_in x n) (h1 : lo.toInt = 1) (h2 : (n : Int) ≤ hi.toInt) (hn : n ≤ 1000) : lo.toInt ≤ ((1 : Int32) + x).toInt ∧ ((1 : Int32) + x).toInt ≤ hi.toInt := by
  have q := vp_in_iff.mp h
  have e := add_to (x := 1) (y := x) (by decide) (by decide) (by omega) (by omega)
  rw [show (1 : Int32).toInt = 1 from rfl] at e
  omega
theorem vp_1 {x : Int32} {n m : Nat} (h : vp_in x n) (hm : n < m) (hn : n ≤ 1000) : vp_in ((1 : Int32) + x) m := by
  have q := vp_in_iff.mp h
  have e := add_to (x := 1) (y := x) (by decide) (by decide) (by omega) (by omega)
  rw [show (1 : Int32).toInt = 1 from rfl] at e
  exact vp_to (by omega) (by omega)
theorem vp_mono {x : Int32} {n m : Nat} (h : vp_in x n) (hm : n ≤ m) : vp_in x m := by
  have q := vp_in_iff.mp h
  exact vp_to q.1 (by omega)
theorem q_a0 {σ τ : St} {g : Int32} (q : Q σ τ) (hg : vp_in g 6) (h : σ.1 (34 + g.toNatClampNeg) 8 = 0) : τ.1 (34 + g.toNatClampNeg) 8 = 0 := by
  rcases q.2.2.1 _ (ix_lt hg) with k | ⟨k, -, -⟩
  · exact k
  · exact k.trans h
theorem ne_neg {x y : Int32} {n : Nat} (h : vp_in y n) (hx : x = -1) : ¬ x = y := by
  rintro rfl
  subst hx
  have := (vp_in_iff.mp h).1
  rw [show (-1 : Int32).toInt = -1 from rfl] at this
  omega
