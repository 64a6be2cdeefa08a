theorem bd_add {x y : Int32} {n m : Nat} (hx : bd x n) (hy : bd y m) (h : n + m ≤ 1000) : bd (x + y) (n + m) := by
  have e := add_to (x := x) (y := y) (by have := hx.1; omega) (by have := hx.2; omega) (by have := hy.1; omega) (by have := hy.2; omega)
  exact ⟨by rw [e]; have := hx.1; have := hy.1; omega, by rw [e]; have := hx.2; have := hy.2; omega⟩
theorem pf_kit {σ : St} {x1 x2 x3 : Int32} : (f_kit σ x1 x2 x3).2.1 0 3 = σ.1 0 3 ∧ (f_kit σ x1 x2 x3).2.1 0 5 = σ.1 0 5 ∧ ∀ g, g < 6 → (σ.1 0 4).toNatClampNeg < 12 → (f_kit σ x1 x2 x3).2.1 (34 + g) 1 = σ.1 (34 + g) 1 := by
  have ef : (f_kit σ x1 x2 x3).2 = up (up (up (up σ (22 + (σ.1 0 4).toNatClampNeg) 0 x1) (22 + (σ.1 0 4).toNatClampNeg) 1 x2) (22 + (σ.1 0 4).toNatClampNeg) 2 x3) 0 4 (((up (up (up σ (22 + (σ.1 0 4).toNatClampNeg) 0 x1) (22 + (σ.1 0 4).toNatClampNeg) 1 x2) (22 + (σ.1 0 4).toNatClampNeg) 2 x3).1 0 4) + (1 : Int32)) := rfl
  rw [ef]
  exact ⟨by rw [up_o (by omega), up_o (by omega), up_o (by omega), up_o (by omega)], by rw [up_o (by omega), up_o (by omega), up_o (by omega), up_o (by omega)], fun g hg h => by rw [up_o (by omega), up_o (by omega), up_o (by omega), up_o (by omega)]⟩
theorem pf_put {σ : St} {x1 x2 : Int32} (hw : WF σ) (h : PF σ) (h1 : inr x1 (σ.1 0 4)) (h2 : vp_in x2 6) : PF (f_put σ x1 x2).2 := by
  have h12 : x1.toNatClampNeg < 12 := ix_lt (WF.k12 hw h1)
  have w1 : WF (up σ (22 + x1.toNatClampNeg) 4 x2) := wf_K4 hw (Or.inr h2)
  have p1 : PF (up σ (22 + x1.toNatClampNeg) 4 x2) := PF.up hw h (fun z => absurd z (by omega)) (fun z => absurd z (by omega))
  unfold f_put
  generalize up σ (22 + x1.toNatClampNeg) 4 x2 = σ1 at w1 p1 ⊢
  dsimp only
  split
  · exact PF.q w1 p1 (Q_becomeChanged _ _)
  · exact PF.q w1 p1 ((Q_becomeChanged _ _).trans (Q_becomeChanged _ _))
theorem pf_inspect {σ : St} {x1 : Int32} (hw : WF σ) (h : PF σ) (h1 : inr x1 (σ.1 0 4)) : PF (f_inspect σ x1).2 := by
  have h12 : x1.toNatClampNeg < 12 := ix_lt (WF.k12 hw h1)
  exact PF.up hw h (fun z => absurd z (by omega)) (fun z => absurd z (by omega))
