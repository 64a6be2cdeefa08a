theorem one_A {ad : Nat → Nat} {qa : Nat} {x : va_E} (hqn : ¬ Aw ad qa) : ∀ (k : Nat) (q : Nat × va_E), ([(qa, x)] : va_W)[k]? = some q → ¬ Aw ad q.1 := by
  intro k q h
  have hz : k < 1 := (List.getElem?_eq_some_iff.mp h).1
  obtain rfl : k = 0 := by omega
  cases h
  exact hqn
theorem D_app {A : Nat → Prop} {ad : Nat → Nat} {ca : Nat → ClassId} {σ : St} {qa : Nat} {x : va_E} (hI : ∀ i j, i < 40 → j < 40 → ad i = ad j → i = j) (hA : ∀ q, Aw ad q → A q) (hqA : A qa) (hqn : ¬ Aw ad qa) : va_D A (wl ad ca σ ++ [(qa, x)]) := by
  have key : ∀ (k : Nat) (q : Nat × va_E), (wl ad ca σ ++ [(qa, x)])[k]? = some q → (k < 40 ∧ q = (ad k, wc ad ca σ k)) ∨ (k = 40 ∧ q = (qa, x)) := by
    intro k q h
    by_cases hk : k < (wl ad ca σ).length
    · rw [List.getElem?_append_left hk] at h
      exact Or.inl (wl_some h)
    · rw [List.getElem?_append_right (by omega)] at h
      have hz : k - (wl ad ca σ).length < 1 := (List.getElem?_eq_some_iff.mp h).1
      have h0 : k - (wl ad ca σ).length = 0 := by omega
      rw [h0] at h
      cases h
      rw [wl_len] at hk h0
      exact Or.inr ⟨by omega, rfl⟩
  refine ⟨fun i j y z hi hj hyz => ?_, fun k q hk => ?_⟩
  · rcases key i y hi with ⟨h1, rfl⟩ | ⟨h1, rfl⟩ <;> rcases key j z hj with ⟨h2, rfl⟩ | ⟨h2, rfl⟩
    · exact hI i j h1 h2 hyz
    · exact absurd ⟨i, h1, hyz.symm⟩ hqn
    · exact absurd ⟨j, h2, hyz⟩ hqn
    · omega
  · rcases key k q hk with ⟨h1, rfl⟩ | ⟨h1, rfl⟩
    · exact hA _ ⟨k, h1, rfl⟩
    · exact hqA
section QU
variable {p : Program} {l : Launch} {e : Env} {R : Room} {s : State} {m : MethodId} {args : Array Value} {below : List Frame} {meth : Method} {c : Code} {H : Heap} {locs : List Loc} {cells slots : Nat} {Qf : State → Prop}
variable {cc : ByteArray} {pc : Nat} {ls : Array Slot} {rest : List Value} {D : va_G} {A : Nat → Prop} {ad : Nat → Nat} {ca : Nat → ClassId} {tw nL : Nat} {σ : St} {own : String}
theorem u_st (X : Cx p s m args c own cc nL D ad ca tw A) (hP : va_P D vwCl (wl ad ca σ) H) {qa : Nat} {uf : Nat → Int32} (hU : va_P D vwCl [(qa, .inl (ca 3, 8, .inl uf))] H) (hqA : A qa) (hqn : ¬ Aw ad qa) (hS : va_S A s.heap H locs) {i v : Int32} (hin : vp_in i 8) (hdg : decode cc pc = .ok (.iastore, 1))
    (kk : ∀ (H1 : Heap) (locs1 : List Loc), va_P D vwCl (wl ad ca σ) H1 → va_P D vwCl [(qa, .inl (ca 3, 8, .inl (upd uf i.toNatClampNeg v)))] H1 → va_S A s.heap H1 locs1 → W p l e R s m args below meth c H1 locs1 cells slots Qf (F0 m (pc + 1) ls rest)) : W p l e R s m args below meth c H locs cells slots Qf (F0 m pc ls (.int v :: .int i :: .ref qa :: rest)) := by
  obtain ⟨hx, hb, hml, hown, hts, hK, hI, hZ, hT, hA⟩ := X
  have hD : va_D A (wl ad ca σ ++ [(qa, .inl (ca 3, 8, .inl uf))]) := D_app hI hA hqA hqn
  refine va_iast hx hb hK (hP.app hU) hD hS 40 3 (f := uf) (cA := ca 3) (n := 8) (by rw [List.getElem?_append_right (by rw [wl_len]; omega), wl_len]; rfl) rfl hin hdg (fun H1 locs1 h1 _ h3 => ?_)
  have e1 : (wl ad ca σ ++ ([(qa, .inl (ca 3, 8, .inl uf))] : va_W)).set 40 (qa, .inl (ca 3, 8, .inl (upd uf i.toNatClampNeg v))) = wl ad ca σ ++ ([(qa, .inl (ca 3, 8, .inl (upd uf i.toNatClampNeg v)))] : va_W) := by
    rw [List.set_append_right _ _ (by rw [wl_len]; omega), wl_len]
    rfl
  rw [e1] at h1
  refine kk H1 locs1 (fun k q hk => ?_) (last_P h1) h3
  refine h1 k q ?_
  rw [List.getElem?_append_left (List.getElem?_eq_some_iff.mp hk).1]
  exact hk
end QU
theorem ct_us {σ τ : St} (u : US σ τ) (h : σ.1 0 3 = 5 ∧ σ.1 0 4 = 8 ∧ σ.1 0 5 = 4) : τ.1 0 3 = 5 ∧ τ.1 0 4 = 8 ∧ τ.1 0 5 = 4 := ⟨u.1.1.trans h.1, u.1.2.1.trans h.2.1, u.1.2.2.trans h.2.2⟩
theorem us_le {σ τ : St} {uf : Nat → Int32} (u : US σ τ) (h : ∀ j : Nat, j < 8 → (σ.1 (22 + j) 2).toInt ≤ (uf j).toInt) : ∀ j : Nat, j < 8 → (τ.1 (22 + j) 2).toInt ≤ (uf j).toInt := fun j hj => Int.le_trans (u.2 j (by omega)) (h j hj)
theorem q_pair {σ τ : St} (iv : INV σ) (q : Q σ τ) : INV τ ∧ US σ τ := ⟨iv.q q, US.q iv.1 q⟩
theorem one_1 {x : Int32} (h : f_oneIf x = 1) : ¬ x = 0 := by
  intro e
  rw [e] at h
  exact absurd h (by decide)
theorem lgc_self (x : Int64) : lg_cmp x x = 0 := by simp [lg_cmp]
theorem uA_step {σ : St} {y : Int32} {n : Nat} {uf : Nat → Int32} (hi : lpI 8 y (n + 1)) (hlt : y.toInt < 8) (h : ∀ j : Nat, j < 8 → (j : Int) < y.toInt → uf j = σ.1 (22 + j) 2) : ∀ j : Nat, j < 8 → (j : Int) < (y + 1).toInt → upd uf y.toNatClampNeg (f_ofKit σ y 2) j = σ.1 (22 + j) 2 := by
  intro j hj h2
  have e1 := i_add1 (x := y) (by have := hi.1; omega) (by omega)
  have e2 := ix_to hi.1
  by_cases e : j = y.toNatClampNeg
  · subst e
    rw [pk_us, rd_k2]
  · rw [pk_un e]
    exact h j hj (by omega)
theorem uC_step {σ : St} {y : Int32} {n : Nat} {uf : Nat → Int32} (hi : lpI 8 y (n + 1)) (hlt : y.toInt < 8) (h : ∀ j : Nat, j < 8 → ((j : Int) < y.toInt → uf j = σ.1 (22 + j) 2) ∧ (y.toInt ≤ (j : Int) → (σ.1 (22 + j) 2).toInt ≤ (uf j).toInt)) : ∀ j : Nat, j < 8 → ((j : Int) < (y + 1).toInt → upd uf y.toNatClampNeg (f_ofKit σ y 2) j = σ.1 (22 + j) 2) ∧ ((y + 1).toInt ≤ (j : Int) → (σ.1 (22 + j) 2).toInt ≤ (upd uf y.toNatClampNeg (f_ofKit σ y 2) j).toInt) := by
  intro j hj
  have e1 := i_add1 (x := y) (by have := hi.1; omega) (by omega)
  have e2 := ix_to hi.1
  by_cases e : j = y.toNatClampNeg
  · subst e
    rw [pk_us, rd_k2]
    exact ⟨fun _ => rfl, fun _ => Int.le_refl _⟩
  · rw [pk_un e]
    exact ⟨fun h2 => (h j hj).1 (by omega), fun h2 => (h j hj).2 (by omega)⟩
