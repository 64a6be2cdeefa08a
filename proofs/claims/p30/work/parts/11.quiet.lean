/-! ===== what the ledger's inner writes leave as it was ===== -/
def bd (x : Int32) (n : Nat) : Prop := 0 ≤ x.toInt ∧ x.toInt ≤ n
/-- the numbers that the relation speaks of -/
def Rel (a b : Nat) : Prop := (a = 0 ∧ (b = 3 ∨ b = 4 ∨ b = 5 ∨ b = 9)) ∨ (34 ≤ a ∧ a < 40 ∧ (b ≤ 6 ∨ b = 8)) ∨ (6 ≤ a ∧ a < 14 ∧ (b = 3 ∨ b = 5 ∨ b = 6)) ∨ (22 ≤ a ∧ a < 34 ∧ (b = 2 ∨ b = 4))
/-- τ comes of σ by gags standing down, by being hurt with all that it brings, by getting tired, by uses -/
def Q (σ τ : St) : Prop :=
  (τ.1 0 3 = σ.1 0 3 ∧ τ.1 0 4 = σ.1 0 4 ∧ τ.1 0 5 = σ.1 0 5 ∧ τ.1 0 9 = σ.1 0 9) ∧
  (∀ g, g < 6 → τ.1 (34 + g) 0 = σ.1 (34 + g) 0 ∧ τ.1 (34 + g) 1 = σ.1 (34 + g) 1 ∧ τ.1 (34 + g) 2 = σ.1 (34 + g) 2 ∧ τ.1 (34 + g) 3 = σ.1 (34 + g) 3 ∧ τ.1 (34 + g) 6 = σ.1 (34 + g) 6) ∧
  (∀ g, g < 6 → τ.1 (34 + g) 8 = 0 ∨ (τ.1 (34 + g) 8 = σ.1 (34 + g) 8 ∧ τ.1 (34 + g) 4 = σ.1 (34 + g) 4 ∧ τ.1 (34 + g) 5 = σ.1 (34 + g) 5)) ∧
  (∀ g, g < 6 → (bd (σ.1 (34 + g) 4) 4 → bd (τ.1 (34 + g) 4) 4) ∧ (bd (σ.1 (34 + g) 5) 7 → bd (τ.1 (34 + g) 5) 7)) ∧
  (∀ p, p < 8 → τ.1 (6 + p) 5 = σ.1 (6 + p) 5 ∧ (bd (σ.1 (6 + p) 6) 100 → bd (τ.1 (6 + p) 6) 100)) ∧
  (∀ p, p < 8 → τ.1 (6 + p) 3 = σ.1 (6 + p) 3 ∨ τ.1 (6 + p) 3 = 0 ∨ ∀ g : Nat, g < 6 → (g : Int) < (τ.1 0 5).toInt → (τ.1 (34 + g) 1).toNatClampNeg = p → τ.1 (34 + g) 8 = 0) ∧
  (∀ k, k < 12 → τ.1 (22 + k) 4 = σ.1 (22 + k) 4 ∧ (0 ≤ (σ.1 (22 + k) 2).toInt → 0 ≤ (τ.1 (22 + k) 2).toInt ∧ (τ.1 (22 + k) 2).toInt ≤ (σ.1 (22 + k) 2).toInt))
theorem Q.refl (σ : St) : Q σ σ := ⟨⟨rfl, rfl, rfl, rfl⟩, fun _ _ => ⟨rfl, rfl, rfl, rfl, rfl⟩, fun _ _ => Or.inr ⟨rfl, rfl, rfl⟩, fun _ _ => ⟨id, id⟩, fun _ _ => ⟨rfl, id⟩, fun _ _ => Or.inl rfl, fun _ _ => ⟨rfl, fun h => ⟨h, Int.le_refl _⟩⟩⟩
theorem Q.trans {σ τ ρ : St} (a : Q σ τ) (b : Q τ ρ) : Q σ ρ := by
  obtain ⟨⟨a3, a4, a5, a9⟩, aG, aA, aS, aP, aH, aK⟩ := a
  obtain ⟨⟨b3, b4, b5, b9⟩, bG, bA, bS, bP, bH, bK⟩ := b
  refine ⟨⟨b3.trans a3, b4.trans a4, b5.trans a5, b9.trans a9⟩, fun g hg => ?_, fun g hg => ?_, fun g hg => ⟨fun h => (bS g hg).1 ((aS g hg).1 h), fun h => (bS g hg).2 ((aS g hg).2 h)⟩, fun p hp => ⟨(bP p hp).1.trans (aP p hp).1, fun h => (bP p hp).2 ((aP p hp).2 h)⟩, fun p hp => ?_, fun k hk => ⟨(bK k hk).1.trans (aK k hk).1, fun h => ?_⟩⟩
  · obtain ⟨x0, x1, x2, x3, x6⟩ := aG g hg
    obtain ⟨y0, y1, y2, y3, y6⟩ := bG g hg
    exact ⟨y0.trans x0, y1.trans x1, y2.trans x2, y3.trans x3, y6.trans x6⟩
  · rcases bA g hg with h | ⟨h8, h4, h5⟩
    · exact Or.inl h
    · rcases aA g hg with k | ⟨k8, k4, k5⟩
      · exact Or.inl (h8.trans k)
      · exact Or.inr ⟨h8.trans k8, h4.trans k4, h5.trans k5⟩
  · rcases bH p hp with h | h | h
    · rcases aH p hp with k | k | k
      · exact Or.inl (h.trans k)
      · exact Or.inr (Or.inl (h.trans k))
      · refine Or.inr (Or.inr (fun g hg hc hq => ?_))
        have z := k g hg (by rw [← b5]; exact hc) (by rw [← (bG g hg).2.1]; exact hq)
        rcases bA g hg with w | ⟨w, -, -⟩
        · exact w
        · exact w.trans z
    · exact Or.inr (Or.inl h)
    · exact Or.inr (Or.inr h)
  · obtain ⟨u, v⟩ := (aK k hk).2 h
    obtain ⟨w, z⟩ := (bK k hk).2 u
    exact ⟨w, Int.le_trans z v⟩
theorem WF.q {σ τ : St} (h : WF σ) (q : Q σ τ) : WF τ := by
  obtain ⟨⟨a3, a4, a5, a9⟩, aG, aA, aS, aP, aH, aK⟩ := q
  refine wf_ext h a3 a4 a5 a9 (fun i hi => ⟨(aG i hi).1, (aG i hi).2.1, (aG i hi).2.2.2.1, ?_⟩) (fun i hi => (aK i hi).1)
  rcases aA i hi with k | ⟨k, -, -⟩
  · exact Or.inr (Or.inl k)
  · exact Or.inl k
theorem Q_eq {σ τ : St} (h : ∀ a b, Rel a b → τ.1 a b = σ.1 a b) : Q σ τ := by
  refine ⟨⟨h _ _ (by unfold Rel; omega), h _ _ (by unfold Rel; omega), h _ _ (by unfold Rel; omega), h _ _ (by unfold Rel; omega)⟩, fun g hg => ⟨h _ _ (by unfold Rel; omega), h _ _ (by unfold Rel; omega), h _ _ (by unfold Rel; omega), h _ _ (by unfold Rel; omega), h _ _ (by unfold Rel; omega)⟩, fun g hg => Or.inr ⟨h _ _ (by unfold Rel; omega), h _ _ (by unfold Rel; omega), h _ _ (by unfold Rel; omega)⟩, fun g hg => ⟨fun z => ?_, fun z => ?_⟩, fun p hp => ⟨h _ _ (by unfold Rel; omega), fun z => ?_⟩, fun p hp => Or.inl (h _ _ (by unfold Rel; omega)), fun k hk => ⟨h _ _ (by unfold Rel; omega), fun z => ?_⟩⟩
  · rw [h _ _ (by unfold Rel; omega)]; exact z
  · rw [h _ _ (by unfold Rel; omega)]; exact z
  · rw [h _ _ (by unfold Rel; omega)]; exact z
  · rw [h _ _ (by unfold Rel; omega)]; exact ⟨z, Int.le_refl _⟩
theorem Q_irr {σ : St} {c k : Nat} {v : Int32} (h : ¬ Rel c k) : Q σ (up σ c k v) := Q_eq fun a b hr => up_o (by rintro ⟨rfl, rfl⟩; exact h hr)
theorem Q_L {σ : St} {v : Int64} : Q σ (upL σ v) := Q_eq fun _ _ _ => rfl
theorem Q_down {σ τ : St} (i : Nat) (h : ∀ a b, Rel a b → ¬ (a = 34 + i ∧ (b = 4 ∨ b = 5 ∨ b = 8)) → τ.1 a b = σ.1 a b) (h8 : τ.1 (34 + i) 8 = 0) (h4 : bd (σ.1 (34 + i) 4) 4 → bd (τ.1 (34 + i) 4) 4) (h5 : bd (σ.1 (34 + i) 5) 7 → bd (τ.1 (34 + i) 5) 7) : Q σ τ := by
  refine ⟨⟨h _ _ (by unfold Rel; omega) (by omega), h _ _ (by unfold Rel; omega) (by omega), h _ _ (by unfold Rel; omega) (by omega), h _ _ (by unfold Rel; omega) (by omega)⟩, fun g hg => ⟨h _ _ (by unfold Rel; omega) (by omega), h _ _ (by unfold Rel; omega) (by omega), h _ _ (by unfold Rel; omega) (by omega), h _ _ (by unfold Rel; omega) (by omega), h _ _ (by unfold Rel; omega) (by omega)⟩, fun g hg => ?_, fun g hg => ?_, fun p hp => ⟨h _ _ (by unfold Rel; omega) (by omega), fun z => ?_⟩, fun p hp => Or.inl (h _ _ (by unfold Rel; omega) (by omega)), fun k hk => ⟨h _ _ (by unfold Rel; omega) (by omega), fun z => ?_⟩⟩
  · by_cases e : g = i
    · subst e; exact Or.inl h8
    · exact Or.inr ⟨h _ _ (by unfold Rel; omega) (by omega), h _ _ (by unfold Rel; omega) (by omega), h _ _ (by unfold Rel; omega) (by omega)⟩
  · by_cases e : g = i
    · subst e; exact ⟨h4, h5⟩
    · exact ⟨fun z => by rw [h _ _ (by unfold Rel; omega) (by omega)]; exact z, fun z => by rw [h _ _ (by unfold Rel; omega) (by omega)]; exact z⟩
  · rw [h _ _ (by unfold Rel; omega) (by omega)]; exact z
  · rw [h _ _ (by unfold Rel; omega) (by omega)]; exact ⟨z, Int.le_refl _⟩
theorem Q_person {σ τ : St} (i : Nat) (hi : i < 8) (h : ∀ a b, Rel a b → ¬ (a = 6 + i ∧ (b = 3 ∨ b = 6)) → τ.1 a b = σ.1 a b) (h6 : bd (σ.1 (6 + i) 6) 100 → bd (τ.1 (6 + i) 6) 100) (h3 : τ.1 (6 + i) 3 = σ.1 (6 + i) 3 ∨ τ.1 (6 + i) 3 = 0 ∨ ∀ g : Nat, g < 6 → (g : Int) < (τ.1 0 5).toInt → (τ.1 (34 + g) 1).toNatClampNeg = i → τ.1 (34 + g) 8 = 0) : Q σ τ := by
  refine ⟨⟨h _ _ (by unfold Rel; omega) (by omega), h _ _ (by unfold Rel; omega) (by omega), h _ _ (by unfold Rel; omega) (by omega), h _ _ (by unfold Rel; omega) (by omega)⟩, fun g hg => ⟨h _ _ (by unfold Rel; omega) (by omega), h _ _ (by unfold Rel; omega) (by omega), h _ _ (by unfold Rel; omega) (by omega), h _ _ (by unfold Rel; omega) (by omega), h _ _ (by unfold Rel; omega) (by omega)⟩, fun g hg => Or.inr ⟨h _ _ (by unfold Rel; omega) (by omega), h _ _ (by unfold Rel; omega) (by omega), h _ _ (by unfold Rel; omega) (by omega)⟩, fun g hg => ⟨fun z => ?_, fun z => ?_⟩, fun p hp => ⟨h _ _ (by unfold Rel; omega) (by omega), fun z => ?_⟩, fun p hp => ?_, fun k hk => ⟨h _ _ (by unfold Rel; omega) (by omega), fun z => ?_⟩⟩
  · rw [h _ _ (by unfold Rel; omega) (by omega)]; exact z
  · rw [h _ _ (by unfold Rel; omega) (by omega)]; exact z
  · by_cases e : p = i
    · subst e; exact h6 z
    · rw [h _ _ (by unfold Rel; omega) (by omega)]; exact z
  · by_cases e : p = i
    · subst e; exact h3
    · exact Or.inl (h _ _ (by unfold Rel; omega) (by omega))
  · rw [h _ _ (by unfold Rel; omega) (by omega)]; exact ⟨z, Int.le_refl _⟩
theorem Q_uses {σ : St} {i : Nat} {v : Int32} (hi : i < 12) (hv : 0 ≤ (σ.1 (22 + i) 2).toInt → 0 ≤ v.toInt ∧ v.toInt ≤ (σ.1 (22 + i) 2).toInt) : Q σ (up σ (22 + i) 2 v) := by
  have h : ∀ a b, Rel a b → ¬ (a = 22 + i ∧ b = 2) → (up σ (22 + i) 2 v).1 a b = σ.1 a b := fun a b _ hr => up_o hr
  refine ⟨⟨h _ _ (by unfold Rel; omega) (by omega), h _ _ (by unfold Rel; omega) (by omega), h _ _ (by unfold Rel; omega) (by omega), h _ _ (by unfold Rel; omega) (by omega)⟩, fun g hg => ⟨h _ _ (by unfold Rel; omega) (by omega), h _ _ (by unfold Rel; omega) (by omega), h _ _ (by unfold Rel; omega) (by omega), h _ _ (by unfold Rel; omega) (by omega), h _ _ (by unfold Rel; omega) (by omega)⟩, fun g hg => Or.inr ⟨h _ _ (by unfold Rel; omega) (by omega), h _ _ (by unfold Rel; omega) (by omega), h _ _ (by unfold Rel; omega) (by omega)⟩, fun g hg => ⟨fun z => ?_, fun z => ?_⟩, fun p hp => ⟨h _ _ (by unfold Rel; omega) (by omega), fun z => ?_⟩, fun p hp => Or.inl (h _ _ (by unfold Rel; omega) (by omega)), fun k hk => ⟨h _ _ (by unfold Rel; omega) (by omega), fun z => ?_⟩⟩
  · rw [h _ _ (by unfold Rel; omega) (by omega)]; exact z
  · rw [h _ _ (by unfold Rel; omega) (by omega)]; exact z
  · rw [h _ _ (by unfold Rel; omega) (by omega)]; exact z
  · by_cases e : k = i
    · subst e; rw [up_s]; exact hv z
    · rw [h _ _ (by unfold Rel; omega) (by omega)]; exact ⟨z, Int.le_refl _⟩
theorem bd0 (n : Nat) : bd 0 n := ⟨by decide, by rw [show (0 : Int32).toInt = 0 from rfl]; omega⟩
/-! standing down -/
theorem sd_o {σ : St} {g : Int32} {a b : Nat} (h : ¬ (a = 34 + g.toNatClampNeg ∧ b = 8)) (h2 : ¬ (a = 0 ∧ b = 13)) : (f_standDown σ g).1 a b = σ.1 a b := by
  unfold f_standDown
  split
  · rfl
  · show (up (up σ _ 8 0) 0 13 _).1 a b = _
    rw [up_o h2, up_o h]
theorem sd_s {σ : St} {g : Int32} : (f_standDown σ g).1 (34 + g.toNatClampNeg) 8 = 0 := by
  unfold f_standDown
  split
  · assumption
  · show (up (up σ _ 8 0) 0 13 _).1 _ 8 = 0
    rw [up_o (by omega), up_s]
theorem Q_standDown (σ : St) (g : Int32) : Q σ (f_standDown σ g) :=
  Q_down g.toNatClampNeg (fun a b hr h => sd_o (by omega) (by unfold Rel at hr; omega)) sd_s (fun h => by rw [sd_o (by omega) (by omega)]; exact h) (fun h => by rw [sd_o (by omega) (by omega)]; exact h)
theorem ls_o {σ : St} {g : Int32} {a b : Nat} (h : ¬ (a = 34 + g.toNatClampNeg ∧ (b = 8 ∨ b = 5))) (h2 : ¬ (a = 0 ∧ b = 13)) : (f_loseSignatures σ g).1 a b = σ.1 a b := by
  show (f_standDown (up σ _ 5 0) g).1 a b = _
  rw [sd_o (by omega) h2, up_o (by omega)]
theorem ls_8 {σ : St} {g : Int32} : (f_loseSignatures σ g).1 (34 + g.toNatClampNeg) 8 = 0 := sd_s
theorem ls_5 {σ : St} {g : Int32} : (f_loseSignatures σ g).1 (34 + g.toNatClampNeg) 5 = 0 := by
  show (f_standDown (up σ _ 5 0) g).1 _ _ = _
  rw [sd_o (by omega) (by omega), up_s]
theorem Q_loseSignatures (σ : St) (g : Int32) : Q σ (f_loseSignatures σ g) :=
  Q_down g.toNatClampNeg (fun a b hr h => ls_o (by omega) (by unfold Rel at hr; omega)) ls_8 (fun h => by rw [ls_o (by omega) (by omega)]; exact h) (fun h => by rw [ls_5]; exact bd0 7)
theorem bd_min {x y : Int32} {n : Nat} (h : bd x n) (hy : bd y n) : bd (if x < y then x else y) n := by
  split
  · exact h
  · exact hy
theorem Q_becomeChanged (σ : St) (g : Int32) : Q σ (f_becomeChanged σ g) := by
  have e : f_becomeChanged σ g = up (f_loseSignatures σ g) (34 + g.toNatClampNeg) 4 (if ((f_loseSignatures σ g).1 (34 + g.toNatClampNeg) 4) < (2 : Int32) then ((f_loseSignatures σ g).1 (34 + g.toNatClampNeg) 4) else (2 : Int32)) := rfl
  rw [e]
  refine Q_down g.toNatClampNeg (fun a b hr h => ?_) ?_ (fun h => ?_) (fun h => ?_)
  · rw [up_o (by omega), ls_o (by omega) (by unfold Rel at hr; omega)]
  · rw [up_o (by omega), ls_8]
  · rw [up_s, ls_o (by omega) (by omega)]
    exact bd_min h ⟨by decide, by decide⟩
  · rw [up_o (by omega), ls_5]
    exact bd0 7
theorem Q_standDownOccupied (σ : St) : Q σ (f_standDownOccupied σ) := by
  have key : ∀ (n : Nat) (σ : St) (y : Int32), Q σ (f_standDownOccupied_L2 n σ y) := by
    intro n
    induction n with
    | zero => intro σ y; exact Q.refl σ
    | succ n ih =>
      intro σ y
      rw [f_standDownOccupied_L2]
      split
      · exact Q.refl σ
      · split
        · exact ih σ _
        · exact (Q_standDown σ y).trans (ih _ _)
  exact key 128 σ 0
theorem Q_addMiss (σ : St) (x : Int32) : Q σ (f_addMiss σ x) := by
  have key : ∀ (n : Nat) (σ : St) (y : Int32), Q σ (f_addMiss_L34 x n σ y) := by
    intro n
    induction n with
    | zero => intro σ y; exact Q.refl σ
    | succ n ih =>
      intro σ y
      rw [f_addMiss_L34]
      split
      · exact Q.refl σ
      · split
        · exact (Q_loseSignatures σ y).trans (ih _ _)
        · exact ih σ _
  have h1 : Q σ (up σ 5 x.toNatClampNeg ((σ.1 5 x.toNatClampNeg) + (1 : Int32))) := Q_irr (by unfold Rel; omega)
  unfold f_addMiss
  generalize up σ 5 x.toNatClampNeg ((σ.1 5 x.toNatClampNeg) + (1 : Int32)) = σ1 at h1 ⊢
  dsimp only
  split
  · exact (h1.trans (Q_irr (by unfold Rel; omega))).trans (key _ _ _)
  · exact h1
/-! numbers in range: energy, ring; places of ints -/
theorem ix_to {x : Int32} (h : 0 ≤ x.toInt) : ((x.toNatClampNeg : Nat) : Int) = x.toInt := by
  have : x.toNatClampNeg = x.toInt.toNat := rfl
  omega
theorem ix_inj {a b : Int32} (ha : 0 ≤ a.toInt) (hb : 0 ≤ b.toInt) (h : a.toNatClampNeg = b.toNatClampNeg) : a = b := by
  have e1 := ix_to ha
  have e2 := ix_to hb
  exact Int32.toInt_inj.mp (by omega)
theorem ix_s {y : Int32} (h0 : 0 ≤ y.toInt) (h1 : y.toInt < 1000) : (y + 1).toNatClampNeg = y.toNatClampNeg + 1 := by
  have e := i_add1 (x := y) (by omega) (by omega)
  have a := ix_to h0
  have b := ix_to (x := y + 1) (by omega)
  omega
theorem en_0 : ∀ j, j < 31 → bd (10 * nI j) 450 := by unfold bd; decide +kernel
theorem en_1 : ∀ j, j < 31 → bd (nI j * nI j / 2) 450 := by unfold bd; decide +kernel
theorem en_2 : ∀ j, j < 31 → ∀ i, i < 10 → bd (6 * nI j + nI i * nI j) 450 := by unfold bd; decide +kernel
theorem en_3 : ∀ j, j < 31 → bd (5 * nI j) 450 := by unfold bd; decide +kernel
theorem en_at {σ : St} {k x : Int32} (h : WF σ) (hx : vp_in x 31) : bd (f_energyAt σ k x) 450 := by
  obtain ⟨j, hj, rfl⟩ := vp_in_of hx (by omega)
  obtain ⟨i, hi, hw⟩ := vp_in_of (x := σ.1 0 9) (n := 10) (vp_to h.2.2.2.1.1 (by have := h.2.2.2.1.2; omega)) (by omega)
  unfold f_energyAt
  split
  · exact en_0 j hj
  · split
    · exact en_1 j hj
    · split
      · rw [hw]; exact en_2 j hj i hi
      · exact en_3 j hj
theorem en_bd {σ : St} {g : Int32} (h : WF σ) (hg : vp_in g 6) : bd (f_energyOf σ g) 450 := en_at h (WF.gl h hg)
theorem d15 : ∀ j, j < 451 → bd (nI j / 15) 30 := by unfold bd; decide +kernel
theorem d10 : ∀ j, j < 451 → bd (nI j / 10) 45 := by unfold bd; decide +kernel
theorem bd_nI {x : Int32} {n : Nat} (h : bd x n) (hn : n + 1 < 2 ^ 31) : ∃ j, j < n + 1 ∧ x = nI j := vp_in_of (vp_to h.1 (by have := h.2; omega)) hn
theorem ring_bd {σ : St} {g : Int32} (h : WF σ) (hg : vp_in g 6) : bd (f_ringOf σ g) 30 := by
  obtain ⟨j, hj, e⟩ := bd_nI (en_at (k := σ.1 (34 + g.toNatClampNeg) 0) h (WF.gl h hg)) (by omega)
  unfold f_ringOf
  rw [e]
  exact d15 j hj
theorem lp_ring {x : Int32} (h : bd x 30) : lpI 100 (x + 1) 128 := by
  obtain ⟨h1, h2⟩ := h
  have e := i_add1 (x := x) (by omega) (by omega)
  refine ⟨?_, ?_, ?_⟩ <;> (rw [e]) <;> omega
theorem bfp_in {σ : St} (h : WF σ) (x1 x2 : Int32) : f_bestFreePiece σ x1 x2 = -1 ∨ vp_in (f_bestFreePiece σ x1 x2) 12 := by
  have key : ∀ (n : Nat) (y b : Int32), lpI 12 y n → (b = -1 ∨ vp_in b 12) → f_bestFreePiece_L5 σ x1 x2 n y b = -1 ∨ vp_in (f_bestFreePiece_L5 σ x1 x2 n y b) 12 := by
    intro n
    induction n with
    | zero => intro y b hl _; exact (lp_0 hl).elim
    | succ n ih =>
      intro y b hl hb
      rw [f_bestFreePiece_L5]
      split
      · exact hb
      · rename_i c
        have hlt : y.toInt < 12 := lt_nle c h.2.1.2
        have hs := lp_s hl hlt
        have hy : y = -1 ∨ vp_in y 12 := Or.inr (lp_i hl hlt)
        repeat' split
        all_goals first | exact ih _ _ hs hb | exact ih _ _ hs hy
  exact key 128 0 (-1) (lp_z (by decide)) (Or.inl rfl)
/-! tired, hurt, uses, pay, a day -/
theorem tired_bd {x m : Int32} (h : bd x 100) (hm : bd m 1000) : bd (if x + m < (100 : Int32) then x + m else (100 : Int32)) 100 := by
  obtain ⟨h1, h2⟩ := h
  obtain ⟨m1, m2⟩ := hm
  have e : (x + m).toInt = x.toInt + m.toInt := by
    rw [Int32.toInt_add]
    rw [Int.bmod_eq_of_le] <;> omega
  split
  · rename_i c
    have q := i_lt.mp c
    rw [show (100 : Int32).toInt = 100 from rfl] at q
    exact ⟨by omega, by omega⟩
  · exact ⟨by decide, by decide⟩
theorem Q_tire {σ : St} {i : Nat} {m : Int32} (hi : i < 8) (hm : bd m 1000) : Q σ (f_tire σ i m) := by
  show Q σ (up σ (6 + i) 6 _)
  refine Q_person i hi (fun a b _ h => up_o (by omega)) (fun h => ?_) (Or.inl (up_o (by omega)))
  rw [up_s]
  exact tired_bd h hm
theorem hurt_loop {x : Int32} : ∀ (n : Nat) (σ : St) (y : Int32), WF σ → lpI 6 y n → Q σ (f_hurt_L35 x n σ y) ∧ ∀ g : Nat, y.toNatClampNeg ≤ g → (g : Int) < (σ.1 0 5).toInt → σ.1 (34 + g) 1 = x → (f_hurt_L35 x n σ y).1 (34 + g) 8 = 0 := by
  intro n
  induction n with
  | zero => intro σ y _ hl; exact (lp_0 hl).elim
  | succ n ih =>
    intro σ y hw hl
    rw [f_hurt_L35]
    split
    · rename_i c
      refine ⟨Q.refl σ, fun g h1 h2 _ => ?_⟩
      have := ix_to hl.1
      have q := i_le.mp c
      omega
    · rename_i c
      have hlt : y.toInt < 6 := lt_nle c hw.2.2.1.2
      have hs := lp_s hl hlt
      have e1 := ix_s hl.1 (by omega)
      split
      · rename_i c2
        have q1 := Q_standDown σ y
        obtain ⟨q2, q3⟩ := ih (f_standDown σ y) (y + 1) (hw.q q1) hs
        refine ⟨q1.trans q2, fun g h1 h2 h3 => ?_⟩
        have hg6 : g < 6 := by have := hw.2.2.1.2; omega
        by_cases e : g = y.toNatClampNeg
        · subst e
          rcases q2.2.2.1 _ hg6 with k | ⟨k, -, -⟩
          · exact k
          · exact k.trans sd_s
        · exact q3 g (by omega) (by rw [q1.1.2.2.1]; exact h2) (by rw [(q1.2.1 g hg6).2.1]; exact h3)
      · rename_i c2
        obtain ⟨q2, q3⟩ := ih σ (y + 1) hw hs
        refine ⟨q2, fun g h1 h2 h3 => ?_⟩
        by_cases e : g = y.toNatClampNeg
        · subst e
          exact absurd h3 c2
        · exact q3 g (by omega) h2 h3
theorem Q_hurt {σ : St} {x : Int32} (hw : WF σ) (hx : vp_in x 8) : Q σ (f_hurt σ x) := by
  have hi := ix_lt hx
  obtain ⟨σ3, e3⟩ : ∃ z, z = up (up (up σ (6 + x.toNatClampNeg) 3 (1 : Int32)) (6 + x.toNatClampNeg) 4 ((up σ (6 + x.toNatClampNeg) 3 (1 : Int32)).1 0 8)) 0 11 (((up (up σ (6 + x.toNatClampNeg) 3 (1 : Int32)) (6 + x.toNatClampNeg) 4 ((up σ (6 + x.toNatClampNeg) 3 (1 : Int32)).1 0 8)).1 0 11) + (1 : Int32)) := ⟨_, rfl⟩
  have ef : f_hurt σ x = f_hurt_L35 x 128 σ3 0 := by rw [e3]; rfl
  have h : ∀ a b, Rel a b → ¬ (a = 6 + x.toNatClampNeg ∧ b = 3) → σ3.1 a b = σ.1 a b := by
    intro a b hr hn
    rw [e3, up_o (by unfold Rel at hr; omega), up_o (by unfold Rel at hr; omega), up_o (by omega)]
  have hw3 : WF σ3 := wf_ext hw (h _ _ (by unfold Rel; omega) (by omega)) (h _ _ (by unfold Rel; omega) (by omega)) (h _ _ (by unfold Rel; omega) (by omega)) (h _ _ (by unfold Rel; omega) (by omega)) (fun i hi => ⟨h _ _ (by unfold Rel; omega) (by omega), h _ _ (by unfold Rel; omega) (by omega), h _ _ (by unfold Rel; omega) (by omega), Or.inl (h _ _ (by unfold Rel; omega) (by omega))⟩) (fun i hi => h _ _ (by unfold Rel; omega) (by omega))
  obtain ⟨q, hd⟩ := hurt_loop (x := x) 128 σ3 0 hw3 (lp_z (by decide))
  rw [ef]
  obtain ⟨⟨a3, a4, a5, a9⟩, aG, aA, aS, aP, aH, aK⟩ := q
  have g5 := h 0 5 (by unfold Rel; omega) (by omega)
  refine ⟨⟨a3.trans (h _ _ (by unfold Rel; omega) (by omega)), a4.trans (h _ _ (by unfold Rel; omega) (by omega)), a5.trans g5, a9.trans (h _ _ (by unfold Rel; omega) (by omega))⟩, fun g hg => ?_, fun g hg => ?_, fun g hg => ?_, fun p hp => ?_, fun p hp => ?_, fun k hk => ?_⟩
  · obtain ⟨x0, x1, x2, x3, x6⟩ := aG g hg
    exact ⟨x0.trans (h _ _ (by unfold Rel; omega) (by omega)), x1.trans (h _ _ (by unfold Rel; omega) (by omega)), x2.trans (h _ _ (by unfold Rel; omega) (by omega)), x3.trans (h _ _ (by unfold Rel; omega) (by omega)), x6.trans (h _ _ (by unfold Rel; omega) (by omega))⟩
  · rcases aA g hg with k | ⟨k8, k4, k5⟩
    · exact Or.inl k
    · exact Or.inr ⟨k8.trans (h _ _ (by unfold Rel; omega) (by omega)), k4.trans (h _ _ (by unfold Rel; omega) (by omega)), k5.trans (h _ _ (by unfold Rel; omega) (by omega))⟩
  · have := aS g hg
    rw [h (34 + g) 4 (by unfold Rel; omega) (by omega), h (34 + g) 5 (by unfold Rel; omega) (by omega)] at this
    exact this
  · have := aP p hp
    rw [h (6 + p) 5 (by unfold Rel; omega) (by omega), h (6 + p) 6 (by unfold Rel; omega) (by omega)] at this
    exact this
  · by_cases e : p = x.toNatClampNeg
    · refine Or.inr (Or.inr (fun g hg hc hq => ?_))
      refine hd g (Nat.zero_le _) (by rw [← a5]; exact hc) ?_
      have e1 := (aG g hg).2.1
      rw [e1] at hq
      have v1 := (hw3.2.2.2.2.1 g hg).2.1
      exact ix_inj (vp_in_iff.mp v1).1 (vp_in_iff.mp hx).1 (hq.trans e)
    · rcases aH p hp with k | k | k
      · exact Or.inl (k.trans (h _ _ (by unfold Rel; omega) (by omega)))
      · exact Or.inr (Or.inl k)
      · exact Or.inr (Or.inr k)
  · have := aK k hk
    rw [h (22 + k) 4 (by unfold Rel; omega) (by omega), h (22 + k) 2 (by unfold Rel; omega) (by omega)] at this
    exact this
theorem i_sub1 {x : Int32} (h0 : -1000 ≤ x.toInt) (h1 : x.toInt < 1000000) : (x - 1).toInt = x.toInt - 1 := by
  rw [Int32.toInt_sub, show (1 : Int32).toInt = 1 from rfl]
  rw [Int.bmod_eq_of_le] <;> omega
theorem guards_uses {σ : St} {y g : Int32} (h : ¬ f_guards σ y g = 0) : 0 < (σ.1 (22 + y.toNatClampNeg) 2).toInt := by
  unfold f_guards at h
  split at h
  · split at h
    · split at h
      · exact absurd rfl h
      · rename_i _ _ c
        unfold f_isFit at c
        split at c
        · exact absurd rfl c
        · rename_i c2
          have := i_nle c2
          rw [show (0 : Int32).toInt = 0 from rfl] at this
          exact this
    · exact absurd rfl h
  · exact absurd rfl h
theorem Q_useKitOf {σ : St} (hw : WF σ) (g : Int32) : Q σ (f_useKitOf σ g) := by
  have key : ∀ (n : Nat) (σ : St) (y : Int32), WF σ → lpI 12 y n → Q σ (f_useKitOf_L2 g n σ y) := by
    intro n
    induction n with
    | zero => intro σ y _ hl; exact (lp_0 hl).elim
    | succ n ih =>
      intro σ y hw hl
      rw [f_useKitOf_L2]
      split
      · exact Q.refl σ
      · rename_i c
        have hlt : y.toInt < 12 := lt_nle c hw.2.1.2
        have hs := lp_s hl hlt
        split
        · exact ih σ _ hw hs
        · rename_i c2
          have hu := guards_uses c2
          have q : Q σ (up σ (22 + y.toNatClampNeg) 2 ((σ.1 (22 + y.toNatClampNeg) 2) - (1 : Int32))) := by
            refine Q_uses (ix_lt (lp_i hl hlt)) (fun _ => ?_)
            have e : ((σ.1 (22 + y.toNatClampNeg) 2) - (1 : Int32)).toInt = (σ.1 (22 + y.toNatClampNeg) 2).toInt - 1 := by
              have b := Int32.toInt_lt (σ.1 (22 + y.toNatClampNeg) 2)
              rw [Int32.toInt_sub, show (1 : Int32).toInt = 1 from rfl]
              rw [Int.bmod_eq_of_le] <;> omega
            rw [e]
            omega
          exact q.trans (ih _ _ (hw.q q) hs)
  exact key 128 σ 0 hw (lp_z (by decide))
theorem Q_payFor {σ : St} {g : Int32} (hw : WF σ) (hg : vp_in g 6) : Q σ (f_payFor σ g) := by
  have key : ∀ (n : Nat) (σ : St) (y : Int32), Q σ (f_payFor_L55 g n σ y) := by
    intro n
    induction n with
    | zero => intro σ y; exact Q.refl σ
    | succ n ih =>
      intro σ y
      rw [f_payFor_L55]
      split
      · exact Q.refl σ
      · split
        · exact ih σ _
        · exact (Q_irr (by unfold Rel; omega)).trans (ih _ _)
  have hi := ix_lt (WF.gp hw hg)
  have hm : bd ((f_energyOf σ g) / (10 : Int32)) 1000 := by
    obtain ⟨j, hj, e⟩ := bd_nI (en_bd hw hg) (by omega)
    rw [e]
    have := d10 j hj
    exact ⟨this.1, by have := this.2; omega⟩
  have q1 : Q σ (f_tire σ ((σ.1 (34 + g.toNatClampNeg) 1).toNatClampNeg) ((f_energyOf σ g) / (10 : Int32))) := Q_tire hi hm
  unfold f_payFor
  generalize f_tire σ ((σ.1 (34 + g.toNatClampNeg) 1).toNatClampNeg) ((f_energyOf σ g) / (10 : Int32)) = σ1 at q1 ⊢
  exact ((q1.trans (Q_irr (by unfold Rel; omega))).trans (Q_irr (by unfold Rel; omega))).trans (key _ _ _)
theorem day_bd {x : Int32} (h : bd x 100) : bd (if (0 : Int32) < x - (30 : Int32) then x - (30 : Int32) else (0 : Int32)) 100 := by
  obtain ⟨h1, h2⟩ := h
  have e : (x - 30).toInt = x.toInt - 30 := by
    rw [Int32.toInt_sub, show (30 : Int32).toInt = 30 from rfl]
    rw [Int.bmod_eq_of_le] <;> omega
  split
  · rename_i c
    have q := i_lt.mp c
    rw [show (0 : Int32).toInt = 0 from rfl] at q
    exact ⟨by omega, by omega⟩
  · exact ⟨by decide, by decide⟩
theorem Q_passOneDay {σ : St} (hw : WF σ) : Q σ (f_passOneDay σ) := by
  have k75 : ∀ (n : Nat) (σ : St) (y : Int32), Q σ (f_passOneDay_L75 n σ y) := by
    intro n
    induction n with
    | zero => intro σ y; exact Q.refl σ
    | succ n ih =>
      intro σ y
      rw [f_passOneDay_L75]
      split
      · exact Q.refl σ
      · exact (Q_irr (by unfold Rel; omega)).trans (ih _ _)
  have k12 : ∀ (n : Nat) (σ : St) (y : Int32), WF σ → lpI 8 y n → Q σ (f_passOneDay_L12 n σ y) := by
    intro n
    induction n with
    | zero => intro σ y _ hl; exact (lp_0 hl).elim
    | succ n ih =>
      intro σ y hw hl
      rw [f_passOneDay_L12]
      split
      · exact k75 _ _ _
      · rename_i c
        have hlt : y.toInt < 8 := lt_nle c hw.1.2
        have hs := lp_s hl hlt
        have hi := ix_lt (lp_i hl hlt)
        have q1 : Q σ (up σ (6 + y.toNatClampNeg) 6 (if (0 : Int32) < ((σ.1 (6 + y.toNatClampNeg) 6) - (30 : Int32)) then ((σ.1 (6 + y.toNatClampNeg) 6) - (30 : Int32)) else (0 : Int32))) :=
          Q_person _ hi (fun a b _ h => up_o (by omega)) (fun h => by rw [up_s]; exact day_bd h) (Or.inl (up_o (by omega)))
        generalize up σ (6 + y.toNatClampNeg) 6 (if (0 : Int32) < ((σ.1 (6 + y.toNatClampNeg) 6) - (30 : Int32)) then ((σ.1 (6 + y.toNatClampNeg) 6) - (30 : Int32)) else (0 : Int32)) = σ3 at q1 ⊢
        have hw3 := hw.q q1
        dsimp only
        split
        · exact q1.trans (ih _ _ hw3 hs)
        · split
          · exact q1.trans (ih _ _ hw3 hs)
          · have q2 : Q σ3 (up σ3 (6 + y.toNatClampNeg) 3 (0 : Int32)) := Q_person _ hi (fun a b _ h => up_o (by omega)) (fun h => by rw [up_o (by omega)]; exact h) (Or.inr (Or.inl up_s))
            exact (q1.trans q2).trans (ih _ _ (hw3.q q2) hs)
  have q0 : Q σ (up σ 0 8 ((σ.1 0 8) + (1 : Int32))) := Q_irr (by unfold Rel; omega)
  exact q0.trans (k12 128 _ 0 (hw.q q0) (lp_z (by decide)))
/-! WF behind each -/
theorem wf_standDown {σ : St} {g : Int32} (h : WF σ) (_ : vp_in g 6) : WF (f_standDown σ g) := h.q (Q_standDown σ g)
theorem wf_standDownOccupied {σ : St} (h : WF σ) : WF (f_standDownOccupied σ) := h.q (Q_standDownOccupied σ)
theorem wf_loseSignatures {σ : St} {g : Int32} (h : WF σ) (_ : vp_in g 6) : WF (f_loseSignatures σ g) := h.q (Q_loseSignatures σ g)
theorem wf_becomeChanged {σ : St} {g : Int32} (h : WF σ) (_ : vp_in g 6) : WF (f_becomeChanged σ g) := h.q (Q_becomeChanged σ g)
theorem wf_addMiss {σ : St} {k : Int32} (h : WF σ) (_ : vp_in k 4) : WF (f_addMiss σ k) := h.q (Q_addMiss σ k)
theorem wf_tire {σ : St} {i : Nat} {m : Int32} (h : WF σ) (hi : i < 8) : WF (f_tire σ i m) := wf_up h (fun h => absurd h (by omega)) (fun h => absurd h (by omega)) (fun h => absurd h (by omega))
theorem wf_hurt {σ : St} {x : Int32} (h : WF σ) (hx : vp_in x 8) : WF (f_hurt σ x) := h.q (Q_hurt h hx)
theorem wf_useKitOf {σ : St} {g : Int32} (h : WF σ) (_ : vp_in g 6) : WF (f_useKitOf σ g) := h.q (Q_useKitOf h g)
theorem wf_payFor {σ : St} {g : Int32} (h : WF σ) (hg : vp_in g 6) : WF (f_payFor σ g) := h.q (Q_payFor h hg)
theorem wf_passOneDay {σ : St} (h : WF σ) : WF (f_passOneDay σ) := h.q (Q_passOneDay h)
