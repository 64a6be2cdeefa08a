/-! ===== what holds of a ledger between the law's calls ===== -/
/-- in bounds: steps, signatures, tired, uses -/
def IV (σ : St) : Prop := WF σ ∧ (∀ g, g < 6 → bd (σ.1 (34 + g) 4) 4 ∧ bd (σ.1 (34 + g) 5) 7) ∧ (∀ p, p < 8 → bd (σ.1 (6 + p) 6) 100) ∧ (∀ k, k < 12 → 0 ≤ (σ.1 (22 + k) 2).toInt)
def NA (σ : St) : Prop := ∀ g, g < 6 → σ.1 (34 + g) 8 = 0
def OK4 (σ : St) (g : Int32) : Prop := σ.1 (34 + g.toNatClampNeg) 4 = 4 ∧ σ.1 (34 + g.toNatClampNeg) 5 = 7 ∧ σ.1 (34 + g.toNatClampNeg) 6 = 0 ∧ σ.1 (6 + (σ.1 (34 + g.toNatClampNeg) 1).toNatClampNeg) 3 = 0
def RG (σ : St) (g : Int32) : Prop := ∀ p : Int32, inr p (σ.1 0 3) → f_standsInRing σ p g = 0
/-- what is armed is signed, and its ring is empty -/
def INV (σ : St) : Prop := IV σ ∧ ∀ g : Int32, inr g (σ.1 0 5) → σ.1 (34 + g.toNatClampNeg) 8 = 0 ∨ (OK4 σ g ∧ RG σ g)
theorem IV.q {σ τ : St} (h : IV σ) (q : Q σ τ) : IV τ := by
  obtain ⟨hw, hs, ht, hu⟩ := h
  have hw' := hw.q q
  obtain ⟨⟨a3, a4, a5, a9⟩, aG, aA, aS, aP, aH, aK⟩ := q
  exact ⟨hw', fun g hg => ⟨(aS g hg).1 (hs g hg).1, (aS g hg).2 (hs g hg).2⟩, fun p hp => (aP p hp).2 (ht p hp), fun k hk => ((aK k hk).2 (hu k hk)).1⟩
theorem NA.q {σ τ : St} (h : NA σ) (q : Q σ τ) : NA τ := by
  intro g hg
  rcases q.2.2.1 g hg with k | ⟨k, -, -⟩
  · exact k
  · exact k.trans (h g hg)
theorem ring_congr {σ τ : St} {p g : Int32} (h9 : τ.1 0 9 = σ.1 0 9) (h0 : τ.1 (34 + g.toNatClampNeg) 0 = σ.1 (34 + g.toNatClampNeg) 0) (h1 : τ.1 (34 + g.toNatClampNeg) 1 = σ.1 (34 + g.toNatClampNeg) 1) (h2 : τ.1 (34 + g.toNatClampNeg) 2 = σ.1 (34 + g.toNatClampNeg) 2) (h3 : τ.1 (34 + g.toNatClampNeg) 3 = σ.1 (34 + g.toNatClampNeg) 3) (h5 : τ.1 (6 + p.toNatClampNeg) 5 = σ.1 (6 + p.toNatClampNeg) 5) : f_standsInRing τ p g = f_standsInRing σ p g := by
  have e : f_ringOf τ g = f_ringOf σ g := by
    unfold f_ringOf f_energyAt
    rw [h0, h3, h9]
  unfold f_standsInRing
  rw [h1, h2, h5, e]
theorem ring_q {σ τ : St} {p g : Int32} (q : Q σ τ) (hg : vp_in g 6) (hp : vp_in p 8) : f_standsInRing τ p g = f_standsInRing σ p g := by
  obtain ⟨⟨a3, a4, a5, a9⟩, aG, aA, aS, aP, aH, aK⟩ := q
  obtain ⟨x0, x1, x2, x3, x6⟩ := aG _ (ix_lt hg)
  exact ring_congr a9 x0 x1 x2 x3 (aP _ (ix_lt hp)).1
theorem RG.q {σ τ : St} {g : Int32} (hw : WF σ) (q : Q σ τ) (hg : vp_in g 6) (h : RG σ g) : RG τ g := by
  intro p hp
  rw [q.1.1] at hp
  rw [ring_q q hg (WF.p8 hw hp)]
  exact h p hp
theorem OK4.q {σ τ : St} {g : Int32} (hw : WF σ) (q : Q σ τ) (hg : inr g (σ.1 0 5)) (h : OK4 σ g) : τ.1 (34 + g.toNatClampNeg) 8 = 0 ∨ OK4 τ g := by
  have hg6 := WF.g6 hw hg
  have hi := ix_lt hg6
  have hp := ix_lt (WF.gp hw hg6)
  obtain ⟨⟨a3, a4, a5, a9⟩, aG, aA, aS, aP, aH, aK⟩ := q
  obtain ⟨x0, x1, x2, x3, x6⟩ := aG _ hi
  obtain ⟨o4, o5, o6, o3⟩ := h
  rcases aA _ hi with k | ⟨k8, k4, k5⟩
  · exact Or.inl k
  · rcases aH _ hp with w | w | w
    · exact Or.inr ⟨k4.trans o4, k5.trans o5, x6.trans o6, by rw [x1]; exact w.trans o3⟩
    · exact Or.inr ⟨k4.trans o4, k5.trans o5, x6.trans o6, by rw [x1]; exact w⟩
    · refine Or.inl (w _ hi ?_ (by rw [x1]))
      rw [a5, ix_to hg.1]
      exact hg.2
theorem INV.q {σ τ : St} (h : INV σ) (q : Q σ τ) : INV τ := by
  refine ⟨h.1.q q, fun g hg => ?_⟩
  rw [q.1.2.2.1] at hg
  have hw := h.1.1
  have hg6 := WF.g6 hw hg
  rcases h.2 g hg with k | ⟨k, r⟩
  · rcases q.2.2.1 _ (ix_lt hg6) with z | ⟨z, -, -⟩
    · exact Or.inl z
    · exact Or.inl (z.trans k)
  · rcases OK4.q hw q hg k with z | z
    · exact Or.inl z
    · exact Or.inr ⟨z, RG.q hw q hg6 r⟩
theorem INV.na {σ : St} (h : IV σ) (n : NA σ) : INV σ := ⟨h, fun g hg => Or.inl (n _ (ix_lt (WF.g6 h.1 hg)))⟩
/-- the numbers that 'armed, and all is well' of the gag g rests on -/
def ROK (g : Nat) (a b : Nat) : Prop := (a = 0 ∧ (b = 3 ∨ b = 9)) ∨ (a = 34 + g ∧ b ≤ 6) ∨ (6 ≤ a ∧ a < 14 ∧ (b = 3 ∨ b = 5))
theorem OK_congr {σ τ : St} {g : Int32} (hw : WF σ) (hg : vp_in g 6) (h : ∀ a b, ROK g.toNatClampNeg a b → τ.1 a b = σ.1 a b) (o : OK4 σ g ∧ RG σ g) : OK4 τ g ∧ RG τ g := by
  obtain ⟨⟨o4, o5, o6, o3⟩, r⟩ := o
  have hp := ix_lt (WF.gp hw hg)
  have e1 := h (34 + g.toNatClampNeg) 1 (by unfold ROK; omega)
  refine ⟨⟨(h _ _ (by unfold ROK; omega)).trans o4, (h _ _ (by unfold ROK; omega)).trans o5, (h _ _ (by unfold ROK; omega)).trans o6, ?_⟩, fun p hq => ?_⟩
  · rw [e1, h _ _ (by unfold ROK; omega)]
    exact o3
  · rw [h 0 3 (by unfold ROK; omega)] at hq
    have hp8 := ix_lt (WF.p8 hw hq)
    rw [ring_congr (h _ _ (by unfold ROK; omega)) (h _ _ (by unfold ROK; omega)) e1 (h _ _ (by unfold ROK; omega)) (h _ _ (by unfold ROK; omega)) (h _ _ (by unfold ROK; omega))]
    exact r p hq
theorem occ_0 {σ : St} {g : Int32} (hw : WF σ) (h : f_isOccupied σ g = 0) : RG σ g := by
  have key : ∀ (n : Nat) (y : Int32), lpI 8 y n → f_isOccupied_L2 σ g n y = 0 → ∀ p : Int32, y.toInt ≤ p.toInt → inr p (σ.1 0 3) → f_standsInRing σ p g = 0 := by
    intro n
    induction n with
    | zero => intro y hl; exact (lp_0 hl).elim
    | succ n ih =>
      intro y hl h p h1 h2
      rw [f_isOccupied_L2] at h
      split at h
      · rename_i c
        have q := i_le.mp c
        have := h2.2
        omega
      · rename_i c
        have hlt : y.toInt < 8 := lt_nle c hw.1.2
        split at h
        · rename_i c2
          by_cases e : p.toInt = y.toInt
          · rw [Int32.toInt_inj.mp e]
            exact c2
          · have e1 := i_add1 (x := y) (by have := hl.1; omega) (by omega)
            exact ih _ (lp_s hl hlt) h p (by omega) h2
        · exact absurd h (by decide)
  exact fun p hp => key 128 0 (lp_z (by decide)) h p hp.1 hp
theorem bits7 : ∀ j, j < 8 → (3 : Int32) ≤ f_bitCount (nI j) → nI j = 7 := by decide +kernel
theorem bars_0 {σ : St} {g : Int32} (h : IV σ) (hg : vp_in g 6) (hb : f_whatBars σ g = 0) : OK4 σ g ∧ RG σ g := by
  obtain ⟨hw, hs, -, -⟩ := h
  unfold f_whatBars at hb
  split at hb
  · rename_i c1
    split at hb
    · rename_i c2
      split at hb
      · rename_i c3
        split at hb
        · rename_i c4
          split at hb
          · split at hb
            · split at hb
              · split at hb
                · split at hb
                  · exact absurd hb (by decide)
                  · split at hb
                    · rename_i c5
                      refine ⟨⟨?_, ?_, c2, c1⟩, occ_0 hw c5⟩
                      · have b4 := (hs _ (ix_lt hg)).1
                        have q := i_le.mp c3
                        rw [show (4 : Int32).toInt = 4 from rfl] at q
                        apply Int32.toInt_inj.mp
                        rw [show (4 : Int32).toInt = 4 from rfl]
                        have := b4.2
                        omega
                      · obtain ⟨j, hj, e⟩ := bd_nI (hs _ (ix_lt hg)).2 (by omega)
                        rw [e] at c4 ⊢
                        exact bits7 j hj c4
                    · exact absurd hb (by decide)
                · exact absurd hb (by decide)
              · exact absurd hb (by decide)
            · exact absurd hb (by decide)
          · exact absurd hb (by decide)
        · exact absurd hb (by decide)
      · exact absurd hb (by decide)
    · exact absurd hb (by decide)
  · exact absurd hb (by decide)
/-- what the law's calls do to a ledger: all is well behind each, counts stay, uses only fall -/
def US (σ τ : St) : Prop := (τ.1 0 3 = σ.1 0 3 ∧ τ.1 0 4 = σ.1 0 4 ∧ τ.1 0 5 = σ.1 0 5) ∧ ∀ k, k < 12 → (τ.1 (22 + k) 2).toInt ≤ (σ.1 (22 + k) 2).toInt
theorem US.q {σ τ : St} (h : IV σ) (q : Q σ τ) : US σ τ := ⟨⟨q.1.1, q.1.2.1, q.1.2.2.1⟩, fun k hk => ((q.2.2.2.2.2.2 k hk).2 (h.2.2.2 k hk)).2⟩
theorem US.trans {σ τ ρ : St} (a : US σ τ) (b : US τ ρ) : US σ ρ := ⟨⟨b.1.1.trans a.1.1, b.1.2.1.trans a.1.2.1, b.1.2.2.trans a.1.2.2⟩, fun k hk => Int.le_trans (b.2 k hk) (a.2 k hk)⟩
theorem US.up {σ : St} {c k : Nat} {v : Int32} (h0 : c = 0 → k ≠ 3 ∧ k ≠ 4 ∧ k ≠ 5) (h : 22 ≤ c → c < 34 → k ≠ 2) : US σ (up σ c k v) := by
  refine ⟨⟨up_o ?_, up_o ?_, up_o ?_⟩, fun j hj => ?_⟩
  · rintro ⟨rfl, rfl⟩; exact (h0 rfl).1 rfl
  · rintro ⟨rfl, rfl⟩; exact (h0 rfl).2.1 rfl
  · rintro ⟨rfl, rfl⟩; exact (h0 rfl).2.2 rfl
  · rw [up_o (by rintro ⟨rfl, rfl⟩; exact h (by omega) (by omega) rfl)]
    exact Int.le_refl _
theorem Q_rehearse {σ : St} {g : Int32} (hw : WF σ) (hs : bd (σ.1 (34 + g.toNatClampNeg) 4) 4) (hg : vp_in g 6) (h0 : σ.1 (34 + g.toNatClampNeg) 8 = 0) : Q σ (f_rehearse σ g).2 := by
  have hi := ix_lt (WF.gp hw hg)
  have h3 : bd (3 : Int32) 1000 := ⟨by decide, by decide⟩
  have hb : bd (if ((σ.1 (34 + g.toNatClampNeg) 4) + (1 : Int32)) < (4 : Int32) then ((σ.1 (34 + g.toNatClampNeg) 4) + (1 : Int32)) else (4 : Int32)) 4 := by
    have e := i_add1 (x := σ.1 (34 + g.toNatClampNeg) 4) (by have := hs.1; omega) (by have := hs.2; omega)
    split
    · rename_i c
      have q := i_lt.mp c
      rw [show (4 : Int32).toInt = 4 from rfl] at q
      exact ⟨by rw [e]; have := hs.1; omega, by omega⟩
    · exact ⟨by decide, by decide⟩
  unfold f_rehearse
  generalize (if ((σ.1 (34 + g.toNatClampNeg) 4) + (1 : Int32)) < (4 : Int32) then ((σ.1 (34 + g.toNatClampNeg) 4) + (1 : Int32)) else (4 : Int32)) = nx at hb ⊢
  split
  · dsimp only
    have q1 : Q σ (up σ (34 + g.toNatClampNeg) 4 (0 : Int32)) := Q_down g.toNatClampNeg (fun a b _ h => up_o (by omega)) (by rw [up_o (by omega)]; exact h0) (fun _ => by rw [up_s]; exact bd0 4) (fun h => by rw [up_o (by omega)]; exact h)
    exact ((q1.trans (Q_loseSignatures _ g)).trans (Q_addMiss _ _)).trans (Q_tire hi h3)
  · dsimp only
    have q1 : Q σ (up σ (34 + g.toNatClampNeg) 4 nx) := by
      refine Q_down g.toNatClampNeg (fun a b _ h => up_o (by omega)) (by rw [up_o (by omega)]; exact h0) (fun _ => ?_) (fun h => by rw [up_o (by omega)]; exact h)
      rw [up_s]
      exact hb
    exact q1.trans (Q_tire hi h3)
theorem or7 : ∀ j, j < 8 → ∀ i, i < 3 → bd (nI j ||| ((1 : Int32) <<< (nI i &&& (31 : Int32)))) 7 := by unfold bd; decide +kernel
theorem Q_sign {σ : St} {g k : Int32} (hs : bd (σ.1 (34 + g.toNatClampNeg) 5) 7) (hk : vp_in k 3) (h0 : σ.1 (34 + g.toNatClampNeg) 8 = 0) : Q σ (f_sign σ g k).2 := by
  show Q σ (up σ _ 5 _)
  refine Q_down g.toNatClampNeg (fun a b _ h => up_o (by omega)) (by rw [up_o (by omega)]; exact h0) (fun h => by rw [up_o (by omega)]; exact h) (fun _ => ?_)
  rw [up_s]
  obtain ⟨j, hj, e⟩ := bd_nI hs (by omega)
  obtain ⟨i, hi, e2⟩ := vp_in_of hk (by omega)
  rw [e, e2]
  exact or7 j hj i hi
theorem Q_take {σ : St} {g : Int32} (hw : WF σ) (hg : vp_in g 6) : Q σ (f_take σ g).2 := by
  have q1 : Q σ (up (up (up σ (34 + g.toNatClampNeg) 8 (0 : Int32)) (34 + g.toNatClampNeg) 5 (0 : Int32)) (34 + g.toNatClampNeg) 4 (3 : Int32)) := by
    refine Q_down g.toNatClampNeg (fun a b _ h => by rw [up_o (by omega), up_o (by omega), up_o (by omega)]) (by rw [up_o (by omega), up_o (by omega), up_s]) (fun _ => by rw [up_s]; exact ⟨by decide, by decide⟩) (fun _ => by rw [up_o (by omega), up_s]; exact bd0 7)
  unfold f_take
  dsimp only
  generalize up (up (up σ (34 + g.toNatClampNeg) 8 (0 : Int32)) (34 + g.toNatClampNeg) 5 (0 : Int32)) (34 + g.toNatClampNeg) 4 (3 : Int32) = σ3 at q1 ⊢
  have q2 : Q σ (up σ3 (34 + g.toNatClampNeg) 7 ((σ3.1 (34 + g.toNatClampNeg) 7) + (1 : Int32))) := q1.trans (Q_irr (by unfold Rel; omega))
  generalize up σ3 (34 + g.toNatClampNeg) 7 ((σ3.1 (34 + g.toNatClampNeg) 7) + (1 : Int32)) = σ4 at q2 ⊢
  have q3 : Q σ (up σ4 0 12 ((σ4.1 0 12) + (1 : Int32))) := q2.trans (Q_irr (by unfold Rel; omega))
  generalize up σ4 0 12 ((σ4.1 0 12) + (1 : Int32)) = σ5 at q3 ⊢
  have q4 : Q σ (upL σ5 (σ5.2 + (f_marginOf σ g).toInt64)) := q3.trans Q_L
  generalize upL σ5 (σ5.2 + (f_marginOf σ g).toInt64) = σ6 at q4 ⊢
  have w6 := hw.q q4
  split
  · dsimp only
    have q5 := q4.trans (Q_useKitOf w6 g)
    exact q5.trans (Q_payFor (hw.q q5) hg)
  · dsimp only
    have q5 := q4.trans (Q_hurt w6 (WF.gp w6 hg))
    have q6 := q5.trans (Q_useKitOf (hw.q q5) g)
    exact q6.trans (Q_payFor (hw.q q6) hg)
theorem Q_skill {σ : St} {p k v : Int32} (hp : vp_in p 8) : Q σ (f_skill σ p k v).2 := Q_irr (by have h9 : p.toNatClampNeg < 8 := ix_lt hp; unfold Rel; omega)
theorem Q_pass {σ : St} {d : Int32} (hw : WF σ) : Q σ (f_pass σ d).2 := by
  have key : ∀ (n : Nat) (σ : St) (y : Int32), WF σ → Q σ (f_pass_L26 d n σ y).2 := by
    intro n
    induction n with
    | zero => intro σ y _; exact Q.refl σ
    | succ n ih =>
      intro σ y hw
      rw [f_pass_L26]
      split
      · exact Q.refl σ
      · have q := Q_passOneDay hw
        exact q.trans (ih _ _ (hw.q q))
  exact key 128 σ 0 hw
theorem inv_arm {σ : St} {g : Int32} (h : INV σ) (hg : inr g (σ.1 0 5)) : INV (f_arm σ g).2 ∧ US σ (f_arm σ g).2 := by
  have hw := h.1.1
  have hg6 := WF.g6 hw hg
  have key : ∀ v : Int32, b01 v → (v = 0 ∨ (OK4 σ g ∧ RG σ g)) → INV (up σ (34 + g.toNatClampNeg) 8 v) ∧ US σ (up σ (34 + g.toNatClampNeg) 8 v) := by
    intro v hv ho
    refine ⟨⟨⟨wf_G hw (fun z => absurd z (by decide)) (fun z => absurd z (by decide)) (fun z => absurd z (by decide)) (fun _ => hv), fun i hi => ?_, fun p hp => ?_, fun k hk => ?_⟩, fun i hi => ?_⟩, US.up (fun z => absurd z (by omega)) (fun _ z => absurd z (by omega))⟩
    · rw [up_o (by omega), up_o (by omega)]; exact h.1.2.1 i hi
    · rw [up_o (by omega)]; exact h.1.2.2.1 p hp
    · rw [up_o (by omega)]; exact h.1.2.2.2 k hk
    · rw [up_o (by omega)] at hi
      have hi6 := WF.g6 hw hi
      have oc : (OK4 σ i ∧ RG σ i) → OK4 (up σ (34 + g.toNatClampNeg) 8 v) i ∧ RG (up σ (34 + g.toNatClampNeg) 8 v) i := OK_congr hw hi6 (fun a b hr => up_o (by unfold ROK at hr; omega))
      by_cases e : i.toNatClampNeg = g.toNatClampNeg
      · have e2 := ix_inj hi.1 hg.1 e
        subst e2
        rw [up_s]
        rcases ho with z | z
        · exact Or.inl z
        · exact Or.inr (oc z)
      · rcases h.2 i hi with z | z
        · left; rw [up_o (by omega)]; exact z
        · exact Or.inr (oc z)
  unfold f_arm
  split
  · rename_i c
    exact key 1 (Or.inr rfl) (Or.inr (bars_0 h.1 hg6 c))
  · exact key 0 (Or.inl rfl) (Or.inl rfl)
theorem inv_no {σ : St} {p g b : Int32} (h : INV σ) (hg : inr g (σ.1 0 5)) : INV (f_no σ p g b).2 ∧ US σ (f_no σ p g b).2 := by
  have hw := h.1.1
  have hg6 := WF.g6 hw hg
  have wk : ∀ v : Int32, IV (up σ (34 + g.toNatClampNeg) 6 v) := by
    intro v
    refine ⟨wf_G hw (fun z => absurd z (by decide)) (fun z => absurd z (by decide)) (fun z => absurd z (by decide)) (fun z => absurd z (by decide)), fun i hi => ?_, fun p hp => ?_, fun k hk => ?_⟩
    · rw [up_o (by omega), up_o (by omega)]; exact h.1.2.1 i hi
    · rw [up_o (by omega)]; exact h.1.2.2.1 p hp
    · rw [up_o (by omega)]; exact h.1.2.2.2 k hk
  have us : ∀ v : Int32, US σ (up σ (34 + g.toNatClampNeg) 6 v) := fun v => US.up (fun z => absurd z (by omega)) (fun _ z => absurd z (by omega))
  have oth : ∀ (v : Int32) (i : Int32), inr i (σ.1 0 5) → i.toNatClampNeg ≠ g.toNatClampNeg → (up σ (34 + g.toNatClampNeg) 6 v).1 (34 + i.toNatClampNeg) 8 = 0 ∨ (OK4 (up σ (34 + g.toNatClampNeg) 6 v) i ∧ RG (up σ (34 + g.toNatClampNeg) 6 v) i) := by
    intro v i hi e
    rcases h.2 i hi with z | z
    · left; rw [up_o (by omega)]; exact z
    · exact Or.inr (OK_congr hw (WF.g6 hw hi) (fun a b hr => up_o (by unfold ROK at hr; omega)) z)
  unfold f_no
  split
  · refine ⟨⟨wk _, fun i hi => ?_⟩, us _⟩
    dsimp only at hi ⊢
    rw [up_o (by omega)] at hi
    by_cases e : i.toNatClampNeg = g.toNatClampNeg
    · have e2 := ix_inj hi.1 hg.1 e
      subst e2
      rcases h.2 i hi with z | z
      · left; rw [up_o (by omega)]; exact z
      · refine Or.inr (OK_congr hw (WF.g6 hw hi) (fun a b hr => ?_) z)
        by_cases q : a = 34 + i.toNatClampNeg ∧ b = 6
        · obtain ⟨rfl, rfl⟩ := q
          rw [up_s, z.1.2.2.1]
          simp
        · exact up_o q
    · exact oth _ i hi e
  · dsimp only
    have q := Q_standDown (up σ (34 + g.toNatClampNeg) 6 ((σ.1 (34 + g.toNatClampNeg) 6) ||| ((1 : Int32) <<< (p &&& (31 : Int32))))) g
    refine ⟨⟨(wk _).q q, fun i hi => ?_⟩, (us _).trans (US.q (wk _) q)⟩
    rw [q.1.2.2.1, up_o (by omega)] at hi
    by_cases e : i.toNatClampNeg = g.toNatClampNeg
    · left; rw [e]; exact sd_s
    · have hi2 : inr i ((up σ (34 + g.toNatClampNeg) 6 ((σ.1 (34 + g.toNatClampNeg) 6) ||| ((1 : Int32) <<< (p &&& (31 : Int32))))).1 0 5) := by rw [up_o (by omega)]; exact hi
      rcases oth _ i hi e with z | z
      · left
        rcases q.2.2.1 _ (ix_lt (WF.g6 hw hi)) with w | ⟨w, -, -⟩
        · exact w
        · exact w.trans z
      · rcases OK4.q (wk _).1 q hi2 z.1 with w | w
        · exact Or.inl w
        · exact Or.inr ⟨w, RG.q (wk _).1 q (WF.g6 hw hi) z.2⟩
