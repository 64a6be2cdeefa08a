theorem wi_person {a k g x y : Int32} {σ : St} (h : WI a k g σ) (ha : a.toInt < 8) : WI (a + 1) k g (f_person σ x y).2 := by
  have hw := h.1.1
  have ea := h.2.2.2.1
  have hc : (σ.1 0 3).toInt < 8 := by rw [ea]; exact ha
  have h8 : (σ.1 0 3).toNatClampNeg < 8 := ix_lt (vp_to hw.1.1 hc)
  have w1 : WF (up σ (6 + (σ.1 0 3).toNatClampNeg) 1 x) := wf_up hw (fun h => absurd h (by omega)) (fun h => absurd h (by omega)) (fun h => absurd h (by omega))
  have i1 := WI_up h w1 (by omega) (by omega) (by omega) (by omega)
  have w2 : WF (up (up σ (6 + (σ.1 0 3).toNatClampNeg) 1 x) (6 + (σ.1 0 3).toNatClampNeg) 2 y) := wf_up w1 (fun h => absurd h (by omega)) (fun h => absurd h (by omega)) (fun h => absurd h (by omega))
  have i2 := WI_up i1 w2 (by omega) (by omega) (by omega) (by omega)
  have ef : (f_person σ x y).2 = f_standDownOccupied (up (up (up σ (6 + (σ.1 0 3).toNatClampNeg) 1 x) (6 + (σ.1 0 3).toNatClampNeg) 2 y) 0 3 (((up (up σ (6 + (σ.1 0 3).toNatClampNeg) 1 x) (6 + (σ.1 0 3).toNatClampNeg) 2 y).1 0 3) + (1 : Int32))) := rfl
  rw [ef]
  generalize up (up σ (6 + (σ.1 0 3).toNatClampNeg) 1 x) (6 + (σ.1 0 3).toNatClampNeg) 2 y = σ2 at i2 w2 ⊢
  obtain ⟨b1, b2, b3, b4, b5, b6⟩ := i2
  have w3 : WF (up σ2 0 3 ((σ2.1 0 3) + (1 : Int32))) := wf_c3 w2 rfl w2.1.1 (by rw [b4]; exact ha)
  have i3 : WI (a + 1) k g (up σ2 0 3 ((σ2.1 0 3) + (1 : Int32))) := by
    refine ⟨⟨w3, fun i hi => ?_, fun p hp => ?_, fun k hk => ?_⟩, fun i hi => by rw [up_o (by omega)]; exact b2 i hi, fun j hj hc => ?_, by rw [up_s, b4], by rw [up_o (by omega)]; exact b5, by rw [up_o (by omega)]; exact b6⟩
    · rw [up_o (by omega), up_o (by omega)]; exact b1.2.1 i hi
    · rw [up_o (by omega)]; exact b1.2.2.1 p hp
    · rw [up_o (by omega)]; exact b1.2.2.2 k hk
    · rw [up_o (by omega)]; rw [up_o (by omega)] at hc; exact b3 j hj hc
  exact i3.q (Q_standDownOccupied _)
theorem wi_skill {a k g p d v : Int32} {σ : St} (h : WI a k g σ) (hp : vp_in p 8) : WI a k g (f_skill σ p d v).2 := h.q (Q_skill hp)
theorem Q_walk {σ : St} {x : Int32} : ∀ (n : Nat) (σh : St) (y : Int32), Q σh (f_walk_L30 σ x n σh y).2 := by
  intro n
  induction n with
  | zero => intro σh y; exact Q.refl _
  | succ n ih =>
    intro σh y
    rw [f_walk_L30]
    split
    · exact Q.refl _
    · split
      · exact ih _ _
      · split
        · exact ih _ _
        · exact ((Q_standDown σh y).trans (Q_addMiss _ _)).trans (ih _ _)
theorem wi_walk {a k g p d : Int32} {σ : St} (h : WI a k g σ) (hp : vp_in p 8) : WI a k g (f_walk σ p d).2 := by
  have h8 : p.toNatClampNeg < 8 := ix_lt hp
  have w1 : WF (up σ (6 + p.toNatClampNeg) 5 d) := wf_up h.1.1 (fun h => absurd h (by omega)) (fun h => absurd h (by omega)) (fun h => absurd h (by omega))
  exact (WI_up h w1 (by omega) (by omega) (by omega) (by omega)).q (Q_walk _ _ _)
theorem wi_gag {a k g x1 x2 x3 x4 : Int32} {σ : St} (h : WI a k g σ) (hg : g.toInt < 6) (h1 : vp_in x1 4) (h2 : vp_in x2 8) (h4 : vp_in x4 31) : WI a k (g + 1) (f_gag σ x1 x2 x3 x4).2 := by
  have hw := h.1.1
  have eg := h.2.2.2.2.2
  have hc : (σ.1 0 5).toInt < 6 := by rw [eg]; exact hg
  have h6 : (σ.1 0 5).toNatClampNeg < 6 := ix_lt (vp_to hw.2.2.1.1 hc)
  have ef : (f_gag σ x1 x2 x3 x4).2 = up (up (up (up (up σ (34 + (σ.1 0 5).toNatClampNeg) 0 x1) (34 + (σ.1 0 5).toNatClampNeg) 1 x2) (34 + (σ.1 0 5).toNatClampNeg) 2 x3) (34 + (σ.1 0 5).toNatClampNeg) 3 x4) 0 5 (((up (up (up (up σ (34 + (σ.1 0 5).toNatClampNeg) 0 x1) (34 + (σ.1 0 5).toNatClampNeg) 1 x2) (34 + (σ.1 0 5).toNatClampNeg) 2 x3) (34 + (σ.1 0 5).toNatClampNeg) 3 x4).1 0 5) + (1 : Int32)) := rfl
  rw [ef]
  have w1 : WF (up σ (34 + (σ.1 0 5).toNatClampNeg) 0 x1) := wf_G0 hw h1
  have i1 := WI_up h w1 (by omega) (by omega) (by omega) (by omega)
  have w2 : WF (up (up σ (34 + (σ.1 0 5).toNatClampNeg) 0 x1) (34 + (σ.1 0 5).toNatClampNeg) 1 x2) := wf_G1 w1 h2
  have i2 := WI_up i1 w2 (by omega) (by omega) (by omega) (by omega)
  have w3 : WF (up (up (up σ (34 + (σ.1 0 5).toNatClampNeg) 0 x1) (34 + (σ.1 0 5).toNatClampNeg) 1 x2) (34 + (σ.1 0 5).toNatClampNeg) 2 x3) := wf_up w2 (fun h => absurd h (by omega)) (fun _ => ⟨by decide, by decide, by decide, fun h => absurd h (by decide)⟩) (fun h h2 => absurd h2 (by omega))
  have i3 := WI_up i2 w3 (by omega) (by omega) (by omega) (by omega)
  have w4 : WF (up (up (up (up σ (34 + (σ.1 0 5).toNatClampNeg) 0 x1) (34 + (σ.1 0 5).toNatClampNeg) 1 x2) (34 + (σ.1 0 5).toNatClampNeg) 2 x3) (34 + (σ.1 0 5).toNatClampNeg) 3 x4) := wf_G3 w3 h4
  have i4 := WI_up i3 w4 (by omega) (by omega) (by omega) (by omega)
  generalize up (up (up (up σ (34 + (σ.1 0 5).toNatClampNeg) 0 x1) (34 + (σ.1 0 5).toNatClampNeg) 1 x2) (34 + (σ.1 0 5).toNatClampNeg) 2 x3) (34 + (σ.1 0 5).toNatClampNeg) 3 x4 = σ2 at i4 w4 ⊢
  obtain ⟨b1, b2, b3, b4, b5, b6⟩ := i4
  have w5 : WF (up σ2 0 5 ((σ2.1 0 5) + (1 : Int32))) := wf_c5 w4 rfl w4.2.2.1.1 (by rw [b6]; exact hg)
  refine ⟨⟨w5, fun i hi => ?_, fun p hp => ?_, fun k hk => ?_⟩, fun i hi => by rw [up_o (by omega)]; exact b2 i hi, fun j hj hc => ?_, by rw [up_o (by omega)]; exact b4, by rw [up_o (by omega)]; exact b5, by rw [up_s, b6]⟩
  · rw [up_o (by omega), up_o (by omega)]; exact b1.2.1 i hi
  · rw [up_o (by omega)]; exact b1.2.2.1 p hp
  · rw [up_o (by omega)]; exact b1.2.2.2 k hk
  · rw [up_o (by omega)]; rw [up_o (by omega)] at hc; exact b3 j hj hc
theorem wi_kit {a k g x1 x2 x3 : Int32} {σ : St} (h : WI a k g σ) (hk : k.toInt < 12) (h3 : 0 ≤ x3.toInt) : WI a (k + 1) g (f_kit σ x1 x2 x3).2 ∧ (f_kit σ x1 x2 x3).2.1 (22 + k.toNatClampNeg) 4 = -1 := by
  have hw := h.1.1
  have ek := h.2.2.2.2.1
  have hc : (σ.1 0 4).toInt < 12 := by rw [ek]; exact hk
  have h12 : (σ.1 0 4).toNatClampNeg < 12 := ix_lt (vp_to hw.2.1.1 hc)
  have ef : (f_kit σ x1 x2 x3).2 = up (up (up (up σ (22 + (σ.1 0 4).toNatClampNeg) 0 x1) (22 + (σ.1 0 4).toNatClampNeg) 1 x2) (22 + (σ.1 0 4).toNatClampNeg) 2 x3) 0 4 (((up (up (up σ (22 + (σ.1 0 4).toNatClampNeg) 0 x1) (22 + (σ.1 0 4).toNatClampNeg) 1 x2) (22 + (σ.1 0 4).toNatClampNeg) 2 x3).1 0 4) + (1 : Int32)) := rfl
  rw [ef]
  have w1 : WF (up σ (22 + (σ.1 0 4).toNatClampNeg) 0 x1) := wf_up hw (fun h => absurd h (by omega)) (fun h => absurd h (by omega)) (fun _ _ => by decide)
  have i1 := WI_up h w1 (by omega) (by omega) (by omega) (by omega)
  have w2 : WF (up (up σ (22 + (σ.1 0 4).toNatClampNeg) 0 x1) (22 + (σ.1 0 4).toNatClampNeg) 1 x2) := wf_up w1 (fun h => absurd h (by omega)) (fun h => absurd h (by omega)) (fun _ _ => by decide)
  have i2 := WI_up i1 w2 (by omega) (by omega) (by omega) (by omega)
  have w3 : WF (up (up (up σ (22 + (σ.1 0 4).toNatClampNeg) 0 x1) (22 + (σ.1 0 4).toNatClampNeg) 1 x2) (22 + (σ.1 0 4).toNatClampNeg) 2 x3) := wf_up w2 (fun h => absurd h (by omega)) (fun h => absurd h (by omega)) (fun _ _ => by decide)
  rw [ek] at h12 w1 w2 w3 i1 i2 ⊢
  generalize up (up σ (22 + k.toNatClampNeg) 0 x1) (22 + k.toNatClampNeg) 1 x2 = σ2 at i2 w2 w3 ⊢
  obtain ⟨b1, b2, b3, b4, b5, b6⟩ := i2
  have e5 : (up σ2 (22 + k.toNatClampNeg) 2 x3).1 0 4 = σ2.1 0 4 := up_o (by omega)
  have w5 : WF (up (up σ2 (22 + k.toNatClampNeg) 2 x3) 0 4 (((up σ2 (22 + k.toNatClampNeg) 2 x3).1 0 4) + (1 : Int32))) := wf_c4 w3 rfl w3.2.1.1 (by rw [e5, b5]; exact hk)
  have e1 : (k + 1).toInt = k.toInt + 1 := i_add1 (by have := w2.2.1.1; rw [b5] at this; omega) (by omega)
  refine ⟨⟨⟨w5, fun i hi => ?_, fun p hp => ?_, fun j hj => ?_⟩, fun i hi => by rw [up_o (by omega), up_o (by omega)]; exact b2 i hi, fun j hj hc => ?_, by rw [up_o (by omega), up_o (by omega)]; exact b4, by rw [up_s, e5, b5], by rw [up_o (by omega), up_o (by omega)]; exact b6⟩, ?_⟩
  · rw [up_o (by omega), up_o (by omega), up_o (by omega), up_o (by omega)]; exact b1.2.1 i hi
  · rw [up_o (by omega), up_o (by omega)]; exact b1.2.2.1 p hp
  · rw [up_o (by omega)]
    by_cases e : j = k.toNatClampNeg
    · subst e; rw [up_s]; exact h3
    · rw [up_o (by omega)]; exact b1.2.2.2 j hj
  · rw [up_o (by omega), up_o (by omega)]
    rw [up_s, e5, b5, e1] at hc
    exact b3 j hj (by rw [b5]; omega)
  · rw [up_o (by omega), up_o (by omega)]
    refine b3 _ h12 ?_
    rw [b5, ix_to (by have := w2.2.1.1; rw [b5] at this; exact this)]
    exact Int.le_refl _
theorem wi_put {a k g x1 x2 : Int32} {σ : St} (h : WI a k g σ) (h1 : inr x1 (σ.1 0 4)) (h2 : vp_in x2 6) : WI a k g (f_put σ x1 x2).2 := by
  have hw := h.1.1
  have h12 : x1.toNatClampNeg < 12 := ix_lt (WF.k12 hw h1)
  have w1 : WF (up σ (22 + x1.toNatClampNeg) 4 x2) := wf_K4 hw (Or.inr h2)
  have i1 : WI a k g (up σ (22 + x1.toNatClampNeg) 4 x2) := by
    obtain ⟨b1, b2, b3, b4, b5, b6⟩ := h
    refine ⟨iv_up b1 w1 (by omega) (by omega) (by omega), fun i hi => by rw [up_o (by omega)]; exact b2 i hi, fun j hj hc => ?_, by rw [up_o (by omega)]; exact b4, by rw [up_o (by omega)]; exact b5, by rw [up_o (by omega)]; exact b6⟩
    rw [up_o (by omega)] at hc
    have := ix_to h1.1
    have := h1.2
    rw [up_o (by omega)]
    exact b3 j hj hc
  unfold f_put
  generalize up σ (22 + x1.toNatClampNeg) 4 x2 = σ1 at i1 ⊢
  dsimp only
  split
  · exact i1.q (Q_becomeChanged _ _)
  · exact (i1.q (Q_becomeChanged _ _)).q (Q_becomeChanged _ _)
theorem wi_inspect {a k g x1 : Int32} {σ : St} (h : WI a k g σ) (h1 : inr x1 (σ.1 0 4)) : WI a k g (f_inspect σ x1).2 := by
  have h12 : x1.toNatClampNeg < 12 := ix_lt (WF.k12 h.1.1 h1)
  have w1 : WF (up σ (22 + x1.toNatClampNeg) 3 (σ.1 0 8)) := wf_up h.1.1 (fun h => absurd h (by omega)) (fun h => absurd h (by omega)) (fun _ _ => by decide)
  exact WI_up h w1 (by omega) (by omega) (by omega) (by omega)
theorem wi_s0 : WI 0 0 0 s0 := by
  have z : ∀ a b, a ≠ 0 → ¬ (6 ≤ a ∧ a < 14 ∧ b = 4) → ¬ (22 ≤ a ∧ a < 34 ∧ (b = 3 ∨ b = 4)) → s0.1 a b = 0 := fun a b h0 h1 h2 => by
    show (if a = 0 then _ else if _ then _ else if _ then _ else _) = _
    rw [if_neg h0, if_neg h1, if_neg h2]
  have k4 : ∀ k, k < 12 → s0.1 (22 + k) 4 = -1 := fun k hk => by
    show (if 22 + k = 0 then _ else if _ then _ else if _ then _ else _) = _
    rw [if_neg (by omega), if_neg (by omega), if_pos ⟨by omega, by omega, Or.inr rfl⟩]
  have v0 : ∀ n, 0 < n → vp_in (0 : Int32) n := fun n h => vp_to (by decide) (by rw [show (0 : Int32).toInt = 0 from rfl]; omega)
  refine ⟨⟨⟨⟨by decide, by decide⟩, ⟨by decide, by decide⟩, ⟨by decide, by decide⟩, ⟨by decide, by decide⟩, fun i hi => ?_, fun k hk => Or.inl (k4 k hk)⟩, fun i hi => ?_, fun p hp => ?_, fun k hk => ?_⟩, fun i hi => z _ _ (by omega) (by omega) (by omega), fun k hk _ => k4 k hk, rfl, rfl, rfl⟩
  · rw [z _ 0 (by omega) (by omega) (by omega), z _ 1 (by omega) (by omega) (by omega), z _ 3 (by omega) (by omega) (by omega), z _ 8 (by omega) (by omega) (by omega)]
    exact ⟨v0 4 (by omega), v0 8 (by omega), v0 31 (by omega), Or.inl rfl⟩
  · rw [z _ 4 (by omega) (by omega) (by omega), z _ 5 (by omega) (by omega) (by omega)]
    exact ⟨bd0 4, bd0 7⟩
  · rw [z _ 6 (by omega) (by omega) (by omega)]
    exact bd0 100
  · rw [z _ 2 (by omega) (by omega) (by omega)]
    decide
/-! what the law reads -/
theorem rd_g0 {σ : St} {g : Int32} : f_ofGag σ g 0 = σ.1 (34 + g.toNatClampNeg) 0 := rfl
theorem rd_g1 {σ : St} {g : Int32} : f_ofGag σ g 1 = σ.1 (34 + g.toNatClampNeg) 1 := rfl
theorem rd_g8 {σ : St} {g : Int32} : f_ofGag σ g 8 = σ.1 (34 + g.toNatClampNeg) 4 := rfl
theorem rd_g9 {σ : St} {g : Int32} : f_ofGag σ g 9 = σ.1 (34 + g.toNatClampNeg) 5 := rfl
theorem rd_g10 {σ : St} {g : Int32} : f_ofGag σ g 10 = σ.1 (34 + g.toNatClampNeg) 6 := rfl
theorem rd_g11 {σ : St} {g : Int32} : f_ofGag σ g 11 = f_oneIf (σ.1 (34 + g.toNatClampNeg) 8) := rfl
theorem rd_p7 {σ : St} {p : Int32} : f_ofPerson σ p 7 = σ.1 (6 + p.toNatClampNeg) 6 := rfl
theorem rd_p8 {σ : St} {p : Int32} : f_ofPerson σ p 8 = f_oneIf (σ.1 (6 + p.toNatClampNeg) 3) := rfl
theorem rd_p11 {σ : St} {p : Int32} : f_ofPerson σ p 11 = f_ringsAround σ p := rfl
theorem rd_k2 {σ : St} {k : Int32} : f_ofKit σ k 2 = σ.1 (22 + k.toNatClampNeg) 2 := rfl
theorem rd_m7 {σ : St} : f_many σ 7 = f_armedSet σ := rfl
theorem one_0 {x : Int32} (h : f_oneIf x = 0) : x = 0 := by
  unfold f_oneIf at h
  split at h
  · assumption
  · exact absurd h (by decide)
theorem one_n {x : Int32} (h : ¬ f_oneIf x = 0) : ¬ x = 0 := by
  intro e
  rw [e] at h
  exact h rfl
theorem set_b : ∀ j, j < 8 → ∀ i, i < 3 → ((nI j >>> (nI i &&& (31 : Int32))) &&& (1 : Int32)) = 0 → f_isInSet (nI j) (nI i) = 0 := by decide +kernel
theorem set_0 {x k : Int32} (hx : bd x 7) (hk : vp_in k 3) (h : ((x >>> (k &&& (31 : Int32))) &&& (1 : Int32)) = 0) : f_isInSet x k = 0 := by
  obtain ⟨j, hj, rfl⟩ := bd_nI hx (by omega)
  obtain ⟨i, hi, rfl⟩ := vp_in_of hk (by omega)
  exact set_b j hj i hi h
theorem ra_bit {σ : St} {p k : Int32} (hc : σ.1 0 5 = 4) (hk : vp_in k 4) (h : f_standsInRing σ p k = 0) : ¬ ((f_ringsAround σ p >>> (k &&& (31 : Int32))) &&& (1 : Int32)) = 1 := by
  have step : ∀ (n : Nat) (y acc : Int32), ¬ (4 : Int32) ≤ y → f_ringsAround_L4 σ p (n + 1) y acc = if f_standsInRing σ p y = 0 then f_ringsAround_L4 σ p n (y + 1) acc else f_ringsAround_L4 σ p n (y + 1) (acc ||| ((1 : Int32) <<< (y &&& (31 : Int32)))) := by
    intro n y acc hy
    rw [f_ringsAround_L4, hc, if_neg hy]
  have stop : ∀ (n : Nat) (acc : Int32), f_ringsAround_L4 σ p (n + 1) 4 acc = acc := by
    intro n acc
    rw [f_ringsAround_L4, hc, if_pos (by decide)]
  have e : f_ringsAround σ p = f_ringsAround_L4 σ p (123 + 1 + 1 + 1 + 1 + 1) 0 0 := rfl
  have s1 : (0 : Int32) + 1 = 1 := rfl
  have s2 : (1 : Int32) + 1 = 2 := rfl
  have s3 : (2 : Int32) + 1 = 3 := rfl
  have s4 : (3 : Int32) + 1 = 4 := rfl
  have d0 : ¬ (4 : Int32) ≤ 0 := by decide
  have d1 : ¬ (4 : Int32) ≤ 1 := by decide
  have d2 : ¬ (4 : Int32) ≤ 2 := by decide
  have d3 : ¬ (4 : Int32) ≤ 3 := by decide
  obtain ⟨j, hj, rfl⟩ := vp_in_of hk (by omega)
  rw [e]
  have hj4 : j = 0 ∨ j = 1 ∨ j = 2 ∨ j = 3 := by omega
  rcases hj4 with rfl | rfl | rfl | rfl
  · have h : f_standsInRing σ p 0 = 0 := h
    rw [step _ _ _ d0, if_pos h, s1, step _ _ _ d1, s2, step _ _ _ d2, step _ _ _ d2, s3, step _ _ _ d3, step _ _ _ d3, step _ _ _ d3, step _ _ _ d3, s4, stop, stop, stop, stop, stop, stop, stop, stop]
    repeat' split
    all_goals decide
  · have h : f_standsInRing σ p 1 = 0 := h
    rw [step _ _ _ d0, s1, step _ _ _ d1, step _ _ _ d1, if_pos h, if_pos h, s2, step _ _ _ d2, step _ _ _ d2, s3, step _ _ _ d3, step _ _ _ d3, step _ _ _ d3, step _ _ _ d3, s4, stop, stop, stop, stop, stop, stop, stop, stop]
    repeat' split
    all_goals decide
  · have h : f_standsInRing σ p 2 = 0 := h
    rw [step _ _ _ d0, s1, step _ _ _ d1, step _ _ _ d1, s2, step _ _ _ d2, step _ _ _ d2, step _ _ _ d2, step _ _ _ d2, if_pos h, if_pos h, if_pos h, if_pos h, s3, step _ _ _ d3, step _ _ _ d3, step _ _ _ d3, step _ _ _ d3, s4, stop, stop, stop, stop, stop, stop, stop, stop]
    repeat' split
    all_goals decide
  · have h : f_standsInRing σ p 3 = 0 := h
    rw [step _ _ _ d0, s1, step _ _ _ d1, step _ _ _ d1, s2, step _ _ _ d2, step _ _ _ d2, step _ _ _ d2, step _ _ _ d2, s3]
    rw [step _ _ _ d3, step _ _ _ d3, step _ _ _ d3, step _ _ _ d3, step _ _ _ d3, step _ _ _ d3, step _ _ _ d3, step _ _ _ d3, if_pos h, if_pos h, if_pos h, if_pos h, if_pos h, if_pos h, if_pos h, if_pos h, s4, stop, stop, stop, stop, stop, stop, stop, stop]
    repeat' split
    all_goals decide
theorem most_m1 {σ : St} {g : Int32} : ¬ f_mostLevel σ g < -1 := by
  have key : ∀ (n : Nat) (y : Int32), -1 ≤ (f_mostLevel_L14 σ g n y).toInt := by
    intro n
    induction n with
    | zero => intro y; show (-1 : Int) ≤ (0 : Int32).toInt; decide
    | succ n ih =>
      intro y
      rw [f_mostLevel_L14]
      split
      · decide
      · rename_i c
        split
        · exact ih _
        · have := i_nlt c
          rw [show (1 : Int32).toInt = 1 from rfl] at this
          omega
  intro h
  have q := i_lt.mp h
  rw [show (-1 : Int32).toInt = -1 from rfl] at q
  have := key 128 30
  have e : f_mostLevel σ g = f_mostLevel_L14 σ g 128 30 := rfl
  rw [e] at q
  omega
theorem safe_m1 {σ : St} {g : Int32} (hw : WF σ) (hg : vp_in g 6) : ¬ f_safeFrom σ g < -1 := by
  have key : ∀ (n : Nat) (y : Int32), lpI 100 y n → -1 ≤ (f_safeFrom_L23 σ g n y).toInt := by
    intro n
    induction n with
    | zero => intro y hl; exact (lp_0 hl).elim
    | succ n ih =>
      intro y hl
      rw [f_safeFrom_L23]
      split
      · decide
      · rename_i c
        have hlt : y.toInt < 100 := lt_nlt c (by decide)
        split
        · split
          · exact ih _ (lp_s hl hlt)
          · have := hl.1; omega
        · have := hl.1; omega
  intro h
  have q := i_lt.mp h
  rw [show (-1 : Int32).toInt = -1 from rfl] at q
  have := key 128 (f_ringOf σ g + 1) (lp_ring (ring_bd hw hg))
  have e : f_safeFrom σ g = f_safeFrom_L23 σ g 128 (f_ringOf σ g + 1) := rfl
  rw [e] at q
  omega
/-! the law's own numbers -/
def f_below (v n : Int32) : Int32 := (v &&& (2147483647 : Int32)) - (v &&& (2147483647 : Int32)) / n * n
theorem below_in {v n : Int32} {d : Nat} (hn : n = nI d) (h0 : 0 < d) (hd : d < 2 ^ 31) : vp_in (f_below v n) d := by
  obtain ⟨j, hj, e⟩ := pk_andE v (m := (2147483647 : Int32)) 31 (by decide)
  unfold f_below
  rw [e, hn, pk_rem hj h0 hd]
  exact vp_in_nI (Nat.mod_lt _ h0) hd
theorem rem_in {x n : Int32} {d : Nat} (hx : 0 ≤ x.toInt) (hn : n = nI d) (h0 : 0 < d) (hd : d < 2 ^ 31) : vp_in (x - x / n * n) d := by
  have hj : ∃ j, j < 2 ^ 31 ∧ x = nI j := by
    refine nI_of ?_
    intro h
    have := i_lt.mp h
    rw [show (0 : Int32).toInt = 0 from rfl] at this
    omega
  obtain ⟨j, hj, rfl⟩ := hj
  rw [hn, pk_rem hj h0 hd]
  exact vp_in_nI (Nat.mod_lt _ h0) hd
theorem add_to {x y : Int32} (hx : -1000 ≤ x.toInt) (hx2 : x.toInt ≤ 1000) (hy : -1000 ≤ y.toInt) (hy2 : y.toInt ≤ 1000) : (x + y).toInt = x.toInt + y.toInt := by
  rw [Int32.toInt_add]
  rw [Int.bmod_eq_of_le] <;> omega
