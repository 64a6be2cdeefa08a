theorem iv_up {σ : St} {c k : Nat} {v : Int32} (h : IV σ) (hw : WF (up σ c k v)) (hg : ¬ (34 ≤ c ∧ (k = 4 ∨ k = 5))) (hp : ¬ (6 ≤ c ∧ c < 14 ∧ k = 6)) (hk : ¬ (22 ≤ c ∧ c < 34 ∧ k = 2)) : IV (up σ c k v) := by
  refine ⟨hw, fun i hi => ?_, fun p hp => ?_, fun k hk => ?_⟩
  · rw [up_o (by omega), up_o (by omega)]; exact h.2.1 i hi
  · rw [up_o (by omega)]; exact h.2.2.1 p hp
  · rw [up_o (by omega)]; exact h.2.2.2 k hk
theorem inv_walk {σ : St} {x pl : Int32} (h : INV σ) (hx : inr x (σ.1 0 3)) : INV (f_walk σ x pl).2 ∧ US σ (f_walk σ x pl).2 := by
  have hw := h.1.1
  have hx8 := WF.p8 hw hx
  have key : ∀ (n : Nat) (σh : St) (y : Int32), WF σh → inr x (σh.1 0 3) → lpI 6 y n → Q σh (f_walk_L30 σ x n σh y).2 ∧ ∀ g : Int32, y.toInt ≤ g.toInt → inr g (σh.1 0 5) → (f_walk_L30 σ x n σh y).2.1 (34 + g.toNatClampNeg) 8 = 0 ∨ f_standsInRing (f_walk_L30 σ x n σh y).2 x g = 0 := by
    intro n
    induction n with
    | zero => intro σh y _ _ hl; exact (lp_0 hl).elim
    | succ n ih =>
      intro σh y hw hxh hl
      rw [f_walk_L30]
      split
      · rename_i c
        refine ⟨Q.refl _, fun g h1 h2 => ?_⟩
        have q := i_le.mp c
        have := h2.2
        omega
      · rename_i c
        have hlt : y.toInt < 6 := lt_nle c hw.2.2.1.2
        have hs := lp_s hl hlt
        have hy := lp_i hl hlt
        have e1 := i_add1 (x := y) (by have := hl.1; omega) (by omega)
        split
        · rename_i c2
          obtain ⟨q, r⟩ := ih σh _ hw hxh hs
          refine ⟨q, fun g h1 h2 => ?_⟩
          by_cases e : g.toInt = y.toInt
          · rw [Int32.toInt_inj.mp e]
            rcases q.2.2.1 _ (ix_lt hy) with k | ⟨k, -, -⟩
            · exact Or.inl k
            · exact Or.inl (k.trans c2)
          · exact r g (by omega) h2
        · split
          · rename_i c2 c3
            obtain ⟨q, r⟩ := ih σh _ hw hxh hs
            refine ⟨q, fun g h1 h2 => ?_⟩
            by_cases e : g.toInt = y.toInt
            · rw [Int32.toInt_inj.mp e]
              right
              rw [ring_q q hy (WF.p8 hw hxh)]
              exact c3
            · exact r g (by omega) h2
          · dsimp only
            have q1 := Q_standDown σh y
            have q2 : Q (f_standDown σh y) (f_addMiss (f_standDown σh y) ((f_standDown σh y).1 (34 + y.toNatClampNeg) 0)) := Q_addMiss _ _
            have s8 : (f_standDown σh y).1 (34 + y.toNatClampNeg) 8 = 0 := sd_s
            generalize f_standDown σh y = σ2 at q1 q2 s8 ⊢
            generalize f_addMiss σ2 (σ2.1 (34 + y.toNatClampNeg) 0) = σ3 at q2 ⊢
            have q12 := q1.trans q2
            obtain ⟨q, r⟩ := ih σ3 _ (hw.q q12) (by rw [q12.1.1]; exact hxh) hs
            refine ⟨q12.trans q, fun g h1 h2 => ?_⟩
            by_cases e : g.toInt = y.toInt
            · rw [Int32.toInt_inj.mp e]
              rcases (q2.trans q).2.2.1 _ (ix_lt hy) with k | ⟨k, -, -⟩
              · exact Or.inl k
              · exact Or.inl (k.trans s8)
            · exact r g (by omega) (by rw [q12.1.2.2.1]; exact h2)
  have i6 : x.toNatClampNeg < 8 := ix_lt hx8
  have hw1 : WF (up σ (6 + x.toNatClampNeg) 5 pl) := wf_up hw (fun h => absurd h (by omega)) (fun h => absurd h (by omega)) (fun h => absurd h (by omega))
  have iv1 : IV (up σ (6 + x.toNatClampNeg) 5 pl) := iv_up h.1 hw1 (by omega) (by omega) (by omega)
  have us1 : US σ (up σ (6 + x.toNatClampNeg) 5 pl) := US.up (fun h => absurd h (by omega)) (fun h => absurd h (by omega))
  obtain ⟨q, r⟩ := key 128 (up σ (6 + x.toNatClampNeg) 5 pl) 0 hw1 (by rw [up_o (by omega)]; exact hx) (lp_z (by decide))
  have ef : f_walk σ x pl = f_walk_L30 σ x 128 (up σ (6 + x.toNatClampNeg) 5 pl) 0 := rfl
  rw [ef]
  generalize (f_walk_L30 σ x 128 (up σ (6 + x.toNatClampNeg) 5 pl) 0).2 = τ at q r ⊢
  refine ⟨⟨iv1.q q, fun g hg => ?_⟩, us1.trans (US.q iv1 q)⟩
  rw [q.1.2.2.1] at hg
  have hg0 : inr g (σ.1 0 5) := by rw [up_o (by omega)] at hg; exact hg
  have hg6 := WF.g6 hw hg0
  rcases h.2 g hg0 with z | ⟨z, zr⟩
  · left
    rcases q.2.2.1 _ (ix_lt hg6) with w | ⟨w, -, -⟩
    · exact w
    · rw [w, up_o (by omega)]; exact z
  · have z1 : OK4 (up σ (6 + x.toNatClampNeg) 5 pl) g := by
      obtain ⟨a, b, c, d⟩ := z
      have e1 : (up σ (6 + x.toNatClampNeg) 5 pl).1 (34 + g.toNatClampNeg) 1 = σ.1 (34 + g.toNatClampNeg) 1 := up_o (by omega)
      exact ⟨by rw [up_o (by omega)]; exact a, by rw [up_o (by omega)]; exact b, by rw [up_o (by omega)]; exact c, by rw [e1, up_o (by omega)]; exact d⟩
    rcases OK4.q hw1 q hg z1 with w | w
    · exact Or.inl w
    · rcases r g hg0.1 hg with k | k
      · exact Or.inl k
      · refine Or.inr ⟨w, fun p hp => ?_⟩
        rw [q.1.1, up_o (by omega)] at hp
        have hp8 := WF.p8 hw hp
        by_cases e : p.toNatClampNeg = x.toNatClampNeg
        · rw [ix_inj hp.1 hx.1 e]
          exact k
        · rw [ring_q q hg6 hp8, ring_congr (σ := σ) (up_o (by omega)) (up_o (by omega)) (up_o (by omega)) (up_o (by omega)) (up_o (by omega)) (up_o (by omega))]
          exact zr p hp
theorem sdo_all {σ : St} (hw : WF σ) : Q σ (f_standDownOccupied σ) ∧ ∀ g : Int32, inr g (σ.1 0 5) → (f_standDownOccupied σ).1 (34 + g.toNatClampNeg) 8 = 0 ∨ RG (f_standDownOccupied σ) g := by
  have key : ∀ (n : Nat) (σ : St) (y : Int32), WF σ → lpI 6 y n → Q σ (f_standDownOccupied_L2 n σ y) ∧ ∀ g : Int32, y.toInt ≤ g.toInt → inr g (σ.1 0 5) → (f_standDownOccupied_L2 n σ y).1 (34 + g.toNatClampNeg) 8 = 0 ∨ RG (f_standDownOccupied_L2 n σ y) g := by
    intro n
    induction n with
    | zero => intro σ y _ hl; exact (lp_0 hl).elim
    | succ n ih =>
      intro σ y hw hl
      rw [f_standDownOccupied_L2]
      split
      · rename_i c
        refine ⟨Q.refl _, fun g h1 h2 => ?_⟩
        have q := i_le.mp c
        have := h2.2
        omega
      · rename_i c
        have hlt : y.toInt < 6 := lt_nle c hw.2.2.1.2
        have hs := lp_s hl hlt
        have hy := lp_i hl hlt
        have e1 := i_add1 (x := y) (by have := hl.1; omega) (by omega)
        split
        · rename_i c2
          obtain ⟨q, r⟩ := ih σ _ hw hs
          refine ⟨q, fun g h1 h2 => ?_⟩
          by_cases e : g.toInt = y.toInt
          · rw [Int32.toInt_inj.mp e]
            exact Or.inr (RG.q hw q hy (occ_0 hw c2))
          · exact r g (by omega) h2
        · dsimp only
          have q1 := Q_standDown σ y
          have s8 : (f_standDown σ y).1 (34 + y.toNatClampNeg) 8 = 0 := sd_s
          generalize f_standDown σ y = σ2 at q1 s8 ⊢
          obtain ⟨q, r⟩ := ih σ2 _ (hw.q q1) hs
          refine ⟨q1.trans q, fun g h1 h2 => ?_⟩
          by_cases e : g.toInt = y.toInt
          · rw [Int32.toInt_inj.mp e]
            rcases q.2.2.1 _ (ix_lt hy) with k | ⟨k, -, -⟩
            · exact Or.inl k
            · exact Or.inl (k.trans s8)
          · exact r g (by omega) (by rw [q1.1.2.2.1]; exact h2)
  obtain ⟨q, r⟩ := key 128 σ 0 hw (lp_z (by decide))
  exact ⟨q, fun g hg => r g hg.1 hg⟩
theorem inv_weather {σ : St} {w b : Int32} (h : INV σ) (hwd : (0 : Int32).toInt ≤ w.toInt ∧ w.toInt ≤ (9 : Int32).toInt) : INV (f_weather σ w b).2 ∧ US σ (f_weather σ w b).2 := by
  have hw := h.1.1
  have key : ∀ (n : Nat) (σh : St) (y : Int32), WF σh → lpI 6 y n → ∃ τ, Q σh τ ∧ (f_weather_L25 σ n σh y).2 = f_standDownOccupied τ := by
    intro n
    induction n with
    | zero => intro σh y _ hl; exact (lp_0 hl).elim
    | succ n ih =>
      intro σh y hw hl
      rw [f_weather_L25]
      split
      · exact ⟨σh, Q.refl _, rfl⟩
      · rename_i c
        have hlt : y.toInt < 6 := lt_nle c hw.2.2.1.2
        have hs := lp_s hl hlt
        have q1 := Q_standDown σh y
        split
        · split
          · exact ih σh _ hw hs
          · obtain ⟨τ, q, e⟩ := ih (f_standDown σh y) _ (hw.q q1) hs
            exact ⟨τ, q1.trans q, e⟩
        · obtain ⟨τ, q, e⟩ := ih (f_standDown σh y) _ (hw.q q1) hs
          exact ⟨τ, q1.trans q, e⟩
  have w1 : WF (up σ 0 9 w) := wf_M9 hw hwd
  have iv1 : IV (up σ 0 9 w) := iv_up h.1 w1 (by omega) (by omega) (by omega)
  have w2 : WF (up (up σ 0 9 w) 0 10 b) := wf_up w1 (fun _ => by decide) (fun h => absurd h (by decide)) (fun h => absurd h (by decide))
  have iv2 : IV (up (up σ 0 9 w) 0 10 b) := iv_up iv1 w2 (by omega) (by omega) (by omega)
  have us2 : US σ (up (up σ 0 9 w) 0 10 b) := (US.up (fun _ => by decide) (fun h => absurd h (by decide))).trans (US.up (fun _ => by decide) (fun h => absurd h (by decide)))
  have e2 : ∀ a d, ¬ (a = 0 ∧ (d = 9 ∨ d = 10)) → (up (up σ 0 9 w) 0 10 b).1 a d = σ.1 a d := fun a d hn => by rw [up_o (by omega), up_o (by omega)]
  have ef : f_weather σ w b = f_weather_L25 σ 128 (up (up σ 0 9 w) 0 10 b) 0 := rfl
  rw [ef]
  obtain ⟨τ, q, e⟩ := key 128 (up (up σ 0 9 w) 0 10 b) 0 w2 (lp_z (by decide))
  rw [e]
  generalize up (up σ 0 9 w) 0 10 b = σ2 at iv2 us2 e2 q w2
  have wτ := w2.q q
  obtain ⟨q2, r⟩ := sdo_all wτ
  have qq := q.trans q2
  refine ⟨⟨iv2.q qq, fun g hg => ?_⟩, us2.trans (US.q iv2 qq)⟩
  rw [qq.1.2.2.1] at hg
  have hg0 : inr g (σ.1 0 5) := by rw [e2 _ _ (by omega)] at hg; exact hg
  have hg6 := WF.g6 hw hg0
  rcases h.2 g hg0 with z | ⟨z, -⟩
  · left
    rcases qq.2.2.1 _ (ix_lt hg6) with w | ⟨w, -, -⟩
    · exact w
    · rw [w, e2 _ _ (by omega)]; exact z
  · have z1 : OK4 σ2 g := by
      obtain ⟨a, b, c, d⟩ := z
      exact ⟨by rw [e2 _ _ (by omega)]; exact a, by rw [e2 _ _ (by omega)]; exact b, by rw [e2 _ _ (by omega)]; exact c, by rw [e2 (34 + g.toNatClampNeg) 1 (by omega), e2 _ _ (by omega)]; exact d⟩
    rcases OK4.q w2 qq hg z1 with k | k
    · exact Or.inl k
    · rcases r g (by rw [q.1.2.2.1]; exact hg) with m | m
      · exact Or.inl m
      · exact Or.inr ⟨k, m⟩
theorem bc_8 {σ : St} {g : Int32} : (f_becomeChanged σ g).1 (34 + g.toNatClampNeg) 8 = 0 := by
  have e : f_becomeChanged σ g = up (f_loseSignatures σ g) (34 + g.toNatClampNeg) 4 (if ((f_loseSignatures σ g).1 (34 + g.toNatClampNeg) 4) < (2 : Int32) then ((f_loseSignatures σ g).1 (34 + g.toNatClampNeg) 4) else (2 : Int32)) := rfl
  rw [e, up_o (by omega), ls_8]
theorem inv_change {σ : St} {g x pl lv : Int32} (h : INV σ) (hg : inr g (σ.1 0 5)) (hx : vp_in x 8) (hl : vp_in lv 31) : INV (f_change σ g x pl lv).2 ∧ US σ (f_change σ g x pl lv).2 := by
  have hw := h.1.1
  have hg6 := WF.g6 hw hg
  have w1 : WF (up σ (34 + g.toNatClampNeg) 1 x) := wf_G1 hw hx
  have iv1 : IV (up σ (34 + g.toNatClampNeg) 1 x) := iv_up h.1 w1 (by omega) (by omega) (by omega)
  have w2 : WF (up (up σ (34 + g.toNatClampNeg) 1 x) (34 + g.toNatClampNeg) 2 pl) := wf_up w1 (fun h => absurd h (by omega)) (fun _ => ⟨by decide, by decide, by decide, fun h => absurd h (by decide)⟩) (fun h h2 => absurd h2 (by omega))
  have iv2 := iv_up iv1 w2 (by omega) (by omega) (by omega)
  have w3 : WF (up (up (up σ (34 + g.toNatClampNeg) 1 x) (34 + g.toNatClampNeg) 2 pl) (34 + g.toNatClampNeg) 3 lv) := wf_G3 w2 hl
  have iv3 := iv_up iv2 w3 (by omega) (by omega) (by omega)
  have us3 : US σ (up (up (up σ (34 + g.toNatClampNeg) 1 x) (34 + g.toNatClampNeg) 2 pl) (34 + g.toNatClampNeg) 3 lv) := ((US.up (fun z => absurd z (by omega)) (fun _ z => absurd z (by omega))).trans (US.up (fun z => absurd z (by omega)) (fun _ z => absurd z (by omega)))).trans (US.up (fun z => absurd z (by omega)) (fun _ z => absurd z (by omega)))
  have e3 : ∀ a d, ¬ (a = 34 + g.toNatClampNeg ∧ (d = 1 ∨ d = 2 ∨ d = 3)) → (up (up (up σ (34 + g.toNatClampNeg) 1 x) (34 + g.toNatClampNeg) 2 pl) (34 + g.toNatClampNeg) 3 lv).1 a d = σ.1 a d := fun a d hn => by rw [up_o (by omega), up_o (by omega), up_o (by omega)]
  have ef : (f_change σ g x pl lv).2 = f_becomeChanged (up (up (up σ (34 + g.toNatClampNeg) 1 x) (34 + g.toNatClampNeg) 2 pl) (34 + g.toNatClampNeg) 3 lv) g := rfl
  rw [ef]
  generalize up (up (up σ (34 + g.toNatClampNeg) 1 x) (34 + g.toNatClampNeg) 2 pl) (34 + g.toNatClampNeg) 3 lv = σ3 at iv3 us3 e3 w3 ⊢
  have q := Q_becomeChanged σ3 g
  refine ⟨⟨iv3.q q, fun i hi => ?_⟩, us3.trans (US.q iv3 q)⟩
  rw [q.1.2.2.1] at hi
  have hi0 : inr i (σ.1 0 5) := by rw [e3 _ _ (by omega)] at hi; exact hi
  have hi6 := WF.g6 hw hi0
  by_cases e : i.toNatClampNeg = g.toNatClampNeg
  · left; rw [e]; exact bc_8
  · rcases h.2 i hi0 with z | z
    · left
      rcases q.2.2.1 _ (ix_lt hi6) with w | ⟨w, -, -⟩
      · exact w
      · rw [w, e3 _ _ (by omega)]; exact z
    · have z3 := OK_congr (τ := σ3) hw hi6 (fun a b hr => e3 _ _ (by unfold ROK at hr; omega)) z
      rcases OK4.q w3 q hi z3.1 with w | w
      · exact Or.inl w
      · exact Or.inr ⟨w, RG.q w3 q hi6 z3.2⟩
def s0 : St := (fun a b => if a = 0 then (if b = 10 then 1 else 0) else if 6 ≤ a ∧ a < 14 ∧ b = 4 then -1 else if 22 ≤ a ∧ a < 34 ∧ (b = 3 ∨ b = 4) then -1 else 0, 0)
/-! the opening: people, gags, kit -/
def PT (σ : St) : Prop := ∀ k : Nat, k < 12 → (σ.1 0 4).toInt ≤ k → σ.1 (22 + k) 4 = -1
def WI (a k g : Int32) (σ : St) : Prop := IV σ ∧ NA σ ∧ PT σ ∧ σ.1 0 3 = a ∧ σ.1 0 4 = k ∧ σ.1 0 5 = g
theorem WI.q {a k g : Int32} {σ τ : St} (h : WI a k g σ) (q : Q σ τ) : WI a k g τ := by
  obtain ⟨h1, h2, h3, h4, h5, h6⟩ := h
  refine ⟨h1.q q, h2.q q, fun j hj hc => ?_, q.1.1.trans h4, q.1.2.1.trans h5, q.1.2.2.1.trans h6⟩
  rw [(q.2.2.2.2.2.2 j hj).1]
  exact h3 j hj (by rw [q.1.2.1] at hc; exact hc)
theorem WI_up {a k g : Int32} {σ : St} {c b : Nat} {v : Int32} (h : WI a k g σ) (hw : WF (up σ c b v)) (h0 : c = 0 → b ≠ 3 ∧ b ≠ 4 ∧ b ≠ 5) (hg : ¬ (34 ≤ c ∧ (b = 4 ∨ b = 5 ∨ b = 8))) (hp : ¬ (6 ≤ c ∧ c < 14 ∧ b = 6)) (hk : ¬ (22 ≤ c ∧ c < 34 ∧ (b = 2 ∨ b = 4))) : WI a k g (up σ c b v) := by
  obtain ⟨h1, h2, h3, h4, h5, h6⟩ := h
  have e3 : (up σ c b v).1 0 3 = σ.1 0 3 := up_o (by rintro ⟨rfl, rfl⟩; exact (h0 rfl).1 rfl)
  have e4 : (up σ c b v).1 0 4 = σ.1 0 4 := up_o (by rintro ⟨rfl, rfl⟩; exact (h0 rfl).2.1 rfl)
  have e5 : (up σ c b v).1 0 5 = σ.1 0 5 := up_o (by rintro ⟨rfl, rfl⟩; exact (h0 rfl).2.2 rfl)
  refine ⟨iv_up h1 hw (by omega) (by omega) (by omega), fun i hi => by rw [up_o (by omega)]; exact h2 i hi, fun j hj hc => ?_, e3.trans h4, e4.trans h5, e5.trans h6⟩
  rw [up_o (by omega)]
  exact h3 j hj (by rw [e4] at hc; exact hc)
