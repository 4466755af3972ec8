/-! read: its answer, and the new state -/
section RD
variable {σ : St} {τ : Nat → Int32} {I : hI} {J : hJ}
noncomputable def rdP (σ : St) (τ : Nat → Int32) : PR := pLoop (kT (chN τ (σ 0 0)) (σ 0 0)) (stT (chN τ (σ 0 0)) (σ 0 0)) (vT (chN τ (σ 0 0)) (σ 0 0)) σ 9 (fun _ _ => 0)
def rdS (σ a : St) : St := fun g j => if 10 ≤ g ∧ g ≤ 21 then a g j else if g = 0 ∧ j = 0 then 0 else if g = 0 ∧ j = 5 then a 0 3 else if g = 0 ∧ j = 7 then 0 else σ g j
def rdE (σ : St) (p : Nat) : St := uS (uS σ 0 0 0) 0 7 (p + 1)
def rdO (σ : St) (r : PR) : St := match r with
  | .inl a => if a 0 1 = 0 then rdS σ a else rdE σ (a 0 2)
  | .inr e => rdE σ e.2
def rdQ (r : PR) : Int32 := match r with
  | .inl a => nI (a 0 1)
  | .inr e => nI e.1
theorem kT_le {ch : Nat → Nat} {n t : Nat} : kT ch n t ≤ 30 := by
  have hw : ∀ m, m ≤ 11 → kwL ch (stT ch n t) (rnL ch n (stT ch n t)) m ≤ 30 := by
    intro m
    induction m with
    | zero => intro _; rw [kwL]; decide
    | succ m ih =>
      intro h
      rw [kwL]
      split
      · omega
      · exact ih (by omega)
  unfold kT tkK
  split
  · omega
  · split
    · split
      · omega
      · exact hw 11 (by omega)
    · split
      · split <;> omega
      · unfold sgK
        split
        · omega
        · split
          · omega
          · split
            · omega
            · split <;> omega
theorem vT_le {ch : Nat → Nat} {n t : Nat} (h0 : ∀ j, n ≤ j → ch j = 0) : vT ch n t ≤ 9999 := by
  unfold vT tkV
  obtain ⟨a, b⟩ := run_spec (p := fun j => isDB (ch j)) (bad_D h0) n (stT ch n t) (by omega)
  have hd : ∀ j, j < min (rnD ch n (stT ch n t)) 4 → ch (stT ch n t + j) ≤ 57 := fun j hj => by
    have h1 := a j (by unfold rnD at hj; omega)
    simp only [isDB, decide_eq_true_eq] at h1
    exact h1.2
  have h2 := dec_lt _ hd
  have h3 : (10 : Nat) ^ min (rnD ch n (stT ch n t)) 4 ≤ 10 ^ 4 := Nat.pow_le_pow_right (by decide) (by omega)
  omega
theorem rd_kb (w : WF σ) : KB (kT (chN τ (σ 0 0)) (σ 0 0)) (stT (chN τ (σ 0 0)) (σ 0 0)) (vT (chN τ (σ 0 0)) (σ 0 0)) σ := by
  have h0 := chN_0 τ (σ 0 0)
  refine ⟨fun t => ⟨kT_le, ?_, vT_le h0⟩, fun t ht => stT_lt h0 ht, w.1.2.1, fun x => (w.2.1 x).1⟩
  have := stT_le h0 t
  have := w.1.1
  omega
theorem pi_0 {K S : Nat → Nat} : PI K S (fun _ _ => 0) := ⟨Nat.zero_le _, fun s hs => absurd hs (Nat.not_lt_zero _), fun z => absurd rfl z, Nat.zero_le _⟩
/-- where a fault's place comes from -/
theorem next_e {S : Nat → Nat} {ρ : St} {e : Nat × Nat} (h : pNext S ρ = .inr e) : ∃ t, e.2 = S t := by
  unfold pNext at h
  split at h
  · obtain rfl := Sum.inr.inj h; exact ⟨300, rfl⟩
  · cases h
theorem must_e {K S : Nat → Nat} {k : Nat} {ρ : St} {e : Nat × Nat} (h : pMust K S k ρ = .inr e) : ∃ t, e.2 = S t := by
  unfold pMust at h
  split at h
  · exact next_e h
  · obtain rfl := Sum.inr.inj h; exact ⟨_, rfl⟩
section E
variable {K S V : Nat → Nat}
theorem cond_e {k : Nat} {ρ : St} {e : Nat × Nat} (h : pCond K S V σ k ρ = .inr e) : ∃ t, e.2 = S t := by
  unfold pCond at h
  rcases bnd_e h with q | ⟨a, -, h⟩
  · exact must_e q
  split at h
  · rcases bnd_e h with q | ⟨b, -, h⟩
    · exact next_e q
    rcases bnd_e h with q | ⟨c, -, h⟩
    · exact must_e q
    cases h
  · obtain rfl := Sum.inr.inj h; exact ⟨_, rfl⟩
theorem ands_e {k : Nat} {e : Nat × Nat} : ∀ (f : Nat) (ρ : St), pAnds K S V σ k f ρ = .inr e → ∃ t, e.2 = S t := by
  intro f
  induction f with
  | zero => intro ρ h; cases h
  | succ f ih =>
    intro ρ h
    unfold pAnds at h
    split at h
    · rcases bnd_e h with q | ⟨a, -, h⟩
      · exact next_e q
      split at h
      · obtain rfl := Sum.inr.inj h; exact ⟨_, rfl⟩
      · rcases bnd_e h with q | ⟨b, -, h⟩
        · exact cond_e q
        · exact ih b h
    · cases h
theorem ask_e {k : Nat} {ρ : St} {e : Nat × Nat} (h : pAsk K S V σ k ρ = .inr e) : ∃ t, e.2 = S t := by
  unfold pAsk at h
  rcases bnd_e h with q | ⟨a, -, h⟩
  · unfold pConds at q
    split at q
    · rcases bnd_e q with q | ⟨a, -, q⟩
      · exact next_e q
      rcases bnd_e q with q | ⟨b, -, q⟩
      · exact cond_e q
      · exact ands_e 4 b q
    · cases q
  rcases bnd_e h with q | ⟨b, -, h⟩
  · unfold pJoin at q
    split at q
    · rcases bnd_e q with q | ⟨a, -, q⟩
      · exact next_e q
      rcases bnd_e q with q | ⟨a, -, q⟩
      · exact must_e q
      rcases bnd_e q with q | ⟨a, -, q⟩
      · exact must_e q
      rcases bnd_e q with q | ⟨a, -, q⟩
      · exact must_e q
      rcases bnd_e q with q | ⟨a, -, q⟩
      · exact must_e q
      rcases bnd_e q with q | ⟨a, -, q⟩
      · exact must_e q
      cases q
    · cases q
  unfold pOrd at h
  split at h
  · rcases bnd_e h with q | ⟨a, -, h⟩
    · exact next_e q
    rcases bnd_e h with q | ⟨a, -, h⟩
    · exact must_e q
    cases h
  · cases h
theorem deed_e {ρ : St} {e : Nat × Nat} (h : pDeed K S V σ ρ = .inr e) : ∃ t, e.2 = S t := by
  unfold pDeed at h
  split at h
  · split at h
    · obtain rfl := Sum.inr.inj h; exact ⟨_, rfl⟩
    rcases bnd_e h with q | ⟨a, -, h⟩
    · exact next_e q
    rcases bnd_e h with q | ⟨b, -, h⟩
    · unfold pShare at q
      rcases bnd_e q with q | ⟨a, -, q⟩
      · exact must_e q
      rcases bnd_e q with q | ⟨a, -, q⟩
      · exact must_e q
      cases q
    rcases bnd_e h with q | ⟨b, -, h⟩
    · exact must_e q
    rcases bnd_e h with q | ⟨b, -, h⟩
    · unfold pTab at q
      rcases bnd_e q with q | ⟨a, -, q⟩
      · exact must_e q
      cases q
    rcases bnd_e h with q | ⟨b, -, h⟩
    · split at q
      · unfold pWrt at q
        rcases bnd_e q with q | ⟨a, -, q⟩
        · exact must_e q
        rcases bnd_e q with q | ⟨a, -, q⟩
        · exact must_e q
        cases q
      · exact ask_e q
    rcases bnd_e h with q | ⟨b, -, h⟩
    · exact must_e q
    cases h
  · obtain rfl := Sum.inr.inj h; exact ⟨_, rfl⟩
/-- what the whole text leaves -/
theorem loop_l (hB : KB K S V σ) : ∀ (f : Nat) (ρ : St), ρ 0 3 + f = 9 → ρ 0 3 ≤ 8 → PI K S ρ → (∀ k, k < ρ 0 3 → ρ 13 k ≤ 4) → (ρ 0 1 = 0 → ∀ k, k < ρ 0 3 → WQ σ ρ k) → (∀ a, pLoop K S V σ f ρ = .inl a → a 0 3 ≤ 8 ∧ PI K S a ∧ (∀ k, k < a 0 3 → a 13 k ≤ 4) ∧ (a 0 1 = 0 → ∀ k, k < a 0 3 → WQ σ a k)) ∧ ∀ e, pLoop K S V σ f ρ = .inr e → ∃ t, e.2 = S t := by
  intro f
  induction f with
  | zero => intro ρ hf h8; omega
  | succ f ih =>
    intro ρ hf h8 hI h13 hW
    unfold pLoop
    split
    · exact ⟨fun a ha => by obtain rfl := Sum.inl.inj ha; exact ⟨h8, hI, h13, hW⟩, fun e he => by cases he⟩
    · cases e1 : pDeed K S V σ ρ with
      | inr e =>
        rw [bnd_r]
        exact ⟨fun a ha => (by cases ha), fun e' he => by obtain rfl := Sum.inr.inj he; exact deed_e e1⟩
      | inl a =>
        rw [bnd_l]
        obtain ⟨d1, d2, d3, d4, d5, d6⟩ := deed_l hB hI h8 e1
        have f1 : ∀ k, k < ρ 0 3 → ∀ g, ¬ g = 0 → ¬ (14 ≤ g ∧ g ≤ 16) → a g k = ρ g k := fun k hk g x y => by
          have := d3.1 g k x (by omega) (by omega)
          rw [uS_g x] at this; exact this
        have f2 : ∀ k, k < ρ 0 3 → ∀ g i, 14 ≤ g ∧ g ≤ 16 → i < 4 → a g (4 * k + i) = ρ g (4 * k + i) := fun k hk g i x y => by
          have := d3.1 g (4 * k + i) (by omega) (by omega) (by omega)
          rw [uS_g (by omega)] at this; exact this
        refine ih a (by omega) (by omega) d2 (fun k hk => ?_) (fun z k hk => ?_)
        · by_cases q : k = ρ 0 3
          · rw [q]; exact d5
          · rw [f1 k (by omega) 13 (by decide) (by decide)]; exact h13 k (by omega)
        · obtain ⟨z1, z2⟩ := d6 z
          by_cases q : k = ρ 0 3
          · rw [q]; exact z2
          · exact (hW z1 k (by omega)).cg (h13 k (by omega)) (f1 k (by omega)) (f2 k (by omega))
end E
theorem rdO_wf (w : WF σ) : WF (rdO σ (rdP σ τ)) := by
  have hB := rd_kb (τ := τ) w
  obtain ⟨h1, h2⟩ := loop_l hB 9 (fun _ _ => 0) rfl (by omega) pi_0 (fun k hk => absurd hk (Nat.not_lt_zero _)) (fun _ k hk => absurd hk (Nat.not_lt_zero _))
  have er : ∀ p, p ≤ 2000 → WF (rdE σ p) := fun p hp => by
    refine w.sc (fun g j hg => ?_) ?_ ?_ ?_ ?_ ?_
    all_goals unfold rdE
    · rw [uS_g hg, uS_g hg]
    · rw [uS_j (by decide), uS_j (by decide)]
    · rw [uS_j (by decide), uS_j (by decide)]
    · rw [uS_j (by decide), uS_j (by decide)]
    · rw [uS_j (by decide), uS_j (by decide)]; exact Nat.le_refl _
    · have h3 := w.1.2.2.1
      have h4 := w.1.2.2.2.1
      rw [uS_j (by decide), uS_same, uS_j (by decide), uS_j (by decide), uS_j (by decide), uS_j (by decide), uS_same]
      omega
  unfold rdP
  cases e : pLoop (kT (chN τ (σ 0 0)) (σ 0 0)) (stT (chN τ (σ 0 0)) (σ 0 0)) (vT (chN τ (σ 0 0)) (σ 0 0)) σ 9 (fun _ _ => 0) with
  | inr e1 =>
    obtain ⟨t, ht⟩ := h2 e1 e
    refine er _ ?_
    rw [ht]
    exact (hB.1 t).2.1
  | inl a =>
    obtain ⟨a1, a2, a3, a4⟩ := h1 a e
    show WF (if a 0 1 = 0 then rdS σ a else rdE σ (a 0 2))
    split
    · rename_i z
      have hq := a4 z
      obtain ⟨⟨b0, b1, b2, b3, b4, b5, b6, b7⟩, c, d, m, k, y1, y2, y3⟩ := w
      have eG : ∀ g, ¬ g = 0 → ¬ (10 ≤ g ∧ g ≤ 21) → rdS σ a g = σ g := fun g x y => funext fun j => by
        unfold rdS
        rw [if_neg y, if_neg (by omega), if_neg (by omega), if_neg (by omega)]
      have eA : ∀ g, 10 ≤ g → g ≤ 21 → rdS σ a g = a g := fun g x y => funext fun j => by
        unfold rdS
        rw [if_pos ⟨x, y⟩]
      have e0 : ∀ j, ¬ j = 0 → ¬ j = 5 → ¬ j = 7 → rdS σ a 0 j = σ 0 j := fun j x y z => by
        unfold rdS
        rw [if_neg (by omega), if_neg (by omega), if_neg (by omega), if_neg (by omega)]
      have e00 : rdS σ a 0 0 = 0 := rfl
      have e05 : rdS σ a 0 5 = a 0 3 := rfl
      have e07 : rdS σ a 0 7 = 0 := rfl
      refine ⟨⟨by rw [e00]; omega, by rw [e0 1 (by decide) (by decide) (by decide)]; exact b1, by rw [e0 2 (by decide) (by decide) (by decide)]; exact b2, by rw [e0 3 (by decide) (by decide) (by decide)]; exact b3, by rw [e0 4 (by decide) (by decide) (by decide)]; exact b4, by rw [e05]; exact a1, by rw [e0 6 (by decide) (by decide) (by decide)]; exact b6, by rw [e07]; omega⟩, ?_, ?_, ?_, ?_, ?_, ?_, ?_⟩
      · rw [eG 1 (by decide) (by decide), eG 2 (by decide) (by decide)]; exact c
      · rw [eG 3 (by decide) (by decide)]; exact d
      · rw [e0 4 (by decide) (by decide) (by decide)]; intro x hx; unfold WFm; rw [e0 1 (by decide) (by decide) (by decide), eG 4 (by decide) (by decide), eG 5 (by decide) (by decide), eG 6 (by decide) (by decide), eG 7 (by decide) (by decide), eG 8 (by decide) (by decide)]; exact m x hx
      · rw [e05]; intro x hx; unfold WFd; rw [e0 1 (by decide) (by decide) (by decide), eA 10 (by decide) (by decide), eA 11 (by decide) (by decide), eA 12 (by decide) (by decide), eA 13 (by decide) (by decide), eA 14 (by decide) (by decide), eA 15 (by decide) (by decide), eA 16 (by decide) (by decide), eA 17 (by decide) (by decide), eA 18 (by decide) (by decide), eA 19 (by decide) (by decide), eA 20 (by decide) (by decide), eA 21 (by decide) (by decide)]; exact hq x hx
      · rw [eG 22 (by decide) (by decide)]; exact y1
      · rw [eG 22 (by decide) (by decide), e0 6 (by decide) (by decide) (by decide), e0 4 (by decide) (by decide) (by decide)]; exact y2
      · rw [eG 22 (by decide) (by decide), e0 6 (by decide) (by decide) (by decide)]; exact y3
    · rename_i z
      refine er _ ?_
      have := a2.2.2.1 z
      have := (hB.1 (a 0 0)).2.1
      omega
end RD
