/-! a DEED read: what it leaves, and that it is well told where nothing was wrong -/
section PM12
variable {K S V : Nat → Nat} {σ : St}
theorem bnd_i {r : PR} {f : St → PR} {a : St} (h : bnd r f = .inl a) : ∃ b, r = .inl b ∧ f b = .inl a := by
  cases r with
  | inl b => exact ⟨b, rfl, h⟩
  | inr e => cases h
theorem bnd_e {r : PR} {f : St → PR} {e : Nat × Nat} (h : bnd r f = .inr e) : r = .inr e ∨ ∃ b, r = .inl b ∧ f b = .inr e := by
  cases r with
  | inl b => exact Or.inr ⟨b, rfl, h⟩
  | inr e => exact Or.inl h
theorem note_0 {b : Bool} {c p : Nat} {ρ : St} (hc : ¬ c = 0) (h : pNote b c p ρ 0 1 = 0) : b = false ∧ ρ 0 1 = 0 := by
  unfold pNote at h
  split at h
  · rw [uS_j (by decide), uS_same] at h; exact absurd h hc
  · rename_i z
    cases b
    · exact ⟨rfl, h⟩
    · exact absurd ⟨rfl, h⟩ z
theorem badC_f {x c : Nat} (h : badC σ x c = false) : x < σ 0 1 ∧ c < σ 1 x := by
  unfold badC at h
  simp only [Bool.or_eq_false_iff, decide_eq_false_iff_not] at h
  omega
def CB (a : St) (k : Nat) : Prop := ∀ i, i < a 13 k → a 14 (4 * k + i) < 4 ∧ a 15 (4 * k + i) ≤ 1 ∧ a 16 (4 * k + i) ≤ 15
theorem cond_w (hB : KB K S V σ) {k : Nat} {ρ a : St} (h : pCond K S V σ k ρ = .inl a) (hc : CB ρ k) (h0 : a 0 1 = 0) : ρ 0 1 = 0 ∧ CB a k ∧ ∀ g j, ¬ g = 0 → ¬ g = 13 → ¬ g = 14 → ¬ g = 15 → ¬ g = 16 → a g j = ρ g j := by
  unfold pCond at h
  obtain ⟨b, e1, h⟩ := bnd_i h
  obtain ⟨rfl, -, -⟩ := must_l e1
  split at h
  · rename_i z
    obtain ⟨c, e2, h⟩ := bnd_i h
    obtain ⟨rfl, -⟩ := next_l e2
    obtain ⟨d, e3, h⟩ := bnd_i h
    obtain ⟨rfl, -, -⟩ := must_l e3
    obtain rfl := Sum.inl.inj h
    unfold pStore at h0
    rw [uS_g (by decide), uS_g (by decide), uS_g (by decide), uS_g (by decide)] at h0
    obtain ⟨n1, h1⟩ := note_0 (by decide) h0
    rw [uS_j (by decide), uS_j (by decide)] at h1
    obtain ⟨n2, h2⟩ := note_0 (by split <;> decide) h1
    rw [uS_j (by decide)] at h2
    rw [Bool.or_eq_false_iff] at n2
    obtain ⟨b1, b2⟩ := badC_f n2.2
    have h4 := hB.2.2.2 (ρ 12 k)
    have n1 := of_decide_eq_false n1
    refine ⟨h2, fun i hi => ?_, fun g j g0 g3 g4 g5 g6 => ?_⟩
    · unfold pStore at hi ⊢
      simp only [uS, pNote_g (show ¬ 13 = 0 by decide), pNote_g (show ¬ 14 = 0 by decide), pNote_g (show ¬ 15 = 0 by decide), pNote_g (show ¬ 16 = 0 by decide)] at hi ⊢
      simp at hi ⊢
      by_cases q : i = ρ 13 k
      · subst q
        simp
        refine ⟨by omega, by split <;> decide, ?_⟩
        simpa [uS] using n1
      · simp [q]
        exact hc i (by omega)
    · unfold pStore
      rw [uS_g g3, uS_g g6, uS_g g5, uS_g g4, pNote_g g0, uS_g g0, uS_g g0, pNote_g g0, uS_g g0]
  · cases h
theorem ands_w (hB : KB K S V σ) {k : Nat} : ∀ (f : Nat) (ρ a : St), pAnds K S V σ k f ρ = .inl a → CB ρ k → a 0 1 = 0 → ρ 0 1 = 0 ∧ CB a k ∧ ∀ g j, ¬ g = 0 → ¬ g = 13 → ¬ g = 14 → ¬ g = 15 → ¬ g = 16 → a g j = ρ g j := by
  intro f
  induction f with
  | zero =>
    intro ρ a h hc h0
    obtain rfl := Sum.inl.inj h
    exact ⟨h0, hc, fun _ _ _ _ _ _ _ => rfl⟩
  | succ f ih =>
    intro ρ a h hc h0
    unfold pAnds at h
    split at h
    · obtain ⟨b, e1, h⟩ := bnd_i h
      obtain ⟨rfl, -⟩ := next_l e1
      split at h
      · cases h
      · obtain ⟨c, e2, h⟩ := bnd_i h
        have hcb : CB (uS ρ 0 0 (ρ 0 0 + 1)) k := fun i hi => by
          rw [uS_g (by decide)] at hi
          rw [uS_g (by decide), uS_g (by decide), uS_g (by decide)]; exact hc i hi
        have h1 : CB c k → c 0 1 = 0 ∧ CB a k ∧ ∀ g j, ¬ g = 0 → ¬ g = 13 → ¬ g = 14 → ¬ g = 15 → ¬ g = 16 → a g j = c g j := fun z => ih c a h z h0
        have hcc : c 0 1 = 0 → CB c k := fun z => (cond_w hB e2 hcb z).2.1
        have hc0 : c 0 1 = 0 := by
          have mono : ∀ (f : Nat) (c a : St), pAnds K S V σ k f c = .inl a → a 0 1 = 0 → c 0 1 = 0 := by
            intro f
            induction f with
            | zero => intro c a h h0; obtain rfl := Sum.inl.inj h; exact h0
            | succ f ih2 =>
              intro c a h h0
              unfold pAnds at h
              split at h
              · obtain ⟨b, e1, h⟩ := bnd_i h
                obtain ⟨rfl, -⟩ := next_l e1
                split at h
                · cases h
                · obtain ⟨d, e2, h⟩ := bnd_i h
                  have hd := ih2 d a h h0
                  unfold pCond at e2
                  obtain ⟨u, e3, e2⟩ := bnd_i e2
                  obtain ⟨rfl, -, -⟩ := must_l e3
                  split at e2
                  · obtain ⟨v, e4, e2⟩ := bnd_i e2
                    obtain ⟨rfl, -⟩ := next_l e4
                    obtain ⟨w, e5, e2⟩ := bnd_i e2
                    obtain ⟨rfl, -, -⟩ := must_l e5
                    obtain rfl := Sum.inl.inj e2
                    unfold pStore at hd
                    rw [uS_g (by decide), uS_g (by decide), uS_g (by decide), uS_g (by decide)] at hd
                    have hd := (note_0 (by decide) hd).2
                    rw [uS_j (by decide), uS_j (by decide)] at hd
                    have hd := (note_0 (by split <;> decide) hd).2
                    rw [uS_j (by decide), uS_j (by decide)] at hd
                    exact hd
                  · cases e2
              · obtain rfl := Sum.inl.inj h; exact h0
          exact mono f c a h h0
        obtain ⟨u1, u2, u3⟩ := cond_w hB e2 hcb hc0
        obtain ⟨v1, v2, v3⟩ := h1 u2
        rw [uS_j (by decide)] at u1
        exact ⟨u1, v2, fun g j g0 a1 a2 a3 a4 => by rw [v3 g j g0 a1 a2 a3 a4, u3 g j g0 a1 a2 a3 a4, uS_g g0]⟩
    · obtain rfl := Sum.inl.inj h
      exact ⟨h0, hc, fun _ _ _ _ _ _ _ => rfl⟩
theorem conds_w (hB : KB K S V σ) {k : Nat} {ρ a : St} (h : pConds K S V σ k ρ = .inl a) (hc : ρ 13 k = 0) (h0 : a 0 1 = 0) : ρ 0 1 = 0 ∧ CB a k ∧ ∀ g j, ¬ g = 0 → ¬ g = 13 → ¬ g = 14 → ¬ g = 15 → ¬ g = 16 → a g j = ρ g j := by
  have hz : CB ρ k := fun i hi => by omega
  have hf : pAnds K S V σ k 5 ρ = .inl a ∨ (∃ b, pNext S ρ = .inl b ∧ ∃ c, pCond K S V σ k b = .inl c ∧ pAnds K S V σ k 4 c = .inl a) ∨ ρ = a := by
    unfold pConds at h
    split at h
    · obtain ⟨b, e1, h⟩ := bnd_i h
      obtain ⟨c, e2, h⟩ := bnd_i h
      exact Or.inr (Or.inl ⟨b, e1, c, e2, h⟩)
    · exact Or.inr (Or.inr (Sum.inl.inj h))
  rcases hf with q | ⟨b, e1, c, e2, h⟩ | q
  · exact ands_w hB 5 ρ a q hz h0
  · obtain ⟨rfl, -⟩ := next_l e1
    have hcb : CB (uS ρ 0 0 (ρ 0 0 + 1)) k := fun i hi => by
      rw [uS_g (by decide)] at hi; omega
    have hc0 : c 0 1 = 0 := by
      by_cases q : CB c k
      · exact (ands_w hB 4 c a h q h0).1
      · exfalso
        by_cases q0 : c 0 1 = 0
        · exact q (cond_w hB e2 hcb q0).2.1
        · have mono : ∀ (f : Nat) (c a : St), pAnds K S V σ k f c = .inl a → ¬ c 0 1 = 0 → ¬ a 0 1 = 0 := by
            intro f
            induction f with
            | zero => intro c a h h0; obtain rfl := Sum.inl.inj h; exact h0
            | succ f ih2 =>
              intro c a h h0
              unfold pAnds at h
              split at h
              · obtain ⟨b, e1, h⟩ := bnd_i h
                obtain ⟨rfl, -⟩ := next_l e1
                split at h
                · cases h
                · obtain ⟨d, e2, h⟩ := bnd_i h
                  refine ih2 d a h (fun hd => h0 ?_)
                  unfold pCond at e2
                  obtain ⟨u, e3, e2⟩ := bnd_i e2
                  obtain ⟨rfl, -, -⟩ := must_l e3
                  split at e2
                  · obtain ⟨v, e4, e2⟩ := bnd_i e2
                    obtain ⟨rfl, -⟩ := next_l e4
                    obtain ⟨w, e5, e2⟩ := bnd_i e2
                    obtain ⟨rfl, -, -⟩ := must_l e5
                    obtain rfl := Sum.inl.inj e2
                    unfold pStore at hd
                    rw [uS_g (by decide), uS_g (by decide), uS_g (by decide), uS_g (by decide)] at hd
                    have hd := (note_0 (by decide) hd).2
                    rw [uS_j (by decide), uS_j (by decide)] at hd
                    have hd := (note_0 (by split <;> decide) hd).2
                    rw [uS_j (by decide), uS_j (by decide)] at hd
                    exact hd
                  · cases e2
              · obtain rfl := Sum.inl.inj h; exact h0
          exact mono 4 c a h q0 h0
    obtain ⟨u1, u2, u3⟩ := cond_w hB e2 hcb hc0
    obtain ⟨v1, v2, v3⟩ := ands_w hB 4 c a h u2 h0
    rw [uS_j (by decide)] at u1
    exact ⟨u1, v2, fun g j g0 a1 a2 a3 a4 => by rw [v3 g j g0 a1 a2 a3 a4, u3 g j g0 a1 a2 a3 a4, uS_g g0]⟩
  · subst q
    exact ⟨h0, hz, fun _ _ _ _ _ _ _ => rfl⟩
theorem join_w (hB : KB K S V σ) {k : Nat} {ρ a : St} (h : pJoin K S V σ k ρ = .inl a) (h0 : a 0 1 = 0) (h17 : ρ 17 k = 0) : ρ 0 1 = 0 ∧ a 17 k ≤ σ 0 1 ∧ (¬ a 17 k = 0 → a 18 k < 4 ∧ a 19 k < 4) := by
  unfold pJoin at h
  split at h
  · obtain ⟨b, e1, h⟩ := bnd_i h
    obtain ⟨rfl, -⟩ := next_l e1
    obtain ⟨c, e2, h⟩ := bnd_i h
    obtain ⟨rfl, -, -⟩ := must_l e2
    obtain ⟨d, e3, h⟩ := bnd_i h
    obtain ⟨rfl, -, -⟩ := must_l e3
    obtain ⟨f, e4, h⟩ := bnd_i h
    obtain ⟨rfl, -, -⟩ := must_l e4
    obtain ⟨u, e5, h⟩ := bnd_i h
    obtain ⟨rfl, -, -⟩ := must_l e5
    obtain ⟨v, e6, h⟩ := bnd_i h
    obtain ⟨rfl, -, -⟩ := must_l e6
    obtain rfl := Sum.inl.inj h
    rw [uS_g (by decide), uS_g (by decide), uS_g (by decide)] at h0
    obtain ⟨n1, h1⟩ := note_0 (by decide) h0
    rw [uS_j (by decide), uS_j (by decide)] at h1
    obtain ⟨n2, h2⟩ := note_0 (by decide) h1
    rw [uS_j (by decide), uS_j (by decide)] at h2
    obtain ⟨n3, h3⟩ := note_0 (by decide) h2
    rw [uS_j (by decide), uS_j (by decide)] at h3
    obtain ⟨b1, b2⟩ := badC_f n1
    obtain ⟨b3, b4⟩ := badC_f n2
    have q1 := hB.2.2.2 (ρ 12 k)
    refine ⟨h3, ?_, fun _ => ⟨?_, ?_⟩⟩
    · rw [uS_g (by decide), uS_g (by decide), uS_same]; omega
    · rw [uS_g (by decide), uS_same]; omega
    · rw [uS_same]
      exact Nat.lt_of_lt_of_le b2 (hB.2.2.2 _)
  · obtain rfl := Sum.inl.inj h
    exact ⟨h0, by omega, fun z => absurd h17 z⟩
theorem ord_w (hB : KB K S V σ) {k : Nat} {ρ a : St} (h : pOrd K S V σ k ρ = .inl a) (h0 : a 0 1 = 0) (h20 : ρ 20 k = 0) : ρ 0 1 = 0 ∧ a 20 k ≤ 4 := by
  unfold pOrd at h
  split at h
  · obtain ⟨b, e1, h⟩ := bnd_i h
    obtain ⟨rfl, -⟩ := next_l e1
    obtain ⟨c, e2, h⟩ := bnd_i h
    obtain ⟨rfl, -, -⟩ := must_l e2
    obtain rfl := Sum.inl.inj h
    rw [uS_g (by decide)] at h0
    obtain ⟨n1, h1⟩ := note_0 (by decide) h0
    rw [uS_j (by decide), uS_j (by decide)] at h1
    obtain ⟨b1, b2⟩ := badC_f n1
    have q1 := hB.2.2.2 (ρ 12 k)
    exact ⟨h1, by rw [uS_same]; omega⟩
  · obtain rfl := Sum.inl.inj h
    exact ⟨h0, by omega⟩
end PM12
