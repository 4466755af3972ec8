/-! the whole text read -/
section PM13
variable {K S V : Nat → Nat} {σ : St}
def WQ (σ a : St) (k : Nat) : Prop := a 10 k ≤ 1 ∧ a 11 k ≤ 1000 ∧ a 12 k < σ 0 1 ∧ a 13 k ≤ 4 ∧ (∀ i, i < a 13 k → a 14 (4 * k + i) < 4 ∧ a 15 (4 * k + i) ≤ 1 ∧ a 16 (4 * k + i) ≤ 15) ∧ a 17 k ≤ σ 0 1 ∧ (¬ a 17 k = 0 → a 18 k < 4 ∧ a 19 k < 4) ∧ a 20 k ≤ 4 ∧ a 21 k ≤ 100
theorem WQ.cg {a b : St} {k : Nat} (h : WQ σ a k) (h4 : a 13 k ≤ 4) (e : ∀ g, ¬ g = 0 → ¬ (14 ≤ g ∧ g ≤ 16) → b g k = a g k) (e2 : ∀ g i, 14 ≤ g ∧ g ≤ 16 → i < 4 → b g (4 * k + i) = a g (4 * k + i)) : WQ σ b k := by
  unfold WQ at h ⊢
  rw [e 10 (by decide) (by decide), e 11 (by decide) (by decide), e 12 (by decide) (by decide), e 13 (by decide) (by decide), e 17 (by decide) (by decide), e 18 (by decide) (by decide), e 19 (by decide) (by decide), e 20 (by decide) (by decide), e 21 (by decide) (by decide)]
  obtain ⟨a1, a2, a3, a4, a5, a6⟩ := h
  exact ⟨a1, a2, a3, a4, fun i hi => by rw [e2 14 i (by decide) (by omega), e2 15 i (by decide) (by omega), e2 16 i (by decide) (by omega)]; exact a5 i hi, a6⟩
theorem share_l (hB : KB K S V σ) {k : Nat} {ρ a : St} (hI : PI K S ρ) (h : pShare K S V k ρ = .inl a) : PI K S a ∧ eD k ρ a ∧ (∀ g j, ¬ g = 0 → ¬ g = 11 → a g j = ρ g j) ∧ (a 0 1 = 0 → ρ 0 1 = 0 ∧ a 11 k ≤ 1000) := by
  unfold pShare at h
  obtain ⟨b, e1, h⟩ := bnd_i h
  obtain ⟨gb, -, -⟩ := (Gd.rf hI).must hB (by decide) e1
  obtain ⟨c, e2, h⟩ := bnd_i h
  obtain ⟨gc, nc, sc⟩ := gb.must hB (by decide) e2
  obtain ⟨q1, -, -⟩ := must_l e1
  obtain ⟨q2, -, -⟩ := must_l e2
  have hP : PI K S (uS c 11 k (V (b 0 0))) := gc.1.cg (fun j => uS_g (by decide))
  have hn := hP.note (b := decide (1000 < V (b 0 0))) (c := 5) (p := S (b 0 0)) (by decide) (by rw [uS_g (by decide)]; exact sc)
  obtain rfl := Sum.inl.inj h
  refine ⟨hn, (gc.eD.put (by decide)).note, fun g j x y => by rw [pNote_g x, uS_g y]; exact gc.2.1 g j x, fun z => ?_⟩
  obtain ⟨n1, h1⟩ := note_0 (by decide) z
  have n1 := of_decide_eq_false n1
  rw [uS_g (by decide), q2, uS_j (by decide), q1, uS_j (by decide)] at h1
  exact ⟨h1, by rw [pNote_g (by decide), uS_same]; omega⟩
theorem tab_l (hB : KB K S V σ) {k : Nat} {ρ a : St} (hI : PI K S ρ) (h : pTab K S V σ k ρ = .inl a) : PI K S a ∧ eD k ρ a ∧ (∀ g j, ¬ g = 0 → ¬ g = 12 → a g j = ρ g j) ∧ a 12 k ≤ 9999 ∧ (a 0 1 = 0 → ρ 0 1 = 0 ∧ a 12 k < σ 0 1) := by
  unfold pTab at h
  obtain ⟨c, e2, h⟩ := bnd_i h
  obtain ⟨gc, nc, sc⟩ := (Gd.rf hI).must hB (by decide) e2
  obtain ⟨q2, -, -⟩ := must_l e2
  have hV := (hB.1 (ρ 0 0)).2.2
  have hP : PI K S (uS c 12 k (V (ρ 0 0))) := gc.1.cg (fun j => uS_g (by decide))
  have hn := hP.note (b := decide (σ 0 1 ≤ V (ρ 0 0))) (c := 4) (p := S (ρ 0 0)) (by decide) (by rw [uS_g (by decide)]; exact sc)
  obtain rfl := Sum.inl.inj h
  refine ⟨hn, (gc.eD.put (by decide)).note, fun g j x y => by rw [pNote_g x, uS_g y]; exact gc.2.1 g j x, by rw [pNote_g (by decide), uS_same]; exact hV, fun z => ?_⟩
  obtain ⟨n1, h1⟩ := note_0 (by decide) z
  have n1 := of_decide_eq_false n1
  rw [uS_g (by decide), q2, uS_j (by decide)] at h1
  exact ⟨h1, by rw [pNote_g (by decide), uS_same]; omega⟩
theorem wrt_w {k : Nat} {ρ a : St} (h : pWrt K S V k ρ = .inl a) (z : a 0 1 = 0) : ρ 0 1 = 0 ∧ a 21 k ≤ 100 := by
  unfold pWrt at h
  obtain ⟨b, e1, h⟩ := bnd_i h
  obtain ⟨c, e2, h⟩ := bnd_i h
  obtain ⟨q1, -, -⟩ := must_l e1
  obtain ⟨q2, -, -⟩ := must_l e2
  obtain rfl := Sum.inl.inj h
  obtain ⟨n1, h1⟩ := note_0 (by decide) z
  have n1 := of_decide_eq_false n1
  rw [uS_g (by decide), q2, uS_j (by decide), q1, uS_j (by decide)] at h1
  exact ⟨h1, by rw [pNote_g (by decide), uS_same]; omega⟩
theorem deed_l (hB : KB K S V σ) {ρ a : St} (hI : PI K S ρ) (h8 : ρ 0 3 ≤ 8) (h : pDeed K S V σ ρ = .inl a) : ρ 0 3 < 8 ∧ PI K S a ∧ eD (ρ 0 3) ρ (uS a 0 3 (ρ 0 3)) ∧ a 0 3 = ρ 0 3 + 1 ∧ a 13 (ρ 0 3) ≤ 4 ∧ (a 0 1 = 0 → ρ 0 1 = 0 ∧ WQ σ a (ρ 0 3)) := by
  unfold pDeed at h
  split at h
  case isFalse => cases h
  rename_i hk
  split at h
  · cases h
  rename_i h3
  generalize hk0 : ρ 0 3 = k at h h3 h8 ⊢
  have hi1 : PI K S (pInit k (if K (ρ 0 0) = 28 then 1 else 0) ρ) := hI.cg init_0
  obtain ⟨a1, e1, h⟩ := bnd_i h
  have g1 := (Gd.rf hi1).next hB (by rw [init_0]; omega) e1
  obtain ⟨q1, -⟩ := next_l e1
  obtain ⟨a2, e2, h⟩ := bnd_i h
  obtain ⟨i2, d2, f2, w2⟩ := share_l hB g1.1 e2
  obtain ⟨a3, e3, h⟩ := bnd_i h
  obtain ⟨g3, -, -⟩ := (Gd.rf i2).must hB (by split <;> decide) e3
  obtain ⟨q3, -, -⟩ := must_l e3
  obtain ⟨a4, e4, h⟩ := bnd_i h
  obtain ⟨i4, d4, f4, b4, w4⟩ := tab_l hB g3.1 e4
  have t10 : a4 10 k = if K (ρ 0 0) = 28 then 1 else 0 := by
    rw [f4 10 k (by decide) (by decide), g3.2.1 10 k (by decide), f2 10 k (by decide) (by decide), g1.2.1 10 k (by decide)]
    unfold pInit; rw [uS_g (by decide), uS_g (by decide), uS_g (by decide), uS_g (by decide), uS_same]
  have t13 : a4 13 k = 0 := by
    rw [f4 13 k (by decide) (by decide), g3.2.1 13 k (by decide), f2 13 k (by decide) (by decide), g1.2.1 13 k (by decide)]
    unfold pInit; rw [uS_g (by decide), uS_g (by decide), uS_g (by decide), uS_same]
  have t17 : a4 17 k = 0 := by
    rw [f4 17 k (by decide) (by decide), g3.2.1 17 k (by decide), f2 17 k (by decide) (by decide), g1.2.1 17 k (by decide)]
    unfold pInit; rw [uS_g (by decide), uS_g (by decide), uS_same]
  have t20 : a4 20 k = 0 := by
    rw [f4 20 k (by decide) (by decide), g3.2.1 20 k (by decide), f2 20 k (by decide) (by decide), g1.2.1 20 k (by decide)]
    unfold pInit; rw [uS_g (by decide), uS_same]
  have t21 : a4 21 k = 0 := by
    rw [f4 21 k (by decide) (by decide), g3.2.1 21 k (by decide), f2 21 k (by decide) (by decide), g1.2.1 21 k (by decide)]
    unfold pInit; rw [uS_same]
  have t11 : a4 11 k = a2 11 k := by rw [f4 11 k (by decide) (by decide), g3.2.1 11 k (by decide)]
  have back : a4 0 1 = 0 → ρ 0 1 = 0 ∧ a2 11 k ≤ 1000 ∧ a4 12 k < σ 0 1 := fun z => by
    obtain ⟨z3, b12⟩ := w4 z
    rw [q3, uS_j (by decide)] at z3
    obtain ⟨z1, b11⟩ := w2 z3
    rw [q1, uS_j (by decide), init_0] at z1
    exact ⟨z1, b11, b12⟩
  obtain ⟨a5, e5, h⟩ := bnd_i h
  obtain ⟨a6, e6, h⟩ := bnd_i h
  obtain rfl := Sum.inl.inj h
  have dh4 : eD k ρ a4 := (((init_e.tr g1.eD).tr d2).tr g3.eD).tr d4
  have main : PI K S a5 ∧ eD k a4 a5 ∧ a5 13 k ≤ 4 ∧ (a5 0 1 = 0 → ρ 0 1 = 0 ∧ WQ σ a5 k) := by
    by_cases z : K (ρ 0 0) = 28
    · rw [if_pos z] at e5 t10
      obtain ⟨i5, d5, f5⟩ := wrt_l hB i4 e5
      refine ⟨i5, d5, by rw [f5 13 k (by decide) (by decide)]; omega, fun z0 => ?_⟩
      obtain ⟨z4, b21⟩ := wrt_w e5 z0
      obtain ⟨z1, b11, b12⟩ := back z4
      refine ⟨z1, ?_⟩
      unfold WQ
      rw [f5 10 k (by decide) (by decide), f5 11 k (by decide) (by decide), f5 12 k (by decide) (by decide), f5 13 k (by decide) (by decide), f5 17 k (by decide) (by decide), f5 20 k (by decide) (by decide)]
      exact ⟨by omega, by omega, b12, by omega, fun i hi => by omega, by omega, fun y => absurd t17 y, by omega, b21⟩
    · rw [if_neg z] at e5 t10
      obtain ⟨i5, b5, d5⟩ := ask_l hB i4 ⟨b4, by omega, fun i hi => by omega⟩ t13 e5
      refine ⟨i5, d5, b5.2.1, fun z0 => ?_⟩
      unfold pAsk at e5
      obtain ⟨c1, u1, e5⟩ := bnd_i e5
      obtain ⟨c2, u2, e5⟩ := bnd_i e5
      obtain ⟨ic, dc, xc⟩ := conds_l hB i4 ⟨b4, by omega, fun i hi => by omega⟩ t13 u1
      obtain ⟨ij, dj, fj⟩ := join_l ic hB u2
      obtain ⟨io, dO, fo⟩ := ord_l ij hB e5
      obtain ⟨y2, -⟩ : c2 0 1 = 0 ∧ True := by
        unfold pOrd at e5
        split at e5
        · obtain ⟨b, o1, e5⟩ := bnd_i e5
          obtain ⟨rfl, -⟩ := next_l o1
          obtain ⟨c, o2, e5⟩ := bnd_i e5
          obtain ⟨rfl, -, -⟩ := must_l o2
          obtain rfl := Sum.inl.inj e5
          rw [uS_g (by decide)] at z0
          have z0 := (note_0 (by decide) z0).2
          rw [uS_j (by decide), uS_j (by decide)] at z0
          exact ⟨z0, trivial⟩
        · obtain rfl := Sum.inl.inj e5; exact ⟨z0, trivial⟩
      have y1 : c1 0 1 = 0 := by
        unfold pJoin at u2
        split at u2
        · obtain ⟨b, o1, u2⟩ := bnd_i u2
          obtain ⟨rfl, -⟩ := next_l o1
          obtain ⟨c, o2, u2⟩ := bnd_i u2
          obtain ⟨rfl, -, -⟩ := must_l o2
          obtain ⟨d, o3, u2⟩ := bnd_i u2
          obtain ⟨rfl, -, -⟩ := must_l o3
          obtain ⟨e, o4, u2⟩ := bnd_i u2
          obtain ⟨rfl, -, -⟩ := must_l o4
          obtain ⟨f, o5, u2⟩ := bnd_i u2
          obtain ⟨rfl, -, -⟩ := must_l o5
          obtain ⟨v, o6, u2⟩ := bnd_i u2
          obtain ⟨rfl, -, -⟩ := must_l o6
          obtain rfl := Sum.inl.inj u2
          rw [uS_g (by decide), uS_g (by decide), uS_g (by decide)] at y2
          have y2 := (note_0 (by decide) y2).2
          rw [uS_j (by decide), uS_j (by decide)] at y2
          have y2 := (note_0 (by decide) y2).2
          rw [uS_j (by decide), uS_j (by decide)] at y2
          have y2 := (note_0 (by decide) y2).2
          rw [uS_j (by decide), uS_j (by decide)] at y2
          exact y2
        · obtain rfl := Sum.inl.inj u2; exact y2
      obtain ⟨y0, cb, fc⟩ := conds_w hB u1 t13 y1
      obtain ⟨-, j1, j2⟩ := join_w hB u2 y2 (by rw [fc 17 k (by decide) (by decide) (by decide) (by decide) (by decide)]; exact t17)
      obtain ⟨-, o1⟩ := ord_w hB e5 z0 (by rw [fj 20 k (by decide) (by decide) (by decide) (by decide), fc 20 k (by decide) (by decide) (by decide) (by decide) (by decide)]; exact t20)
      obtain ⟨z1, b11, b12⟩ := back y0
      refine ⟨z1, ?_⟩
      have f1 : ∀ g j, ¬ g = 0 → ¬ (13 ≤ g ∧ g ≤ 20) → a5 g j = a4 g j := fun g j x y => by rw [fo g j x (by omega), fj g j x (by omega) (by omega) (by omega), fc g j x (by omega) (by omega) (by omega) (by omega)]
      have f2 : ∀ g j, 13 ≤ g → g ≤ 16 → a5 g j = c1 g j := fun g j x y => by rw [fo g j (by omega) (by omega), fj g j (by omega) (by omega) (by omega) (by omega)]
      have f3 : ∀ g j, 17 ≤ g → g ≤ 19 → a5 g j = c2 g j := fun g j x y => by rw [fo g j (by omega) (by omega)]
      refine ⟨?_, ?_, ?_, b5.2.1, fun i hi => ?_, ?_, ?_, o1, ?_⟩
      · rw [f1 10 k (by decide) (by decide)]; omega
      · rw [f1 11 k (by decide) (by decide)]; omega
      · rw [f1 12 k (by decide) (by decide)]; omega
      · rw [f2 13 k (by decide) (by decide)] at hi
        rw [f2 14 _ (by decide) (by decide), f2 15 _ (by decide) (by decide), f2 16 _ (by decide) (by decide)]; exact cb i hi
      · rw [f3 17 k (by decide) (by decide)]; exact j1
      · rw [f3 17 k (by decide) (by decide), f3 18 k (by decide) (by decide), f3 19 k (by decide) (by decide)]; exact j2
      · rw [f1 21 k (by decide) (by decide)]; omega
  obtain ⟨i5, d5, m1, m2⟩ := main
  obtain ⟨g6, -, -⟩ := (Gd.rf i5).must hB (by decide) e6
  obtain ⟨q6, -, -⟩ := must_l e6
  have hp : PI K S (uS a6 0 3 (k + 1)) := by
    obtain ⟨p1, p2, p3, p4⟩ := g6.1
    refine ⟨?_, ?_, ?_, ?_⟩
    · rw [uS_j (by decide)]; exact p1
    · rw [uS_j (by decide)]; exact p2
    · rw [uS_j (by decide), uS_j (by decide), uS_j (by decide)]; exact p3
    · rw [uS_j (by decide)]; exact p4
  refine ⟨by omega, hp, ?_, by rw [uS_same], by rw [uS_g (by decide), g6.2.1 13 k (by decide)]; exact m1, fun z => ?_⟩
  · obtain ⟨x1, x2⟩ := (dh4.tr d5).tr g6.eD
    refine ⟨fun g j y1 y2 y3 => ?_, by rw [uS_same]; exact hk0.symm⟩
    rw [uS_g y1, uS_g y1]; exact x1 g j y1 y2 y3
  · rw [uS_j (by decide), q6, uS_j (by decide)] at z
    obtain ⟨z1, z2⟩ := m2 z
    exact ⟨z1, z2.cg m1 (fun g x y => by rw [uS_g x]; exact g6.2.1 g k x) (fun g i x y => by rw [uS_g (by omega)]; exact g6.2.1 g _ (by omega))⟩
end PM13
