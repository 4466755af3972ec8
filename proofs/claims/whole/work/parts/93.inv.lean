/-! every call keeps the bounds -/
def WW (σ : St) : Prop := WF σ ∧ WG σ
def BY (τ : Nat → Int32) : Prop := ∀ j, j < 2000 → vp_nar .byte (τ j) = τ j
section INV
variable {σ : St} {I : hI} {J : hJ} {τ : Nat → Int32} {sw lv : Nat}
theorem WG.sc {σ' : St} (g : WG σ) (s : ∀ a, 1 ≤ a → a ≤ 8 → ∀ j, σ' a j = σ a j) (s1 : σ' 0 1 = σ 0 1) (s4 : σ' 0 4 = σ 0 4) : WG σ' := by
  obtain ⟨g1, g2, g3⟩ := g
  refine ⟨fun x hx => ?_, fun x hx => ?_, fun m hm => ?_⟩
  · rw [s1] at hx; rw [s 1 (by decide) (by decide), s 2 (by decide) (by decide)]; exact g1 x hx
  · rw [s1] at hx; rw [s 1 (by decide) (by decide)]; exact g2 x hx
  · rw [s4] at hm; rw [s 4 (by decide) (by decide), s 5 (by decide) (by decide), s 7 (by decide) (by decide), s 8 (by decide) (by decide)]; exact g3 m hm
theorem ww_u0 (w : WW σ) {j v : Nat} (hj : ¬ j = 1 ∧ ¬ j = 4 ∧ ¬ j = 5) (b0 : j = 0 → v ≤ 2000) (b2 : j = 2 → v ≤ 255) (b3 : j = 3 → v ≤ 800) (b6 : j = 6 → v ≤ σ 0 6) (b7 : j = 7 → v ≤ 2001) : WW (uS σ 0 j v) := by
  have e : ∀ k, uS σ 0 j v 0 k = if k = j then v else σ 0 k := fun k => by simp [uS]
  have q1 := w.1.1
  obtain ⟨z0, z1, z2, z3, z4, z5, z6, z7⟩ := q1
  refine ⟨w.1.sc (fun g j hg => uS_g hg) ?_ ?_ ?_ ?_ ⟨?_, ?_, ?_, ?_⟩, w.2.sc (fun a h1 h2 j => uS_g (by omega)) ?_ ?_⟩
  all_goals rw [e]
  all_goals split <;> omega
theorem ww_rom (w : WW σ) (x : Int32) : WW (romO σ x) := by
  unfold romO
  split
  · rename_i h
    obtain ⟨j, hj, rfl, e⟩ := inN_t (by decide) h
    rw [e]
    exact ww_u0 w (by omega) (by omega) (by omega) (by omega) (by omega) (by omega)
  · exact w
theorem ww_bud (w : WW σ) (x : Int32) : WW (budO σ x) := by
  unfold budO
  split
  · rename_i h
    obtain ⟨j, hj, rfl, e⟩ := inN_t (by decide) h
    rw [e]
    exact ww_u0 w (by omega) (by omega) (by omega) (by omega) (by omega) (by omega)
  · exact w
theorem ww_bak (w : WW σ) (x : Int32) : WW (bakO σ x) := by
  have h0 := w.1.1.1
  unfold bakO
  split
  · exact ww_u0 w (by omega) (fun _ => by omega) (by omega) (by omega) (by omega) (by omega)
  · exact w
theorem ww_und (w : WW σ) : WW (undO σ) := by
  unfold undO
  split
  · exact w
  · exact ww_u0 w (by omega) (by omega) (by omega) (by omega) (fun _ => by omega) (by omega)
theorem ww_feed (w : WW σ) : WW (feedO σ) := by
  unfold feedO
  split
  · rename_i h
    have h := of_decide_eq_true h
    exact ww_u0 w (by omega) (fun _ => by omega) (by omega) (by omega) (by omega) (by omega)
  · exact w
theorem pt_by (b : BY τ) (n : Nat) (x : Int32) : BY (pt τ n x) := fun j hj => by
  unfold pt
  split
  · exact nb_byt _ _
  · split
    · exact nb_byt _ _
    · split
      · exact nb_byt _ _
      · split
        · exact nb_byt _ _
        · exact b j hj
theorem feed_by (y : BY τ) (a b c d e : Int32) : BY (feedT σ τ a b c d e) := by
  unfold feedT
  split
  · exact pt_by (pt_by (pt_by (pt_by (pt_by y _ _) _ _) _ _) _ _) _ _
  · exact y
theorem ww_ply (w : WW σ) (x : Int32) : WW (plyO σ x) := by
  unfold plyO
  split
  case isFalse => exact w
  rename_i h
  have hB : plyB σ x = true := by
    unfold plyC at h
    rw [Bool.and_eq_true] at h
    exact h.1
  unfold plyB at hB
  rw [Bool.and_eq_true] at hB
  have h4 := w.1.1.2.2.2.2.1
  obtain ⟨j, hj, rfl, e⟩ := inN_t (by omega) hB.1
  rw [e] at hB ⊢
  have hd : ¬ (donN σ (σ 0 6)).testBit j = true := by
    have := hB.2
    simpa using this
  have h68 := ply_lt w.1 hj hd
  rw [donN_bit] at hd
  obtain ⟨⟨⟨a0, a1, a2, a3, a4, a5, a6, a7⟩, c, d, m, k, y1, y2, y3⟩, g⟩ := w
  have e0 : ∀ i, ¬ i = 6 → uS (uS σ 22 (σ 0 6) j) 0 6 (σ 0 6 + 1) 0 i = σ 0 i := fun i hi => by rw [uS_j hi, uS_g (by decide)]
  have e6 : uS (uS σ 22 (σ 0 6) j) 0 6 (σ 0 6 + 1) 0 6 = σ 0 6 + 1 := uS_same _ _ _ _
  have eg : ∀ a, ¬ a = 0 → ¬ a = 22 → uS (uS σ 22 (σ 0 6) j) 0 6 (σ 0 6 + 1) a = σ a := fun a ha hb => funext fun i => by rw [uS_g ha, uS_g hb]
  have e22 : ∀ i, uS (uS σ 22 (σ 0 6) j) 0 6 (σ 0 6 + 1) 22 i = if i = σ 0 6 then j else σ 22 i := fun i => by rw [uS_g (by decide)]; simp [uS]
  refine ⟨⟨⟨?_, ?_, ?_, ?_, ?_, ?_, ?_, ?_⟩, ?_, ?_, ?_, ?_, ?_, ?_, ?_⟩, g.sc (fun a h1 h2 i => by rw [eg a (by omega) (by omega)]) (e0 1 (by decide)) (e0 4 (by decide))⟩
  · rw [e0 0 (by decide)]; exact a0
  · rw [e0 1 (by decide)]; exact a1
  · rw [e0 2 (by decide)]; exact a2
  · rw [e0 3 (by decide)]; exact a3
  · rw [e0 4 (by decide)]; exact a4
  · rw [e0 5 (by decide)]; exact a5
  · rw [e6]; exact h68
  · rw [e0 7 (by decide)]; exact a7
  · rw [eg 1 (by decide) (by decide), eg 2 (by decide) (by decide)]; exact c
  · rw [eg 3 (by decide) (by decide)]; exact d
  · rw [e0 4 (by decide)]; intro x hx; unfold WFm; rw [e0 1 (by decide), eg 4 (by decide) (by decide), eg 5 (by decide) (by decide), eg 6 (by decide) (by decide), eg 7 (by decide) (by decide), eg 8 (by decide) (by decide)]; exact m x hx
  · rw [e0 5 (by decide)]; intro x hx; unfold WFd; rw [e0 1 (by decide), eg 10 (by decide) (by decide), eg 11 (by decide) (by decide), eg 12 (by decide) (by decide), eg 13 (by decide) (by decide), eg 14 (by decide) (by decide), eg 15 (by decide) (by decide), eg 16 (by decide) (by decide), eg 17 (by decide) (by decide), eg 18 (by decide) (by decide), eg 19 (by decide) (by decide), eg 20 (by decide) (by decide), eg 21 (by decide) (by decide)]; exact k x hx
  · intro i hi
    rw [e22]
    split
    · omega
    · exact y1 i hi
  · intro i hi
    rw [e6] at hi
    rw [e22, e0 4 (by decide)]
    split
    · exact hj
    · exact y2 i (by omega)
  · intro i i' hi hi'
    rw [e6] at hi hi'
    rw [e22, e22]
    split <;> split
    · omega
    · intro q; exact absurd ⟨i', by omega, q.symm⟩ hd
    · intro q; exact absurd ⟨i, by omega, q⟩ hd
    · exact y3 i i' (by omega) (by omega)
theorem ww_tab (w : WW σ) (x : Int32) : WW (tabO σ x) := by
  unfold tabO
  split
  case isFalse => exact w
  rename_i h
  unfold tabB at h
  simp only [Bool.and_eq_true, decide_eq_true_eq] at h
  obtain ⟨⟨q, h5⟩, hz⟩ := h
  obtain ⟨j, hj, rfl, e⟩ := inN_t (by decide) h5
  rw [e] at hz ⊢
  generalize hσ : uS (uS (uS σ 1 (σ 0 1) j) 2 (σ 0 1) 0) 0 1 (σ 0 1 + 1) = σ'
  have e0 : ∀ i, ¬ i = 1 → σ' 0 i = σ 0 i := fun i hi => by rw [← hσ, uS_j hi, uS_g (by decide), uS_g (by decide)]
  have e1 : σ' 0 1 = σ 0 1 + 1 := by rw [← hσ]; exact uS_same _ _ _ _
  have eg : ∀ a, ¬ a = 0 → ¬ a = 1 → ¬ a = 2 → σ' a = σ a := fun a h0 h1 h2 => funext fun i => by rw [← hσ, uS_g h0, uS_g h2, uS_g h1]
  have f1 : ∀ i, σ' 1 i = if i = σ 0 1 then j else σ 1 i := fun i => by rw [← hσ, uS_g (by decide), uS_g (by decide)]; simp [uS]
  have f2 : ∀ i, σ' 2 i = if i = σ 0 1 then 0 else σ 2 i := fun i => by rw [← hσ, uS_g (by decide)]; simp [uS]
  obtain ⟨w, g1, g2, g3⟩ := w
  refine ⟨w.mv (fun a i z1 z2 z3 => by rw [eg a z1 (by omega) (by omega)]) ⟨e0 0 (by decide), by omega, by omega, e0 2 (by decide), e0 3 (by decide), by rw [e0 4 (by decide)]; exact Nat.le_refl _, by rw [e0 4 (by decide)]; exact w.1.2.2.2.2.1, e0 5 (by decide), e0 6 (by decide), e0 7 (by decide)⟩ (fun y => ?_) (fun i => by rw [eg 3 (by decide) (by decide) (by decide)]; exact w.cell i) (fun m hm => ?_), fun y hy => ?_, fun y hy => ?_, fun m hm => ?_⟩
  · have := w.2.1 y
    rw [f1, f2]
    split <;> omega
  · rw [e0 4 (by decide)] at hm
    have := w.move hm
    unfold WFm at this ⊢
    rw [e1, eg 4 (by decide) (by decide) (by decide), eg 5 (by decide) (by decide) (by decide), eg 6 (by decide) (by decide) (by decide), eg 7 (by decide) (by decide) (by decide), eg 8 (by decide) (by decide) (by decide)]
    obtain ⟨b1, b2⟩ := this
    exact ⟨by omega, b2⟩
  · rw [e1] at hy
    rw [f1, f2, if_neg (by omega), if_neg (by omega)]
    exact g1 y (by omega)
  · rw [e1] at hy
    rw [f1]
    split
    · omega
    · exact g2 y (by omega)
  · rw [e0 4 (by decide)] at hm
    rw [eg 4 (by decide) (by decide) (by decide), eg 5 (by decide) (by decide) (by decide), eg 7 (by decide) (by decide) (by decide), eg 8 (by decide) (by decide) (by decide)]
    exact g3 m hm
theorem ww_row (w : WW σ) (x a b c d : Int32) : WW (rowO σ x a b c d) := by
  unfold rowO
  split
  case isFalse => exact w
  rename_i h
  unfold rowB at h
  simp only [Bool.and_eq_true, decide_eq_true_eq] at h
  obtain ⟨⟨⟨⟨⟨hx, h2⟩, ha⟩, hb⟩, hc⟩, hd⟩ := h
  have h4 := w.1.1.2.1
  obtain ⟨t, ht, rfl, et⟩ := inN_t (by omega) hx
  obtain ⟨a', la, rfl, ea⟩ := valB_t ha
  obtain ⟨b', lb, rfl, eb⟩ := valB_t hb
  obtain ⟨c', lc, rfl, ec⟩ := valB_t hc
  obtain ⟨d', ld, rfl, ed⟩ := valB_t hd
  rw [et] at h2
  rw [et, ea, eb, ec, ed]
  refine ⟨rowS_wf w.1 (by omega) h2 la lb lc ld, ?_⟩
  obtain ⟨w, g1, g2, g3⟩ := w
  have e0 : ∀ j, rowS σ t a' b' c' d' 0 j = σ 0 j := fun j => rowS_g (by decide) (by decide)
  refine ⟨fun y hy => ?_, fun y hy => ?_, fun m hm => ?_⟩
  · rw [e0] at hy
    rw [rowS_g (by decide) (by decide), rowS_2]
    refine ⟨(g1 y hy).1, ?_⟩
    show (if y = t then σ 2 t + 1 else σ 2 y) = 0
    rw [if_neg (by omega)]
    exact (g1 y hy).2
  · rw [e0] at hy
    rw [rowS_g (by decide) (by decide)]
    exact g2 y hy
  · rw [e0] at hm
    rw [rowS_g (by decide) (by decide), rowS_g (by decide) (by decide), rowS_g (by decide) (by decide), rowS_g (by decide) (by decide)]
    exact g3 m hm
theorem wg_add {σ' : St} (w : WG σ) (e0 : ∀ j, ¬ j = 4 → σ' 0 j = σ 0 j) (e4 : σ' 0 4 = σ 0 4 + 1) (eg : ∀ g, ¬ g = 0 → ¬ (4 ≤ g ∧ g ≤ 8) → σ' g = σ g) (em : ∀ g m, ¬ g = 6 → ¬ g = 0 → ¬ m = σ 0 4 → σ' g m = σ g m) : WG σ' := by
  obtain ⟨g1, g2, g3⟩ := w
  refine ⟨fun y hy => ?_, fun y hy => ?_, fun m hm => ?_⟩
  · rw [e0 1 (by decide)] at hy
    rw [eg 1 (by decide) (by decide), eg 2 (by decide) (by decide)]
    exact g1 y hy
  · rw [e0 1 (by decide)] at hy
    rw [eg 1 (by decide) (by decide)]
    exact g2 y hy
  · rw [e4] at hm
    rw [em 4 m (by decide) (by decide) (by omega), em 5 m (by decide) (by decide) (by omega), em 7 m (by decide) (by decide) (by omega), em 8 m (by decide) (by decide) (by omega)]
    exact g3 m (by omega)
theorem ww_mor (w : WW σ) (r p : Int32) : WW (morO σ r p) := by
  unfold morO
  split
  case isFalse => exact w
  rename_i h
  unfold morB at h
  simp only [Bool.and_eq_true, decide_eq_true_eq] at h
  obtain ⟨⟨⟨q, h1⟩, hz⟩, h2⟩ := h
  obtain ⟨j, hj, rfl, ej⟩ := inN_t (by decide) h1
  obtain ⟨t, ht, rfl, et⟩ := inN_t (by decide) h2
  rw [ej, et]
  show WW (morS σ j t)
  have m4 : morS σ j t 4 (σ 0 4) = 0 := by simp [morS, uS]
  have m5 : morS σ j t 5 (σ 0 4) = 0 := by simp [morS, uS]
  have m7 : morS σ j t 7 (σ 0 4) = j := by simp [morS, uS]
  have m8 : morS σ j t 8 (σ 0 4) = t := by simp [morS, uS]
  have x0 : ∀ i, ¬ i = 4 → morS σ j t 0 i = σ 0 i := fun i a => by unfold morS; rw [uS_j a, uS_g (by decide), uS_g (by decide), uS_g (by decide), uS_g (by decide)]
  have x4 : morS σ j t 0 4 = σ 0 4 + 1 := uS_same _ _ _ _
  have xg : ∀ g, ¬ g = 0 → ¬ (4 ≤ g ∧ g ≤ 8) → morS σ j t g = σ g := fun g a b => funext fun i => by unfold morS; rw [uS_g a, uS_g (by omega), uS_g (by omega), uS_g (by omega), uS_g (by omega)]
  have xm : ∀ g m, ¬ g = 6 → ¬ g = 0 → ¬ m = σ 0 4 → morS σ j t g m = σ g m := fun g m a b c => by unfold morS; rw [uS_g b, uS_j c, uS_j c, uS_j c, uS_j c]
  have x6 : ∀ m i, ¬ m = σ 0 4 → i < 3 → morS σ j t 6 (3 * m + i) = σ 6 (3 * m + i) := fun m i a b => by unfold morS; rw [uS_g (by decide), uS_g (by decide), uS_g (by decide), uS_g (by decide), uS_g (by decide)]
  exact ⟨w.1.add q x0 x4 xg xm x6 ⟨by omega, by omega, by omega, by omega, fun a => absurd m4 a, fun _ => m5, fun i hi => by omega⟩, wg_add w.2 x0 x4 xg xm⟩
theorem ww_idx (w : WW σ) (x a b c p : Int32) : WW (idxO σ x a b c p) := by
  unfold idxO
  split
  case isFalse => exact w
  rename_i h
  unfold idxB at h
  simp only [Bool.and_eq_true, Bool.or_eq_true, decide_eq_true_eq, beq_iff_eq] at h
  obtain ⟨⟨⟨⟨q, hx⟩, hp⟩, ha⟩, hbc⟩ := h
  have hn := w.1.1.2.1
  obtain ⟨t, ht, rfl, et⟩ := inN_t (by omega) hx
  obtain ⟨pr, hpr, rfl, ep⟩ := inN_t (by decide) hp
  rw [et] at ha hbc
  have w1 := (w.1.2.1 t).1
  obtain ⟨a', la, rfl, ea⟩ := inN_t (by omega) ha
  have hb : b = -1 ∨ ∃ j, j < 4 ∧ b = nI j := by
    rcases hbc with y | y
    · exact Or.inl y.1
    · obtain ⟨j, h1, h2, -⟩ := inN_t (by omega) y.1.1
      exact Or.inr ⟨j, by omega, h2⟩
  have hc : c = -1 ∨ ∃ j, j < 4 ∧ c = nI j := by
    rcases hbc with y | y
    · exact Or.inl y.2
    · rcases y.2 with y | y
      · exact Or.inl y
      · obtain ⟨j, h1, h2, -⟩ := inN_t (by omega) y.1.1
        exact Or.inr ⟨j, by omega, h2⟩
  have lb : ix b < 4 := by
    rcases hb with rfl | ⟨j, hj, rfl⟩
    · decide
    · rw [ix_nI (by omega)]; exact hj
  have lc : ix c < 4 := by
    rcases hc with rfl | ⟨j, hj, rfl⟩
    · decide
    · rw [ix_nI (by omega)]; exact hj
  rw [et, ea, ep]
  have hw3 : idxW b c ≤ 3 ∧ 1 ≤ idxW b c := by unfold idxW; split <;> (try split) <;> decide
  have m4 : idxS σ t a' (ix b) (ix c) (idxW b c) pr 4 (σ 0 4) = t + 1 := by simp [idxS, uS]
  have m5 : idxS σ t a' (ix b) (ix c) (idxW b c) pr 5 (σ 0 4) = idxW b c := by simp [idxS, uS]
  have m7 : idxS σ t a' (ix b) (ix c) (idxW b c) pr 7 (σ 0 4) = 0 := by simp [idxS, uS]
  have m8 : idxS σ t a' (ix b) (ix c) (idxW b c) pr 8 (σ 0 4) = pr := by simp [idxS, uS]
  have m60 : idxS σ t a' (ix b) (ix c) (idxW b c) pr 6 (3 * σ 0 4 + 0) = a' := by
    unfold idxS
    rw [uS_g (by decide), uS_g (by decide), uS_g (by decide), uS_g (by decide), uS_j (by omega), uS_j (by omega)]
    exact uS_same _ 6 (3 * σ 0 4) a'
  have m61 : idxS σ t a' (ix b) (ix c) (idxW b c) pr 6 (3 * σ 0 4 + 1) = ix b := by
    unfold idxS
    rw [uS_g (by decide), uS_g (by decide), uS_g (by decide), uS_g (by decide), uS_j (by omega), uS_same]
  have m62 : idxS σ t a' (ix b) (ix c) (idxW b c) pr 6 (3 * σ 0 4 + 2) = ix c := by
    unfold idxS
    rw [uS_g (by decide), uS_g (by decide), uS_g (by decide), uS_g (by decide), uS_same]
  have x0 : ∀ i, ¬ i = 4 → idxS σ t a' (ix b) (ix c) (idxW b c) pr 0 i = σ 0 i := fun i a => by unfold idxS; rw [uS_j a, uS_g (by decide), uS_g (by decide), uS_g (by decide), uS_g (by decide), uS_g (by decide), uS_g (by decide), uS_g (by decide)]
  have x4 : idxS σ t a' (ix b) (ix c) (idxW b c) pr 0 4 = σ 0 4 + 1 := uS_same _ _ _ _
  have xg : ∀ g, ¬ g = 0 → ¬ (4 ≤ g ∧ g ≤ 8) → idxS σ t a' (ix b) (ix c) (idxW b c) pr g = σ g := fun g a b => funext fun i => by unfold idxS; rw [uS_g a, uS_g (by omega), uS_g (by omega), uS_g (by omega), uS_g (by omega), uS_g (by omega), uS_g (by omega), uS_g (by omega)]
  have xm : ∀ g m, ¬ g = 6 → ¬ g = 0 → ¬ m = σ 0 4 → idxS σ t a' (ix b) (ix c) (idxW b c) pr g m = σ g m := fun g m a b c => by unfold idxS; rw [uS_g b, uS_j c, uS_j c, uS_j c, uS_g a, uS_g a, uS_g a, uS_j c]
  have x6 : ∀ m i, ¬ m = σ 0 4 → i < 3 → idxS σ t a' (ix b) (ix c) (idxW b c) pr 6 (3 * m + i) = σ 6 (3 * m + i) := fun m i a b => by unfold idxS; rw [uS_g (by decide), uS_g (by decide), uS_g (by decide), uS_g (by decide), uS_j (by omega), uS_j (by omega), uS_j (by omega), uS_g (by decide)]
  exact ⟨w.1.add q x0 x4 xg xm x6 ⟨by rw [m4, x0 1 (by decide)]; omega, by rw [m5]; omega, by rw [m7]; omega, by rw [m8]; omega, fun _ => by rw [m5]; omega, fun y => by rw [m4] at y; omega, fun i hi => by
    rw [m5] at hi
    rcases (show i = 0 ∨ i = 1 ∨ i = 2 by omega) with rfl | rfl | rfl
    · rw [m60]; omega
    · rw [m61]; exact lb
    · rw [m62]; exact lc⟩, wg_add w.2 x0 x4 xg xm⟩
theorem ww_rd (w : WW σ) : WW (rdO σ (rdP σ τ)) := by
  refine ⟨rdO_wf w.1, ?_⟩
  have er : ∀ p, WG (rdE σ p) := fun p => w.2.sc (fun a h1 h2 j => by unfold rdE; rw [uS_g (by omega), uS_g (by omega)]) (by unfold rdE; rw [uS_j (by decide), uS_j (by decide)]) (by unfold rdE; rw [uS_j (by decide), uS_j (by decide)])
  cases rdP σ τ with
  | inr e => exact er _
  | inl a =>
    show WG (if a 0 1 = 0 then rdS σ a else rdE σ (a 0 2))
    split
    · refine w.2.sc (fun a h1 h2 j => ?_) ?_ ?_
      · unfold rdS; rw [if_neg (by omega), if_neg (by omega), if_neg (by omega), if_neg (by omega)]
      · unfold rdS; rw [if_neg (by omega), if_neg (by omega), if_neg (by omega), if_neg (by omega)]
      · unfold rdS; rw [if_neg (by omega), if_neg (by omega), if_neg (by omega), if_neg (by omega)]
    · exact er _
/-! class and model don't touch each other's cells -/
theorem MR.gf {I1 : hI} (h : MR σ τ lv I) (s : gF I I1) : MR σ τ lv I1 := by
  have e : ∀ g j, (g = 8 ∨ (30 ≤ g ∧ g ≤ 60)) → I1 g 0 j = I g 0 j := fun g j hg => s g 0 j (by omega)
  obtain ⟨⟨a1, a2⟩, ⟨b1, b2⟩, ⟨c1, c2, c3, c4, c5, c6, c7⟩, d, f, g, q, l⟩ := h
  refine ⟨⟨?_, a2⟩, ⟨?_, fun j hj => ?_⟩, ⟨?_, ?_, ?_, ?_, ?_, ?_, ?_⟩, fun x hx => ?_, fun j hj => ?_, fun m hm => ?_, fun k hk => ?_, fun i hi => ?_⟩
  · rw [e 8 17 (by decide)]; exact a1
  · rw [e 8 2 (by decide)]; exact b1
  · rw [e 30 j (by decide)]; exact b2 j hj
  · rw [e 8 32 (by decide)]; exact c1
  · rw [e 8 36 (by decide)]; exact c2
  · rw [e 8 37 (by decide)]; exact c3
  · rw [e 8 38 (by decide)]; exact c4
  · rw [e 37 lv (by decide)]; exact c5
  · rw [e 8 50 (by decide)]; exact c6
  · rw [e 8 16 (by decide)]; exact c7
  · rw [e 50 x (by decide), e 51 x (by decide)]; exact d x hx
  · rw [e 52 j (by decide)]; exact f j hj
  · have := g m hm
    unfold MRm at this ⊢
    rw [e 53 m (by decide), e 54 m (by decide), e 55 m (by decide), e 57 m (by decide), e 58 m (by decide)]
    obtain ⟨z1, z2, z3, z4, z5, z6⟩ := this
    exact ⟨z1, z2, z3, z4, z5, fun i hi => by rw [e 56 _ (by decide)]; exact z6 i hi⟩
  · have := q k hk
    unfold MRd at this ⊢
    rw [e 38 _ (by decide), e 39 _ (by decide), e 40 _ (by decide), e 41 _ (by decide), e 45 _ (by decide), e 46 _ (by decide), e 47 _ (by decide), e 48 _ (by decide), e 49 _ (by decide)]
    obtain ⟨z1, z2, z3, z4, z5, z6⟩ := this
    exact ⟨z1, z2, z3, z4, fun i hi => by rw [e 42 _ (by decide), e 43 _ (by decide), e 44 _ (by decide)]; exact z5 i hi, z6⟩
  · rw [e 59 i (by decide)]; exact l i hi
theorem CR.mf {I1 : hI} (h : CR σ τ sw I) (s : mF I I1) : CR σ τ sw I1 := by
  have e : ∀ g i j, (g ≤ 7 ∨ (10 ≤ g ∧ g ≤ 27)) → I1 g i j = I g i j := fun g i j hg => s g i j (by omega)
  refine ⟨⟨h.sw1, by rw [e 5 0 1 (by decide)]; exact h.len, fun j hj => by rw [e 19 0 j (by decide)]; exact h.tape hj⟩, ⟨?_, ?_, ?_, ?_, ?_, ?_, ?_⟩, fun x hx => (h.tab hx).cg (fun g j z => e g x j (by omega)), fun x hx => by rw [e 14 0 x (by decide)]; exact h.wid hx, fun m hm => (h.mv hm).cg (fun g j z => e g m j (by omega)), fun k hk => (h.deed hk).cg (fun g j z => e g _ j (by omega)), fun k hk => (h.plan hk).cg (fun g j z => e g k j (by omega)), fun i hi => by rw [e 26 0 i (by decide)]; exact h.ply hi⟩
  · rw [e 7 0 1 (by decide)]; exact h.tabs
  · rw [e 7 0 12 (by decide)]; exact h.own
  · rw [e 7 0 13 (by decide)]; exact h.purse
  · rw [e 7 0 3 (by decide)]; exact h.mvs
  · rw [e 7 0 7 (by decide)]; exact h.dds
  · rw [e 7 0 10 (by decide)]; exact h.pls
  · rw [e 7 0 14 (by decide)]; exact h.plc
end INV
