/-! the law: what the constructors leave is what the calls begin with -/
def hzC (C : hC) : Prop := ∀ a, 61 ≤ a → C a = 0
theorem hzC.ic {C : hC} {g : Nat} (h : hzC C) (hg : g < 61) : hzC (inC C g) := fun a ha => (inC_ne C (by omega)).trans (h a ha)
theorem hzC.st {C : hC} (h : hzC C) : hzC (stC C) := (((h.ic (by decide)).ic (by decide)).ic (by decide)).ic (by decide)
theorem hzC.cd : ∀ (n : Nat) {C : hC}, hzC C → hzC (CD n C) := by
  intro n
  induction n with
  | zero => intro C h; exact h
  | succ n ih => intro C h; exact ih h.st
theorem hzC.ct : ∀ (n : Nat) {C : hC}, hzC C → hzC (CT n C) := by
  intro n
  induction n with
  | zero => intro C h; exact h
  | succ n ih => intro C h; exact ih (((h.ic (by decide)).ic (by decide)).ic (by decide))
theorem hzC.cm : ∀ (n : Nat) {C : hC}, hzC C → hzC (CMv n C) := by
  intro n
  induction n with
  | zero => intro C h; exact h
  | succ n ih => intro C h; exact ih ((h.ic (by decide)).ic (by decide))
theorem hzC.ce : ∀ (n : Nat) {C : hC}, hzC C → hzC (CE n C) := by
  intro n
  induction n with
  | zero => intro C h; exact h
  | succ n ih => intro C h; exact ih ((h.st.ic (by decide)).ic (by decide))
theorem hz_q0 : hzC Cq0 := (((((((show hzC (fun _ => 0) from fun a _ => rfl).ic (g := 7) (by decide)).ic (g := 23) (by decide)).ic (g := 24) (by decide)).ic (g := 5) (by decide)).ic (g := 19) (by decide)).ic (g := 2) (by decide))
theorem hz_2 : hzC nC2 := hzC.cd 8 ((((((hz_q0.ic (g := 14) (by decide)).ic (g := 6) (by decide)).ic (g := 20) (by decide)).ic (g := 21) (by decide)).ic (g := 22) (by decide)).ic (g := 15) (by decide))
theorem hz_7 : hzC nC7 := hzC.ce 8 (hzC.cm 8 (hzC.ct 4 ((((hz_2.ic (g := 15) (by decide)).ic (g := 25) (by decide)).ic (g := 26) (by decide)).ic (g := 27) (by decide))))
theorem nC7_8 : inC nC7 8 = CK 0 := by
  have h : ∀ a, a < 61 → inC nC7 8 a = CK 0 a := by decide +kernel
  funext a
  by_cases ha : a < 61
  · exact h a ha
  · rw [(hz_7.ic (g := 8) (by decide)) a (by omega), CK_z 0 a (by omega)]
theorem gT_ob {g n : Nat} {E : String} (h : gT g = some (.object E, n)) : (g = 15 ∧ n = 8) ∨ (g = 23 ∧ n = 4) ∨ (g = 24 ∧ n = 8) ∨ (g = 25 ∧ n = 8) := by
  unfold gT at h
  split at h
  all_goals first | (cases h; simp; done) | cases h
theorem arrV_cg {c : ClassId} {n : Nat} {f f' : Nat → Value} (h : ∀ j, j < n → f j = f' j) : arrV c n f = arrV c n f' := by
  unfold arrV
  rw [show (fun j : Fin n => f j.val) = (fun j : Fin n => f' j.val) from funext fun j => h j.val j.isLt]
theorem Wc.swP {D : va_G} {cA : Nat → ClassId} {φ : Nat → Nat → Nat} {A : Nat → Prop} {I : hI} {J : hJ} {P P' : hP} {H : Heap} (h : Wc D cA φ A CC I J P H) (e9 : ∀ g, g < 9 → ∀ i, i < CC g → ∀ j, j < nF g → isRf (tyV g j) = true → P' g i j = P g i j) (eA : ∀ g E n, gT g = some (.object E, n) → ∀ i, i < CC g → ∀ j, j < n → P' g i j = P g i j) : Wc D cA φ A CC I J P' H := by
  refine ⟨fun g i hi => ?_, h.2⟩
  rcases h.1 g i hi with q | ⟨ty, n, q1, q2, q3⟩
  · left
    refine ⟨q.1, q.2.to (fun j hj => ?_)⟩
    unfold fv
    split
    · rename_i z
      rw [e9 g q.1 i hi j hj z]
    · rfl
  · right
    refine ⟨ty, n, q1, q2, ?_⟩
    rw [q3]
    congr 1
    refine arrV_cg (fun j hj => ?_)
    rcases gT_ty q2 with rfl | rfl | rfl | rfl | rfl | rfl | rfl | rfl
    · rfl
    · rfl
    · rfl
    · rfl
    all_goals exact congrArg (rv φ) (eA g _ n q2 i hi j hj).symm
theorem pp_9c : ((List.range 9).all fun g => (List.range (CC g)).all fun i => (List.range (nF g)).all fun j => !isRf (tyV g j) || decide (PP 1 g i j = nP8 nP7 g i j)) = true := by decide +kernel
theorem pp_9 : ∀ g, g < 9 → ∀ i, i < CC g → ∀ j, j < nF g → isRf (tyV g j) = true → PP 1 g i j = nP8 nP7 g i j := fun g hg i hi j hj hr => by
  have h1 := List.all_eq_true.mp pp_9c g (List.mem_range.mpr hg)
  have h2 := List.all_eq_true.mp h1 i (List.mem_range.mpr hi)
  have h3 := List.all_eq_true.mp h2 j (List.mem_range.mpr hj)
  rw [hr] at h3
  simpa using h3
theorem pp_15 : ∀ i, i < CC 15 → ∀ j, j < 8 → PP 1 15 i j = nP8 nP7 15 i j := by decide +kernel
theorem pp_23 : ∀ i, i < CC 23 → ∀ j, j < 4 → PP 1 23 i j = nP8 nP7 23 i j := by decide +kernel
theorem pp_24 : ∀ i, i < CC 24 → ∀ j, j < 8 → PP 1 24 i j = nP8 nP7 24 i j := by decide +kernel
theorem pp_25 : ∀ i, i < CC 25 → ∀ j, j < 8 → PP 1 25 i j = nP8 nP7 25 i j := by decide +kernel
theorem pp_A : ∀ g E n, gT g = some (.object E, n) → ∀ i, i < CC g → ∀ j, j < n → PP 1 g i j = nP8 nP7 g i j := fun g E n h => by
  rcases gT_ob h with ⟨rfl, rfl⟩ | ⟨rfl, rfl⟩ | ⟨rfl, rfl⟩ | ⟨rfl, rfl⟩
  · exact pp_15
  · exact pp_23
  · exact pp_24
  · exact pp_25
def σ0 : St := fun _ _ => 0
def τ0 : Nat → Int32 := fun _ => 0
theorem ww_0 : WW σ0 := ⟨⟨⟨Nat.zero_le _, Nat.zero_le _, Nat.zero_le _, Nat.zero_le _, Nat.zero_le _, Nat.zero_le _, Nat.zero_le _, Nat.zero_le _⟩, fun _ => ⟨Nat.zero_le _, Nat.zero_le _⟩, fun _ => Nat.zero_le _, fun m hm => absurd hm (Nat.not_lt_zero _), fun k hk => absurd hk (Nat.not_lt_zero _), fun i _ => (by show 0 < 8; decide), fun i hi => absurd hi (Nat.not_lt_zero _), fun i j hi => absurd hi (Nat.not_lt_zero _)⟩, fun _ _ => ⟨rfl, rfl⟩, fun x hx => absurd hx (Nat.not_lt_zero _), fun _ _ => ⟨rfl, rfl, rfl, rfl⟩⟩
theorem inv_0 {I1 : hI} {J : hJ} (hI : IG I1) (h7 : ∀ j, I1 7 0 j = if j = 14 then -1 else 0) (hK : ∀ k, k < 11 → J 36 0 k = lN (kHs k)) : LInv σ0 τ0 1 0 (u3 (up I1 8 0 (fun _ => 0)) 8 0 16 (-1)) J := by
  generalize hI2 : u3 (up I1 8 0 (fun _ => 0)) 8 0 16 (-1) = I2
  have eI : ∀ a b j, ¬ a = 8 → I2 a b j = I1 a b j := fun a b j h => by
    rw [← hI2, u3_ne _ _ (fun z => h z.1)]
    show (if a = 8 ∧ b = 0 then _ else I1 a b) j = _
    rw [if_neg (fun z => h z.1)]
  have z : ∀ a b j, ¬ nx a → ¬ a = 1 → I2 a b j = 0 := fun a b j h1 h2 => by
    rw [eI a b j (fun z => h1 (by unfold nx; omega)), hI a b h1]
    exact if_neg (fun z => h2 z.1)
  have y : ∀ j, ¬ j = 14 → I2 7 0 j = 0 := fun j h => by rw [eI 7 0 j (by decide), h7 j, if_neg h]
  have v : ∀ b j, I2 1 b j = if j = 0 then -1 else 0 := fun b j => by
    rw [eI 1 b j (by decide), hI 1 b (by unfold nx; decide)]
    unfold i0
    simp only [true_and]
  have w : ∀ j, ¬ j = 16 → I2 8 0 j = 0 := fun j h => by
    rw [← hI2, u3_ne _ _ (fun z => h z.2.2), up_i]
  have w16 : I2 8 0 16 = -1 := by rw [← hI2, u3_same]
  have n : ∀ a, 9 ≤ a → ¬ nx a := fun a h => by unfold nx; omega
  refine ⟨ww_0, fun j _ => rfl, ⟨⟨Nat.le_refl _, z 5 0 1 (by unfold nx; decide) (by decide), fun j _ => z 19 0 j (n 19 (by decide)) (by decide)⟩, ⟨y 1 (by decide), y 12 (by decide), y 13 (by decide), y 3 (by decide), y 7 (by decide), y 10 (by decide), ?_⟩, fun x _ => ⟨z 4 x 0 (by unfold nx; decide) (by decide), z 4 x 1 (by unfold nx; decide) (by decide), fun r c _ _ => z 17 x _ (n 17 (by decide)) (by decide), fun c v _ _ => z 18 x _ (n 18 (by decide)) (by decide)⟩, fun x _ => z 14 0 x (n 14 (by decide)) (by decide), fun m _ => ⟨v m 0, v m 2, v m 3, v m 4, fun i hi => absurd hi (Nat.not_lt_zero _)⟩, fun k hk => absurd hk (Nat.not_lt_zero _), fun k hk => absurd hk (Nat.not_lt_zero _), fun i _ => z 26 0 i (n 26 (by decide)) (by decide)⟩, ⟨⟨w 17 (by decide), Nat.zero_le _⟩, ⟨w 2 (by decide), fun j _ => z 30 0 j (n 30 (by decide)) (by decide)⟩, ⟨w 32 (by decide), w 36 (by decide), w 37 (by decide), w 38 (by decide), z 37 0 0 (n 37 (by decide)) (by decide), w 50 (by decide), w16⟩, fun x _ => ⟨z 50 0 x (n 50 (by decide)) (by decide), z 51 0 x (n 51 (by decide)) (by decide)⟩, fun j _ => z 52 0 j (n 52 (by decide)) (by decide), fun m hm => absurd hm (Nat.not_lt_zero _), fun k hk => absurd hk (Nat.not_lt_zero _), fun i _ => z 59 0 i (n 59 (by decide)) (by decide)⟩, hK⟩
  rw [eI 7 0 14 (by decide), h7]
  rfl
