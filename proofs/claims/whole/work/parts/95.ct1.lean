/-! what constructors keep: no reference leads to a cell that isn't there; the ints of every cell but DEEDS' and PLANS' are as behind its constructor -/
def nO (C : hC) (P : hP) : Prop := ∀ a b j, C a ≤ b → P a b j = none
def PQ (C : hC) (P : hP) : Prop := pO C P ∧ nO C P
def i0 (g j : Nat) : Int32 := if (g = 7 ∧ j = 14) ∨ (g = 2 ∧ j = 6) ∨ (g = 1 ∧ j = 0) then -1 else 0
def IGx (g i : Nat) (I : hI) : Prop := ∀ a b, ¬ a = 0 → ¬ a = 3 → ¬ (a = g ∧ b = i) → I a b = i0 a
def IG (I : hI) : Prop := ∀ a b, ¬ a = 0 → ¬ a = 3 → I a b = i0 a
theorem inC_le (C : hC) (g a : Nat) : C a ≤ inC C g a := by unfold inC; split <;> omega
theorem inC_s (C : hC) (g : Nat) : inC C g g = C g + 1 := if_pos rfl
theorem inC_ne (C : hC) {g a : Nat} (h : ¬ a = g) : inC C g a = C a := if_neg h
section CT1
variable {C : hC} {I : hI} {J : hJ} {P : hP} {g i j : Nat}
theorem PQ.inc (h : PQ C P) : PQ (inC C g) P := by
  refine ⟨fun a b j q hb hq => ?_, fun a b j hb => h.2 a b j (Nat.le_trans (inC_le C g a) hb)⟩
  rcases Nat.lt_or_ge b (C a) with z | z
  · exact Nat.lt_of_lt_of_le (h.1 a b j q z hq) (inC_le C g _)
  · rw [h.2 a b j z] at hq; cases hq
theorem PQ.put {q : Nat × Nat} (h : PQ C P) (hi : i < C g) (hq : q.2 < C q.1) : PQ C (u3 P g i j (some q)) := by
  refine ⟨fun a b k q' hb hq' => ?_, fun a b k hb => ?_⟩
  · by_cases z : a = g ∧ b = i ∧ k = j
    · rw [z.1, z.2.1, z.2.2, u3_same] at hq'
      cases hq'
      exact hq
    · rw [u3_ne _ _ z] at hq'
      exact h.1 a b k q' hb hq'
  · rw [u3_ne _ _ (fun z => by rw [z.1, z.2.1] at hb; omega)]
    exact h.2 a b k hb
theorem PQ.nw (h : PQ C P) : up P g (C g) (fun _ => none) = P := by
  funext a b
  unfold up
  split
  · rename_i z
    obtain ⟨rfl, rfl⟩ := z
    funext j
    exact (h.2 _ _ j (Nat.le_refl _)).symm
  · rfl
theorem PQ.row (h : PQ C P) (hi : C g ≤ i) : P g i = fun _ => none := funext fun j => h.2 g i j hi
theorem IG.x (h : IG I) : IGx g i I := fun a b h0 h3 _ => h a b h0 h3
theorem IG.up (h : IG I) {r : Nat → Int32} : IGx g i (up I g i r) := fun a b h0 h3 hn => by
  rw [show _root_.up I g i r a b = I a b from if_neg hn]
  exact h a b h0 h3
theorem IGx.put (h : IGx g i I) {x : Int32} : IGx g i (u3 I g i j x) := fun a b h0 h3 hn => by
  rw [u3_off I x a b hn]
  exact h a b h0 h3 hn
theorem IGx.fin (h : IGx g i I) (e : I g i = i0 g) : IG I := fun a b h0 h3 => by
  by_cases z : a = g ∧ b = i
  · rw [z.1, z.2]; exact e
  · exact h a b h0 h3 z
theorem IG.put (h : IG I) (hg : g = 0 ∨ g = 3) {x : Int32} : IG (u3 I g i j x) := fun a b h0 h3 => by
  rw [u3_off I x a b (fun z => by omega)]
  exact h a b h0 h3
theorem IG.up0 (h : IG I) (hg : g = 0 ∨ g = 3) {r : Nat → Int32} : IG (_root_.up I g i r) := fun a b h0 h3 => by
  rw [show _root_.up I g i r a b = I a b from if_neg (fun z => by omega)]
  exact h a b h0 h3
theorem i0_a (ha : 9 ≤ g) : i0 g = fun _ => 0 := funext fun j => by
  unfold i0
  rw [if_neg (by omega)]
theorem IGx.dv (h : IGx g i I) {a b : Nat} {ty : FieldType} (hty : ty = .int ∨ ty = .byte ∨ ty = .boolean) (ha : 9 ≤ a) (hn : ¬ a = g) {x : Nat → Int64} {y : Nat → Option (Nat × Nat)} : ∀ φ : Nat → Nat → Nat, av φ ty (I a b) x y = fun _ => defaultValue ty := fun φ => by
  rw [h a b (by omega) (by omega) (fun z => hn z.1), i0_a ha]
  rcases hty with rfl | rfl | rfl <;> rfl
theorem okS.n : okS C [] := fun _ h => by cases h
theorem okS.i {r : List AV} {x : Int32} (h : okS C r) : okS C (vI x :: r) := fun v hv => by
  rcases List.mem_cons.mp hv with z | z
  · rw [z]; trivial
  · exact h v z
theorem okS.r {r : List AV} (hi : i < C g) (h : okS C r) : okS C (vR g i :: r) := fun v hv => by
  rcases List.mem_cons.mp hv with z | z
  · rw [z]; exact Or.inl hi
  · exact h v z
theorem okL.n : okL C [] := fun _ h => by cases h
theorem okL.o {r : List (Option AV)} (h : okL C r) : okL C (none :: r) := fun v hv => by
  rcases List.mem_cons.mp hv with z | z
  · cases z
  · exact h v z
theorem okL.i {r : List (Option AV)} {x : Int32} (h : okL C r) : okL C (some (vI x) :: r) := fun v hv => by
  rcases List.mem_cons.mp hv with z | z
  · cases z; trivial
  · exact h v z
theorem okL.r {r : List (Option AV)} (hi : i < C g) (h : okL C r) : okL C (some (vR g i) :: r) := fun v hv => by
  rcases List.mem_cons.mp hv with z | z
  · cases z; exact Or.inl hi
  · exact h v z
theorem okL.s {r : List (Option AV)} (h : okL C r) : okL C (some (vR 92 i) :: r) := fun v hv => by
  rcases List.mem_cons.mp hv with z | z
  · cases z; exact Or.inr (Or.inr (Or.inr rfl))
  · exact h v z
end CT1
