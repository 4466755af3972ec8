/-! what constructors keep: no reference leads to a cell that isn't there; the ints of every cell but those of groups 0, 2, 3, 7, 8 are as behind its constructor -/
def nO (C : hC) (P : hP) : Prop := ∀ a b j, C a ≤ b → P a b j = none
def PQ (C : hC) (P : hP) : Prop := pO C P ∧ nO C P
def i0 (g j : Nat) : Int32 := if g = 1 ∧ j = 0 then -1 else 0
def nx (a : Nat) : Prop := a = 0 ∨ a = 2 ∨ a = 3 ∨ a = 7 ∨ a = 8
def IGx (g i : Nat) (I : hI) : Prop := ∀ a b, ¬ nx a → ¬ (a = g ∧ b = i) → I a b = i0 a
def IG (I : hI) : Prop := ∀ a b, ¬ nx a → I a b = i0 a
theorem inC_le (C : hC) (g a : Nat) : C a ≤ inC C g a := by unfold inC; split <;> omega
theorem inC_s (C : hC) (g : Nat) : inC C g g = C g + 1 := if_pos rfl
theorem inC_ne (C : hC) {g a : Nat} (h : ¬ a = g) : inC C g a = C a := if_neg h
section CT1
variable {C : hC} {I : hI} {J : hJ} {P : hP} {g i j : Nat}
theorem lt_inC {a b : Nat} (h : b < C a) : b < inC C g a := Nat.lt_of_lt_of_le h (inC_le C g a)
theorem lt_new (h : C g = i) : i < inC C g g := by rw [inC_s]; omega
theorem PQ.inc (h : PQ C P) : PQ (inC C g) P := by
  refine ⟨fun a b j q hb hq => ?_, fun a b j hb => h.2 a b j (Nat.le_trans (inC_le C g a) hb)⟩
  rcases Nat.lt_or_ge b (C a) with z | z
  · exact Nat.lt_of_lt_of_le (h.1 a b j q z hq) (inC_le C g _)
  · rw [h.2 a b j z] at hq; cases hq
theorem PQ.put {a b : Nat} (h : PQ C P) (hi : i < C g) (hq : b < C a) : PQ C (u3 P g i j (some (a, b))) := by
  refine ⟨fun a' b' k q' hb hq' => ?_, fun a' b' k hb => ?_⟩
  · by_cases z : a' = g ∧ b' = i ∧ k = j
    · rw [z.1, z.2.1, z.2.2, u3_same] at hq'
      cases hq'
      exact hq
    · rw [u3_ne _ _ z] at hq'
      exact h.1 a' b' k q' hb hq'
  · rw [u3_ne _ _ (fun z => by rw [z.1, z.2.1] at hb; omega)]
    exact h.2 a' b' k hb
theorem PQ.nw (h : PQ C P) (hi : C g = i) : up P g i (fun _ => none) = P := by
  funext a b
  unfold up
  split
  · rename_i z
    funext j
    rw [z.1, z.2]
    exact (h.2 _ _ j (by omega)).symm
  · rfl
theorem PQ.row (h : PQ C P) (hi : C g = i) : P g i = fun _ => none := funext fun j => h.2 g i j (by omega)
theorem IG.x (h : IG I) : IGx g i I := fun a b hx _ => h a b hx
theorem IG.nwx (h : IG I) {r : Nat → Int32} : IGx g i (up I g i r) := fun a b hx hn => by
  rw [show up I g i r a b = I a b from if_neg hn]
  exact h a b hx
theorem IG.nw0 (h : IG I) (hg : nx g) {r : Nat → Int32} : IG (up I g i r) := fun a b hx => by
  rw [show up I g i r a b = I a b from if_neg (fun z => by rw [z.1] at hx; exact hx hg)]
  exact h a b hx
theorem IGx.put (h : IGx g i I) {x : Int32} : IGx g i (u3 I g i j x) := fun a b hx hn => by
  rw [u3_off I x a b hn]
  exact h a b hx hn
theorem IGx.fin (h : IGx g i I) (e : I g i = i0 g) : IG I := fun a b hx => by
  by_cases z : a = g ∧ b = i
  · rw [z.1, z.2]; exact e
  · exact h a b hx z
theorem IGx.o (h : IGx g i I) (hg : nx g) : IG I := fun a b hx => h a b hx (fun z => by rw [z.1] at hx; exact hx hg)
theorem IG.put (h : IG I) (hg : nx g) {x : Int32} : IG (u3 I g i j x) := fun a b hx => by
  rw [u3_off I x a b (fun z => by rw [z.1] at hx; exact hx hg)]
  exact h a b hx
theorem i0_a (ha : 9 ≤ g) : i0 g = fun _ => 0 := funext fun j => by
  unfold i0
  rw [if_neg (by omega)]
theorem IGx.dv (h : IGx g i I) {a b : Nat} {ty : FieldType} (hty : ty = .int ∨ ty = .byte ∨ ty = .boolean) (ha : 9 ≤ a) (hn : ¬ a = g) {x : Nat → Int64} {y : Nat → Option (Nat × Nat)} : ∀ φ : Nat → Nat → Nat, av φ ty (I a b) x y = fun _ => defaultValue ty := fun φ => by
  rw [h a b (by unfold nx; omega) (fun z => hn z.1), i0_a ha]
  rcases hty with rfl | rfl | rfl <;> rfl
theorem up_i {α : Type} (f : Nat → Nat → Nat → α) (g i : Nat) (r : Nat → α) : up f g i r g i = r := if_pos ⟨rfl, rfl⟩
theorem up_7 {r : Nat → Int32} (hg : ¬ g = 7) : up I g i r 7 = I 7 := funext fun b => if_neg (fun z => hg z.1.symm)
theorem u3_7 {x : Int32} (hg : ¬ g = 7) : u3 I g i j x 7 = I 7 := funext fun b => u3_off I x 7 b (fun z => hg z.1.symm)
theorem okS.n : okS C [] := fun _ h => by cases h
theorem okS.iv {r : List AV} {x : Int32} (h : okS C r) : okS C (vI x :: r) := fun v hv => by
  rcases List.mem_cons.mp hv with z | z
  · rw [z]; trivial
  · exact h v z
theorem okS.r {r : List AV} (hi : i < C g) (h : okS C r) : okS C (vR g i :: r) := fun v hv => by
  rcases List.mem_cons.mp hv with z | z
  · rw [z]; exact Or.inl hi
  · exact h v z
theorem okL.n : okL C [] := fun _ h => by cases h
theorem okL.o {r : List (Option AV)} (h : okL C r) : okL C (none :: r) := fun v hv => by
  rcases List.mem_cons.mp hv with z | z
  · cases z
  · exact h v z
theorem okL.iv {r : List (Option AV)} {x : Int32} (h : okL C r) : okL C (some (vI x) :: r) := fun v hv => by
  rcases List.mem_cons.mp hv with z | z
  · cases z; trivial
  · exact h v z
theorem okL.r {r : List (Option AV)} (hi : i < C g) (h : okL C r) : okL C (some (vR g i) :: r) := fun v hv => by
  rcases List.mem_cons.mp hv with z | z
  · cases z; exact Or.inl hi
  · exact h v z
theorem okL.s {r : List (Option AV)} (h : okL C r) : okL C (some (vR 92 i) :: r) := fun v hv => by
  rcases List.mem_cons.mp hv with z | z
  · cases z; exact Or.inr (Or.inr (Or.inr rfl))
  · exact h v z
end CT1
/-- a constructor's end: the cells C', the references P'; no int of the game's own row is touched -/
def qK (C' : hC) (P' : hP) (J : hJ) (r7 : Nat → Nat → Int32) : QT := fun v C1 I1 J1 P1 => none = v ∧ C' = C1 ∧ PQ C' P' ∧ IG I1 ∧ I1 7 = r7 ∧ J = J1 ∧ P' = P1
theorem a_int : Cond.arrayClass .int ∈ TB := tbm 147 (by decide +kernel) (by decide +kernel)
theorem a_byte : Cond.arrayClass .byte ∈ TB := tbm 121 (by decide +kernel) (by decide +kernel)
theorem a_boolean : Cond.arrayClass .boolean ∈ TB := tbm 213 (by decide +kernel) (by decide +kernel)
theorem a_long : Cond.arrayClass .long ∈ TB := tbm 1059 (by decide +kernel) (by decide +kernel)
theorem arC_0_15 : arC 0 15 = 8 := by decide +kernel
theorem arC_4_23 : arC 4 23 = 4 := by decide +kernel
theorem arC_1_24 : arC 1 24 = 8 := by decide +kernel
theorem arC_3_25 : arC 3 25 = 8 := by decide +kernel
