/-! numbers: literals, or, and, shifts, over nI -/
theorem l_2 : (2 : Int32) = nI 2 := rfl
theorem l_3 : (3 : Int32) = nI 3 := rfl
theorem l_4 : (4 : Int32) = nI 4 := rfl
theorem l_5 : (5 : Int32) = nI 5 := rfl
theorem l_6 : (6 : Int32) = nI 6 := rfl
theorem l_7 : (7 : Int32) = nI 7 := rfl
theorem l_8 : (8 : Int32) = nI 8 := rfl
theorem l_15 : (15 : Int32) = nI 15 := rfl
theorem l_16 : (16 : Int32) = nI 16 := rfl
theorem l_20 : (20 : Int32) = nI 20 := rfl
theorem l_64 : (64 : Int32) = nI 64 := rfl
theorem l_100 : (100 : Int32) = nI 100 := rfl
theorem l_255 : (255 : Int32) = nI 255 := rfl
theorem l_300 : (300 : Int32) = nI 300 := rfl
theorem l_800 : (800 : Int32) = nI 800 := rfl
theorem l_1000 : (1000 : Int32) = nI 1000 := rfl
theorem l_2000 : (2000 : Int32) = nI 2000 := rfl
theorem n1_add (a : Nat) : 1 + nI a = nI (1 + a) := by rw [Int32.add_comm, nI_1, Nat.add_comm]
theorem nI_or (a b : Nat) : nI a ||| nI b = nI (a ||| b) := by
  apply Int32.toBitVec_inj.mp
  show BitVec.ofNat 32 a ||| BitVec.ofNat 32 b = BitVec.ofNat 32 (a ||| b)
  apply BitVec.eq_of_toNat_eq
  rw [BitVec.toNat_or, BitVec.toNat_ofNat, BitVec.toNat_ofNat, BitVec.toNat_ofNat]
  apply Nat.eq_of_testBit_eq
  intro i
  simp only [Nat.testBit_or, Nat.testBit_mod_two_pow]
  cases decide (i < 32) <;> simp
theorem nI_and (a b : Nat) : nI a &&& nI b = nI (a &&& b) := by
  apply Int32.toBitVec_inj.mp
  show BitVec.ofNat 32 a &&& BitVec.ofNat 32 b = BitVec.ofNat 32 (a &&& b)
  apply BitVec.eq_of_toNat_eq
  rw [BitVec.toNat_and, BitVec.toNat_ofNat, BitVec.toNat_ofNat, BitVec.toNat_ofNat]
  apply Nat.eq_of_testBit_eq
  intro i
  simp only [Nat.testBit_and, Nat.testBit_mod_two_pow]
  cases decide (i < 32) <;> simp
theorem shl1 {c : Nat} (h : c < 16) : (1 : Int32) <<< (nI c &&& 31) = nI (2 ^ c) := by
  have h1 : ∀ c, c < 16 → (1 : Int32) <<< (nI c &&& 31) = nI (2 ^ c) := by decide +kernel
  exact h1 c h
theorem nI_00 : nI 0 = 0 := rfl
theorem nI_01 : nI 1 = 1 := rfl
theorem nI_is0 {a : Nat} (h : a < 2 ^ 31) : nI a = 0 ↔ a = 0 := by rw [← nI_00, nI_eq h (by decide)]
theorem nI_is1 {a : Nat} (h : a < 2 ^ 31) : nI a = 1 ↔ a = 1 := by rw [← nI_01, nI_eq h (by decide)]
theorem nI_le0 {a : Nat} (h : a < 2 ^ 31) : nI a ≤ 0 ↔ a = 0 := by rw [← nI_00, nI_leI h (by decide)]; omega
theorem n0_le {a : Nat} (h : a < 2 ^ 31) : (0 ≤ nI a) ↔ True := by simp [nI_pos' h]
theorem nI_lt0 {a : Nat} (h : a < 2 ^ 31) : nI a < 0 ↔ False := by simp [nI_pos h]
theorem n0_lt {a : Nat} (h : a < 2 ^ 31) : 0 < nI a ↔ 0 < a := by rw [← nI_00, nI_ltI (by decide) h]
theorem nI_lt1 {a : Nat} (h : a < 2 ^ 31) : nI a < 1 ↔ a < 1 := by rw [← nI_01, nI_ltI h (by decide)]
theorem m1_nI {v : Nat} (h : v < 2 ^ 31) : nI v = -1 ↔ False := by
  constructor
  · intro q
    have h1 := nI_toInt h
    rw [q] at h1
    have h2 : (-1 : Int32).toInt = -1 := rfl
    omega
  · exact False.elim
/-- a truth as the machine has it -/
def bI (b : Bool) : Int32 := if b = true then 1 else 0
theorem bI_t : bI true = 1 := rfl
theorem bI_f : bI false = 0 := rfl
theorem bI_is0 (b : Bool) : bI b = 0 ↔ b = false := by cases b <;> decide
theorem bI_is1 (b : Bool) : bI b = 1 ↔ b = true := by cases b <;> decide
theorem bI_01 (b : Bool) : bI b = 0 ∨ bI b = 1 := by cases b <;> decide
theorem i1_0 : ((1 : Int32) = 0) ↔ False := by decide
theorem i0_1 : ((0 : Int32) = 1) ↔ False := by decide
theorem im_0 : ((-1 : Int32) = 0) ↔ False := by decide
theorem u3_g {α : Type} {f : Nat → Nat → Nat → α} {g i j a b c : Nat} {x : α} (h : ¬ a = g) : u3 f g i j x a b c = f a b c := u3_ne f x (fun q => h q.1)
theorem u3_j {α : Type} {f : Nat → Nat → Nat → α} {g i j a b c : Nat} {x : α} (h : ¬ c = j) : u3 f g i j x a b c = f a b c := u3_ne f x (fun q => h q.2.2)
theorem u3_i {α : Type} {f : Nat → Nat → Nat → α} {g i j a b c : Nat} {x : α} (h : ¬ b = i) : u3 f g i j x a b c = f a b c := u3_ne f x (fun q => h q.2.1)
