/-! what calls change: the abstract state -/
def uS (σ : St) (g j v : Nat) : St := fun a b => if a = g ∧ b = j then v else σ a b
theorem uS_same (σ : St) (g j v : Nat) : uS σ g j v g j = v := if_pos ⟨rfl, rfl⟩
theorem uS_g {σ : St} {g j v a b : Nat} (h : ¬ a = g) : uS σ g j v a b = σ a b := if_neg (fun q => h q.1)
theorem uS_j {σ : St} {g j v a b : Nat} (h : ¬ b = j) : uS σ g j v a b = σ a b := if_neg (fun q => h q.2)
theorem WF.sc {σ σ' : St} (w : WF σ) (s : ∀ g j, g ≠ 0 → σ' g j = σ g j) (s1 : σ' 0 1 = σ 0 1) (s4 : σ' 0 4 = σ 0 4) (s5 : σ' 0 5 = σ 0 5) (s6 : σ' 0 6 ≤ σ 0 6) (b : σ' 0 0 ≤ 2000 ∧ σ' 0 2 ≤ 255 ∧ σ' 0 3 ≤ 800 ∧ σ' 0 7 ≤ 2001) : WF σ' := by
  obtain ⟨⟨a0, a1, a2, a3, a4, a5, a6, a7⟩, c, d, m, k, y1, y2, y3⟩ := w
  have e : ∀ g, g ≠ 0 → σ' g = σ g := fun g hg => funext (fun j => s g j hg)
  refine ⟨⟨b.1, by omega, b.2.1, b.2.2.1, by omega, by omega, by omega, b.2.2.2⟩, ?_, ?_, ?_, ?_, ?_, ?_, ?_⟩
  · rw [e 1 (by decide), e 2 (by decide)]; exact c
  · rw [e 3 (by decide)]; exact d
  · rw [s4]; intro x hx; unfold WFm; rw [s1, e 4 (by decide), e 5 (by decide), e 6 (by decide), e 7 (by decide), e 8 (by decide)]; exact m x hx
  · rw [s5]; intro x hx; unfold WFd; rw [s1, e 10 (by decide), e 11 (by decide), e 12 (by decide), e 13 (by decide), e 14 (by decide), e 15 (by decide), e 16 (by decide), e 17 (by decide), e 18 (by decide), e 19 (by decide), e 20 (by decide), e 21 (by decide)]; exact k x hx
  · rw [e 22 (by decide)]; exact y1
  · rw [e 22 (by decide), s4]; exact fun i hi => y2 i (by omega)
  · rw [e 22 (by decide)]; exact fun i j hi hj => y3 i j (by omega) (by omega)
/-- only DEEDS as they were matter: more TABLES do no harm -/
theorem WF.mv {σ σ' : St} (w : WF σ) (s : ∀ g j, g ≠ 0 → (g < 4 ∨ 8 < g) → (g < 1 ∨ 3 < g) → σ' g j = σ g j) (b0 : σ' 0 0 = σ 0 0 ∧ σ 0 1 ≤ σ' 0 1 ∧ σ' 0 1 ≤ 4 ∧ σ' 0 2 = σ 0 2 ∧ σ' 0 3 = σ 0 3 ∧ σ 0 4 ≤ σ' 0 4 ∧ σ' 0 4 ≤ 8 ∧ σ' 0 5 = σ 0 5 ∧ σ' 0 6 = σ 0 6 ∧ σ' 0 7 = σ 0 7)
    (c' : ∀ x, σ' 1 x ≤ 4 ∧ σ' 2 x ≤ 64) (d' : ∀ j, σ' 3 j ≤ 15) (m' : ∀ m, m < σ' 0 4 → WFm σ' m) : WF σ' := by
  obtain ⟨⟨a0, a1, a2, a3, a4, a5, a6, a7⟩, c, d, m, k, y1, y2, y3⟩ := w
  obtain ⟨b00, b1, b14, b2, b3, b4, b48, b5, b6, b7⟩ := b0
  have e : ∀ g, g ≠ 0 → (g < 4 ∨ 8 < g) → (g < 1 ∨ 3 < g) → σ' g = σ g := fun g hg h1 h2 => funext (fun j => s g j hg h1 h2)
  refine ⟨⟨by omega, by omega, by omega, by omega, by omega, by omega, by omega, by omega⟩, c', d', m', ?_, ?_, ?_, ?_⟩
  · rw [b5]; intro x hx; unfold WFd; rw [e 10 (by decide) (by decide) (by decide), e 11 (by decide) (by decide) (by decide), e 12 (by decide) (by decide) (by decide), e 13 (by decide) (by decide) (by decide), e 14 (by decide) (by decide) (by decide), e 15 (by decide) (by decide) (by decide), e 16 (by decide) (by decide) (by decide), e 17 (by decide) (by decide) (by decide), e 18 (by decide) (by decide) (by decide), e 19 (by decide) (by decide) (by decide), e 20 (by decide) (by decide) (by decide), e 21 (by decide) (by decide) (by decide)]
    obtain ⟨k1, k2, k3, k4, k5, k6, k7, k8, k9⟩ := k x hx
    exact ⟨k1, k2, by omega, k4, k5, by omega, k7, k8, k9⟩
  · rw [e 22 (by decide) (by decide) (by decide)]; exact y1
  · rw [e 22 (by decide) (by decide) (by decide), b6]; exact fun i hi => Nat.lt_of_lt_of_le (y2 i hi) b4
  · rw [e 22 (by decide) (by decide) (by decide), b6]; exact y3
/-! the calls' answers and what they change -/
def romO (σ : St) (x : Int32) : St := if inN 256 x = true then uS σ 0 2 (ix x) else σ
def budO (σ : St) (x : Int32) : St := if inN 801 x = true then uS σ 0 3 (ix x) else σ
def bakO (σ : St) (x : Int32) : St := if inN (σ 0 0 + 1) x = true then uS σ 0 0 (σ 0 0 - ix x) else σ
def bakQ (σ : St) (x : Int32) : Int32 := if inN (σ 0 0 + 1) x = true then nI (σ 0 0 - ix x) else -1
def undO (σ : St) : St := if σ 0 6 = 0 then σ else uS σ 0 6 (σ 0 6 - 1)
def undQ (σ : St) : Int32 := if σ 0 6 = 0 then -1 else nI (σ 22 (σ 0 6 - 1))
def tabB (σ : St) (x : Int32) : Bool := decide (σ 0 1 < 4) && inN 5 x && decide (ix x ≠ 0)
def tabO (σ : St) (x : Int32) : St := if tabB σ x = true then uS (uS (uS σ 1 (σ 0 1) (ix x)) 2 (σ 0 1) 0) 0 1 (σ 0 1 + 1) else σ
def tabQ (σ : St) (x : Int32) : Int32 := if tabB σ x = true then nI (σ 0 1) else -1
def valB (σ : St) (x c : Nat) (v : Int32) : Bool := inN (if c < σ 1 x then 16 else 1) v
def rowB (σ : St) (x a b c d : Int32) : Bool := inN (σ 0 1) x && decide (σ 2 (ix x) < 64) && valB σ (ix x) 0 a && valB σ (ix x) 1 b && valB σ (ix x) 2 c && valB σ (ix x) 3 d
def rowS (σ : St) (x : Nat) (a b c d : Nat) : St := uS (uS (uS (uS (uS σ 3 (4 * (64 * x + σ 2 x)) a) 3 (4 * (64 * x + σ 2 x) + 1) b) 3 (4 * (64 * x + σ 2 x) + 2) c) 3 (4 * (64 * x + σ 2 x) + 3) d) 2 x (σ 2 x + 1)
def rowO (σ : St) (x a b c d : Int32) : St := if rowB σ x a b c d = true then rowS σ (ix x) (ix a) (ix b) (ix c) (ix d) else σ
def rowQ (σ : St) (x a b c d : Int32) : Int32 := if rowB σ x a b c d = true then nI (σ 2 (ix x) + 1) else -1
def morB (σ : St) (r p : Int32) : Bool := decide (σ 0 4 < 8) && inN 65 r && decide (ix r ≠ 0) && inN 101 p
def morO (σ : St) (r p : Int32) : St := if morB σ r p = true then uS (uS (uS (uS (uS σ 4 (σ 0 4) 0) 5 (σ 0 4) 0) 7 (σ 0 4) (ix r)) 8 (σ 0 4) (ix p)) 0 4 (σ 0 4 + 1) else σ
def morQ (σ : St) (r p : Int32) : Int32 := if morB σ r p = true then nI (σ 0 4) else -1
def idxB (σ : St) (x a b c p : Int32) : Bool := decide (σ 0 4 < 8) && inN (σ 0 1) x && inN 101 p && inN (σ 1 (ix x)) a && ((b == -1 && c == -1) || (inN (σ 1 (ix x)) b && !(b == a) && (c == -1 || (inN (σ 1 (ix x)) c && !(c == a) && !(c == b)))))
def idxW (b c : Int32) : Nat := if b = -1 then 1 else if c = -1 then 2 else 3
def idxS (σ : St) (x : Nat) (a b c : Nat) (w p : Nat) : St := uS (uS (uS (uS (uS (uS (uS (uS σ 4 (σ 0 4) (x + 1)) 6 (3 * σ 0 4) a) 6 (3 * σ 0 4 + 1) b) 6 (3 * σ 0 4 + 2) c) 5 (σ 0 4) w) 7 (σ 0 4) 0) 8 (σ 0 4) p) 0 4 (σ 0 4 + 1)
def idxO (σ : St) (x a b c p : Int32) : St := if idxB σ x a b c p = true then idxS σ (ix x) (ix a) (ix b) (ix c) (idxW b c) (ix p) else σ
def idxQ (σ : St) (x a b c p : Int32) : Int32 := if idxB σ x a b c p = true then nI (σ 0 4) else -1
def plyB (σ : St) (x : Int32) : Bool := inN (σ 0 4) x && !(donN σ (σ 0 6)).testBit (ix x)
def plyC (σ : St) (x : Int32) : Bool := plyB σ x && decide (prcS σ (donN σ (σ 0 6)) + σ 8 (ix x) ≤ σ 0 3)
def plyO (σ : St) (x : Int32) : St := if plyC σ x = true then uS (uS σ 22 (σ 0 6) (ix x)) 0 6 (σ 0 6 + 1) else σ
def plyQ (σ : St) (x : Int32) : Int32 := if plyB σ x = true then (if plyC σ x = true then nI (σ 0 6 + 1) else -2) else -1
/-- the byte at a shift -/
def byt (w k : Int32) : Int32 := (w >>> (k &&& 31)).toInt8.toInt32
def pt (τ : Nat → Int32) (n : Nat) (w : Int32) : Nat → Int32 := fun j => if j = n then byt w 24 else if j = n + 1 then byt w 16 else if j = n + 2 then byt w 8 else if j = n + 3 then byt w 0 else τ j
def feedB (σ : St) : Bool := decide (σ 0 0 + 20 ≤ 2000)
def feedO (σ : St) : St := if feedB σ = true then uS σ 0 0 (σ 0 0 + 20) else σ
def feedT (σ : St) (τ : Nat → Int32) (a b c d e : Int32) : Nat → Int32 := if feedB σ = true then pt (pt (pt (pt (pt τ (σ 0 0) a) (σ 0 0 + 4) b) (σ 0 0 + 8) c) (σ 0 0 + 12) d) (σ 0 0 + 16) e else τ
def feedQ (σ : St) : Int32 := if feedB σ = true then nI (σ 0 0 + 20) else -1
