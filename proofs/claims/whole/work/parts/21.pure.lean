/-! what is to be answered, over the abstract state: numbers σ, tape τ -/
abbrev St : Type := Nat → Nat → Nat
def oI (v : Nat) : Int32 := nI v - 1
theorem oI_0 : oI 0 = -1 := rfl
theorem oI_s (v : Nat) : oI (v + 1) = nI v := nI_pred v
theorem m1_ne {v : Nat} (h : v < 2 ^ 31) : ¬ nI v = -1 := fun q => by
  have h1 := nI_toInt h
  rw [q] at h1
  have h2 : (-1 : Int32).toInt = -1 := rfl
  omega
theorem oI_m1 {v : Nat} (h : v < 2 ^ 31) : oI v = -1 ↔ v = 0 := by
  cases v with
  | zero => simp [oI_0]
  | succ v => rw [oI_s]; simp [m1_ne (show v < 2 ^ 31 by omega)]
theorem oI_nI {v w : Nat} (h : v < 2 ^ 31) (hw : w < 2 ^ 31) : oI v = nI w ↔ v = w + 1 := by
  cases v with
  | zero =>
    rw [oI_0]
    constructor
    · intro q; exact absurd q.symm (m1_ne hw)
    · intro q; omega
  | succ v => rw [oI_s, nI_eq (by omega) hw]; omega
theorem nI_oI {v w : Nat} (h : v < 2 ^ 31) (hw : w < 2 ^ 31) : nI w = oI v ↔ v = w + 1 := by rw [eq_comm, oI_nI h hw]
theorem oI_oI {v w : Nat} (h : v < 2 ^ 31) (hw : w < 2 ^ 31) : oI v = oI w ↔ v = w := by
  cases w with
  | zero => rw [oI_0, oI_m1 h]
  | succ w => rw [oI_s, oI_nI h (by omega)]
def cnt (p : Nat → Bool) : Nat → Nat
  | 0 => 0
  | n + 1 => cnt p n + (if p n = true then 1 else 0)
theorem cnt_t {p : Nat → Bool} {n : Nat} (h : p n = true) : cnt p (n + 1) = cnt p n + 1 := by rw [cnt, if_pos h]
theorem cnt_f {p : Nat → Bool} {n : Nat} (h : ¬ p n = true) : cnt p (n + 1) = cnt p n := by rw [cnt, if_neg h, Nat.add_zero]
theorem cnt_le (p : Nat → Bool) : ∀ n, cnt p n ≤ n := by
  intro n
  induction n with
  | zero => exact Nat.le_refl _
  | succ n ih => rw [cnt]; split <;> omega
theorem cnt_congr {p q : Nat → Bool} : ∀ n, (∀ r, r < n → p r = q r) → cnt p n = cnt q n := by
  intro n
  induction n with
  | zero => intro _; rfl
  | succ n ih => intro h; rw [cnt, cnt, ih (fun r hr => h r (by omega)), h n (by omega)]
def hold (σ : St) (k i r : Nat) : Bool := if σ 15 (4 * k + i) = 1 then decide (σ 3 (4 * (64 * σ 12 k + r) + σ 14 (4 * k + i)) = σ 16 (4 * k + i)) else decide (σ 3 (4 * (64 * σ 12 k + r) + σ 14 (4 * k + i)) < σ 16 (4 * k + i))
def allH (σ : St) (k u r : Nat) : Nat → Bool
  | 0 => true
  | n + 1 => allH σ k u r n && (!u.testBit n || hold σ k n r)
def rowsH (σ : St) (k u : Nat) : Nat := cnt (fun r => allH σ k u r (σ 13 k)) (σ 2 (σ 12 k))
def fndC (σ : St) (k c : Nat) : Nat → Nat → Nat
  | 0, _ => 0
  | n + 1, i => if σ 14 (4 * k + i) = c then i + 1 else fndC σ k c n (i + 1)
def cOn (σ : St) (k c : Nat) : Nat := fndC σ k c (σ 13 k) 0
def usd (σ : St) (k m : Nat) : Nat → Nat → Nat
  | 0, _ => 0
  | n + 1, i => if cOn σ k (σ 6 (3 * m + i)) = 0 then 0 else 2 ^ (cOn σ k (σ 6 (3 * m + i)) - 1) ||| (if σ 15 (4 * k + (cOn σ k (σ 6 (3 * m + i)) - 1)) = 1 then usd σ k m n (i + 1) else 0)
def uOf (σ : St) (k m : Nat) : Nat := usd σ k m (σ 5 m) 0
def lkN (n : Nat) : Nat := 1 + (n + 15) / 16 + n
/-- 0: no way -/
def ent (σ : St) (k m : Nat) : Nat := if uOf σ k m = 0 then 0 else lkN (rowsH σ k (uOf σ k m))
def srt (σ : St) (k m : Nat) : Nat → Nat → Bool
  | 0, _ => false
  | n + 1, i => if σ 20 k = σ 6 (3 * m + i) + 1 then true else if cOn σ k (σ 6 (3 * m + i)) = 0 then false else if σ 15 (4 * k + (cOn σ k (σ 6 (3 * m + i)) - 1)) = 1 then srt σ k m n (i + 1) else false
def pgN (σ : St) (x : Nat) : Nat := (σ 2 x + 7) / 8
def roomS (σ : St) (s : Nat) : Nat := σ 0 2 + sumN (σ 7) s (σ 0 4)
def prcS (σ : St) (s : Nat) : Nat := sumN (σ 8) s (σ 0 4)
def rN (σ : St) (k : Nat) : Nat := rowsH σ k 15
def srtN (σ : St) (k s : Nat) : Nat := if σ 20 k = 0 then 0 else if rN σ k ≤ roomS σ s then rN σ k else 3 * rN σ k
def itsN (σ : St) (k s m : Nat) : Nat := if srt σ k m (σ 5 m) 0 = true then 0 else srtN σ k s
/-- the way's MOVE + 1, ACCESS and SORT together, SORT -/
def acc (σ : St) (k s : Nat) : Nat → Nat × Nat × Nat
  | 0 => (0, pgN σ (σ 12 k) + srtN σ k s, srtN σ k s)
  | m + 1 => if s.testBit m = true ∧ σ 4 m = σ 12 k + 1 ∧ ent σ k m ≠ 0 ∧ ent σ k m + itsN σ k s m < (acc σ k s m).2.1 then (m + 1, ent σ k m + itsN σ k s m, itsN σ k s m) else acc σ k s m
def sm (f : Nat → Nat) : Nat → Nat
  | 0 => 0
  | n + 1 => sm f n + f n
def sameV (σ : St) (k r : Nat) : Nat := cnt (fun j => decide (σ 3 (4 * (64 * (σ 17 k - 1) + j) + σ 19 k) = σ 3 (4 * (64 * σ 12 k + r) + σ 18 k))) (σ 2 (σ 17 k - 1))
def jl (σ : St) (k : Nat) : Nat := sm (fun r => if allH σ k 15 r (σ 13 k) = true then lkN (sameV σ k r) else 0) (σ 2 (σ 12 k))
def j0 (σ : St) (k s : Nat) : Nat := if σ 2 (σ 17 k - 1) ≤ roomS σ s then min (pgN σ (σ 17 k - 1) * rN σ k) (pgN σ (σ 17 k - 1) + rN σ k) else pgN σ (σ 17 k - 1) * rN σ k
def jac (σ : St) (k s : Nat) : Nat → Nat × Nat
  | 0 => (0, j0 σ k s)
  | m + 1 => if s.testBit m = true ∧ σ 4 m = σ 17 k ∧ σ 6 (3 * m) = σ 19 k ∧ jl σ k < (jac σ k s m).2 then (m + 1, jl σ k) else jac σ k s m
def jnS (σ : St) (k s : Nat) : Nat × Nat := if σ 17 k = 0 then (0, 0) else jac σ k s (σ 0 4)
def wrS (σ : St) (k s : Nat) : Nat := σ 21 k + sumN (fun m => if σ 4 m = σ 12 k + 1 then 2 * σ 21 k else 0) s (σ 0 4)
def cost1 (σ : St) (k s : Nat) : Nat := if σ 10 k = 1 then wrS σ k s else (acc σ k s (σ 0 4)).2.1 + (jnS σ k s).2
def costA (σ : St) (s : Nat) : Nat := sm (fun k => σ 11 k * cost1 σ k s) (σ 0 5)
/-! WELL FORMED -/
def WFd (σ : St) (k : Nat) : Prop := σ 10 k ≤ 1 ∧ σ 11 k ≤ 1000 ∧ σ 12 k < σ 0 1 ∧ σ 13 k ≤ 4 ∧ (∀ i, i < σ 13 k → σ 14 (4 * k + i) < 4 ∧ σ 15 (4 * k + i) ≤ 1 ∧ σ 16 (4 * k + i) ≤ 15) ∧ σ 17 k ≤ σ 0 1 ∧ (σ 17 k ≠ 0 → σ 18 k < 4 ∧ σ 19 k < 4) ∧ σ 20 k ≤ 4 ∧ σ 21 k ≤ 100
def WFm (σ : St) (m : Nat) : Prop := σ 4 m ≤ σ 0 1 ∧ σ 5 m ≤ 3 ∧ σ 7 m ≤ 64 ∧ σ 8 m ≤ 100 ∧ (σ 4 m ≠ 0 → 1 ≤ σ 5 m) ∧ (σ 4 m = 0 → σ 5 m = 0) ∧ ∀ i, i < σ 5 m → σ 6 (3 * m + i) < 4
def WF (σ : St) : Prop := (σ 0 0 ≤ 2000 ∧ σ 0 1 ≤ 4 ∧ σ 0 2 ≤ 255 ∧ σ 0 3 ≤ 800 ∧ σ 0 4 ≤ 8 ∧ σ 0 5 ≤ 8 ∧ σ 0 6 ≤ 8 ∧ σ 0 7 ≤ 2001) ∧ (∀ x, σ 1 x ≤ 4 ∧ σ 2 x ≤ 64) ∧ (∀ j, σ 3 j ≤ 15) ∧ (∀ m, m < σ 0 4 → WFm σ m) ∧ (∀ k, k < σ 0 5 → WFd σ k) ∧ (∀ i, i < 8 → σ 22 i < 8) ∧ (∀ i, i < σ 0 6 → σ 22 i < σ 0 4) ∧ ∀ i j, i < σ 0 6 → j < σ 0 6 → σ 22 i = σ 22 j → i = j
/-! what the model's heap shows -/
def MRd (σ : St) (lv : Nat) (I : hI) (k : Nat) : Prop := I 38 0 (8 * lv + k) = nI (σ 10 k) ∧ I 39 0 (8 * lv + k) = nI (σ 11 k) ∧ I 40 0 (8 * lv + k) = nI (σ 12 k) ∧ I 41 0 (8 * lv + k) = nI (σ 13 k) ∧ (∀ i, i < σ 13 k → I 42 0 (4 * (8 * lv + k) + i) = nI (σ 14 (4 * k + i)) ∧ I 43 0 (4 * (8 * lv + k) + i) = nI (σ 15 (4 * k + i)) ∧ I 44 0 (4 * (8 * lv + k) + i) = nI (σ 16 (4 * k + i))) ∧ I 45 0 (8 * lv + k) = oI (σ 17 k) ∧ (σ 17 k ≠ 0 → I 46 0 (8 * lv + k) = nI (σ 18 k) ∧ I 47 0 (8 * lv + k) = nI (σ 19 k)) ∧ I 48 0 (8 * lv + k) = oI (σ 20 k) ∧ I 49 0 (8 * lv + k) = nI (σ 21 k)
def MRm (σ : St) (I : hI) (m : Nat) : Prop := I 53 0 m = nI (if σ 4 m = 0 then 0 else 1) ∧ I 54 0 m = oI (σ 4 m) ∧ I 55 0 m = nI (σ 5 m) ∧ I 57 0 m = nI (σ 7 m) ∧ I 58 0 m = nI (σ 8 m) ∧ ∀ i, i < σ 5 m → I 56 0 (3 * m + i) = nI (σ 6 (3 * m + i))
def MR (σ : St) (τ : Nat → Int32) (lv : Nat) (I : hI) : Prop := (I 8 0 17 = nI lv ∧ lv ≤ 1) ∧ (I 8 0 2 = nI (σ 0 0) ∧ ∀ j, j < 2000 → I 30 0 j = τ j) ∧ (I 8 0 32 = nI (σ 0 1) ∧ I 8 0 36 = nI (σ 0 2) ∧ I 8 0 37 = nI (σ 0 3) ∧ I 8 0 38 = nI (σ 0 4) ∧ I 37 0 lv = nI (σ 0 5) ∧ I 8 0 50 = nI (σ 0 6) ∧ I 8 0 16 = oI (σ 0 7)) ∧ (∀ x, x < 4 → I 50 0 x = nI (σ 1 x) ∧ I 51 0 x = nI (σ 2 x)) ∧ (∀ j, j < 1024 → I 52 0 j = nI (σ 3 j)) ∧ (∀ m, m < σ 0 4 → MRm σ I m) ∧ (∀ k, k < σ 0 5 → MRd σ lv I k) ∧ ∀ i, i < 8 → I 59 0 i = nI (σ 22 i)
section MRP
variable {σ : St} {τ : Nat → Int32} {lv : Nat} {I : hI}
theorem MR.live (h : MR σ τ lv I) : I 8 0 17 = nI lv := h.1.1
theorem MR.lv1 (h : MR σ τ lv I) : lv ≤ 1 := h.1.2
theorem MR.taped (h : MR σ τ lv I) : I 8 0 2 = nI (σ 0 0) := h.2.1.1
theorem MR.tape (h : MR σ τ lv I) : ∀ j, j < 2000 → I 30 0 j = τ j := h.2.1.2
theorem MR.tables (h : MR σ τ lv I) : I 8 0 32 = nI (σ 0 1) := h.2.2.1.1
theorem MR.room (h : MR σ τ lv I) : I 8 0 36 = nI (σ 0 2) := h.2.2.1.2.1
theorem MR.budget (h : MR σ τ lv I) : I 8 0 37 = nI (σ 0 3) := h.2.2.1.2.2.1
theorem MR.moves (h : MR σ τ lv I) : I 8 0 38 = nI (σ 0 4) := h.2.2.1.2.2.2.1
theorem MR.deeds (h : MR σ τ lv I) : I 37 0 lv = nI (σ 0 5) := h.2.2.1.2.2.2.2.1
theorem MR.played (h : MR σ τ lv I) : I 8 0 50 = nI (σ 0 6) := h.2.2.1.2.2.2.2.2.1
theorem MR.place (h : MR σ τ lv I) : I 8 0 16 = oI (σ 0 7) := h.2.2.1.2.2.2.2.2.2
theorem MR.columns (h : MR σ τ lv I) {x : Nat} (hx : x < 4) : I 50 0 x = nI (σ 1 x) := (h.2.2.2.1 x hx).1
theorem MR.rows (h : MR σ τ lv I) {x : Nat} (hx : x < 4) : I 51 0 x = nI (σ 2 x) := (h.2.2.2.1 x hx).2
theorem MR.cell (h : MR σ τ lv I) {j : Nat} (hj : j < 1024) : I 52 0 j = nI (σ 3 j) := h.2.2.2.2.1 j hj
theorem MR.move (h : MR σ τ lv I) {m : Nat} (hm : m < σ 0 4) : MRm σ I m := h.2.2.2.2.2.1 m hm
theorem MR.deed (h : MR σ τ lv I) {k : Nat} (hk : k < σ 0 5) : MRd σ lv I k := h.2.2.2.2.2.2.1 k hk
theorem MR.play (h : MR σ τ lv I) {i : Nat} (hi : i < 8) : I 59 0 i = nI (σ 22 i) := h.2.2.2.2.2.2.2 i hi
theorem WF.cell (w : WF σ) (j : Nat) : σ 3 j ≤ 15 := w.2.2.1 j
theorem WF.rows (w : WF σ) (x : Nat) : σ 2 x ≤ 64 := (w.2.1 x).2
theorem WF.move (w : WF σ) {m : Nat} (hm : m < σ 0 4) : WFm σ m := w.2.2.2.1 m hm
theorem WF.deed (w : WF σ) {k : Nat} (hk : k < σ 0 5) : WFd σ k := w.2.2.2.2.1 k hk
end MRP
