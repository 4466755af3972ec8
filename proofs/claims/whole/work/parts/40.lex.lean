/-! TOKENS of a text: ch i is the i-th byte (0 .. 255), 0 from n on -/
def isLB (c : Nat) : Bool := decide (97 ≤ c ∧ c ≤ 122)
def isDB (c : Nat) : Bool := decide (48 ≤ c ∧ c ≤ 57)
def isBB (c : Nat) : Bool := decide (c = 9 ∨ c = 10 ∨ c = 13 ∨ c = 32)
def runN (p : Nat → Bool) : Nat → Nat → Nat
  | 0, _ => 0
  | f + 1, i => if p i = true then runN p f (i + 1) + 1 else 0
theorem run_spec {p : Nat → Bool} {n : Nat} (hp : ∀ j, n ≤ j → p j = false) : ∀ f i, n ≤ i + f → (∀ j, j < runN p f i → p (i + j) = true) ∧ p (i + runN p f i) = false := by
  intro f
  induction f with
  | zero =>
    intro i h
    rw [runN]
    exact ⟨fun j hj => by omega, hp _ (by omega)⟩
  | succ f ih =>
    intro i h
    rw [runN]
    by_cases q : p i = true
    · rw [if_pos q]
      obtain ⟨h1, h2⟩ := ih (i + 1) (by omega)
      refine ⟨fun j hj => ?_, ?_⟩
      · cases j with
        | zero => exact q
        | succ j => rw [show i + (j + 1) = i + 1 + j by omega]; exact h1 j (by omega)
      · rw [show i + (runN p f (i + 1) + 1) = i + 1 + runN p f (i + 1) by omega]; exact h2
    · rw [if_neg q]
      exact ⟨fun j hj => by omega, by simpa using q⟩
theorem run_uniq {p : Nat → Bool} {n : Nat} (hp : ∀ j, n ≤ j → p j = false) {f i k : Nat} (h : n ≤ i + f) (h1 : ∀ j, j < k → p (i + j) = true) (h2 : p (i + k) = false) : runN p f i = k := by
  obtain ⟨a, b⟩ := run_spec hp f i h
  rcases Nat.lt_trichotomy (runN p f i) k with q | q | q
  · rw [h1 _ q] at b; cases b
  · exact q
  · rw [a _ q] at h2; cases h2
def decN (ch : Nat → Nat) (i : Nat) : Nat → Nat
  | 0 => 0
  | k + 1 => 10 * decN ch i k + (ch (i + k) - 48)
def hshN (ch : Nat → Nat) (i : Nat) : Nat → Nat
  | 0 => 0
  | k + 1 => 27 * hshN ch i k + (ch (i + k) - 96)
def kws : List (List Nat) := [[97, 115, 107], [115, 104, 97, 114, 101], [102, 114, 111, 109], [119, 104, 101, 114, 101], [97, 110, 100], [106, 111, 105, 110], [111, 110], [111, 114, 100, 101, 114], [119, 114, 105, 116, 101], [105, 110, 116, 111], [114, 111, 119, 115]]
def kln (k : Nat) : Nat := (kws.getD k []).length
def kch (k j : Nat) : Nat := (kws.getD k []).getD j 0
def kwB (ch : Nat → Nat) (i r k : Nat) : Prop := r = kln k ∧ ∀ j, j < kln k → ch (i + j) = kch k j
theorem hsh_inj {c d : Nat → Nat} {i e : Nat} : ∀ a b, (∀ j, j < a → 97 ≤ c (i + j) ∧ c (i + j) ≤ 122) → (∀ j, j < b → 97 ≤ d (e + j) ∧ d (e + j) ≤ 122) → hshN c i a = hshN d e b → a = b ∧ ∀ j, j < a → c (i + j) = d (e + j) := by
  intro a
  induction a with
  | zero =>
    intro b h1 h2 h
    cases b with
    | zero => exact ⟨rfl, fun j hj => by omega⟩
    | succ b =>
      have := h2 b (by omega)
      rw [hshN, hshN] at h
      omega
  | succ a ih =>
    intro b h1 h2 h
    cases b with
    | zero =>
      have := h1 a (by omega)
      rw [hshN, hshN] at h
      omega
    | succ b =>
      have q1 := h1 a (by omega)
      have q2 := h2 b (by omega)
      rw [hshN, hshN] at h
      have e1 : hshN c i a = hshN d e b := by omega
      have e2 : c (i + a) = d (e + b) := by omega
      obtain ⟨r1, r2⟩ := ih b (fun j hj => h1 j (by omega)) (fun j hj => h2 j (by omega)) e1
      subst r1
      refine ⟨rfl, fun j hj => ?_⟩
      by_cases z : j = a
      · subst z; exact e2
      · exact r2 j (by omega)
theorem hsh_congr {c d : Nat → Nat} {i e : Nat} : ∀ a, (∀ j, j < a → c (i + j) = d (e + j)) → hshN c i a = hshN d e a := by
  intro a
  induction a with
  | zero => intro _; rfl
  | succ a ih => intro h; rw [hshN, hshN, ih (fun j hj => h j (by omega)), h a (by omega)]
theorem hsh_lt {c : Nat → Nat} {i : Nat} : ∀ a, (∀ j, j < a → c (i + j) ≤ 122) → hshN c i a < 27 ^ a := by
  intro a
  induction a with
  | zero => intro _; exact Nat.zero_lt_one
  | succ a ih =>
    intro h
    have := ih (fun j hj => h j (by omega))
    have := h a (by omega)
    rw [hshN, Nat.pow_succ]
    omega
def kHs (k : Nat) : Nat := hshN (kch k) 0 (kln k)
theorem kch_ok : ∀ k, k < 11 → kln k ≤ 7 ∧ ∀ j, j < kln k → 97 ≤ kch k (0 + j) ∧ kch k (0 + j) ≤ 122 := by
  have h : ∀ k, k < 11 → kln k ≤ 7 ∧ ∀ j, j < 7 → j < kln k → 97 ≤ kch k (0 + j) ∧ kch k (0 + j) ≤ 122 := by decide
  exact fun k hk => ⟨(h k hk).1, fun j hj => (h k hk).2 j (by have := (h k hk).1; omega) hj⟩
theorem hsh_key {c : Nat → Nat} {i r k : Nat} (hk : k < 11) (h : ∀ j, j < r → 97 ≤ c (i + j) ∧ c (i + j) ≤ 122) : kHs k = hshN c i r ↔ kwB c i r k := by
  obtain ⟨k1, k2⟩ := kch_ok k hk
  constructor
  · intro e
    obtain ⟨e1, e2⟩ := hsh_inj r (kln k) h k2 e.symm
    exact ⟨e1, fun j hj => by have := e2 j (by omega); rwa [Nat.zero_add] at this⟩
  · rintro ⟨rfl, e2⟩
    exact hsh_congr (kln k) (fun j hj => by rw [Nat.zero_add]; exact (e2 j hj).symm)
theorem kw_one {c : Nat → Nat} {i r k l : Nat} (hk : k < 11) (hl : l < 11) (h1 : kwB c i r k) (h2 : kwB c i r l) : k = l := by
  have d : ∀ k, k < 11 → ∀ l, l < 11 → kln k = kln l → (∀ j, j < 7 → j < kln k → kch k j = kch l j) → k = l := by decide
  refine d k hk l hl (by rw [← h1.1, ← h2.1]) (fun j _ hj => ?_)
  rw [← h1.2 j hj, ← h2.2 j (by rw [← h2.1, h1.1]; exact hj)]
/-- the word's kind, over the first K words -/
noncomputable def kwL (c : Nat → Nat) (i r : Nat) : Nat → Nat
  | 0 => 1
  | k + 1 => @ite _ (kwB c i r k) (Classical.propDecidable _) (20 + k) (kwL c i r k)
theorem kwL_eq {c : Nat → Nat} {i r k : Nat} (h : kwB c i r k) : ∀ n, k < n → n ≤ 11 → kwL c i r n = 20 + k := by
  intro n
  induction n with
  | zero => intro h1; omega
  | succ n ih =>
    intro h1 h2
    rw [kwL]
    by_cases q : kwB c i r n
    · rw [if_pos q, kw_one (by omega) (by omega) q h]
    · rw [if_neg q]
      refine ih ?_ (by omega)
      by_cases z : k = n
      · subst z; exact absurd h q
      · omega
theorem kwL_1 {c : Nat → Nat} {i r : Nat} : ∀ n, (∀ k, k < n → ¬ kwB c i r k) → kwL c i r n = 1 := by
  intro n
  induction n with
  | zero => intro _; rfl
  | succ n ih => intro h; rw [kwL, if_neg (h n (by omega))]; exact ih (fun k hk => h k (by omega))
section LX
variable (ch : Nat → Nat) (n : Nat)
def rnL (i : Nat) : Nat := runN (fun j => isLB (ch j)) n i
def rnD (i : Nat) : Nat := runN (fun j => isDB (ch j)) n i
def skB (i : Nat) : Nat := i + runN (fun j => isBB (ch j)) n i
def tkL (i : Nat) : Nat := if n ≤ i then 0 else if isLB (ch i) = true then rnL ch n i else if isDB (ch i) = true then rnD ch n i else if ch i = 61 ∧ ch (i + 1) = 61 then 2 else 1
def sgK (c d : Nat) : Nat := if c = 61 ∧ d = 61 then 4 else if c = 61 then 5 else if c = 59 then 6 else if c = 60 then 7 else 3
noncomputable def tkK (i : Nat) : Nat := if n ≤ i then 0 else if isLB (ch i) = true then (if 8 < rnL ch n i then 3 else kwL ch i (rnL ch n i) 11) else if isDB (ch i) = true then (if 4 < rnD ch n i then 3 else 2) else sgK (ch i) (ch (i + 1))
def tkV (i : Nat) : Nat := decN ch i (min (rnD ch n i) 4)
def stT : Nat → Nat
  | 0 => skB ch n 0
  | t + 1 => skB ch n (stT t + tkL ch n (stT t))
noncomputable def kT (t : Nat) : Nat := tkK ch n (stT ch n t)
def vT (t : Nat) : Nat := tkV ch n (stT ch n t)
end LX
section LX2
variable {ch : Nat → Nat} {n : Nat}
theorem bad_B (h0 : ∀ j, n ≤ j → ch j = 0) : ∀ j, n ≤ j → isBB (ch j) = false := fun j hj => by rw [h0 j hj]; rfl
theorem bad_L (h0 : ∀ j, n ≤ j → ch j = 0) : ∀ j, n ≤ j → isLB (ch j) = false := fun j hj => by rw [h0 j hj]; rfl
theorem bad_D (h0 : ∀ j, n ≤ j → ch j = 0) : ∀ j, n ≤ j → isDB (ch j) = false := fun j hj => by rw [h0 j hj]; rfl
theorem skB_b (h0 : ∀ j, n ≤ j → ch j = 0) {i : Nat} (q : isBB (ch i) = true) : skB ch n (i + 1) = skB ch n i := by
  obtain ⟨a, b⟩ := run_spec (p := fun j => isBB (ch j)) (bad_B h0) n (i + 1) (by omega)
  have := run_uniq (p := fun j => isBB (ch j)) (bad_B h0) (f := n) (i := i) (k := runN (fun j => isBB (ch j)) n (i + 1) + 1) (by omega) (fun j hj => by
    cases j with
    | zero => exact q
    | succ j => rw [show i + (j + 1) = i + 1 + j by omega]; exact a j (by omega)) (by rw [show i + (runN (fun j => isBB (ch j)) n (i + 1) + 1) = i + 1 + runN (fun j => isBB (ch j)) n (i + 1) by omega]; exact b)
  unfold skB
  omega
theorem skB_n (h0 : ∀ j, n ≤ j → ch j = 0) {i : Nat} (q : isBB (ch i) = false) : skB ch n i = i := by
  have := run_uniq (p := fun j => isBB (ch j)) (bad_B h0) (f := n) (i := i) (k := 0) (by omega) (fun j hj => by omega) q
  unfold skB
  omega
theorem skB_le (h0 : ∀ j, n ≤ j → ch j = 0) {i : Nat} (hi : i ≤ n) : i ≤ skB ch n i ∧ skB ch n i ≤ n := by
  obtain ⟨a, b⟩ := run_spec (p := fun j => isBB (ch j)) (bad_B h0) n i (by omega)
  refine ⟨by unfold skB; omega, ?_⟩
  unfold skB
  rcases Nat.lt_or_ge n (i + runN (fun j => isBB (ch j)) n i) with q | q
  · have h1 := a (n - i) (by omega)
    have h2 := bad_B h0 (i + (n - i)) (by omega)
    rw [h1] at h2
    cases h2
  · exact q
theorem rn_le (h0 : ∀ j, n ≤ j → ch j = 0) {p : Nat → Bool} (hp : ∀ j, n ≤ j → p j = false) {i : Nat} (hi : i ≤ n) : i + runN p n i ≤ n := by
  obtain ⟨a, b⟩ := run_spec hp n i (by omega)
  rcases Nat.lt_or_ge n (i + runN p n i) with q | q
  · have h1 := a (n - i) (by omega)
    have h2 := hp (i + (n - i)) (by omega)
    rw [h1] at h2
    cases h2
  · exact q
theorem rn_pos (h0 : ∀ j, n ≤ j → ch j = 0) {p : Nat → Bool} (hp : ∀ j, n ≤ j → p j = false) {i : Nat} (q : p i = true) : 1 ≤ runN p n i := by
  obtain ⟨a, b⟩ := run_spec hp n i (by omega)
  rcases Nat.eq_zero_or_pos (runN p n i) with z | z
  · rw [z, Nat.add_zero, q] at b; cases b
  · exact z
theorem tkL_le (h0 : ∀ j, n ≤ j → ch j = 0) {i : Nat} (hi : i ≤ n) : i + tkL ch n i ≤ n ∧ (i < n → 1 ≤ tkL ch n i) := by
  unfold tkL
  split
  · omega
  · split
    · rename_i q
      exact ⟨rn_le h0 (bad_L h0) hi, fun _ => rn_pos h0 (bad_L h0) q⟩
    · split
      · rename_i q
        exact ⟨rn_le h0 (bad_D h0) hi, fun _ => rn_pos h0 (bad_D h0) q⟩
      · split
        · rename_i q
          rcases Nat.lt_or_ge (i + 1) n with z | z
          · omega
          · have := h0 (i + 1) z
            omega
        · omega
theorem stT_le (h0 : ∀ j, n ≤ j → ch j = 0) : ∀ t, stT ch n t ≤ n := by
  intro t
  induction t with
  | zero => exact (skB_le h0 (Nat.zero_le _)).2
  | succ t ih => exact (skB_le h0 (tkL_le h0 ih).1).2
theorem kT_0 (h0 : ∀ j, n ≤ j → ch j = 0) {t : Nat} : kT ch n t = 0 ↔ n ≤ stT ch n t := by
  unfold kT tkK
  constructor
  · intro h
    split at h
    · assumption
    · exfalso
      split at h
      · split at h
        · omega
        · rename_i r
          by_cases z : ∃ k, k < 11 ∧ kwB ch (stT ch n t) (rnL ch n (stT ch n t)) k
          · obtain ⟨k, hk, z⟩ := z
            rw [kwL_eq z 11 hk (by omega)] at h
            omega
          · rw [kwL_1 11 (fun k hk q => z ⟨k, hk, q⟩)] at h
            omega
      · split at h
        · split at h <;> omega
        · unfold sgK at h
          split at h
          · omega
          · split at h
            · omega
            · split at h
              · omega
              · split at h <;> omega
  · intro h; rw [if_pos h]
theorem stT_lt (h0 : ∀ j, n ≤ j → ch j = 0) {t : Nat} (h : ¬ kT ch n t = 0) : stT ch n t < stT ch n (t + 1) := by
  rw [kT_0 h0] at h
  have h1 := stT_le h0 t
  obtain ⟨h2, h3⟩ := tkL_le h0 h1
  have h4 := (skB_le h0 h2).1
  have := h3 (by omega)
  rw [stT]
  omega
end LX2
theorem dec_lt {ch : Nat → Nat} {i : Nat} : ∀ k, (∀ j, j < k → ch (i + j) ≤ 57) → decN ch i k < 10 ^ k := by
  intro k
  induction k with
  | zero => intro _; exact Nat.zero_lt_one
  | succ k ih =>
    intro h
    have := ih (fun j hj => h j (by omega))
    have := h k (by omega)
    rw [decN, Nat.pow_succ]
    omega
