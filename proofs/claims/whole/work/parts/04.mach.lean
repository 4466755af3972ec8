/-! THE ABSTRACT MACHINE. Values are ints, longs and references (group, number); the heap is four functions: how many cells a group has, ints, longs, references by group, number, slot. -/
abbrev AV : Type := Int32 ⊕ (Int64 ⊕ (Nat × Nat))
abbrev vI (x : Int32) : AV := Sum.inl x
abbrev vL (x : Int64) : AV := Sum.inr (Sum.inl x)
abbrev vR (g i : Nat) : AV := Sum.inr (Sum.inr (g, i))
abbrev hC : Type := Nat → Nat
abbrev hI : Type := Nat → Nat → Nat → Int32
abbrev hJ : Type := Nat → Nat → Nat → Int64
abbrev hP : Type := Nat → Nat → Nat → Option (Nat × Nat)
def u3 {α : Type} (f : Nat → Nat → Nat → α) (g i j : Nat) (x : α) : Nat → Nat → Nat → α := fun a b c => if a = g ∧ b = i ∧ c = j then x else f a b c
def cv (φ : Nat → Nat → Nat) (v : AV) : Value := match v with
  | .inl x => .int x
  | .inr (.inl y) => .long y
  | .inr (.inr q) => .ref (φ q.1 q.2)
def rv (φ : Nat → Nat → Nat) (r : Option (Nat × Nat)) : Value := match r with
  | none => .null
  | some q => .ref (φ q.1 q.2)
def isRf (t : FieldType) : Bool := match t with
  | .object _ => true
  | .array _ => true
  | _ => false
def fv (φ : Nat → Nat → Nat) (ci : Nat) (I : Nat → Int32) (P : Nat → Option (Nat × Nat)) (j : Nat) : Value := if isRf (tyV ci j) = true then rv φ (P j) else .int (I j)
def av (φ : Nat → Nat → Nat) (ty : FieldType) (I : Nat → Int32) (J : Nat → Int64) (P : Nat → Option (Nat × Nat)) (j : Nat) : Value := match ty with
  | .long => .long (J j)
  | .object _ => rv φ (P j)
  | .array _ => rv φ (P j)
  | _ => .int (I j)
/-- the groups of arrays: type of their elements, length -/
def gT : Nat → Option (FieldType × Nat) := fun g => match g with
  | 10 => some (.int, 4)
  | 11 => some (.boolean, 4)
  | 12 => some (.int, 4)
  | 13 => some (.int, 3)
  | 14 => some (.int, 4)
  | 15 => some (.object RX0, 8)
  | 16 => some (.int, 8)
  | 17 => some (.int, 256)
  | 18 => some (.int, 64)
  | 19 => some (.byte, 2000)
  | 20 => some (.int, 301)
  | 21 => some (.int, 301)
  | 22 => some (.int, 301)
  | 23 => some (.object RX4, 4)
  | 24 => some (.object RX1, 8)
  | 25 => some (.object RX3, 8)
  | 26 => some (.int, 8)
  | 27 => some (.int, 8)
  | 30 => some (.byte, 2000)
  | 31 => some (.byte, 2000)
  | 32 => some (.int, 303)
  | 33 => some (.int, 303)
  | 34 => some (.int, 303)
  | 35 => some (.long, 303)
  | 36 => some (.long, 11)
  | 37 => some (.int, 2)
  | 38 => some (.boolean, 16)
  | 39 => some (.int, 16)
  | 40 => some (.int, 16)
  | 41 => some (.int, 16)
  | 42 => some (.int, 64)
  | 43 => some (.boolean, 64)
  | 44 => some (.int, 64)
  | 45 => some (.int, 16)
  | 46 => some (.int, 16)
  | 47 => some (.int, 16)
  | 48 => some (.int, 16)
  | 49 => some (.int, 16)
  | 50 => some (.int, 4)
  | 51 => some (.int, 4)
  | 52 => some (.int, 1024)
  | 53 => some (.boolean, 8)
  | 54 => some (.int, 8)
  | 55 => some (.int, 8)
  | 56 => some (.int, 24)
  | 57 => some (.int, 8)
  | 58 => some (.int, 8)
  | 59 => some (.int, 8)
  | 60 => some (.int, 8)
  | _ => none
/-- a cell: groups 0 .. 8 are objects of the class of that number -/
def cellAt (D : va_G) (cA : Nat → ClassId) (φ : Nat → Nat → Nat) (I : hI) (J : hJ) (P : hP) (g i : Nat) (H : Heap) : Prop :=
  (g < 9 ∧ t_OB (φ g i) (D.1 g) (nF g) (D.2 g) H (fv φ g (I g i) (P g i))) ∨
  ∃ (ty : FieldType) (n : Nat), 9 ≤ g ∧ gT g = some (ty, n) ∧ H[φ g i]? = some (arrV (cA g) n (av φ ty (I g i) (J g i) (P g i)))
def KnA (cA : Nat → ClassId) (U : State) : Prop := ∀ (g : Nat) (ty : FieldType) (n : Nat), gT g = some (ty, n) → ArrOfT U (cA g) ty ∧ va_RA U (cA g) ty
def afr (C : hC) (φ : Nat → Nat → Nat) (sz : Nat) : Nat → Prop := fun q => (∃ g i : Nat, i < C g ∧ q = φ g i) ∨ sz ≤ q
def Wc (D : va_G) (cA : Nat → ClassId) (φ : Nat → Nat → Nat) (A : Nat → Prop) (C : hC) (I : hI) (J : hJ) (P : hP) (H : Heap) : Prop :=
  (∀ g i : Nat, i < C g → cellAt D cA φ I J P g i H) ∧ (∀ g i g' i' : Nat, i < C g → i' < C g' → φ g i = φ g' i' → g = g' ∧ i = i') ∧ ∀ g i : Nat, i < C g → A (φ g i)
/-- the literals: pool places, texts, lengths, bytes -/
def six : Nat → Nat := fun k => match k with
  | 0 => 61
  | 1 => 67
  | 2 => 69
  | 3 => 71
  | 4 => 73
  | 5 => 75
  | 6 => 77
  | 7 => 79
  | 8 => 81
  | 9 => 83
  | _ => 85
def stx : List String := ["ask", "share", "from", "where", "and", "join", "on", "order", "write", "into", "rows"]
def sln : List Nat := [3, 5, 4, 5, 3, 4, 2, 5, 5, 4, 4]
def sby : List (List Int32) := [[97, 115, 107], [115, 104, 97, 114, 101], [102, 114, 111, 109], [119, 104, 101, 114, 101], [97, 110, 100], [106, 111, 105, 110], [111, 110], [111, 114, 100, 101, 114], [119, 114, 105, 116, 101], [105, 110, 116, 111], [114, 111, 119, 115]]
def vkT (adK adV : Nat → Nat) (A : Nat → Prop) (U : State) (H : Heap) : Prop := vk_S 11 sln sby adK adV A U H ∧ va_Z "java/lang/String" "COMPACT_STRINGS" "Z" (.int 1) A U H ∧ va_Zq "jdk/internal/util/Preconditions" "SIOOBE_FORMATTER" "Ljava/util/function/BiFunction;" A U H
theorem vkT.moved {adK adV : Nat → Nat} {A : Nat → Prop} {u U : State} {H : Heap} (hvm : u.vm.Alike U.vm) (h : vkT adK adV A u H) : vkT adK adV A U H := ⟨vk_S.moved hvm h.1, va_Z.moved hvm h.2.1, va_Zq.moved hvm h.2.2⟩
theorem vkT.kept {adK adV : Nat → Nat} {A : Nat → Prop} {U : State} {H H1 : Heap} (h : vkT adK adV A U H) (hq : ∀ a : Nat, a < H.size → ¬ A a → H1[a]? = H[a]?) : vkT adK adV A U H1 := ⟨h.1.kept hq, h.2.1.kept hq, h.2.2.kept hq⟩
theorem vkT.narrow {adK adV : Nat → Nat} {A B : Nat → Prop} {U : State} {H : Heap} (h : vkT adK adV A U H) (hAB : ∀ q, B q → A q) : vkT adK adV B U H := ⟨h.1.narrow hAB, h.2.1.narrow hAB, h.2.2.narrow hAB⟩
def Wt (D : va_G) (cA : Nat → ClassId) (ψ : Nat → Nat → Nat) (A : Nat → Prop) (X : Nat × (Nat → Int32)) (s : State) : Prop :=
  va_K D vwCl [] s ∧ KnA cA s ∧ (∀ k : Nat, k < 11 → vk_R RX6 (six k) (stx.getD k "") (ψ 90 k) s) ∧ vkT (ψ 90) (ψ 91) A s s.heap ∧
  (X.1 = 0 ∨ (va_X (ψ 92 0) X.1 X.2 s s.heap ∧ ψ 92 0 < s.heap.size ∧ ¬ A (ψ 92 0))) ∧
  (∀ (o : String) (i : Nat) (y : MethodName) (h : String), Cond.methodLinkNest o i y h ∈ lw_tbl → va_Nw (.methodLinkNest o i y h) s) ∧ ∀ E : String, Cond.arrayOver (.object E) ∈ lw_tbl → va_AO E s
def Ex (C0 : hC) (φ0 : Nat → Nat → Nat) (C : hC) (φ : Nat → Nat → Nat) : Prop := (∀ g i : Nat, (i < C0 g ∨ C g ≤ i) → φ g i = φ0 g i) ∧ (∀ g : Nat, C0 g ≤ C g) ∧ φ 90 = φ0 90 ∧ φ 91 = φ0 91 ∧ φ 92 = φ0 92
/-- what a method stands on: the machine, its code, its class, the words, its return type, no lock, its name -/
def Mc (p : Program) (s : State) (m : MethodId) (args : Array Value) (meth : Method) (c : Code) (cc : ByteArray) (nL oc : Nat) (rt : Option FieldType) (ini : Bool) : Prop :=
  p.tables.exec = Jvm.exec ∧ c.code = cc ∧ c.maxLocals = nL ∧ s.vm.findClass (ocN oc) = some m.cls ∧ (∀ w ∈ TB, w.before args s = true) ∧ meth.sig.returnType = rt ∧ meth.locks = false ∧ (ini = true → meth.name = "<init>")
/-- locals -/
def lvL (φ : Nat → Nat → Nat) : Nat → List (Option AV) → List (Nat × Value)
  | _, [] => []
  | k, none :: r => lvL φ (k + 1) r
  | k, some v :: r => (k, cv φ v) :: lvL φ (k + 1) r
theorem lvL_mem (φ : Nat → Nat → Nat) : ∀ (ls : List (Option AV)) (b k : Nat) (v : AV), ls[k]? = some (some v) → (b + k, cv φ v) ∈ lvL φ b ls := by
  intro ls
  induction ls with
  | nil => intro b k v h; simp at h
  | cons x r ih =>
    intro b k v h
    cases k with
    | zero =>
      rw [List.getElem?_cons_zero] at h
      obtain rfl := Option.some.inj h
      exact List.mem_cons_self
    | succ k =>
      rw [List.getElem?_cons_succ] at h
      have h1 := ih (b + 1) k v h
      rw [show b + 1 + k = b + (k + 1) by omega] at h1
      cases x with
      | none => exact h1
      | some w => exact List.mem_cons_of_mem _ h1
theorem lvL_of (φ : Nat → Nat → Nat) : ∀ (ls : List (Option AV)) (b : Nat) (q : Nat × Value), q ∈ lvL φ b ls → ∃ (k : Nat) (v : AV), q = (b + k, cv φ v) ∧ ls[k]? = some (some v) := by
  intro ls
  induction ls with
  | nil => intro b q h; cases h
  | cons x r ih =>
    intro b q h
    have tl : q ∈ lvL φ (b + 1) r → ∃ (k : Nat) (v : AV), q = (b + k, cv φ v) ∧ (x :: r)[k]? = some (some v) := by
      intro h1
      obtain ⟨k, v, h2, h3⟩ := ih (b + 1) q h1
      exact ⟨k + 1, v, by rw [h2, show b + 1 + k = b + (k + 1) by omega], by rw [List.getElem?_cons_succ]; exact h3⟩
    cases x with
    | none => exact tl h
    | some w =>
      rcases List.mem_cons.mp h with h1 | h1
      · exact ⟨0, w, h1, rfl⟩
      · exact tl h1
def noL (ls : List (Option AV)) (k : Nat) : Prop := match k with
  | 0 => True
  | k + 1 => match ls[k]? with
    | some (some (.inr (.inl _))) => False
    | _ => True
theorem noL_cat {φ : Nat → Nat → Nat} {ls : List (Option AV)} {k : Nat} {v : AV} (h : noL ls (k + 1)) (hk : ls[k]? = some (some v)) : (cv φ v).category = 1 := by
  rcases v with x | y | q
  · rfl
  · simp only [noL, hk] at h
  · rfl
theorem lvL_set1 {φ : Nat → Nat → Nat} {ls : List (Option AV)} {k : Nat} (v : AV) (hn : noL ls k) : ∀ q ∈ lvL φ 0 (ls.set k (some v)), q ∈ (k, cv φ v) :: (lvL φ 0 ls).filter (fun q => !(q.1 == k) && !(q.1 + 1 == k && q.2.category == 2)) := by
  intro q hq
  obtain ⟨j, w, rfl, hj⟩ := lvL_of φ _ _ _ hq
  rw [Nat.zero_add]
  by_cases hjk : j = k
  · subst hjk
    have hl : j < ls.length := by
      have := (List.getElem?_eq_some_iff.mp hj).1
      rwa [List.length_set] at this
    rw [List.getElem?_set_self hl] at hj
    obtain rfl := Option.some.inj (Option.some.inj hj)
    exact List.mem_cons_self
  · rw [List.getElem?_set_ne (Ne.symm hjk)] at hj
    have h1 := lvL_mem φ ls 0 j w hj
    rw [Nat.zero_add] at h1
    refine List.mem_cons_of_mem _ (List.mem_filter.mpr ⟨h1, ?_⟩)
    by_cases h2 : j + 1 = k
    · subst h2
      have h3 := noL_cat (φ := φ) hn hj
      simp [h3]
    · simp [hjk, h2]
theorem lvL_set2 {φ : Nat → Nat → Nat} {ls : List (Option AV)} {k : Nat} (v : AV) (hn : noL ls k) : ∀ q ∈ lvL φ 0 ((ls.set k (some v)).set (k + 1) none), q ∈ (k, cv φ v) :: (lvL φ 0 ls).filter (fun q => !(q.1 == k) && (!(q.1 == k + 1) && !(q.1 + 1 == k && q.2.category == 2))) := by
  intro q hq
  obtain ⟨j, w, rfl, hj⟩ := lvL_of φ _ _ _ hq
  have hjk1 : j ≠ k + 1 := by
    intro e
    subst e
    have hl := (List.getElem?_eq_some_iff.mp hj).1
    rw [List.length_set] at hl
    rw [List.getElem?_set_self hl] at hj
    simp at hj
  rw [List.getElem?_set_ne (Ne.symm hjk1)] at hj
  rw [Nat.zero_add]
  by_cases hjk : j = k
  · subst hjk
    have hl : j < ls.length := by
      have := (List.getElem?_eq_some_iff.mp hj).1
      rwa [List.length_set] at this
    rw [List.getElem?_set_self hl] at hj
    obtain rfl := Option.some.inj (Option.some.inj hj)
    exact List.mem_cons_self
  · rw [List.getElem?_set_ne (Ne.symm hjk)] at hj
    have h1 := lvL_mem φ ls 0 j w hj
    rw [Nat.zero_add] at h1
    refine List.mem_cons_of_mem _ (List.mem_filter.mpr ⟨h1, ?_⟩)
    by_cases h2 : j + 1 = k
    · subst h2
      have h3 := noL_cat (φ := φ) hn hj
      simp [h3, hjk1]
    · simp [hjk, h2, hjk1]
theorem lv_mono {ls : Array Slot} {nL : Nat} {l l' : List (Nat × Value)} (h : lv_has ls nL l) (hs : ∀ q ∈ l', q ∈ l) : lv_has ls nL l' := ⟨h.1, h.2.1, fun q hq => h.2.2 q (hs q hq)⟩
theorem lv_get {φ : Nat → Nat → Nat} {lsR : Array Slot} {nL k : Nat} {ls : List (Option AV)} {v : AV} (h : lv_has lsR nL (lvL φ 0 ls)) (hk : ls[k]? = some (some v)) : lsR[k]? = some (.val (cv φ v)) := by
  have h1 := h.2.2 _ (lvL_mem φ ls 0 k v hk)
  rwa [Nat.zero_add] at h1
/-- THE JUDGEMENT: from the abstract state the machine comes to Z -/
def JW (p : Program) (l : Launch) (e : Env) (R : Room) (s : State) (m : MethodId) (args : Array Value) (below : List Frame) (meth : Method) (c : Code) (D : va_G) (cA : Nat → ClassId) (φ0 : Nat → Nat → Nat) (C0 : hC) (mc ms nL : Nat) (Z : State → Prop)
    (kc ks pc : Nat) (ls : List (Option AV)) (st : List AV) (C : hC) (I : hI) (J : hJ) (P : hP) : Prop :=
  ∀ (φ : Nat → Nat → Nat) (H : Heap) (locs : List Loc) (cells slots : Nat) (lsR : Array Slot), Ex C0 φ0 C φ → Wc D cA φ (afr C0 φ0 s.heap.size) C I J P H → va_S (afr C0 φ0 s.heap.size) s.heap H locs → lv_has lsR nL (lvL φ 0 ls) → ls.length = nL → cells + kc ≤ mc → slots + ks ≤ ms →
    W p l e R s m args below meth c H locs cells slots Z (F0 m pc lsR (st.map (cv φ)))
section JWR
variable {p : Program} {l : Launch} {e : Env} {R : Room} {s : State} {m : MethodId} {args : Array Value} {below : List Frame} {meth : Method} {c : Code} {D : va_G} {cA : Nat → ClassId} {φ0 : Nat → Nat → Nat} {C0 : hC} {mc ms nL : Nat} {Z : State → Prop} {kc ks pc : Nat} {ls : List (Option AV)} {r : List AV} {C : hC} {I : hI} {J : hJ} {P : hP} {cc : ByteArray} {oc : Nat} {rt : Option FieldType} {ini : Bool} {X : Nat × (Nat → Int32)}
theorem jw_iconst (hM : Mc p s m args meth c cc nL oc rt ini) {n : Int} {v : Int32} (hv : Int32.ofInt n = v) (hd : decode cc pc = .ok (.iconst n, 1)) (k : JW p l e R s m args below meth c D cA φ0 C0 mc ms nL Z kc ks (pc + 1) ls (vI v :: r) C I J P) : JW p l e R s m args below meth c D cA φ0 C0 mc ms nL Z kc ks pc ls (r) C I J P := fun φ H locs cells slots lsR hE hW hS hl hn hc hs => lv_iconst hM.1 hM.2.1 hd hv (k φ H locs cells slots lsR hE hW hS hl hn hc hs)
theorem jw_bipush (hM : Mc p s m args meth c cc nL oc rt ini) {n : Int} {v : Int32} (hv : (Int8.ofInt n).toInt32 = v) (hd : decode cc pc = .ok (.bipush n, 2)) (k : JW p l e R s m args below meth c D cA φ0 C0 mc ms nL Z kc ks (pc + 2) ls (vI v :: r) C I J P) : JW p l e R s m args below meth c D cA φ0 C0 mc ms nL Z kc ks pc ls (r) C I J P := fun φ H locs cells slots lsR hE hW hS hl hn hc hs => lv_bipush hM.1 hM.2.1 hd hv (k φ H locs cells slots lsR hE hW hS hl hn hc hs)
theorem jw_sipush (hM : Mc p s m args meth c cc nL oc rt ini) {n : Int} {v : Int32} (hv : (Int16.ofInt n).toInt32 = v) (hd : decode cc pc = .ok (.sipush n, 3)) (k : JW p l e R s m args below meth c D cA φ0 C0 mc ms nL Z kc ks (pc + 3) ls (vI v :: r) C I J P) : JW p l e R s m args below meth c D cA φ0 C0 mc ms nL Z kc ks pc ls (r) C I J P := fun φ H locs cells slots lsR hE hW hS hl hn hc hs => lv_sipush hM.1 hM.2.1 hd hv (k φ H locs cells slots lsR hE hW hS hl hn hc hs)
theorem jw_ldc (hM : Mc p s m args meth c cc nL oc rt ini) {n : Nat} {v : Int32} (hv : Cond.constant (ocN oc) n v ∈ TB) (hd : decode cc pc = .ok (.ldc n, 2)) (k : JW p l e R s m args below meth c D cA φ0 C0 mc ms nL Z kc ks (pc + 2) ls (vI v :: r) C I J P) : JW p l e R s m args below meth c D cA φ0 C0 mc ms nL Z kc ks pc ls (r) C I J P := fun φ H locs cells slots lsR hE hW hS hl hn hc hs => lv_ldc hM.1 hM.2.1 hM.2.2.2.1 (hM.2.2.2.2.1 _ hv) hd (k φ H locs cells slots lsR hE hW hS hl hn hc hs)
theorem jw_ldcw (hM : Mc p s m args meth c cc nL oc rt ini) {n : Nat} {v : Int32} (hv : Cond.constant (ocN oc) n v ∈ TB) (hd : decode cc pc = .ok (.ldc_w n, 3)) (k : JW p l e R s m args below meth c D cA φ0 C0 mc ms nL Z kc ks (pc + 3) ls (vI v :: r) C I J P) : JW p l e R s m args below meth c D cA φ0 C0 mc ms nL Z kc ks pc ls (r) C I J P := fun φ H locs cells slots lsR hE hW hS hl hn hc hs => lv_ldcw hM.1 hM.2.1 hM.2.2.2.1 (hM.2.2.2.2.1 _ hv) hd (k φ H locs cells slots lsR hE hW hS hl hn hc hs)
theorem jw_ldc2 (hM : Mc p s m args meth c cc nL oc rt ini) {n : Nat} {v : Int64} (hv : Cond.constantLong (ocN oc) n v ∈ TB) (hd : decode cc pc = .ok (.ldc2_w n, 3)) (k : JW p l e R s m args below meth c D cA φ0 C0 mc ms nL Z kc ks (pc + 3) ls (vL v :: r) C I J P) : JW p l e R s m args below meth c D cA φ0 C0 mc ms nL Z kc ks pc ls (r) C I J P := fun φ H locs cells slots lsR hE hW hS hl hn hc hs => lv_ldc2 hM.1 hM.2.1 hM.2.2.2.1 (hM.2.2.2.2.1 _ hv) hd (k φ H locs cells slots lsR hE hW hS hl hn hc hs)
theorem jw_lconst (hM : Mc p s m args meth c cc nL oc rt ini) {n : Fin 2} {v : Int64} (hv : Int64.ofNat (n : Nat) = v) (hd : decode cc pc = .ok (.lconst n, 1)) (k : JW p l e R s m args below meth c D cA φ0 C0 mc ms nL Z kc ks (pc + 1) ls (vL v :: r) C I J P) : JW p l e R s m args below meth c D cA φ0 C0 mc ms nL Z kc ks pc ls (r) C I J P := fun φ H locs cells slots lsR hE hW hS hl hn hc hs => lv_lconst hM.1 hM.2.1 hd hv (k φ H locs cells slots lsR hE hW hS hl hn hc hs)
theorem jw_iload_n (hM : Mc p s m args meth c cc nL oc rt ini) {k4 : Fin 4} {x : Int32} (hk : ls[(k4 : Nat)]? = some (some (vI x))) (hd : decode cc pc = .ok (.iload_n k4, 1)) (k : JW p l e R s m args below meth c D cA φ0 C0 mc ms nL Z kc ks (pc + 1) ls (vI x :: r) C I J P) : JW p l e R s m args below meth c D cA φ0 C0 mc ms nL Z kc ks pc ls (r) C I J P := fun φ H locs cells slots lsR hE hW hS hl hn hc hs => lv_iload_n hM.1 hM.2.1 hd rfl (lv_get hl hk) (k φ H locs cells slots lsR hE hW hS hl hn hc hs)
theorem jw_iload (hM : Mc p s m args meth c cc nL oc rt ini) {i : Nat} {x : Int32} (hk : ls[i]? = some (some (vI x))) (hd : decode cc pc = .ok (.iload i, 2)) (k : JW p l e R s m args below meth c D cA φ0 C0 mc ms nL Z kc ks (pc + 2) ls (vI x :: r) C I J P) : JW p l e R s m args below meth c D cA φ0 C0 mc ms nL Z kc ks pc ls (r) C I J P := fun φ H locs cells slots lsR hE hW hS hl hn hc hs => lv_iload hM.1 hM.2.1 hd (lv_get hl hk) (k φ H locs cells slots lsR hE hW hS hl hn hc hs)
theorem jw_lload_n (hM : Mc p s m args meth c cc nL oc rt ini) {k4 : Fin 4} {x : Int64} (hk : ls[(k4 : Nat)]? = some (some (vL x))) (hd : decode cc pc = .ok (.lload_n k4, 1)) (k : JW p l e R s m args below meth c D cA φ0 C0 mc ms nL Z kc ks (pc + 1) ls (vL x :: r) C I J P) : JW p l e R s m args below meth c D cA φ0 C0 mc ms nL Z kc ks pc ls (r) C I J P := fun φ H locs cells slots lsR hE hW hS hl hn hc hs => lv_lload_n hM.1 hM.2.1 hd rfl (lv_get hl hk) (k φ H locs cells slots lsR hE hW hS hl hn hc hs)
theorem jw_lload (hM : Mc p s m args meth c cc nL oc rt ini) {i : Nat} {x : Int64} (hk : ls[i]? = some (some (vL x))) (hd : decode cc pc = .ok (.lload i, 2)) (k : JW p l e R s m args below meth c D cA φ0 C0 mc ms nL Z kc ks (pc + 2) ls (vL x :: r) C I J P) : JW p l e R s m args below meth c D cA φ0 C0 mc ms nL Z kc ks pc ls (r) C I J P := fun φ H locs cells slots lsR hE hW hS hl hn hc hs => lv_lload hM.1 hM.2.1 hd (lv_get hl hk) (k φ H locs cells slots lsR hE hW hS hl hn hc hs)
theorem jw_aload_n (hM : Mc p s m args meth c cc nL oc rt ini) {k4 : Fin 4} {g i : Nat} (hk : ls[(k4 : Nat)]? = some (some (vR g i))) (hd : decode cc pc = .ok (.aload_n k4, 1)) (k : JW p l e R s m args below meth c D cA φ0 C0 mc ms nL Z kc ks (pc + 1) ls (vR g i :: r) C I J P) : JW p l e R s m args below meth c D cA φ0 C0 mc ms nL Z kc ks pc ls (r) C I J P := fun φ H locs cells slots lsR hE hW hS hl hn hc hs => lv_aload_n hM.1 hM.2.1 hd rfl (lv_get hl hk) (k φ H locs cells slots lsR hE hW hS hl hn hc hs)
theorem jw_aload (hM : Mc p s m args meth c cc nL oc rt ini) {j g i : Nat} (hk : ls[j]? = some (some (vR g i))) (hd : decode cc pc = .ok (.aload j, 2)) (k : JW p l e R s m args below meth c D cA φ0 C0 mc ms nL Z kc ks (pc + 2) ls (vR g i :: r) C I J P) : JW p l e R s m args below meth c D cA φ0 C0 mc ms nL Z kc ks pc ls (r) C I J P := fun φ H locs cells slots lsR hE hW hS hl hn hc hs => lv_aload hM.1 hM.2.1 hd (lv_get hl hk) (k φ H locs cells slots lsR hE hW hS hl hn hc hs)
theorem jw_istore_n (hM : Mc p s m args meth c cc nL oc rt ini) {k4 : Fin 4} {x : Int32} (hno : noL ls k4) (hk : (k4 : Nat) < nL) (hd : decode cc pc = .ok (.istore_n k4, 1)) (k : JW p l e R s m args below meth c D cA φ0 C0 mc ms nL Z kc ks (pc + 1) (ls.set k4 (some (vI x))) (r) C I J P) : JW p l e R s m args below meth c D cA φ0 C0 mc ms nL Z kc ks pc ls (vI x :: r) C I J P := fun φ H locs cells slots lsR hE hW hS hl hn hc hs => lv_istore_n hM.1 hM.2.1 hd rfl hl hk rfl (fun ls1 h1 => k φ H locs cells slots ls1 hE hW hS (lv_mono h1 (lvL_set1 _ hno)) (by rw [List.length_set]; exact hn) hc hs)
theorem jw_istore (hM : Mc p s m args meth c cc nL oc rt ini) {j : Nat} {x : Int32} (hno : noL ls j) (hk : j < nL) (hd : decode cc pc = .ok (.istore j, 2)) (k : JW p l e R s m args below meth c D cA φ0 C0 mc ms nL Z kc ks (pc + 2) (ls.set j (some (vI x))) (r) C I J P) : JW p l e R s m args below meth c D cA φ0 C0 mc ms nL Z kc ks pc ls (vI x :: r) C I J P := fun φ H locs cells slots lsR hE hW hS hl hn hc hs => lv_istore hM.1 hM.2.1 hd hl hk rfl (fun ls1 h1 => k φ H locs cells slots ls1 hE hW hS (lv_mono h1 (lvL_set1 _ hno)) (by rw [List.length_set]; exact hn) hc hs)
theorem jw_astore_n (hM : Mc p s m args meth c cc nL oc rt ini) {k4 : Fin 4} {g i : Nat} (hno : noL ls k4) (hk : (k4 : Nat) < nL) (hd : decode cc pc = .ok (.astore_n k4, 1)) (k : JW p l e R s m args below meth c D cA φ0 C0 mc ms nL Z kc ks (pc + 1) (ls.set k4 (some (vR g i))) (r) C I J P) : JW p l e R s m args below meth c D cA φ0 C0 mc ms nL Z kc ks pc ls (vR g i :: r) C I J P := fun φ H locs cells slots lsR hE hW hS hl hn hc hs => lv_astore_n hM.1 hM.2.1 hd rfl hl hk rfl (fun ls1 h1 => k φ H locs cells slots ls1 hE hW hS (lv_mono h1 (lvL_set1 _ hno)) (by rw [List.length_set]; exact hn) hc hs)
theorem jw_astore (hM : Mc p s m args meth c cc nL oc rt ini) {j : Nat} {g i : Nat} (hno : noL ls j) (hk : j < nL) (hd : decode cc pc = .ok (.astore j, 2)) (k : JW p l e R s m args below meth c D cA φ0 C0 mc ms nL Z kc ks (pc + 2) (ls.set j (some (vR g i))) (r) C I J P) : JW p l e R s m args below meth c D cA φ0 C0 mc ms nL Z kc ks pc ls (vR g i :: r) C I J P := fun φ H locs cells slots lsR hE hW hS hl hn hc hs => lv_astore hM.1 hM.2.1 hd hl hk rfl (fun ls1 h1 => k φ H locs cells slots ls1 hE hW hS (lv_mono h1 (lvL_set1 _ hno)) (by rw [List.length_set]; exact hn) hc hs)
theorem jw_lstore_n (hM : Mc p s m args meth c cc nL oc rt ini) {k4 : Fin 4} {x : Int64} (hno : noL ls k4) (hk : (k4 : Nat) + 1 < nL) (hd : decode cc pc = .ok (.lstore_n k4, 1)) (k : JW p l e R s m args below meth c D cA φ0 C0 mc ms nL Z kc ks (pc + 1) ((ls.set k4 (some (vL x))).set (k4 + 1) none) (r) C I J P) : JW p l e R s m args below meth c D cA φ0 C0 mc ms nL Z kc ks pc ls (vL x :: r) C I J P := fun φ H locs cells slots lsR hE hW hS hl hn hc hs => lv_lstore_n hM.1 hM.2.1 hd rfl hl hk rfl (fun ls1 h1 => k φ H locs cells slots ls1 hE hW hS (lv_mono h1 (lvL_set2 _ hno)) (by rw [List.length_set, List.length_set]; exact hn) hc hs)
theorem jw_lstore (hM : Mc p s m args meth c cc nL oc rt ini) {j : Nat} {x : Int64} (hno : noL ls j) (hk : j + 1 < nL) (hd : decode cc pc = .ok (.lstore j, 2)) (k : JW p l e R s m args below meth c D cA φ0 C0 mc ms nL Z kc ks (pc + 2) ((ls.set j (some (vL x))).set (j + 1) none) (r) C I J P) : JW p l e R s m args below meth c D cA φ0 C0 mc ms nL Z kc ks pc ls (vL x :: r) C I J P := fun φ H locs cells slots lsR hE hW hS hl hn hc hs => lv_lstore hM.1 hM.2.1 hd hl hk rfl (fun ls1 h1 => k φ H locs cells slots ls1 hE hW hS (lv_mono h1 (lvL_set2 _ hno)) (by rw [List.length_set, List.length_set]; exact hn) hc hs)
theorem jw_iinc (hM : Mc p s m args meth c cc nL oc rt ini) {j : Nat} {n : Int} {x v : Int32} (hk : ls[j]? = some (some (vI x))) (hv : x + Int32.ofInt n = v) (hno : noL ls j) (hj : j < nL) (hd : decode cc pc = .ok (.iinc j n, 3)) (k : JW p l e R s m args below meth c D cA φ0 C0 mc ms nL Z kc ks (pc + 3) (ls.set j (some (vI v))) r C I J P) : JW p l e R s m args below meth c D cA φ0 C0 mc ms nL Z kc ks pc ls r C I J P := fun φ H locs cells slots lsR hE hW hS hl hn hc hs => by
  have h0 := lvL_mem φ ls 0 j (vI x) hk
  rw [Nat.zero_add] at h0
  obtain ⟨q, hq⟩ := List.getElem?_of_mem h0
  exact lv_iinc hM.1 hM.2.1 hd hl hq hv hj rfl (fun ls1 h1 => k φ H locs cells slots ls1 hE hW hS (lv_mono h1 (lvL_set1 _ hno)) (by rw [List.length_set]; exact hn) hc hs)
theorem jw_iadd (hM : Mc p s m args meth c cc nL oc rt ini) {x y : Int32} (hd : decode cc pc = .ok (.iadd, 1)) (k : JW p l e R s m args below meth c D cA φ0 C0 mc ms nL Z kc ks (pc + 1) ls (vI (x + y) :: r) C I J P) : JW p l e R s m args below meth c D cA φ0 C0 mc ms nL Z kc ks pc ls (vI y :: vI x :: r) C I J P := fun φ H locs cells slots lsR hE hW hS hl hn hc hs => lv_iadd hM.1 hM.2.1 hd (k φ H locs cells slots lsR hE hW hS hl hn hc hs)
theorem jw_isub (hM : Mc p s m args meth c cc nL oc rt ini) {x y : Int32} (hd : decode cc pc = .ok (.isub, 1)) (k : JW p l e R s m args below meth c D cA φ0 C0 mc ms nL Z kc ks (pc + 1) ls (vI (x - y) :: r) C I J P) : JW p l e R s m args below meth c D cA φ0 C0 mc ms nL Z kc ks pc ls (vI y :: vI x :: r) C I J P := fun φ H locs cells slots lsR hE hW hS hl hn hc hs => lv_isub hM.1 hM.2.1 hd (k φ H locs cells slots lsR hE hW hS hl hn hc hs)
theorem jw_imul (hM : Mc p s m args meth c cc nL oc rt ini) {x y : Int32} (hd : decode cc pc = .ok (.imul, 1)) (k : JW p l e R s m args below meth c D cA φ0 C0 mc ms nL Z kc ks (pc + 1) ls (vI (x * y) :: r) C I J P) : JW p l e R s m args below meth c D cA φ0 C0 mc ms nL Z kc ks pc ls (vI y :: vI x :: r) C I J P := fun φ H locs cells slots lsR hE hW hS hl hn hc hs => lv_imul hM.1 hM.2.1 hd (k φ H locs cells slots lsR hE hW hS hl hn hc hs)
theorem jw_iand (hM : Mc p s m args meth c cc nL oc rt ini) {x y : Int32} (hd : decode cc pc = .ok (.iand, 1)) (k : JW p l e R s m args below meth c D cA φ0 C0 mc ms nL Z kc ks (pc + 1) ls (vI (x &&& y) :: r) C I J P) : JW p l e R s m args below meth c D cA φ0 C0 mc ms nL Z kc ks pc ls (vI y :: vI x :: r) C I J P := fun φ H locs cells slots lsR hE hW hS hl hn hc hs => lv_iand hM.1 hM.2.1 hd (k φ H locs cells slots lsR hE hW hS hl hn hc hs)
theorem jw_ior (hM : Mc p s m args meth c cc nL oc rt ini) {x y : Int32} (hd : decode cc pc = .ok (.ior, 1)) (k : JW p l e R s m args below meth c D cA φ0 C0 mc ms nL Z kc ks (pc + 1) ls (vI (x ||| y) :: r) C I J P) : JW p l e R s m args below meth c D cA φ0 C0 mc ms nL Z kc ks pc ls (vI y :: vI x :: r) C I J P := fun φ H locs cells slots lsR hE hW hS hl hn hc hs => lv_ior hM.1 hM.2.1 hd (k φ H locs cells slots lsR hE hW hS hl hn hc hs)
theorem jw_ixor (hM : Mc p s m args meth c cc nL oc rt ini) {x y : Int32} (hd : decode cc pc = .ok (.ixor, 1)) (k : JW p l e R s m args below meth c D cA φ0 C0 mc ms nL Z kc ks (pc + 1) ls (vI (x ^^^ y) :: r) C I J P) : JW p l e R s m args below meth c D cA φ0 C0 mc ms nL Z kc ks pc ls (vI y :: vI x :: r) C I J P := fun φ H locs cells slots lsR hE hW hS hl hn hc hs => lv_ixor hM.1 hM.2.1 hd (k φ H locs cells slots lsR hE hW hS hl hn hc hs)
theorem jw_ishl (hM : Mc p s m args meth c cc nL oc rt ini) {x y : Int32} (hd : decode cc pc = .ok (.ishl, 1)) (k : JW p l e R s m args below meth c D cA φ0 C0 mc ms nL Z kc ks (pc + 1) ls (vI (x <<< (y &&& 31)) :: r) C I J P) : JW p l e R s m args below meth c D cA φ0 C0 mc ms nL Z kc ks pc ls (vI y :: vI x :: r) C I J P := fun φ H locs cells slots lsR hE hW hS hl hn hc hs => lv_ishl hM.1 hM.2.1 hd (k φ H locs cells slots lsR hE hW hS hl hn hc hs)
theorem jw_ishr (hM : Mc p s m args meth c cc nL oc rt ini) {x y : Int32} (hd : decode cc pc = .ok (.ishr, 1)) (k : JW p l e R s m args below meth c D cA φ0 C0 mc ms nL Z kc ks (pc + 1) ls (vI (x >>> (y &&& 31)) :: r) C I J P) : JW p l e R s m args below meth c D cA φ0 C0 mc ms nL Z kc ks pc ls (vI y :: vI x :: r) C I J P := fun φ H locs cells slots lsR hE hW hS hl hn hc hs => lv_ishr hM.1 hM.2.1 hd (k φ H locs cells slots lsR hE hW hS hl hn hc hs)
theorem jw_iushr (hM : Mc p s m args meth c cc nL oc rt ini) {x y : Int32} (hd : decode cc pc = .ok (.iushr, 1)) (k : JW p l e R s m args below meth c D cA φ0 C0 mc ms nL Z kc ks (pc + 1) ls (vI ((x.toUInt32 >>> (y.toUInt32 &&& Int32.toUInt32 31)).toInt32) :: r) C I J P) : JW p l e R s m args below meth c D cA φ0 C0 mc ms nL Z kc ks pc ls (vI y :: vI x :: r) C I J P := fun φ H locs cells slots lsR hE hW hS hl hn hc hs => lv_iushr hM.1 hM.2.1 hd rfl (k φ H locs cells slots lsR hE hW hS hl hn hc hs)
theorem jw_idiv (hM : Mc p s m args meth c cc nL oc rt ini) {x y : Int32} (hne : ¬ y = 0) (hd : decode cc pc = .ok (.idiv, 1)) (k : JW p l e R s m args below meth c D cA φ0 C0 mc ms nL Z kc ks (pc + 1) ls (vI (x / y) :: r) C I J P) : JW p l e R s m args below meth c D cA φ0 C0 mc ms nL Z kc ks pc ls (vI y :: vI x :: r) C I J P := fun φ H locs cells slots lsR hE hW hS hl hn hc hs => lv_idiv hM.1 hM.2.1 hd hne (k φ H locs cells slots lsR hE hW hS hl hn hc hs)
theorem jw_ineg (hM : Mc p s m args meth c cc nL oc rt ini) {x : Int32} (hd : decode cc pc = .ok (.ineg, 1)) (k : JW p l e R s m args below meth c D cA φ0 C0 mc ms nL Z kc ks (pc + 1) ls (vI (-x) :: r) C I J P) : JW p l e R s m args below meth c D cA φ0 C0 mc ms nL Z kc ks pc ls (vI x :: r) C I J P := fun φ H locs cells slots lsR hE hW hS hl hn hc hs => lv_ineg hM.1 hM.2.1 hd (k φ H locs cells slots lsR hE hW hS hl hn hc hs)
theorem jw_ladd (hM : Mc p s m args meth c cc nL oc rt ini) {x y : Int64} (hd : decode cc pc = .ok (.ladd, 1)) (k : JW p l e R s m args below meth c D cA φ0 C0 mc ms nL Z kc ks (pc + 1) ls (vL (x + y) :: r) C I J P) : JW p l e R s m args below meth c D cA φ0 C0 mc ms nL Z kc ks pc ls (vL y :: vL x :: r) C I J P := fun φ H locs cells slots lsR hE hW hS hl hn hc hs => lv_ladd hM.1 hM.2.1 hd (k φ H locs cells slots lsR hE hW hS hl hn hc hs)
theorem jw_lmul (hM : Mc p s m args meth c cc nL oc rt ini) {x y : Int64} (hd : decode cc pc = .ok (.lmul, 1)) (k : JW p l e R s m args below meth c D cA φ0 C0 mc ms nL Z kc ks (pc + 1) ls (vL (x * y) :: r) C I J P) : JW p l e R s m args below meth c D cA φ0 C0 mc ms nL Z kc ks pc ls (vL y :: vL x :: r) C I J P := fun φ H locs cells slots lsR hE hW hS hl hn hc hs => lv_lmul hM.1 hM.2.1 hd (k φ H locs cells slots lsR hE hW hS hl hn hc hs)
theorem jw_ldiv (hM : Mc p s m args meth c cc nL oc rt ini) {x y : Int64} (hne : ¬ y = 0) (hd : decode cc pc = .ok (.ldiv, 1)) (k : JW p l e R s m args below meth c D cA φ0 C0 mc ms nL Z kc ks (pc + 1) ls (vL (x / y) :: r) C I J P) : JW p l e R s m args below meth c D cA φ0 C0 mc ms nL Z kc ks pc ls (vL y :: vL x :: r) C I J P := fun φ H locs cells slots lsR hE hW hS hl hn hc hs => lv_ldiv hM.1 hM.2.1 hd hne (k φ H locs cells slots lsR hE hW hS hl hn hc hs)
theorem jw_lcmp (hM : Mc p s m args meth c cc nL oc rt ini) {x y : Int64} (hd : decode cc pc = .ok (.lcmp, 1)) (k : JW p l e R s m args below meth c D cA φ0 C0 mc ms nL Z kc ks (pc + 1) ls (vI (lg_cmp x y) :: r) C I J P) : JW p l e R s m args below meth c D cA φ0 C0 mc ms nL Z kc ks pc ls (vL y :: vL x :: r) C I J P := fun φ H locs cells slots lsR hE hW hS hl hn hc hs => W.lcmp hM.1 hM.2.1 hd (k φ H locs cells slots lsR hE hW hS hl hn hc hs)
theorem jw_i2l (hM : Mc p s m args meth c cc nL oc rt ini) {x : Int32} (hd : decode cc pc = .ok (.i2l, 1)) (k : JW p l e R s m args below meth c D cA φ0 C0 mc ms nL Z kc ks (pc + 1) ls (vL x.toInt64 :: r) C I J P) : JW p l e R s m args below meth c D cA φ0 C0 mc ms nL Z kc ks pc ls (vI x :: r) C I J P := fun φ H locs cells slots lsR hE hW hS hl hn hc hs => lv_i2l hM.1 hM.2.1 hd rfl (k φ H locs cells slots lsR hE hW hS hl hn hc hs)
theorem jw_l2i (hM : Mc p s m args meth c cc nL oc rt ini) {x : Int64} (hd : decode cc pc = .ok (.l2i, 1)) (k : JW p l e R s m args below meth c D cA φ0 C0 mc ms nL Z kc ks (pc + 1) ls (vI x.toInt32 :: r) C I J P) : JW p l e R s m args below meth c D cA φ0 C0 mc ms nL Z kc ks pc ls (vL x :: r) C I J P := fun φ H locs cells slots lsR hE hW hS hl hn hc hs => lv_l2i hM.1 hM.2.1 hd rfl (k φ H locs cells slots lsR hE hW hS hl hn hc hs)
theorem jw_i2b (hM : Mc p s m args meth c cc nL oc rt ini) {x : Int32} (hd : decode cc pc = .ok (.i2b, 1)) (k : JW p l e R s m args below meth c D cA φ0 C0 mc ms nL Z kc ks (pc + 1) ls (vI x.toInt8.toInt32 :: r) C I J P) : JW p l e R s m args below meth c D cA φ0 C0 mc ms nL Z kc ks pc ls (vI x :: r) C I J P := fun φ H locs cells slots lsR hE hW hS hl hn hc hs => lv_i2b hM.1 hM.2.1 hd rfl (k φ H locs cells slots lsR hE hW hS hl hn hc hs)
def ct1 (v : AV) : Prop := match v with
  | .inr (.inl _) => False
  | _ => True
theorem ct1_cat {φ : Nat → Nat → Nat} {v : AV} (h : ct1 v) : (cv φ v).category = 1 := by
  rcases v with x | y | q
  · rfl
  · exact h.elim
  · rfl
theorem jw_dup (hM : Mc p s m args meth c cc nL oc rt ini) {v : AV} (hv : ct1 v) (hd : decode cc pc = .ok (.dup, 1)) (k : JW p l e R s m args below meth c D cA φ0 C0 mc ms nL Z kc ks (pc + 1) ls (v :: v :: r) C I J P) : JW p l e R s m args below meth c D cA φ0 C0 mc ms nL Z kc ks pc ls (v :: r) C I J P := fun φ H locs cells slots lsR hE hW hS hl hn hc hs => lv_dup hM.1 hM.2.1 hd (ct1_cat hv) (k φ H locs cells slots lsR hE hW hS hl hn hc hs)
theorem jw_pop (hM : Mc p s m args meth c cc nL oc rt ini) {v : AV} (hv : ct1 v) (hd : decode cc pc = .ok (.pop, 1)) (k : JW p l e R s m args below meth c D cA φ0 C0 mc ms nL Z kc ks (pc + 1) ls (r) C I J P) : JW p l e R s m args below meth c D cA φ0 C0 mc ms nL Z kc ks pc ls (v :: r) C I J P := fun φ H locs cells slots lsR hE hW hS hl hn hc hs => lv_pop hM.1 hM.2.1 hd (ct1_cat hv) (k φ H locs cells slots lsR hE hW hS hl hn hc hs)
theorem jw_dup2 (hM : Mc p s m args meth c cc nL oc rt ini) {v w : AV} (hv : ct1 v) (hw : ct1 w) (hd : decode cc pc = .ok (.dup2, 1)) (k : JW p l e R s m args below meth c D cA φ0 C0 mc ms nL Z kc ks (pc + 1) ls (v :: w :: v :: w :: r) C I J P) : JW p l e R s m args below meth c D cA φ0 C0 mc ms nL Z kc ks pc ls (v :: w :: r) C I J P := fun φ H locs cells slots lsR hE hW hS hl hn hc hs => lv_dup2_11 hM.1 hM.2.1 hd (ct1_cat hv) (ct1_cat hw) (k φ H locs cells slots lsR hE hW hS hl hn hc hs)
theorem jw_if_eq (hM : Mc p s m args meth c cc nL oc rt ini) {x : Int32} {off : Int} {tgt : Nat} (hd : decode cc pc = .ok (.ifCond .eq off, 3)) (ht : (pc : Int) + off = (tgt : Int)) (kt : x = 0 → JW p l e R s m args below meth c D cA φ0 C0 mc ms nL Z kc ks tgt ls r C I J P) (kf : ¬ x = 0 → JW p l e R s m args below meth c D cA φ0 C0 mc ms nL Z kc ks (pc + 3) ls r C I J P) : JW p l e R s m args below meth c D cA φ0 C0 mc ms nL Z kc ks pc ls (vI x :: r) C I J P := fun φ H locs cells slots lsR hE hW hS hl hn hc hs => lv_if_eq hM.1 hM.2.1 hd ht (fun h => kt h φ H locs cells slots lsR hE hW hS hl hn hc hs) (fun h => kf h φ H locs cells slots lsR hE hW hS hl hn hc hs)
theorem jw_icmp_eq (hM : Mc p s m args meth c cc nL oc rt ini) {x y : Int32} {off : Int} {tgt : Nat} (hd : decode cc pc = .ok (.if_icmp .eq off, 3)) (ht : (pc : Int) + off = (tgt : Int)) (kt : x = y → JW p l e R s m args below meth c D cA φ0 C0 mc ms nL Z kc ks tgt ls r C I J P) (kf : ¬ x = y → JW p l e R s m args below meth c D cA φ0 C0 mc ms nL Z kc ks (pc + 3) ls r C I J P) : JW p l e R s m args below meth c D cA φ0 C0 mc ms nL Z kc ks pc ls (vI y :: vI x :: r) C I J P := fun φ H locs cells slots lsR hE hW hS hl hn hc hs => lv_icmp_eq hM.1 hM.2.1 hd ht (fun h => kt h φ H locs cells slots lsR hE hW hS hl hn hc hs) (fun h => kf h φ H locs cells slots lsR hE hW hS hl hn hc hs)
theorem jw_if_ne (hM : Mc p s m args meth c cc nL oc rt ini) {x : Int32} {off : Int} {tgt : Nat} (hd : decode cc pc = .ok (.ifCond .ne off, 3)) (ht : (pc : Int) + off = (tgt : Int)) (kt : ¬ x = 0 → JW p l e R s m args below meth c D cA φ0 C0 mc ms nL Z kc ks tgt ls r C I J P) (kf : x = 0 → JW p l e R s m args below meth c D cA φ0 C0 mc ms nL Z kc ks (pc + 3) ls r C I J P) : JW p l e R s m args below meth c D cA φ0 C0 mc ms nL Z kc ks pc ls (vI x :: r) C I J P := fun φ H locs cells slots lsR hE hW hS hl hn hc hs => lv_if_ne hM.1 hM.2.1 hd ht (fun h => kt h φ H locs cells slots lsR hE hW hS hl hn hc hs) (fun h => kf h φ H locs cells slots lsR hE hW hS hl hn hc hs)
theorem jw_icmp_ne (hM : Mc p s m args meth c cc nL oc rt ini) {x y : Int32} {off : Int} {tgt : Nat} (hd : decode cc pc = .ok (.if_icmp .ne off, 3)) (ht : (pc : Int) + off = (tgt : Int)) (kt : ¬ x = y → JW p l e R s m args below meth c D cA φ0 C0 mc ms nL Z kc ks tgt ls r C I J P) (kf : x = y → JW p l e R s m args below meth c D cA φ0 C0 mc ms nL Z kc ks (pc + 3) ls r C I J P) : JW p l e R s m args below meth c D cA φ0 C0 mc ms nL Z kc ks pc ls (vI y :: vI x :: r) C I J P := fun φ H locs cells slots lsR hE hW hS hl hn hc hs => lv_icmp_ne hM.1 hM.2.1 hd ht (fun h => kt h φ H locs cells slots lsR hE hW hS hl hn hc hs) (fun h => kf h φ H locs cells slots lsR hE hW hS hl hn hc hs)
theorem jw_if_lt (hM : Mc p s m args meth c cc nL oc rt ini) {x : Int32} {off : Int} {tgt : Nat} (hd : decode cc pc = .ok (.ifCond .lt off, 3)) (ht : (pc : Int) + off = (tgt : Int)) (kt : x < 0 → JW p l e R s m args below meth c D cA φ0 C0 mc ms nL Z kc ks tgt ls r C I J P) (kf : ¬ x < 0 → JW p l e R s m args below meth c D cA φ0 C0 mc ms nL Z kc ks (pc + 3) ls r C I J P) : JW p l e R s m args below meth c D cA φ0 C0 mc ms nL Z kc ks pc ls (vI x :: r) C I J P := fun φ H locs cells slots lsR hE hW hS hl hn hc hs => lv_if_lt hM.1 hM.2.1 hd ht (fun h => kt h φ H locs cells slots lsR hE hW hS hl hn hc hs) (fun h => kf h φ H locs cells slots lsR hE hW hS hl hn hc hs)
theorem jw_icmp_lt (hM : Mc p s m args meth c cc nL oc rt ini) {x y : Int32} {off : Int} {tgt : Nat} (hd : decode cc pc = .ok (.if_icmp .lt off, 3)) (ht : (pc : Int) + off = (tgt : Int)) (kt : x < y → JW p l e R s m args below meth c D cA φ0 C0 mc ms nL Z kc ks tgt ls r C I J P) (kf : ¬ x < y → JW p l e R s m args below meth c D cA φ0 C0 mc ms nL Z kc ks (pc + 3) ls r C I J P) : JW p l e R s m args below meth c D cA φ0 C0 mc ms nL Z kc ks pc ls (vI y :: vI x :: r) C I J P := fun φ H locs cells slots lsR hE hW hS hl hn hc hs => lv_icmp_lt hM.1 hM.2.1 hd ht (fun h => kt h φ H locs cells slots lsR hE hW hS hl hn hc hs) (fun h => kf h φ H locs cells slots lsR hE hW hS hl hn hc hs)
theorem jw_if_ge (hM : Mc p s m args meth c cc nL oc rt ini) {x : Int32} {off : Int} {tgt : Nat} (hd : decode cc pc = .ok (.ifCond .ge off, 3)) (ht : (pc : Int) + off = (tgt : Int)) (kt : 0 ≤ x → JW p l e R s m args below meth c D cA φ0 C0 mc ms nL Z kc ks tgt ls r C I J P) (kf : ¬ 0 ≤ x → JW p l e R s m args below meth c D cA φ0 C0 mc ms nL Z kc ks (pc + 3) ls r C I J P) : JW p l e R s m args below meth c D cA φ0 C0 mc ms nL Z kc ks pc ls (vI x :: r) C I J P := fun φ H locs cells slots lsR hE hW hS hl hn hc hs => lv_if_ge hM.1 hM.2.1 hd ht (fun h => kt h φ H locs cells slots lsR hE hW hS hl hn hc hs) (fun h => kf h φ H locs cells slots lsR hE hW hS hl hn hc hs)
theorem jw_icmp_ge (hM : Mc p s m args meth c cc nL oc rt ini) {x y : Int32} {off : Int} {tgt : Nat} (hd : decode cc pc = .ok (.if_icmp .ge off, 3)) (ht : (pc : Int) + off = (tgt : Int)) (kt : y ≤ x → JW p l e R s m args below meth c D cA φ0 C0 mc ms nL Z kc ks tgt ls r C I J P) (kf : ¬ y ≤ x → JW p l e R s m args below meth c D cA φ0 C0 mc ms nL Z kc ks (pc + 3) ls r C I J P) : JW p l e R s m args below meth c D cA φ0 C0 mc ms nL Z kc ks pc ls (vI y :: vI x :: r) C I J P := fun φ H locs cells slots lsR hE hW hS hl hn hc hs => lv_icmp_ge hM.1 hM.2.1 hd ht (fun h => kt h φ H locs cells slots lsR hE hW hS hl hn hc hs) (fun h => kf h φ H locs cells slots lsR hE hW hS hl hn hc hs)
theorem jw_if_gt (hM : Mc p s m args meth c cc nL oc rt ini) {x : Int32} {off : Int} {tgt : Nat} (hd : decode cc pc = .ok (.ifCond .gt off, 3)) (ht : (pc : Int) + off = (tgt : Int)) (kt : 0 < x → JW p l e R s m args below meth c D cA φ0 C0 mc ms nL Z kc ks tgt ls r C I J P) (kf : ¬ 0 < x → JW p l e R s m args below meth c D cA φ0 C0 mc ms nL Z kc ks (pc + 3) ls r C I J P) : JW p l e R s m args below meth c D cA φ0 C0 mc ms nL Z kc ks pc ls (vI x :: r) C I J P := fun φ H locs cells slots lsR hE hW hS hl hn hc hs => lv_if_gt hM.1 hM.2.1 hd ht (fun h => kt h φ H locs cells slots lsR hE hW hS hl hn hc hs) (fun h => kf h φ H locs cells slots lsR hE hW hS hl hn hc hs)
theorem jw_icmp_gt (hM : Mc p s m args meth c cc nL oc rt ini) {x y : Int32} {off : Int} {tgt : Nat} (hd : decode cc pc = .ok (.if_icmp .gt off, 3)) (ht : (pc : Int) + off = (tgt : Int)) (kt : y < x → JW p l e R s m args below meth c D cA φ0 C0 mc ms nL Z kc ks tgt ls r C I J P) (kf : ¬ y < x → JW p l e R s m args below meth c D cA φ0 C0 mc ms nL Z kc ks (pc + 3) ls r C I J P) : JW p l e R s m args below meth c D cA φ0 C0 mc ms nL Z kc ks pc ls (vI y :: vI x :: r) C I J P := fun φ H locs cells slots lsR hE hW hS hl hn hc hs => lv_icmp_gt hM.1 hM.2.1 hd ht (fun h => kt h φ H locs cells slots lsR hE hW hS hl hn hc hs) (fun h => kf h φ H locs cells slots lsR hE hW hS hl hn hc hs)
theorem jw_if_le (hM : Mc p s m args meth c cc nL oc rt ini) {x : Int32} {off : Int} {tgt : Nat} (hd : decode cc pc = .ok (.ifCond .le off, 3)) (ht : (pc : Int) + off = (tgt : Int)) (kt : x ≤ 0 → JW p l e R s m args below meth c D cA φ0 C0 mc ms nL Z kc ks tgt ls r C I J P) (kf : ¬ x ≤ 0 → JW p l e R s m args below meth c D cA φ0 C0 mc ms nL Z kc ks (pc + 3) ls r C I J P) : JW p l e R s m args below meth c D cA φ0 C0 mc ms nL Z kc ks pc ls (vI x :: r) C I J P := fun φ H locs cells slots lsR hE hW hS hl hn hc hs => lv_if_le hM.1 hM.2.1 hd ht (fun h => kt h φ H locs cells slots lsR hE hW hS hl hn hc hs) (fun h => kf h φ H locs cells slots lsR hE hW hS hl hn hc hs)
theorem jw_icmp_le (hM : Mc p s m args meth c cc nL oc rt ini) {x y : Int32} {off : Int} {tgt : Nat} (hd : decode cc pc = .ok (.if_icmp .le off, 3)) (ht : (pc : Int) + off = (tgt : Int)) (kt : x ≤ y → JW p l e R s m args below meth c D cA φ0 C0 mc ms nL Z kc ks tgt ls r C I J P) (kf : ¬ x ≤ y → JW p l e R s m args below meth c D cA φ0 C0 mc ms nL Z kc ks (pc + 3) ls r C I J P) : JW p l e R s m args below meth c D cA φ0 C0 mc ms nL Z kc ks pc ls (vI y :: vI x :: r) C I J P := fun φ H locs cells slots lsR hE hW hS hl hn hc hs => lv_icmp_le hM.1 hM.2.1 hd ht (fun h => kt h φ H locs cells slots lsR hE hW hS hl hn hc hs) (fun h => kf h φ H locs cells slots lsR hE hW hS hl hn hc hs)
theorem jw_goto (hM : Mc p s m args meth c cc nL oc rt ini) {off : Int} {tgt : Nat} (hd : decode cc pc = .ok (.goto off, 3)) (ht : (pc : Int) + off = (tgt : Int)) (k : JW p l e R s m args below meth c D cA φ0 C0 mc ms nL Z kc ks tgt ls r C I J P) : JW p l e R s m args below meth c D cA φ0 C0 mc ms nL Z kc ks pc ls r C I J P := fun φ H locs cells slots lsR hE hW hS hl hn hc hs => lv_goto hM.1 hM.2.1 hd ht (k φ H locs cells slots lsR hE hW hS hl hn hc hs)
theorem jw_tsOut (hM : Mc p s m args meth c cc nL oc rt ini) {x : Int32} {dflt lo hi : Int} {offs : Array Int} {len tgt : Nat} (hd : decode cc pc = .ok (.tableswitch dflt lo hi offs, len)) (h : x.toInt < lo ∨ hi < x.toInt) (ht : (pc : Int) + dflt = (tgt : Int)) (k : JW p l e R s m args below meth c D cA φ0 C0 mc ms nL Z kc ks tgt ls r C I J P) : JW p l e R s m args below meth c D cA φ0 C0 mc ms nL Z kc ks pc ls (vI x :: r) C I J P := fun φ H locs cells slots lsR hE hW hS hl hn hc hs => lv_tableOut hM.1 hM.2.1 hd h ht (k φ H locs cells slots lsR hE hW hS hl hn hc hs)
theorem jw_tsIn (hM : Mc p s m args meth c cc nL oc rt ini) {x : Int32} {dflt lo hi off : Int} {offs : Array Int} {len tgt : Nat} (hd : decode cc pc = .ok (.tableswitch dflt lo hi offs, len)) (h1 : ¬ x.toInt < lo) (h2 : ¬ hi < x.toInt) (ho : offs[(x.toInt - lo).toNat]? = some off) (ht : (pc : Int) + off = (tgt : Int)) (k : JW p l e R s m args below meth c D cA φ0 C0 mc ms nL Z kc ks tgt ls r C I J P) : JW p l e R s m args below meth c D cA φ0 C0 mc ms nL Z kc ks pc ls (vI x :: r) C I J P := fun φ H locs cells slots lsR hE hW hS hl hn hc hs => lv_tableIn hM.1 hM.2.1 hd h1 h2 ho ht (k φ H locs cells slots lsR hE hW hS hl hn hc hs)
end JWR
