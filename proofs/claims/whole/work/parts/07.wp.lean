def p1 (st : List AV) (F : Int32 → List AV → Prop) : Prop := match st with
  | .inl x :: r => F x r
  | _ => False
def p2 (st : List AV) (F : Int32 → Int32 → List AV → Prop) : Prop := match st with
  | .inl y :: .inl x :: r => F x y r
  | _ => False
def q1 (st : List AV) (F : Int64 → List AV → Prop) : Prop := match st with
  | .inr (.inl x) :: r => F x r
  | _ => False
def q2 (st : List AV) (F : Int64 → Int64 → List AV → Prop) : Prop := match st with
  | .inr (.inl y) :: .inr (.inl x) :: r => F x y r
  | _ => False
def r1 (st : List AV) (F : Nat → Nat → List AV → Prop) : Prop := match st with
  | .inr (.inr q) :: r => F q.1 q.2 r
  | _ => False
/-- index on a row -/
def ri (st : List AV) (F : Int32 → Nat → Nat → List AV → Prop) : Prop := match st with
  | .inl j :: .inr (.inr q) :: r => F j q.1 q.2 r
  | _ => False
/-- a value for a field -/
def fI (st : List AV) (F : Int32 → Nat → Nat → List AV → Prop) : Prop := ri st F
def fR (st : List AV) (F : Nat → Nat → Nat → Nat → List AV → Prop) : Prop := match st with
  | .inr (.inr w) :: .inr (.inr q) :: r => F w.1 w.2 q.1 q.2 r
  | _ => False
/-- a value for a place of a row -/
def sI (st : List AV) (F : Int32 → Int32 → Nat → Nat → List AV → Prop) : Prop := match st with
  | .inl x :: .inl j :: .inr (.inr q) :: r => F x j q.1 q.2 r
  | _ => False
def sJ (st : List AV) (F : Int64 → Int32 → Nat → Nat → List AV → Prop) : Prop := match st with
  | .inr (.inl x) :: .inl j :: .inr (.inr q) :: r => F x j q.1 q.2 r
  | _ => False
def sR (st : List AV) (F : Nat → Nat → Int32 → Nat → Nat → List AV → Prop) : Prop := match st with
  | .inr (.inr w) :: .inl j :: .inr (.inr q) :: r => F w.1 w.2 j q.1 q.2 r
  | _ => False
def d1 (st : List AV) (F : AV → List AV → Prop) : Prop := match st with
  | v :: r => ct1 v ∧ F v r
  | _ => False
def d2 (st : List AV) (F : AV → AV → List AV → Prop) : Prop := match st with
  | v :: w :: r => ct1 v ∧ ct1 w ∧ F v w r
  | _ => False
def ldI (ls : List (Option AV)) (k : Nat) (F : Int32 → Prop) : Prop := match ls[k]? with
  | some (some (.inl x)) => F x
  | _ => False
def ldL (ls : List (Option AV)) (k : Nat) (F : Int64 → Prop) : Prop := match ls[k]? with
  | some (some (.inr (.inl x))) => F x
  | _ => False
def ldR (ls : List (Option AV)) (k : Nat) (F : Nat → Nat → Prop) : Prop := match ls[k]? with
  | some (some (.inr (.inr q))) => F q.1 q.2
  | _ => False
def rq (x : Option (Nat × Nat)) (F : Nat → Nat → Prop) : Prop := match x with
  | some q => F q.1 q.2
  | none => False
/-- the length of a row of that type; 0 if the group has none such -/
def arN (ty : FieldType) (g : Nat) : Nat := match gT g with
  | some (t, n) => if t = ty then n else 0
  | none => 0
def arE (g : Nat) : Nat := match gT g with
  | some (.object _, n) => n
  | _ => 0
def arC (a g : Nat) : Nat := arN (.object (ocN a)) g
theorem arN_gT {ty : FieldType} {g : Nat} {z : Int} (h0 : 0 ≤ z) (h : z < (arN ty g : Int)) : gT g = some (ty, arN ty g) := by
  unfold arN at h ⊢
  split at h
  · rename_i t n e
    by_cases q : t = ty
    · rw [e]; simp [q]
    · rw [if_neg q] at h; omega
  · omega
theorem arE_gT {g : Nat} {z : Int} (h0 : 0 ≤ z) (h : z < (arE g : Int)) : ∃ E : String, gT g = some (.object E, arE g) := by
  unfold arE at h ⊢
  split at h
  · rename_i E n e
    exact ⟨E, by rw [e]⟩
  · omega
theorem p1_e {st : List AV} {F : Int32 → List AV → Prop} (h : p1 st F) : ∃ (x : Int32) (r : List AV), st = vI x :: r ∧ F x r := by
  unfold p1 at h
  split at h
  · exact ⟨_, _, rfl, h⟩
  · exact h.elim
theorem p2_e {st : List AV} {F : Int32 → Int32 → List AV → Prop} (h : p2 st F) : ∃ (x y : Int32) (r : List AV), st = vI y :: vI x :: r ∧ F x y r := by
  unfold p2 at h
  split at h
  · exact ⟨_, _, _, rfl, h⟩
  · exact h.elim
theorem q1_e {st : List AV} {F : Int64 → List AV → Prop} (h : q1 st F) : ∃ (x : Int64) (r : List AV), st = vL x :: r ∧ F x r := by
  unfold q1 at h
  split at h
  · exact ⟨_, _, rfl, h⟩
  · exact h.elim
theorem q2_e {st : List AV} {F : Int64 → Int64 → List AV → Prop} (h : q2 st F) : ∃ (x y : Int64) (r : List AV), st = vL y :: vL x :: r ∧ F x y r := by
  unfold q2 at h
  split at h
  · exact ⟨_, _, _, rfl, h⟩
  · exact h.elim
theorem r1_e {st : List AV} {F : Nat → Nat → List AV → Prop} (h : r1 st F) : ∃ (g i : Nat) (r : List AV), st = vR g i :: r ∧ F g i r := by
  unfold r1 at h
  split at h
  · exact ⟨_, _, _, rfl, h⟩
  · exact h.elim
theorem ri_e {st : List AV} {F : Int32 → Nat → Nat → List AV → Prop} (h : ri st F) : ∃ (j : Int32) (g i : Nat) (r : List AV), st = vI j :: vR g i :: r ∧ F j g i r := by
  unfold ri at h
  split at h
  · exact ⟨_, _, _, _, rfl, h⟩
  · exact h.elim
theorem fR_e {st : List AV} {F : Nat → Nat → Nat → Nat → List AV → Prop} (h : fR st F) : ∃ (u w g i : Nat) (r : List AV), st = vR u w :: vR g i :: r ∧ F u w g i r := by
  unfold fR at h
  split at h
  · exact ⟨_, _, _, _, _, rfl, h⟩
  · exact h.elim
theorem sI_e {st : List AV} {F : Int32 → Int32 → Nat → Nat → List AV → Prop} (h : sI st F) : ∃ (x j : Int32) (g i : Nat) (r : List AV), st = vI x :: vI j :: vR g i :: r ∧ F x j g i r := by
  unfold sI at h
  split at h
  · exact ⟨_, _, _, _, _, rfl, h⟩
  · exact h.elim
theorem sJ_e {st : List AV} {F : Int64 → Int32 → Nat → Nat → List AV → Prop} (h : sJ st F) : ∃ (x : Int64) (j : Int32) (g i : Nat) (r : List AV), st = vL x :: vI j :: vR g i :: r ∧ F x j g i r := by
  unfold sJ at h
  split at h
  · exact ⟨_, _, _, _, _, rfl, h⟩
  · exact h.elim
theorem sR_e {st : List AV} {F : Nat → Nat → Int32 → Nat → Nat → List AV → Prop} (h : sR st F) : ∃ (u w : Nat) (j : Int32) (g i : Nat) (r : List AV), st = vR u w :: vI j :: vR g i :: r ∧ F u w j g i r := by
  unfold sR at h
  split at h
  · exact ⟨_, _, _, _, _, _, rfl, h⟩
  · exact h.elim
theorem d1_e {st : List AV} {F : AV → List AV → Prop} (h : d1 st F) : ∃ (v : AV) (r : List AV), st = v :: r ∧ ct1 v ∧ F v r := by
  unfold d1 at h
  split at h
  · exact ⟨_, _, rfl, h⟩
  · exact h.elim
theorem d2_e {st : List AV} {F : AV → AV → List AV → Prop} (h : d2 st F) : ∃ (v w : AV) (r : List AV), st = v :: w :: r ∧ ct1 v ∧ ct1 w ∧ F v w r := by
  unfold d2 at h
  split at h
  · exact ⟨_, _, _, rfl, h⟩
  · exact h.elim
theorem ldI_e {ls : List (Option AV)} {k : Nat} {F : Int32 → Prop} (h : ldI ls k F) : ∃ x : Int32, ls[k]? = some (some (vI x)) ∧ F x := by
  unfold ldI at h
  split at h
  · exact ⟨_, by assumption, h⟩
  · exact h.elim
theorem ldL_e {ls : List (Option AV)} {k : Nat} {F : Int64 → Prop} (h : ldL ls k F) : ∃ x : Int64, ls[k]? = some (some (vL x)) ∧ F x := by
  unfold ldL at h
  split at h
  · exact ⟨_, by assumption, h⟩
  · exact h.elim
theorem ldR_e {ls : List (Option AV)} {k : Nat} {F : Nat → Nat → Prop} (h : ldR ls k F) : ∃ g i : Nat, ls[k]? = some (some (vR g i)) ∧ F g i := by
  unfold ldR at h
  split at h
  · exact ⟨_, _, by assumption, h⟩
  · exact h.elim
theorem rq_e {x : Option (Nat × Nat)} {F : Nat → Nat → Prop} (h : rq x F) : ∃ g i : Nat, x = some (g, i) ∧ F g i := by
  unfold rq at h
  split at h
  · exact ⟨_, _, rfl, h⟩
  · exact h.elim
theorem lt_of_get {ls : List (Option AV)} {k : Nat} {v : Option AV} (h : ls[k]? = some v) : k < ls.length := (List.getElem?_eq_some_iff.mp h).1
def brc (cd : Jvm.ClassFile.Cond) (x y : Int32) (T F : Prop) : Prop := match cd with
  | .eq => (x = y → T) ∧ (¬ x = y → F)
  | .ne => (¬ x = y → T) ∧ (x = y → F)
  | .lt => (x < y → T) ∧ (¬ x < y → F)
  | .ge => (y ≤ x → T) ∧ (¬ y ≤ x → F)
  | .gt => (y < x → T) ∧ (¬ y < x → F)
  | .le => (x ≤ y → T) ∧ (¬ x ≤ y → F)
abbrev KT : Type := Nat → List (Option AV) → List AV → hC → hI → hJ → hP → Prop
/-- what a stretch of resolved instructions needs, so that each end of it comes to K, each return to Q.
  iconst: every int constant; jsr: a long one; iload, lload, aload, istore ..: with or without a short form; getfield, putfield: an int's field, checkcast: a boolean's store, getstatic, putstatic: a reference's; caload, castore: a boolean row's; freturn: a boolean's return; targets are places -/
def wp (Q : QT) (K : KT) (X : Nat × (Nat → Int32)) : List (Instr × Nat) → Nat → List (Option AV) → List AV → hC → hI → hJ → hP → Prop
  | [], pc, ls, st, C, I, J, P => K pc ls st C I J P
  | (v, n) :: is, pc, ls, st, C, I, J, P => match v with
    | .iconst z => wp Q K X is (pc + n) ls (vI (Int32.ofInt z) :: st) C I J P
    | .jsr z => wp Q K X is (pc + n) ls (vL (Int64.ofInt z) :: st) C I J P
    | .iload k => ldI ls k (fun x => wp Q K X is (pc + n) ls (vI x :: st) C I J P)
    | .lload k => ldL ls k (fun x => wp Q K X is (pc + n) ls (vL x :: st) C I J P)
    | .aload k => ldR ls k (fun g i => wp Q K X is (pc + n) ls (vR g i :: st) C I J P)
    | .istore k => p1 st (fun x r => noL ls k ∧ k < ls.length ∧ wp Q K X is (pc + n) (ls.set k (some (vI x))) (r) C I J P)
    | .astore k => r1 st (fun g i r => noL ls k ∧ k < ls.length ∧ wp Q K X is (pc + n) (ls.set k (some (vR g i))) (r) C I J P)
    | .lstore k => q1 st (fun x r => noL ls k ∧ k + 1 < ls.length ∧ wp Q K X is (pc + n) ((ls.set k (some (vL x))).set (k + 1) none) (r) C I J P)
    | .iinc k z => ldI ls k (fun x => noL ls k ∧ wp Q K X is (pc + n) (ls.set k (some (vI (x + Int32.ofInt z)))) (st) C I J P)
    | .iadd => p2 st (fun x y r => wp Q K X is (pc + n) ls (vI (x + y) :: r) C I J P)
    | .isub => p2 st (fun x y r => wp Q K X is (pc + n) ls (vI (x - y) :: r) C I J P)
    | .imul => p2 st (fun x y r => wp Q K X is (pc + n) ls (vI (x * y) :: r) C I J P)
    | .iand => p2 st (fun x y r => wp Q K X is (pc + n) ls (vI (x &&& y) :: r) C I J P)
    | .ior => p2 st (fun x y r => wp Q K X is (pc + n) ls (vI (x ||| y) :: r) C I J P)
    | .ixor => p2 st (fun x y r => wp Q K X is (pc + n) ls (vI (x ^^^ y) :: r) C I J P)
    | .ishl => p2 st (fun x y r => wp Q K X is (pc + n) ls (vI (x <<< (y &&& 31)) :: r) C I J P)
    | .ishr => p2 st (fun x y r => wp Q K X is (pc + n) ls (vI (x >>> (y &&& 31)) :: r) C I J P)
    | .iushr => p2 st (fun x y r => wp Q K X is (pc + n) ls (vI ((x.toUInt32 >>> (y.toUInt32 &&& Int32.toUInt32 31)).toInt32) :: r) C I J P)
    | .idiv => p2 st (fun x y r => ¬ y = 0 ∧ wp Q K X is (pc + n) ls (vI (x / y) :: r) C I J P)
    | .ineg => p1 st (fun x r => wp Q K X is (pc + n) ls (vI (-x) :: r) C I J P)
    | .i2l => p1 st (fun x r => wp Q K X is (pc + n) ls (vL x.toInt64 :: r) C I J P)
    | .i2b => p1 st (fun x r => wp Q K X is (pc + n) ls (vI x.toInt8.toInt32 :: r) C I J P)
    | .l2i => q1 st (fun x r => wp Q K X is (pc + n) ls (vI x.toInt32 :: r) C I J P)
    | .ladd => q2 st (fun x y r => wp Q K X is (pc + n) ls (vL (x + y) :: r) C I J P)
    | .lmul => q2 st (fun x y r => wp Q K X is (pc + n) ls (vL (x * y) :: r) C I J P)
    | .lcmp => q2 st (fun x y r => wp Q K X is (pc + n) ls (vI (lg_cmp x y) :: r) C I J P)
    | .ldiv => q2 st (fun x y r => ¬ y = 0 ∧ wp Q K X is (pc + n) ls (vL (x / y) :: r) C I J P)
    | .dup => d1 st (fun v r => wp Q K X is (pc + n) ls (v :: v :: r) C I J P)
    | .pop => d1 st (fun v r => wp Q K X is (pc + n) ls (r) C I J P)
    | .dup2 => d2 st (fun v w r => wp Q K X is (pc + n) ls (v :: w :: v :: w :: r) C I J P)
    | .if_icmp cd z => p2 st (fun x y r => brc cd x y (K z.toNat ls r C I J P) (wp Q K X is (pc + n) ls (r) C I J P))
    | .ifCond cd z => p1 st (fun x r => brc cd x 0 (K z.toNat ls r C I J P) (wp Q K X is (pc + n) ls (r) C I J P))
    | .goto z => K z.toNat ls st C I J P
    | .getfield v => r1 st (fun g i r => g = v / 64 ∧ i < C g ∧ wp Q K X is (pc + n) ls (vI (I g i (v % 64)) :: r) C I J P)
    | .getstatic v => r1 st (fun g i r => g = v / 64 ∧ i < C g ∧ rq (P g i (v % 64)) (fun a b => wp Q K X is (pc + n) ls (vR a b :: r) C I J P))
    | .putfield v => ri st (fun x g i r => g = v / 64 ∧ i < C g ∧ wp Q K X is (pc + n) ls (r) C (u3 I g i (v % 64) x) J P)
    | .checkcast v => ri st (fun x g i r => g = v / 64 ∧ i < C g ∧ (x = 0 ∨ x = 1) ∧ wp Q K X is (pc + n) ls (r) C (u3 I g i (v % 64) x) J P)
    | .putstatic v => fR st (fun a b g i r => g = v / 64 ∧ i < C g ∧ wp Q K X is (pc + n) ls (r) C I J (u3 P g i (v % 64) (some (a, b))))
    | .iaload => ri st (fun j g i r => if g = 92 then i = 0 ∧ 0 ≤ j.toInt ∧ j.toInt < (X.1 : Int) ∧ wp Q K X is (pc + n) ls (vI (X.2 j.toNatClampNeg) :: r) C I J P else i < C g ∧ 0 ≤ j.toInt ∧ j.toInt < (arN .int g : Int) ∧ wp Q K X is (pc + n) ls (vI (I g i j.toNatClampNeg) :: r) C I J P)
    | .baload => ri st (fun j g i r => i < C g ∧ 0 ≤ j.toInt ∧ j.toInt < (arN .byte g : Int) ∧ wp Q K X is (pc + n) ls (vI (I g i j.toNatClampNeg) :: r) C I J P)
    | .caload => ri st (fun j g i r => i < C g ∧ 0 ≤ j.toInt ∧ j.toInt < (arN .boolean g : Int) ∧ wp Q K X is (pc + n) ls (vI (I g i j.toNatClampNeg) :: r) C I J P)
    | .laload => ri st (fun j g i r => i < C g ∧ 0 ≤ j.toInt ∧ j.toInt < (arN .long g : Int) ∧ wp Q K X is (pc + n) ls (vL (J g i j.toNatClampNeg) :: r) C I J P)
    | .aaload => ri st (fun j g i r => i < C g ∧ 0 ≤ j.toInt ∧ j.toInt < (arE g : Int) ∧ rq (P g i j.toNatClampNeg) (fun a b => wp Q K X is (pc + n) ls (vR a b :: r) C I J P))
    | .iastore => sI st (fun x j g i r => i < C g ∧ 0 ≤ j.toInt ∧ j.toInt < (arN .int g : Int) ∧ wp Q K X is (pc + n) ls (r) C (u3 I g i j.toNatClampNeg x) J P)
    | .bastore => sI st (fun x j g i r => i < C g ∧ 0 ≤ j.toInt ∧ j.toInt < (arN .byte g : Int) ∧ wp Q K X is (pc + n) ls (r) C (u3 I g i j.toNatClampNeg (vp_nar .byte x)) J P)
    | .castore => sI st (fun x j g i r => i < C g ∧ 0 ≤ j.toInt ∧ j.toInt < (arN .boolean g : Int) ∧ wp Q K X is (pc + n) ls (r) C (u3 I g i j.toNatClampNeg (vp_nar .boolean x)) J P)
    | .lastore => sJ st (fun x j g i r => i < C g ∧ 0 ≤ j.toInt ∧ j.toInt < (arN .long g : Int) ∧ wp Q K X is (pc + n) ls (r) C I (u3 J g i j.toNatClampNeg x) P)
    | .aastore => sR st (fun a b j g i r => a < 9 ∧ b < C a ∧ i < C g ∧ 0 ≤ j.toInt ∧ j.toInt < (arC a g : Int) ∧ wp Q K X is (pc + n) ls (r) C I J (u3 P g i j.toNatClampNeg (some (a, b))))
    | .ireturn => p1 st (fun x r => r = [] ∧ Q (some (vI x)) C I J P)
    | .freturn => p1 st (fun x r => r = [] ∧ (x = 0 ∨ x = 1) ∧ Q (some (vI x)) C I J P)
    | .lreturn => q1 st (fun x r => r = [] ∧ Q (some (vL x)) C I J P)
    | .areturn => r1 st (fun g i r => r = [] ∧ Q (some (vR g i)) C I J P)
    | .return_ => st = [] ∧ Q none C I J P
    | _ => False
def rsv (oc : Nat) (rt : Option FieldType) (ini : Bool) (pc n : Nat) (r v : Instr) : Bool := match v with
    | .iconst z => (match r with
      | .iconst a => decide (n = 1) && decide (Int32.ofInt a = Int32.ofInt z)
      | .bipush a => decide (n = 2) && decide ((Int8.ofInt a).toInt32 = Int32.ofInt z)
      | .sipush a => decide (n = 3) && decide ((Int16.ofInt a).toInt32 = Int32.ofInt z)
      | .ldc a => decide (n = 2) && decide (cL oc a = some z)
      | .ldc_w a => decide (n = 3) && decide (cL oc a = some z)
      | _ => false)
    | .jsr z => (match r with
      | .lconst a => decide (n = 1) && decide (Int64.ofNat (a : Nat) = Int64.ofInt z)
      | .ldc2_w a => decide (n = 3) && decide (clL oc a = some z)
      | _ => false)
    | .iload k => (match r with
      | .iload_n a => decide (n = 1) && decide ((a : Nat) = k)
      | .iload a => decide (n = 2) && decide (a = k)
      | _ => false)
    | .lload k => (match r with
      | .lload_n a => decide (n = 1) && decide ((a : Nat) = k)
      | .lload a => decide (n = 2) && decide (a = k)
      | _ => false)
    | .aload k => (match r with
      | .aload_n a => decide (n = 1) && decide ((a : Nat) = k)
      | .aload a => decide (n = 2) && decide (a = k)
      | _ => false)
    | .istore k => (match r with
      | .istore_n a => decide (n = 1) && decide ((a : Nat) = k)
      | .istore a => decide (n = 2) && decide (a = k)
      | _ => false)
    | .astore k => (match r with
      | .astore_n a => decide (n = 1) && decide ((a : Nat) = k)
      | .astore a => decide (n = 2) && decide (a = k)
      | _ => false)
    | .lstore k => (match r with
      | .lstore_n a => decide (n = 1) && decide ((a : Nat) = k)
      | .lstore a => decide (n = 2) && decide (a = k)
      | _ => false)
    | .iinc k z => decide (n = 3) && decide (r = .iinc k z)
    | .iadd => decide (n = 1) && decide (r = .iadd)
    | .isub => decide (n = 1) && decide (r = .isub)
    | .imul => decide (n = 1) && decide (r = .imul)
    | .iand => decide (n = 1) && decide (r = .iand)
    | .ior => decide (n = 1) && decide (r = .ior)
    | .ixor => decide (n = 1) && decide (r = .ixor)
    | .ishl => decide (n = 1) && decide (r = .ishl)
    | .ishr => decide (n = 1) && decide (r = .ishr)
    | .iushr => decide (n = 1) && decide (r = .iushr)
    | .idiv => decide (n = 1) && decide (r = .idiv)
    | .ineg => decide (n = 1) && decide (r = .ineg)
    | .i2l => decide (n = 1) && decide (r = .i2l)
    | .i2b => decide (n = 1) && decide (r = .i2b)
    | .l2i => decide (n = 1) && decide (r = .l2i)
    | .ladd => decide (n = 1) && decide (r = .ladd)
    | .lmul => decide (n = 1) && decide (r = .lmul)
    | .lcmp => decide (n = 1) && decide (r = .lcmp)
    | .ldiv => decide (n = 1) && decide (r = .ldiv)
    | .dup => decide (n = 1) && decide (r = .dup)
    | .pop => decide (n = 1) && decide (r = .pop)
    | .dup2 => decide (n = 1) && decide (r = .dup2)
    | .if_icmp cd z => decide (n = 3) && decide (0 ≤ z) && decide (r = .if_icmp cd (z - pc))
    | .ifCond cd z => decide (n = 3) && decide (0 ≤ z) && decide (r = .ifCond cd (z - pc))
    | .goto z => decide (n = 3) && decide (0 ≤ z) && decide (r = .goto (z - pc))
    | .getfield v => (match r with
      | .getfield a => decide (n = 3) && decide (fL oc a = some v) && decide (isRf (tyV (v / 64) (v % 64)) = false)
      | _ => false)
    | .getstatic v => (match r with
      | .getfield a => decide (n = 3) && decide (fL oc a = some v) && decide (isRf (tyV (v / 64) (v % 64)) = true)
      | _ => false)
    | .putfield v => (match r with
      | .putfield a => decide (n = 3) && decide (fL oc a = some v) && decide (tyV (v / 64) (v % 64) = .int) && decide ((TV (v / 64) (v % 64)).2.2.2 = false ∨ (ini = true ∧ oc = v / 64))
      | _ => false)
    | .checkcast v => (match r with
      | .putfield a => decide (n = 3) && decide (fL oc a = some v) && decide (tyV (v / 64) (v % 64) = .boolean) && decide ((TV (v / 64) (v % 64)).2.2.2 = false ∨ (ini = true ∧ oc = v / 64))
      | _ => false)
    | .putstatic v => (match r with
      | .putfield a => decide (n = 3) && decide (fL oc a = some v) && decide (isRf (tyV (v / 64) (v % 64)) = true) && decide ((TV (v / 64) (v % 64)).2.2.2 = false ∨ (ini = true ∧ oc = v / 64))
      | _ => false)
    | .iaload => decide (n = 1) && decide (r = .iaload)
    | .baload => decide (n = 1) && decide (r = .baload)
    | .caload => decide (n = 1) && decide (r = .baload)
    | .laload => decide (n = 1) && decide (r = .laload)
    | .aaload => decide (n = 1) && decide (r = .aaload)
    | .iastore => decide (n = 1) && decide (r = .iastore)
    | .bastore => decide (n = 1) && decide (r = .bastore)
    | .castore => decide (n = 1) && decide (r = .bastore)
    | .lastore => decide (n = 1) && decide (r = .lastore)
    | .aastore => decide (n = 1) && decide (r = .aastore)
    | .ireturn => decide (n = 1) && decide (rt = some .int) && decide (r = .ireturn)
    | .freturn => decide (n = 1) && decide (rt = some .boolean) && decide (r = .ireturn)
    | .lreturn => decide (n = 1) && decide (rt = some .long) && decide (r = .lreturn)
    | .areturn => decide (n = 1) && (match rt with | some t => isRf t | none => false) && decide (r = .areturn)
    | .return_ => decide (n = 1) && decide (rt = none) && decide (r = .return_)
    | _ => false
def Blk (cc : ByteArray) (oc : Nat) (rt : Option FieldType) (ini : Bool) : Nat → List (Instr × Nat) → Bool
  | _, [] => true
  | pc, (v, n) :: is => (match decode cc pc with
    | .ok (r, k) => decide (k = n) && rsv oc rt ini pc n r v
    | _ => false) && Blk cc oc rt ini (pc + n) is
def RT (cc : ByteArray) (rt : Option FieldType) (pc : Nat) (v : Option AV) : Prop := match v with
  | none => decode cc pc = .ok (.return_, 1) ∧ rt = none
  | some (.inl x) => decode cc pc = .ok (.ireturn, 1) ∧ (rt = some .int ∨ (rt = some .boolean ∧ (x = 0 ∨ x = 1)))
  | some (.inr (.inl _)) => decode cc pc = .ok (.lreturn, 1) ∧ rt = some .long
  | some (.inr (.inr _)) => decode cc pc = .ok (.areturn, 1) ∧ ∃ t : FieldType, rt = some t ∧ isRf t = true
section JWW
variable {p : Program} {l : Launch} {e : Env} {R : Room} {s : State} {m : MethodId} {args : Array Value} {below : List Frame} {meth : Method} {c : Code} {D : va_G} {cA : Nat → ClassId} {φ0 : Nat → Nat → Nat} {C0 : hC} {mc ms nL : Nat} {Z : State → Prop} {kc ks pc : Nat} {ls : List (Option AV)} {r : List AV} {C : hC} {I : hI} {J : hJ} {P : hP} {cc : ByteArray} {oc : Nat} {rt : Option FieldType} {ini : Bool} {X : Nat × (Nat → Int32)}
theorem jw_len {st : List AV} (k : ls.length = nL → JW p l e R s m args below meth c D cA φ0 C0 mc ms nL Z kc ks pc ls st C I J P) : JW p l e R s m args below meth c D cA φ0 C0 mc ms nL Z kc ks pc ls st C I J P := fun φ H locs cells slots lsR hE hW hS hl hn hc hs => k hn φ H locs cells slots lsR hE hW hS hl hn hc hs
set_option maxHeartbeats 4000000 in
theorem wp_sound {Q : QT} {K : KT} (hM : Mc p s m args meth c cc nL oc rt ini) (hT : Wt D cA φ0 (afr C0 φ0 s.heap.size) X s) (hR : ∀ (v : Option AV) (pc : Nat) (ls : List (Option AV)) (C : hC) (I : hI) (J : hJ) (P : hP), Q v C I J P → RT cc rt pc v → JW p l e R s m args below meth c D cA φ0 C0 mc ms nL Z kc ks pc ls v.toList C I J P) (hK : ∀ (pc : Nat) (ls : List (Option AV)) (st : List AV) (C : hC) (I : hI) (J : hJ) (P : hP), K pc ls st C I J P → JW p l e R s m args below meth c D cA φ0 C0 mc ms nL Z kc ks pc ls st C I J P) :
    ∀ (is : List (Instr × Nat)) (pc : Nat) (ls : List (Option AV)) (st : List AV) (C : hC) (I : hI) (J : hJ) (P : hP), Blk cc oc rt ini pc is = true → wp Q K X is pc ls st C I J P → JW p l e R s m args below meth c D cA φ0 C0 mc ms nL Z kc ks pc ls st C I J P := by
  intro is
  induction is with
  | nil => intro pc ls st C I J P _ hw; exact hK pc ls st C I J P hw
  | cons a is ih0 =>
    obtain ⟨v, n⟩ := a
    intro pc ls st C I J P hB hw0
    have ih := fun ls st C I J P pc hB hw => ih0 pc ls st C I J P hB hw
    rw [Blk, Bool.and_eq_true] at hB
    obtain ⟨hr, hB⟩ := hB
    split at hr
    case h_2 => cases hr
    rename_i r n0 hd
    rw [Bool.and_eq_true, decide_eq_true_eq] at hr
    obtain ⟨rfl, hr⟩ := hr
    cases v with
    | iconst z =>
      have hw : wp Q K X is (pc + n0) ls (vI (Int32.ofInt z) :: st) C I J P := hw0
      clear hw0
      dsimp only [rsv] at hr
      split at hr
      · simp only [Bool.and_eq_true, decide_eq_true_eq] at hr; obtain ⟨rfl, h2⟩ := hr; exact jw_iconst hM h2 hd (ih _ _ _ _ _ _ _ hB hw)
      · simp only [Bool.and_eq_true, decide_eq_true_eq] at hr; obtain ⟨rfl, h2⟩ := hr; exact jw_bipush hM h2 hd (ih _ _ _ _ _ _ _ hB hw)
      · simp only [Bool.and_eq_true, decide_eq_true_eq] at hr; obtain ⟨rfl, h2⟩ := hr; exact jw_sipush hM h2 hd (ih _ _ _ _ _ _ _ hB hw)
      · simp only [Bool.and_eq_true, decide_eq_true_eq] at hr; obtain ⟨rfl, h2⟩ := hr; exact jw_ldc hM (cL_ok h2) hd (ih _ _ _ _ _ _ _ hB hw)
      · simp only [Bool.and_eq_true, decide_eq_true_eq] at hr; obtain ⟨rfl, h2⟩ := hr; exact jw_ldcw hM (cL_ok h2) hd (ih _ _ _ _ _ _ _ hB hw)
      · cases hr
    | jsr z =>
      have hw : wp Q K X is (pc + n0) ls (vL (Int64.ofInt z) :: st) C I J P := hw0
      clear hw0
      dsimp only [rsv] at hr
      split at hr
      · simp only [Bool.and_eq_true, decide_eq_true_eq] at hr; obtain ⟨rfl, h2⟩ := hr; exact jw_lconst hM h2 hd (ih _ _ _ _ _ _ _ hB hw)
      · simp only [Bool.and_eq_true, decide_eq_true_eq] at hr; obtain ⟨rfl, h2⟩ := hr; exact jw_ldc2 hM (clL_ok h2) hd (ih _ _ _ _ _ _ _ hB hw)
      · cases hr
    | iload k =>
      have hw : ldI ls k (fun x => wp Q K X is (pc + n0) ls (vI x :: st) C I J P) := hw0
      clear hw0
      dsimp only [rsv] at hr
      obtain ⟨x, hk, hw2⟩ := ldI_e hw
      clear hw
      have hw := hw2
      clear hw2
      split at hr
      · simp only [Bool.and_eq_true, decide_eq_true_eq] at hr; obtain ⟨rfl, rfl⟩ := hr; exact jw_iload_n hM hk hd (ih _ _ _ _ _ _ _ hB hw)
      · simp only [Bool.and_eq_true, decide_eq_true_eq] at hr; obtain ⟨rfl, rfl⟩ := hr; exact jw_iload hM hk hd (ih _ _ _ _ _ _ _ hB hw)
      · cases hr
    | lload k =>
      have hw : ldL ls k (fun x => wp Q K X is (pc + n0) ls (vL x :: st) C I J P) := hw0
      clear hw0
      dsimp only [rsv] at hr
      obtain ⟨x, hk, hw2⟩ := ldL_e hw
      clear hw
      have hw := hw2
      clear hw2
      split at hr
      · simp only [Bool.and_eq_true, decide_eq_true_eq] at hr; obtain ⟨rfl, rfl⟩ := hr; exact jw_lload_n hM hk hd (ih _ _ _ _ _ _ _ hB hw)
      · simp only [Bool.and_eq_true, decide_eq_true_eq] at hr; obtain ⟨rfl, rfl⟩ := hr; exact jw_lload hM hk hd (ih _ _ _ _ _ _ _ hB hw)
      · cases hr
    | aload k =>
      have hw : ldR ls k (fun g i => wp Q K X is (pc + n0) ls (vR g i :: st) C I J P) := hw0
      clear hw0
      dsimp only [rsv] at hr
      obtain ⟨g, i, hk, hw2⟩ := ldR_e hw
      clear hw
      have hw := hw2
      clear hw2
      split at hr
      · simp only [Bool.and_eq_true, decide_eq_true_eq] at hr; obtain ⟨rfl, rfl⟩ := hr; exact jw_aload_n hM hk hd (ih _ _ _ _ _ _ _ hB hw)
      · simp only [Bool.and_eq_true, decide_eq_true_eq] at hr; obtain ⟨rfl, rfl⟩ := hr; exact jw_aload hM hk hd (ih _ _ _ _ _ _ _ hB hw)
      · cases hr
    | istore k =>
      have hw : p1 st (fun x r => noL ls k ∧ k < ls.length ∧ wp Q K X is (pc + n0) (ls.set k (some (vI x))) (r) C I J P) := hw0
      clear hw0
      dsimp only [rsv] at hr
      obtain ⟨x, r, rfl, hno, hk, hw2⟩ := p1_e hw
      clear hw
      have hw := hw2
      clear hw2
      refine jw_len (fun hln => ?_)
      split at hr
      · simp only [Bool.and_eq_true, decide_eq_true_eq] at hr; obtain ⟨rfl, rfl⟩ := hr; exact jw_istore_n hM hno (by omega) hd (ih _ _ _ _ _ _ _ hB hw)
      · simp only [Bool.and_eq_true, decide_eq_true_eq] at hr; obtain ⟨rfl, rfl⟩ := hr; exact jw_istore hM hno (by omega) hd (ih _ _ _ _ _ _ _ hB hw)
      · cases hr
    | astore k =>
      have hw : r1 st (fun g i r => noL ls k ∧ k < ls.length ∧ wp Q K X is (pc + n0) (ls.set k (some (vR g i))) (r) C I J P) := hw0
      clear hw0
      dsimp only [rsv] at hr
      obtain ⟨g, i, r, rfl, hno, hk, hw2⟩ := r1_e hw
      clear hw
      have hw := hw2
      clear hw2
      refine jw_len (fun hln => ?_)
      split at hr
      · simp only [Bool.and_eq_true, decide_eq_true_eq] at hr; obtain ⟨rfl, rfl⟩ := hr; exact jw_astore_n hM hno (by omega) hd (ih _ _ _ _ _ _ _ hB hw)
      · simp only [Bool.and_eq_true, decide_eq_true_eq] at hr; obtain ⟨rfl, rfl⟩ := hr; exact jw_astore hM hno (by omega) hd (ih _ _ _ _ _ _ _ hB hw)
      · cases hr
    | lstore k =>
      have hw : q1 st (fun x r => noL ls k ∧ k + 1 < ls.length ∧ wp Q K X is (pc + n0) ((ls.set k (some (vL x))).set (k + 1) none) (r) C I J P) := hw0
      clear hw0
      dsimp only [rsv] at hr
      obtain ⟨x, r, rfl, hno, hk, hw2⟩ := q1_e hw
      clear hw
      have hw := hw2
      clear hw2
      refine jw_len (fun hln => ?_)
      split at hr
      · simp only [Bool.and_eq_true, decide_eq_true_eq] at hr; obtain ⟨rfl, rfl⟩ := hr; exact jw_lstore_n hM hno (by omega) hd (ih _ _ _ _ _ _ _ hB hw)
      · simp only [Bool.and_eq_true, decide_eq_true_eq] at hr; obtain ⟨rfl, rfl⟩ := hr; exact jw_lstore hM hno (by omega) hd (ih _ _ _ _ _ _ _ hB hw)
      · cases hr
    | iinc k z =>
      have hw : ldI ls k (fun x => noL ls k ∧ wp Q K X is (pc + n0) (ls.set k (some (vI (x + Int32.ofInt z)))) (st) C I J P) := hw0
      clear hw0
      dsimp only [rsv] at hr
      obtain ⟨x, hk, hno, hw2⟩ := ldI_e hw
      clear hw
      have hw := hw2
      clear hw2
      simp only [Bool.and_eq_true, decide_eq_true_eq] at hr; obtain ⟨rfl, rfl⟩ := hr
      exact jw_len (fun hln => jw_iinc hM hk rfl hno (by have := lt_of_get hk; omega) hd (ih _ _ _ _ _ _ _ hB hw))
    | iadd =>
      have hw : p2 st (fun x y r => wp Q K X is (pc + n0) ls (vI (x + y) :: r) C I J P) := hw0
      clear hw0
      dsimp only [rsv] at hr
      obtain ⟨x, y, r, rfl, hw2⟩ := p2_e hw
      clear hw
      have hw := hw2
      clear hw2
      simp only [Bool.and_eq_true, decide_eq_true_eq] at hr; obtain ⟨rfl, rfl⟩ := hr
      exact jw_iadd hM hd (ih _ _ _ _ _ _ _ hB hw)
    | isub =>
      have hw : p2 st (fun x y r => wp Q K X is (pc + n0) ls (vI (x - y) :: r) C I J P) := hw0
      clear hw0
      dsimp only [rsv] at hr
      obtain ⟨x, y, r, rfl, hw2⟩ := p2_e hw
      clear hw
      have hw := hw2
      clear hw2
      simp only [Bool.and_eq_true, decide_eq_true_eq] at hr; obtain ⟨rfl, rfl⟩ := hr
      exact jw_isub hM hd (ih _ _ _ _ _ _ _ hB hw)
    | imul =>
      have hw : p2 st (fun x y r => wp Q K X is (pc + n0) ls (vI (x * y) :: r) C I J P) := hw0
      clear hw0
      dsimp only [rsv] at hr
      obtain ⟨x, y, r, rfl, hw2⟩ := p2_e hw
      clear hw
      have hw := hw2
      clear hw2
      simp only [Bool.and_eq_true, decide_eq_true_eq] at hr; obtain ⟨rfl, rfl⟩ := hr
      exact jw_imul hM hd (ih _ _ _ _ _ _ _ hB hw)
    | iand =>
      have hw : p2 st (fun x y r => wp Q K X is (pc + n0) ls (vI (x &&& y) :: r) C I J P) := hw0
      clear hw0
      dsimp only [rsv] at hr
      obtain ⟨x, y, r, rfl, hw2⟩ := p2_e hw
      clear hw
      have hw := hw2
      clear hw2
      simp only [Bool.and_eq_true, decide_eq_true_eq] at hr; obtain ⟨rfl, rfl⟩ := hr
      exact jw_iand hM hd (ih _ _ _ _ _ _ _ hB hw)
    | ior =>
      have hw : p2 st (fun x y r => wp Q K X is (pc + n0) ls (vI (x ||| y) :: r) C I J P) := hw0
      clear hw0
      dsimp only [rsv] at hr
      obtain ⟨x, y, r, rfl, hw2⟩ := p2_e hw
      clear hw
      have hw := hw2
      clear hw2
      simp only [Bool.and_eq_true, decide_eq_true_eq] at hr; obtain ⟨rfl, rfl⟩ := hr
      exact jw_ior hM hd (ih _ _ _ _ _ _ _ hB hw)
    | ixor =>
      have hw : p2 st (fun x y r => wp Q K X is (pc + n0) ls (vI (x ^^^ y) :: r) C I J P) := hw0
      clear hw0
      dsimp only [rsv] at hr
      obtain ⟨x, y, r, rfl, hw2⟩ := p2_e hw
      clear hw
      have hw := hw2
      clear hw2
      simp only [Bool.and_eq_true, decide_eq_true_eq] at hr; obtain ⟨rfl, rfl⟩ := hr
      exact jw_ixor hM hd (ih _ _ _ _ _ _ _ hB hw)
    | ishl =>
      have hw : p2 st (fun x y r => wp Q K X is (pc + n0) ls (vI (x <<< (y &&& 31)) :: r) C I J P) := hw0
      clear hw0
      dsimp only [rsv] at hr
      obtain ⟨x, y, r, rfl, hw2⟩ := p2_e hw
      clear hw
      have hw := hw2
      clear hw2
      simp only [Bool.and_eq_true, decide_eq_true_eq] at hr; obtain ⟨rfl, rfl⟩ := hr
      exact jw_ishl hM hd (ih _ _ _ _ _ _ _ hB hw)
    | ishr =>
      have hw : p2 st (fun x y r => wp Q K X is (pc + n0) ls (vI (x >>> (y &&& 31)) :: r) C I J P) := hw0
      clear hw0
      dsimp only [rsv] at hr
      obtain ⟨x, y, r, rfl, hw2⟩ := p2_e hw
      clear hw
      have hw := hw2
      clear hw2
      simp only [Bool.and_eq_true, decide_eq_true_eq] at hr; obtain ⟨rfl, rfl⟩ := hr
      exact jw_ishr hM hd (ih _ _ _ _ _ _ _ hB hw)
    | iushr =>
      have hw : p2 st (fun x y r => wp Q K X is (pc + n0) ls (vI ((x.toUInt32 >>> (y.toUInt32 &&& Int32.toUInt32 31)).toInt32) :: r) C I J P) := hw0
      clear hw0
      dsimp only [rsv] at hr
      obtain ⟨x, y, r, rfl, hw2⟩ := p2_e hw
      clear hw
      have hw := hw2
      clear hw2
      simp only [Bool.and_eq_true, decide_eq_true_eq] at hr; obtain ⟨rfl, rfl⟩ := hr
      exact jw_iushr hM hd (ih _ _ _ _ _ _ _ hB hw)
    | idiv =>
      have hw : p2 st (fun x y r => ¬ y = 0 ∧ wp Q K X is (pc + n0) ls (vI (x / y) :: r) C I J P) := hw0
      clear hw0
      dsimp only [rsv] at hr
      obtain ⟨x, y, r, rfl, hne, hw2⟩ := p2_e hw
      clear hw
      have hw := hw2
      clear hw2
      simp only [Bool.and_eq_true, decide_eq_true_eq] at hr; obtain ⟨rfl, rfl⟩ := hr
      exact jw_idiv hM hne hd (ih _ _ _ _ _ _ _ hB hw)
    | ineg =>
      have hw : p1 st (fun x r => wp Q K X is (pc + n0) ls (vI (-x) :: r) C I J P) := hw0
      clear hw0
      dsimp only [rsv] at hr
      obtain ⟨x, r, rfl, hw2⟩ := p1_e hw
      clear hw
      have hw := hw2
      clear hw2
      simp only [Bool.and_eq_true, decide_eq_true_eq] at hr; obtain ⟨rfl, rfl⟩ := hr
      exact jw_ineg hM hd (ih _ _ _ _ _ _ _ hB hw)
    | i2l =>
      have hw : p1 st (fun x r => wp Q K X is (pc + n0) ls (vL x.toInt64 :: r) C I J P) := hw0
      clear hw0
      dsimp only [rsv] at hr
      obtain ⟨x, r, rfl, hw2⟩ := p1_e hw
      clear hw
      have hw := hw2
      clear hw2
      simp only [Bool.and_eq_true, decide_eq_true_eq] at hr; obtain ⟨rfl, rfl⟩ := hr
      exact jw_i2l hM hd (ih _ _ _ _ _ _ _ hB hw)
    | i2b =>
      have hw : p1 st (fun x r => wp Q K X is (pc + n0) ls (vI x.toInt8.toInt32 :: r) C I J P) := hw0
      clear hw0
      dsimp only [rsv] at hr
      obtain ⟨x, r, rfl, hw2⟩ := p1_e hw
      clear hw
      have hw := hw2
      clear hw2
      simp only [Bool.and_eq_true, decide_eq_true_eq] at hr; obtain ⟨rfl, rfl⟩ := hr
      exact jw_i2b hM hd (ih _ _ _ _ _ _ _ hB hw)
    | l2i =>
      have hw : q1 st (fun x r => wp Q K X is (pc + n0) ls (vI x.toInt32 :: r) C I J P) := hw0
      clear hw0
      dsimp only [rsv] at hr
      obtain ⟨x, r, rfl, hw2⟩ := q1_e hw
      clear hw
      have hw := hw2
      clear hw2
      simp only [Bool.and_eq_true, decide_eq_true_eq] at hr; obtain ⟨rfl, rfl⟩ := hr
      exact jw_l2i hM hd (ih _ _ _ _ _ _ _ hB hw)
    | ladd =>
      have hw : q2 st (fun x y r => wp Q K X is (pc + n0) ls (vL (x + y) :: r) C I J P) := hw0
      clear hw0
      dsimp only [rsv] at hr
      obtain ⟨x, y, r, rfl, hw2⟩ := q2_e hw
      clear hw
      have hw := hw2
      clear hw2
      simp only [Bool.and_eq_true, decide_eq_true_eq] at hr; obtain ⟨rfl, rfl⟩ := hr
      exact jw_ladd hM hd (ih _ _ _ _ _ _ _ hB hw)
    | lmul =>
      have hw : q2 st (fun x y r => wp Q K X is (pc + n0) ls (vL (x * y) :: r) C I J P) := hw0
      clear hw0
      dsimp only [rsv] at hr
      obtain ⟨x, y, r, rfl, hw2⟩ := q2_e hw
      clear hw
      have hw := hw2
      clear hw2
      simp only [Bool.and_eq_true, decide_eq_true_eq] at hr; obtain ⟨rfl, rfl⟩ := hr
      exact jw_lmul hM hd (ih _ _ _ _ _ _ _ hB hw)
    | lcmp =>
      have hw : q2 st (fun x y r => wp Q K X is (pc + n0) ls (vI (lg_cmp x y) :: r) C I J P) := hw0
      clear hw0
      dsimp only [rsv] at hr
      obtain ⟨x, y, r, rfl, hw2⟩ := q2_e hw
      clear hw
      have hw := hw2
      clear hw2
      simp only [Bool.and_eq_true, decide_eq_true_eq] at hr; obtain ⟨rfl, rfl⟩ := hr
      exact jw_lcmp hM hd (ih _ _ _ _ _ _ _ hB hw)
    | ldiv =>
      have hw : q2 st (fun x y r => ¬ y = 0 ∧ wp Q K X is (pc + n0) ls (vL (x / y) :: r) C I J P) := hw0
      clear hw0
      dsimp only [rsv] at hr
      obtain ⟨x, y, r, rfl, hne, hw2⟩ := q2_e hw
      clear hw
      have hw := hw2
      clear hw2
      simp only [Bool.and_eq_true, decide_eq_true_eq] at hr; obtain ⟨rfl, rfl⟩ := hr
      exact jw_ldiv hM hne hd (ih _ _ _ _ _ _ _ hB hw)
    | dup =>
      have hw : d1 st (fun v r => wp Q K X is (pc + n0) ls (v :: v :: r) C I J P) := hw0
      clear hw0
      dsimp only [rsv] at hr
      obtain ⟨v, r, rfl, hv, hw2⟩ := d1_e hw
      clear hw
      have hw := hw2
      clear hw2
      simp only [Bool.and_eq_true, decide_eq_true_eq] at hr; obtain ⟨rfl, rfl⟩ := hr
      exact jw_dup hM hv hd (ih _ _ _ _ _ _ _ hB hw)
    | pop =>
      have hw : d1 st (fun v r => wp Q K X is (pc + n0) ls (r) C I J P) := hw0
      clear hw0
      dsimp only [rsv] at hr
      obtain ⟨v, r, rfl, hv, hw2⟩ := d1_e hw
      clear hw
      have hw := hw2
      clear hw2
      simp only [Bool.and_eq_true, decide_eq_true_eq] at hr; obtain ⟨rfl, rfl⟩ := hr
      exact jw_pop hM hv hd (ih _ _ _ _ _ _ _ hB hw)
    | dup2 =>
      have hw : d2 st (fun v w r => wp Q K X is (pc + n0) ls (v :: w :: v :: w :: r) C I J P) := hw0
      clear hw0
      dsimp only [rsv] at hr
      obtain ⟨v, w, r, rfl, hv, hv2, hw2⟩ := d2_e hw
      clear hw
      have hw := hw2
      clear hw2
      simp only [Bool.and_eq_true, decide_eq_true_eq] at hr; obtain ⟨rfl, rfl⟩ := hr
      exact jw_dup2 hM hv hv2 hd (ih _ _ _ _ _ _ _ hB hw)
    | if_icmp cd z =>
      have hw : p2 st (fun x y r => brc cd x y (K z.toNat ls r C I J P) (wp Q K X is (pc + n0) ls (r) C I J P)) := hw0
      clear hw0
      dsimp only [rsv] at hr
      obtain ⟨x, y, r, rfl, hw2⟩ := p2_e hw
      clear hw
      have hw := hw2
      clear hw2
      simp only [Bool.and_eq_true, decide_eq_true_eq] at hr; obtain ⟨⟨rfl, hz⟩, rfl⟩ := hr
      have ht : (pc : Int) + (z - pc) = (z.toNat : Int) := by omega
      cases cd with
      | eq => exact jw_icmp_eq hM hd ht (fun h => hK _ _ _ _ _ _ _ (hw.1 h)) (fun h => ih _ _ _ _ _ _ _ hB (hw.2 h))
      | ne => exact jw_icmp_ne hM hd ht (fun h => hK _ _ _ _ _ _ _ (hw.1 h)) (fun h => ih _ _ _ _ _ _ _ hB (hw.2 h))
      | lt => exact jw_icmp_lt hM hd ht (fun h => hK _ _ _ _ _ _ _ (hw.1 h)) (fun h => ih _ _ _ _ _ _ _ hB (hw.2 h))
      | ge => exact jw_icmp_ge hM hd ht (fun h => hK _ _ _ _ _ _ _ (hw.1 h)) (fun h => ih _ _ _ _ _ _ _ hB (hw.2 h))
      | gt => exact jw_icmp_gt hM hd ht (fun h => hK _ _ _ _ _ _ _ (hw.1 h)) (fun h => ih _ _ _ _ _ _ _ hB (hw.2 h))
      | le => exact jw_icmp_le hM hd ht (fun h => hK _ _ _ _ _ _ _ (hw.1 h)) (fun h => ih _ _ _ _ _ _ _ hB (hw.2 h))
    | ifCond cd z =>
      have hw : p1 st (fun x r => brc cd x 0 (K z.toNat ls r C I J P) (wp Q K X is (pc + n0) ls (r) C I J P)) := hw0
      clear hw0
      dsimp only [rsv] at hr
      obtain ⟨x, r, rfl, hw2⟩ := p1_e hw
      clear hw
      have hw := hw2
      clear hw2
      simp only [Bool.and_eq_true, decide_eq_true_eq] at hr; obtain ⟨⟨rfl, hz⟩, rfl⟩ := hr
      have ht : (pc : Int) + (z - pc) = (z.toNat : Int) := by omega
      cases cd with
      | eq => exact jw_if_eq hM hd ht (fun h => hK _ _ _ _ _ _ _ (hw.1 h)) (fun h => ih _ _ _ _ _ _ _ hB (hw.2 h))
      | ne => exact jw_if_ne hM hd ht (fun h => hK _ _ _ _ _ _ _ (hw.1 h)) (fun h => ih _ _ _ _ _ _ _ hB (hw.2 h))
      | lt => exact jw_if_lt hM hd ht (fun h => hK _ _ _ _ _ _ _ (hw.1 h)) (fun h => ih _ _ _ _ _ _ _ hB (hw.2 h))
      | ge => exact jw_if_ge hM hd ht (fun h => hK _ _ _ _ _ _ _ (hw.1 h)) (fun h => ih _ _ _ _ _ _ _ hB (hw.2 h))
      | gt => exact jw_if_gt hM hd ht (fun h => hK _ _ _ _ _ _ _ (hw.1 h)) (fun h => ih _ _ _ _ _ _ _ hB (hw.2 h))
      | le => exact jw_if_le hM hd ht (fun h => hK _ _ _ _ _ _ _ (hw.1 h)) (fun h => ih _ _ _ _ _ _ _ hB (hw.2 h))
    | goto z =>
      have hw : K z.toNat ls st C I J P := hw0
      clear hw0
      dsimp only [rsv] at hr
      simp only [Bool.and_eq_true, decide_eq_true_eq] at hr; obtain ⟨⟨rfl, hz⟩, rfl⟩ := hr
      exact jw_goto hM hd (show (pc : Int) + (z - pc) = (z.toNat : Int) by omega) (hK _ _ _ _ _ _ _ hw)
    | getfield v =>
      have hw : r1 st (fun g i r => g = v / 64 ∧ i < C g ∧ wp Q K X is (pc + n0) ls (vI (I g i (v % 64)) :: r) C I J P) := hw0
      clear hw0
      dsimp only [rsv] at hr
      obtain ⟨g, i, r, rfl, hg, hi, hw2⟩ := r1_e hw
      clear hw
      have hw := hw2
      clear hw2
      split at hr
      · simp only [Bool.and_eq_true, decide_eq_true_eq] at hr; obtain ⟨⟨rfl, h2⟩, h3⟩ := hr
        exact jw_getI hM hT h2 hg.symm (by rw [hg]; exact h3) hi hd (ih _ _ _ _ _ _ _ hB hw)
      · cases hr
    | getstatic v =>
      have hw : r1 st (fun g i r => g = v / 64 ∧ i < C g ∧ rq (P g i (v % 64)) (fun a b => wp Q K X is (pc + n0) ls (vR a b :: r) C I J P)) := hw0
      clear hw0
      dsimp only [rsv] at hr
      obtain ⟨g, i, r, rfl, hg, hi, hw2⟩ := r1_e hw
      clear hw
      have hw := hw2
      clear hw2
      obtain ⟨a, b, hq, hw2⟩ := rq_e hw
      clear hw
      have hw := hw2
      clear hw2
      split at hr
      · simp only [Bool.and_eq_true, decide_eq_true_eq] at hr; obtain ⟨⟨rfl, h2⟩, h3⟩ := hr
        exact jw_getR hM hT h2 hg.symm (by rw [hg]; exact h3) hi hq hd (ih _ _ _ _ _ _ _ hB hw)
      · cases hr
    | putfield v =>
      have hw : ri st (fun x g i r => g = v / 64 ∧ i < C g ∧ wp Q K X is (pc + n0) ls (r) C (u3 I g i (v % 64) x) J P) := hw0
      clear hw0
      dsimp only [rsv] at hr
      obtain ⟨x, g, i, r, rfl, hg, hi, hw2⟩ := ri_e hw
      clear hw
      have hw := hw2
      clear hw2
      split at hr
      · simp only [Bool.and_eq_true, decide_eq_true_eq] at hr; obtain ⟨⟨⟨rfl, h2⟩, h3⟩, h4⟩ := hr
        exact jw_putI hM hT h2 hg.symm hi (by rw [hg]; exact Or.inl h3) (by rw [hg]; exact h4) hd (ih _ _ _ _ _ _ _ hB hw)
      · cases hr
    | checkcast v =>
      have hw : ri st (fun x g i r => g = v / 64 ∧ i < C g ∧ (x = 0 ∨ x = 1) ∧ wp Q K X is (pc + n0) ls (r) C (u3 I g i (v % 64) x) J P) := hw0
      clear hw0
      dsimp only [rsv] at hr
      obtain ⟨x, g, i, r, rfl, hg, hi, h01, hw2⟩ := ri_e hw
      clear hw
      have hw := hw2
      clear hw2
      split at hr
      · simp only [Bool.and_eq_true, decide_eq_true_eq] at hr; obtain ⟨⟨⟨rfl, h2⟩, h3⟩, h4⟩ := hr
        exact jw_putI hM hT h2 hg.symm hi (by rw [hg]; exact Or.inr ⟨h3, h01⟩) (by rw [hg]; exact h4) hd (ih _ _ _ _ _ _ _ hB hw)
      · cases hr
    | putstatic v =>
      have hw : fR st (fun a b g i r => g = v / 64 ∧ i < C g ∧ wp Q K X is (pc + n0) ls (r) C I J (u3 P g i (v % 64) (some (a, b)))) := hw0
      clear hw0
      dsimp only [rsv] at hr
      obtain ⟨a, b, g, i, r, rfl, hg, hi, hw2⟩ := fR_e hw
      clear hw
      have hw := hw2
      clear hw2
      split at hr
      · simp only [Bool.and_eq_true, decide_eq_true_eq] at hr; obtain ⟨⟨⟨rfl, h2⟩, h3⟩, h4⟩ := hr
        exact jw_putR hM hT h2 hg.symm hi (by rw [hg]; exact h3) (by rw [hg]; exact h4) hd (ih _ _ _ _ _ _ _ hB hw)
      · cases hr
    | iaload =>
      have hw : ri st (fun j g i r => if g = 92 then i = 0 ∧ 0 ≤ j.toInt ∧ j.toInt < (X.1 : Int) ∧ wp Q K X is (pc + n0) ls (vI (X.2 j.toNatClampNeg) :: r) C I J P else i < C g ∧ 0 ≤ j.toInt ∧ j.toInt < (arN .int g : Int) ∧ wp Q K X is (pc + n0) ls (vI (I g i j.toNatClampNeg) :: r) C I J P) := hw0
      clear hw0
      dsimp only [rsv] at hr
      obtain ⟨j, g, i, r, rfl, hw2⟩ := ri_e hw
      clear hw
      have hw := hw2
      clear hw2
      simp only [Bool.and_eq_true, decide_eq_true_eq] at hr; obtain ⟨rfl, rfl⟩ := hr
      by_cases hg : g = 92
      · rw [if_pos hg] at hw
        obtain ⟨hi, h0, h1, hw⟩ := hw
        subst hg; subst hi
        exact jw_sld hM hT h0 h1 hd (ih _ _ _ _ _ _ _ hB hw)
      · rw [if_neg hg] at hw
        obtain ⟨hi, h0, h1, hw⟩ := hw
        exact jw_iald hM hT (arN_gT h0 h1) hi h0 h1 hd (ih _ _ _ _ _ _ _ hB hw)
    | baload =>
      have hw : ri st (fun j g i r => i < C g ∧ 0 ≤ j.toInt ∧ j.toInt < (arN .byte g : Int) ∧ wp Q K X is (pc + n0) ls (vI (I g i j.toNatClampNeg) :: r) C I J P) := hw0
      clear hw0
      dsimp only [rsv] at hr
      obtain ⟨j, g, i, r, rfl, hi, h0, h1, hw2⟩ := ri_e hw
      clear hw
      have hw := hw2
      clear hw2
      simp only [Bool.and_eq_true, decide_eq_true_eq] at hr; obtain ⟨rfl, rfl⟩ := hr
      exact jw_bald hM hT (arN_gT h0 h1) hi h0 h1 hd (ih _ _ _ _ _ _ _ hB hw)
    | caload =>
      have hw : ri st (fun j g i r => i < C g ∧ 0 ≤ j.toInt ∧ j.toInt < (arN .boolean g : Int) ∧ wp Q K X is (pc + n0) ls (vI (I g i j.toNatClampNeg) :: r) C I J P) := hw0
      clear hw0
      dsimp only [rsv] at hr
      obtain ⟨j, g, i, r, rfl, hi, h0, h1, hw2⟩ := ri_e hw
      clear hw
      have hw := hw2
      clear hw2
      simp only [Bool.and_eq_true, decide_eq_true_eq] at hr; obtain ⟨rfl, rfl⟩ := hr
      exact jw_zald hM hT (arN_gT h0 h1) hi h0 h1 hd (ih _ _ _ _ _ _ _ hB hw)
    | laload =>
      have hw : ri st (fun j g i r => i < C g ∧ 0 ≤ j.toInt ∧ j.toInt < (arN .long g : Int) ∧ wp Q K X is (pc + n0) ls (vL (J g i j.toNatClampNeg) :: r) C I J P) := hw0
      clear hw0
      dsimp only [rsv] at hr
      obtain ⟨j, g, i, r, rfl, hi, h0, h1, hw2⟩ := ri_e hw
      clear hw
      have hw := hw2
      clear hw2
      simp only [Bool.and_eq_true, decide_eq_true_eq] at hr; obtain ⟨rfl, rfl⟩ := hr
      exact jw_lald hM hT (arN_gT h0 h1) hi h0 h1 hd (ih _ _ _ _ _ _ _ hB hw)
    | aaload =>
      have hw : ri st (fun j g i r => i < C g ∧ 0 ≤ j.toInt ∧ j.toInt < (arE g : Int) ∧ rq (P g i j.toNatClampNeg) (fun a b => wp Q K X is (pc + n0) ls (vR a b :: r) C I J P)) := hw0
      clear hw0
      dsimp only [rsv] at hr
      obtain ⟨j, g, i, r, rfl, hi, h0, h1, hw2⟩ := ri_e hw
      clear hw
      have hw := hw2
      clear hw2
      obtain ⟨a, b, hq, hw2⟩ := rq_e hw
      clear hw
      have hw := hw2
      clear hw2
      obtain ⟨E, hE⟩ := arE_gT h0 h1
      simp only [Bool.and_eq_true, decide_eq_true_eq] at hr; obtain ⟨rfl, rfl⟩ := hr
      exact jw_aald hM hT hE hi h0 h1 hq hd (ih _ _ _ _ _ _ _ hB hw)
    | iastore =>
      have hw : sI st (fun x j g i r => i < C g ∧ 0 ≤ j.toInt ∧ j.toInt < (arN .int g : Int) ∧ wp Q K X is (pc + n0) ls (r) C (u3 I g i j.toNatClampNeg x) J P) := hw0
      clear hw0
      dsimp only [rsv] at hr
      obtain ⟨x, j, g, i, r, rfl, hi, h0, h1, hw2⟩ := sI_e hw
      clear hw
      have hw := hw2
      clear hw2
      simp only [Bool.and_eq_true, decide_eq_true_eq] at hr; obtain ⟨rfl, rfl⟩ := hr
      exact jw_iast hM hT (arN_gT h0 h1) hi h0 h1 hd (ih _ _ _ _ _ _ _ hB hw)
    | bastore =>
      have hw : sI st (fun x j g i r => i < C g ∧ 0 ≤ j.toInt ∧ j.toInt < (arN .byte g : Int) ∧ wp Q K X is (pc + n0) ls (r) C (u3 I g i j.toNatClampNeg (vp_nar .byte x)) J P) := hw0
      clear hw0
      dsimp only [rsv] at hr
      obtain ⟨x, j, g, i, r, rfl, hi, h0, h1, hw2⟩ := sI_e hw
      clear hw
      have hw := hw2
      clear hw2
      simp only [Bool.and_eq_true, decide_eq_true_eq] at hr; obtain ⟨rfl, rfl⟩ := hr
      exact jw_bast hM hT (arN_gT h0 h1) hi h0 h1 hd (ih _ _ _ _ _ _ _ hB hw)
    | castore =>
      have hw : sI st (fun x j g i r => i < C g ∧ 0 ≤ j.toInt ∧ j.toInt < (arN .boolean g : Int) ∧ wp Q K X is (pc + n0) ls (r) C (u3 I g i j.toNatClampNeg (vp_nar .boolean x)) J P) := hw0
      clear hw0
      dsimp only [rsv] at hr
      obtain ⟨x, j, g, i, r, rfl, hi, h0, h1, hw2⟩ := sI_e hw
      clear hw
      have hw := hw2
      clear hw2
      simp only [Bool.and_eq_true, decide_eq_true_eq] at hr; obtain ⟨rfl, rfl⟩ := hr
      exact jw_zast hM hT (arN_gT h0 h1) hi h0 h1 hd (ih _ _ _ _ _ _ _ hB hw)
    | lastore =>
      have hw : sJ st (fun x j g i r => i < C g ∧ 0 ≤ j.toInt ∧ j.toInt < (arN .long g : Int) ∧ wp Q K X is (pc + n0) ls (r) C I (u3 J g i j.toNatClampNeg x) P) := hw0
      clear hw0
      dsimp only [rsv] at hr
      obtain ⟨x, j, g, i, r, rfl, hi, h0, h1, hw2⟩ := sJ_e hw
      clear hw
      have hw := hw2
      clear hw2
      simp only [Bool.and_eq_true, decide_eq_true_eq] at hr; obtain ⟨rfl, rfl⟩ := hr
      exact jw_last hM hT (arN_gT h0 h1) hi h0 h1 hd (ih _ _ _ _ _ _ _ hB hw)
    | aastore =>
      have hw : sR st (fun a b j g i r => a < 9 ∧ b < C a ∧ i < C g ∧ 0 ≤ j.toInt ∧ j.toInt < (arC a g : Int) ∧ wp Q K X is (pc + n0) ls (r) C I J (u3 P g i j.toNatClampNeg (some (a, b)))) := hw0
      clear hw0
      dsimp only [rsv] at hr
      obtain ⟨a, b, j, g, i, r, rfl, ha, hb, hi, h0, h1, hw2⟩ := sR_e hw
      clear hw
      have hw := hw2
      clear hw2
      simp only [Bool.and_eq_true, decide_eq_true_eq] at hr; obtain ⟨rfl, rfl⟩ := hr
      exact jw_aast hM hT ha (arN_gT h0 h1) hi hb h0 h1 hd (ih _ _ _ _ _ _ _ hB hw)
    | ireturn =>
      have hw : p1 st (fun x r => r = [] ∧ Q (some (vI x)) C I J P) := hw0
      clear hw0
      dsimp only [rsv] at hr
      obtain ⟨x, r, rfl, rfl, hw2⟩ := p1_e hw
      clear hw
      have hw := hw2
      clear hw2
      simp only [Bool.and_eq_true, decide_eq_true_eq] at hr; obtain ⟨⟨rfl, h2⟩, rfl⟩ := hr
      exact hR _ _ _ _ _ _ _ hw ⟨hd, Or.inl h2⟩
    | freturn =>
      have hw : p1 st (fun x r => r = [] ∧ (x = 0 ∨ x = 1) ∧ Q (some (vI x)) C I J P) := hw0
      clear hw0
      dsimp only [rsv] at hr
      obtain ⟨x, r, rfl, rfl, h01, hw2⟩ := p1_e hw
      clear hw
      have hw := hw2
      clear hw2
      simp only [Bool.and_eq_true, decide_eq_true_eq] at hr; obtain ⟨⟨rfl, h2⟩, rfl⟩ := hr
      exact hR _ _ _ _ _ _ _ hw ⟨hd, Or.inr ⟨h2, h01⟩⟩
    | lreturn =>
      have hw : q1 st (fun x r => r = [] ∧ Q (some (vL x)) C I J P) := hw0
      clear hw0
      dsimp only [rsv] at hr
      obtain ⟨x, r, rfl, rfl, hw2⟩ := q1_e hw
      clear hw
      have hw := hw2
      clear hw2
      simp only [Bool.and_eq_true, decide_eq_true_eq] at hr; obtain ⟨⟨rfl, h2⟩, rfl⟩ := hr
      exact hR _ _ _ _ _ _ _ hw ⟨hd, h2⟩
    | areturn =>
      have hw : r1 st (fun g i r => r = [] ∧ Q (some (vR g i)) C I J P) := hw0
      clear hw0
      dsimp only [rsv] at hr
      obtain ⟨g, i, r, rfl, rfl, hw2⟩ := r1_e hw
      clear hw
      have hw := hw2
      clear hw2
      simp only [Bool.and_eq_true, decide_eq_true_eq] at hr; obtain ⟨⟨rfl, h2⟩, rfl⟩ := hr
      refine hR _ _ _ _ _ _ _ hw ⟨hd, ?_⟩
      split at h2
      · exact ⟨_, rfl, h2⟩
      · cases h2
    | return_ =>
      have hw : st = [] ∧ Q none C I J P := hw0
      clear hw0
      dsimp only [rsv] at hr
      obtain ⟨rfl, hw⟩ := hw
      simp only [Bool.and_eq_true, decide_eq_true_eq] at hr; obtain ⟨⟨rfl, h2⟩, rfl⟩ := hr
      exact hR _ _ _ _ _ _ _ hw ⟨hd, h2⟩
    | _ => cases hr
end JWW
