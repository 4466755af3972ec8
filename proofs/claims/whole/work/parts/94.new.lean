/-! cells are made -/
def inC (C : hC) (g : Nat) : hC := fun a => if a = g then C a + 1 else C a
def upF (φ : Nat → Nat → Nat) (g i q : Nat) : Nat → Nat → Nat := fun a b => if a = g ∧ b = i then q else φ a b
def up {α : Type} (f : Nat → Nat → Nat → α) (g i : Nat) (r : Nat → α) : Nat → Nat → Nat → α := fun a b => if a = g ∧ b = i then r else f a b
/-- a reference in a cell names a cell that is there -/
def pO (C : hC) (P : hP) : Prop := ∀ a b j q, b < C a → P a b j = some q → q.2 < C q.1
theorem Ex.new {C : hC} {φ : Nat → Nat → Nat} {g : Nat} (hg : g < 90) (q : Nat) : Ex C φ (inC C g) (upF φ g (C g) q) := by
  refine ⟨fun a b hb => ?_, fun a => ?_, ?_, ?_, ?_⟩
  · unfold upF
    rw [if_neg]
    rintro ⟨rfl, rfl⟩
    unfold inC at hb
    rw [if_pos rfl] at hb
    omega
  · unfold inC
    split <;> omega
  · funext b; unfold upF; rw [if_neg (by omega)]
  · funext b; unfold upF; rw [if_neg (by omega)]
  · funext b; unfold upF; rw [if_neg (by omega)]
theorem rv_up {φ : Nat → Nat → Nat} {g i q : Nat} {r : Option (Nat × Nat)} (h : ∀ z, r = some z → ¬ (z.1 = g ∧ z.2 = i)) : rv (upF φ g i q) r = rv φ r := by
  cases r with
  | none => rfl
  | some z =>
    show Value.ref (upF φ g i q z.1 z.2) = Value.ref (φ z.1 z.2)
    unfold upF
    rw [if_neg (h z rfl)]
theorem cellAt.lt {D : va_G} {cA : Nat → ClassId} {φ : Nat → Nat → Nat} {I : hI} {J : hJ} {P : hP} {g i : Nat} {H : Heap} (h : cellAt D cA φ I J P g i H) : φ g i < H.size := by
  rcases h with ⟨-, cell, q1, -⟩ | ⟨ty, n, -, -, q1⟩
  · exact (Array.getElem?_eq_some_iff.mp q1).1
  · exact (Array.getElem?_eq_some_iff.mp q1).1
theorem cellAt.up {D : va_G} {cA : Nat → ClassId} {φ : Nat → Nat → Nat} {I : hI} {J : hJ} {P : hP} {a b g i q : Nat} {H H1 : Heap} (h : cellAt D cA φ I J P a b H) (hk : H1[φ a b]? = H[φ a b]?) (hp : ∀ j z, P a b j = some z → ¬ (z.1 = g ∧ z.2 = i)) (hne : ¬ (a = g ∧ b = i)) : cellAt D cA (upF φ g i q) I J P a b H1 := by
  have e0 : upF φ g i q a b = φ a b := if_neg hne
  have er : ∀ j, rv (upF φ g i q) (P a b j) = rv φ (P a b j) := fun j => rv_up (hp j)
  rcases h with h | ⟨ty, n, h1, h2, h3⟩
  · left
    refine ⟨h.1, ?_⟩
    have ef : fv (upF φ g i q) a (I a b) (P a b) = fv φ a (I a b) (P a b) := by
      funext j
      unfold fv
      rw [er]
    rw [e0, ef]
    exact h.2.kept hk
  · right
    refine ⟨ty, n, h1, h2, ?_⟩
    have ea : av (upF φ g i q) ty (I a b) (J a b) (P a b) = av φ ty (I a b) (J a b) (P a b) := by
      funext j
      unfold av
      cases ty <;> first | rfl | exact er j
    rw [e0, ea, hk]
    exact h3
theorem Wc.born {D : va_G} {cA : Nat → ClassId} {φ : Nat → Nat → Nat} {A : Nat → Prop} {C : hC} {I : hI} {J : hJ} {P : hP} {H H1 : Heap} {g : Nat} (h : Wc D cA φ A C I J P H) (hp : pO C P) (hn : cellAt D cA (upF φ g (C g) H.size) I J P g (C g) H1) (o1 : ∀ q, q < H.size → H1[q]? = H[q]?) (hA : A H.size) : Wc D cA (upF φ g (C g) H.size) A (inC C g) I J P H1 := by
  have old : ∀ a b, b < inC C g a → ¬ (a = g ∧ b = C g) → b < C a := fun a b hb e => by
    unfold inC at hb
    split at hb
    · rename_i z
      subst z
      have : ¬ b = C a := fun y => e ⟨rfl, y⟩
      omega
    · exact hb
  have sm : ∀ a b, ¬ (a = g ∧ b = C g) → upF φ g (C g) H.size a b = φ a b := fun a b e => if_neg e
  have ne : upF φ g (C g) H.size g (C g) = H.size := if_pos ⟨rfl, rfl⟩
  refine ⟨fun a b hb => ?_, fun a b a' b' hb hb' => ?_, fun a b hb => ?_⟩
  · by_cases e : a = g ∧ b = C g
    · obtain ⟨rfl, rfl⟩ := e
      exact hn
    · have hb := old a b hb e
      exact (h.1 a b hb).up (o1 _ (h.1 a b hb).lt) (fun j z hz y => by have := hp a b j z hb hz; rw [y.1, y.2] at this; omega) e
  · by_cases e : a = g ∧ b = C g
    · by_cases e' : a' = g ∧ b' = C g
      · intro _; exact ⟨e.1.trans e'.1.symm, e.2.trans e'.2.symm⟩
      · obtain ⟨rfl, rfl⟩ := e
        have := (h.1 a' b' (old a' b' hb' e')).lt
        rw [ne, sm a' b' e']
        omega
    · by_cases e' : a' = g ∧ b' = C g
      · obtain ⟨rfl, rfl⟩ := e'
        have := (h.1 a b (old a b hb e)).lt
        rw [ne, sm a b e]
        omega
      · rw [sm a b e, sm a' b' e']
        exact h.2.1 a b a' b' (old a b hb e) (old a' b' hb' e')
  · by_cases e : a = g ∧ b = C g
    · obtain ⟨rfl, rfl⟩ := e
      rw [ne]
      exact hA
    · rw [sm a b e]
      exact h.2.2 a b (old a b hb e)
theorem dv0 : ∀ g, g < 9 → ∀ j, j < nF g → defaultValue (tyV g j) = if isRf (tyV g j) = true then .null else .int 0 := by decide +kernel
theorem w_oi : Cond.instanceMethod Lib.objectInit ∈ TB := tbm 99 (by decide +kernel) (by decide +kernel)
theorem w_oc : Cond.code Lib.objectInit { data := #[177] } 1 none ∈ TB := tbm 100 (by decide +kernel) (by decide +kernel)
section JWN
variable {p : Program} {l : Launch} {e : Env} {R : Room} {s : State} {m : MethodId} {args : Array Value} {below : List Frame} {meth : Method} {c : Code} {D : va_G} {cA : Nat → ClassId} {φ0 : Nat → Nat → Nat} {C0 : hC} {mc ms nL : Nat} {Z : State → Prop} {kc ks kc' ks' pc : Nat} {ls : List (Option AV)} {r : List AV} {C : hC} {I : hI} {J : hJ} {P : hP} {cc : ByteArray} {oc : Nat} {rt : Option FieldType} {ini : Bool} {X : Nat × (Nat → Int32)}
theorem jw_born {φ : Nat → Nat → Nat} {H H1 : Heap} {locs : List Loc} {cells' slots' g : Nat} {lsR : Array Slot} (k : JW p l e R s m args below meth c D cA φ0 C0 mc ms nL Z kc' ks' pc ls (vR g (C g) :: r) (inC C g) I J P) (hg9 : g < 90)
    (hE : Ex C0 φ0 C φ) (hW : Wc D cA φ (afr C0 φ0 s.heap.size) C I J P H) (hS : va_S (afr C0 φ0 s.heap.size) s.heap H locs) (hl : lv_has lsR nL (lvL φ 0 ls)) (hn : ls.length = nL) (hc : cells' + kc' ≤ mc) (hs : slots' + ks' ≤ ms) (hp : pO C P) (hoS : okS C r) (hoL : okL C ls)
    (hnew : cellAt D cA (upF φ g (C g) H.size) I J P g (C g) H1) (z1 : H.size ≤ H1.size) (o1 : ∀ q, q < H.size → H1[q]? = H[q]?) : W p l e R s m args below meth c H1 locs cells' slots' Z (F0 m pc lsR (.ref H.size :: r.map (cv φ))) := by
  have hE1 := Ex.new (C := C) (φ := φ) hg9 H.size
  have kk := k (upF φ g (C g) H.size) H1 locs cells' slots' lsR (hE.trans hE1) (hW.born hp hnew o1 (Or.inr hS.1)) ⟨Nat.le_trans hS.1 z1, fun x h1 h2 => (o1 x (Nat.lt_of_lt_of_le h1 hS.1)).trans (hS.2.1 x h1 h2), hS.2.2⟩ (by rw [okL_lvL hE1 ls 0 hoL]; exact hl) hn hc hs
  have e0 : (vR g (C g) :: r).map (cv (upF φ g (C g) H.size)) = .ref H.size :: r.map (cv φ) := by
    rw [List.map_cons, okS_map hE1 hoS]
    show Value.ref (upF φ g (C g) H.size g (C g)) :: _ = _
    rw [show upF φ g (C g) H.size g (C g) = H.size from if_pos ⟨rfl, rfl⟩]
  rw [e0] at kk
  exact kk
theorem jw_narr (hM : Mc p s m args meth c cc nL oc rt ini) (hT : Wt D cA φ0 (afr C0 φ0 s.heap.size) X s) {g n : Nat} {ty : FieldType} {aty : ArrayType} (hg : gT g = some (ty, n)) (hg9 : g < 90) (hty : newarray.typeOf aty = ty) (harr : Cond.arrayClass ty ∈ TB) (hdv : ∀ φ : Nat → Nat → Nat, av φ ty (I g (C g)) (J g (C g)) (P g (C g)) = fun _ => defaultValue ty) (hp : pO C P) (hoS : okS C r) (hoL : okL C ls) (hRc : R.cells = mc) (hRs : R.slots = ms) (hb : n * componentBytes ty ≤ 536870912) (h31 : n < 2 ^ 31) (hkc : kc' + 1 ≤ kc) (hks : ks' + n ≤ ks) (hd : decode cc pc = .ok (.newarray aty, 2)) (k : JW p l e R s m args below meth c D cA φ0 C0 mc ms nL Z kc' ks' (pc + 2) ls (vR g (C g) :: r) (inC C g) I J P) : JW p l e R s m args below meth c D cA φ0 C0 mc ms nL Z kc ks pc ls (vI (nI n) :: r) C I J P := by
  intro φ H locs cells slots lsR hE hW hS hl hn hc hs
  subst hty
  refine va_newaK hM.1 hM.2.1 (hM.2.2.2.2.1 _ harr) rfl hd rfl (nI_pos h31) (nI_clamp h31) hb (by omega) (by omega) rfl (fun H1 cA' e1 z1 o1 hAr hNm => ?_)
  have hcA : cA' = cA g := by
    have := (hT.2.1 g _ _ hg).2
    cases aty <;> exact Option.some.inj (hNm.symm.trans this)
  subst hcA
  refine jw_born k hg9 hE hW hS hl hn (by omega) (by omega) hp hoS hoL (Or.inr ⟨_, n, gT_ge hg, hg, ?_⟩) (by omega) o1
  rw [hdv, show upF φ g (C g) H.size g (C g) = H.size from if_pos ⟨rfl, rfl⟩]
  exact e1
theorem jw_anew (hM : Mc p s m args meth c cc nL oc rt ini) (hT : Wt D cA φ0 (afr C0 φ0 s.heap.size) X s) {g n idx : Nat} {E : String} (hg : gT g = some (.object E, n)) (hg9 : g < 90) (hcl : Cond.classLink (ocN oc) idx E ∈ TB) (hov : Cond.arrayOver (.object E) ∈ lw_tbl) (hdv : P g (C g) = fun _ => none) (hp : pO C P) (hoS : okS C r) (hoL : okL C ls) (hRc : R.cells = mc) (hRs : R.slots = ms) (hb : n * 4 ≤ 536870912) (h31 : n < 2 ^ 31) (hkc : kc' + 1 ≤ kc) (hks : ks' + n ≤ ks) (hd : decode cc pc = .ok (.anewarray idx, 3)) (k : JW p l e R s m args below meth c D cA φ0 C0 mc ms nL Z kc' ks' (pc + 3) ls (vR g (C g) :: r) (inC C g) I J P) : JW p l e R s m args below meth c D cA φ0 C0 mc ms nL Z kc ks pc ls (vI (nI n) :: r) C I J P := by
  intro φ H locs cells slots lsR hE hW hS hl hn hc hs
  have hN : (nI n).toNatClampNeg = n := nI_clamp h31
  refine W.anew hM.1 hM.2.1 hM.2.2.2.1 (hM.2.2.2.2.1 _ hcl) (va_AO.use (hT.2.2.2.2.2.2 _ hov)) rfl hd rfl (nI_pos h31) (by rw [hN]; exact hb) (by omega) (by rw [hN]; omega) (fun cA' kA comp f1 f2 f3 f4 => ?_)
  rw [hN]
  obtain ⟨-, -, -, -, -, f5⟩ := (hT.2.1 g _ _ hg).2
  have hcA : cA' = cA g := Option.some.inj (f1.symm.trans f5)
  subst hcA
  refine jw_born k hg9 hE hW hS hl hn (by omega) (by omega) hp hoS hoL (Or.inr ⟨_, n, gT_ge hg, hg, ?_⟩) (by rw [Array.size_push]; omega) (fun q hq => by rw [Array.getElem?_push, if_neg (Nat.ne_of_lt hq)])
  rw [hdv, show upF φ g (C g) H.size g (C g) = H.size from if_pos ⟨rfl, rfl⟩, Array.getElem?_push_size, arrV_new]
  rfl
theorem pO.nw {g i : Nat} (hp : pO C P) (hi : C g ≤ i) : pO C (up P g i (fun _ => none)) := fun a b j q hb hq => by
  unfold up at hq
  split at hq
  · cases hq
  · exact hp a b j q hb hq
theorem jw_new (hM : Mc p s m args meth c cc nL oc rt ini) (hT : Wt D cA φ0 (afr C0 φ0 s.heap.size) X s) {g idx : Nat} (hg9 : g < 9) (hcl : Cond.classLink (ocN oc) idx (ocN g) ∈ TB) (hin : Cond.instantiable (ocN g) (nF g) ∈ TB) (hii : Cond.initialized (ocN g) ∈ TB) (hp : pO C P) (hoS : okS C r) (hoL : okL C ls) (hRc : R.cells = mc) (hRs : R.slots = ms) (hkc : kc' + 1 ≤ kc) (hks : ks' + nF g ≤ ks) (hd : decode cc pc = .ok (.new idx, 3)) (k : JW p l e R s m args below meth c D cA φ0 C0 mc ms nL Z kc' ks' (pc + 3) ls (vR g (C g) :: r) (inC C g) (up I g (C g) (fun _ => 0)) J (up P g (C g) (fun _ => none))) : JW p l e R s m args below meth c D cA φ0 C0 mc ms nL Z kc ks pc ls r C I J P := by
  intro φ H locs cells slots lsR hE hW hS hl hn hc hs
  have hKn := hT.1.1 g _ (clV g hg9)
  refine W.newcK hM.1 hM.2.1 hM.2.2.2.1 (hM.2.2.2.2.1 _ hcl) (hM.2.2.2.2.1 _ hin) (hM.2.2.2.2.1 _ hii) rfl hd (by omega) (by omega) hKn.2.1 rfl (fun H1 kC hkC e1 z1 o1 => ?_)
  have hW1 : Wc D cA φ (afr C0 φ0 s.heap.size) C (up I g (C g) (fun _ => 0)) J (up P g (C g) (fun _ => none)) H := hW.eqv (fun a b hb => if_neg (fun z => by rw [z.1, z.2] at hb; omega)) (fun _ _ _ => rfl) (fun a b hb => if_neg (fun z => by rw [z.1, z.2] at hb; omega))
  refine jw_born k (by omega) hE hW1 hS hl hn (by omega) (by omega) (hp.nw (Nat.le_refl _)) hoS hoL (Or.inl ⟨hg9, ?_⟩) (by omega) o1
  rw [show upF φ g (C g) H.size g (C g) = H.size from if_pos ⟨rfl, rfl⟩]
  refine (u_born (tyV g) hM.2.2.2.2.1 (inV g hg9) hKn hkC e1 (tyV_ok g hg9)).to (fun j hj => ?_)
  rw [dv0 g hg9 j hj, show up I g (C g) (fun _ => 0) g (C g) = (fun _ => 0) from if_pos ⟨rfl, rfl⟩, show up P g (C g) (fun _ => none) g (C g) = (fun _ => none) from if_pos ⟨rfl, rfl⟩]
  rfl
theorem jw_objI (hM : Mc p s m args meth c cc nL oc rt ini) {idx a b : Nat} (hlk : Cond.methodLink (ocN oc) idx Lib.objectInit ∈ TB) (hfr : 1 ≤ R.frames) (hlo : 20 ≤ R.locals) (hcat : catS r ≤ 8) (hd : decode cc pc = .ok (.invokespecial idx, 3)) (k : JW p l e R s m args below meth c D cA φ0 C0 mc ms nL Z kc ks (pc + 3) ls r C I J P) : JW p l e R s m args below meth c D cA φ0 C0 mc ms nL Z kc ks pc ls (vR a b :: r) C I J P := by
  intro φ H locs cells slots lsR hE hW hS hl hn hc hs
  have hsum := catS_ok φ r
  exact W.objInit hM.1 hM.2.1 hM.2.2.2.1 (hM.2.2.2.2.1 _ hlk) (hM.2.2.2.2.1 _ w_oi) (hM.2.2.2.2.1 _ w_oc) rfl (hl.1.trans hM.2.2.1.symm) rfl hd hfr (by rw [hsum]; show 2 * 0 + _ + 12 ≤ _; omega) (k φ H locs cells slots lsR hE hW hS hl hn hc hs)
end JWN
section AJN
variable {d nL oc mc ms kc ks kc' ks' pc : Nat} {cc : ByteArray} {rt : Option FieldType} {ini : Bool} {C0 C : hC} {Q : QT} {ls : List (Option AV)} {st r : List AV} {I : hI} {J : hJ} {P : hP}
theorem AJ.narr {g n i : Nat} {ty : FieldType} {aty : ArrayType} (hg : gT g = some (ty, n)) (hi : C g = i) (hside : g < 90 ∧ n * componentBytes ty ≤ 536870912 ∧ n < 2 ^ 31 ∧ kc' + 1 ≤ kc ∧ ks' + n ≤ ks) (hty : newarray.typeOf aty = ty) (harr : Cond.arrayClass ty ∈ TB) (hdv : ∀ φ : Nat → Nat → Nat, av φ ty (I g i) (J g i) (P g i) = fun _ => defaultValue ty) (hp : pO C P) (hoS : okS C r) (hoL : okL C ls) (hd : decode cc pc = .ok (.newarray aty, 2)) (k : AJ d cc nL oc rt ini C0 mc ms Q kc' ks' (pc + 2) ls (vR g i :: r) (inC C g) I J P) : AJ d cc nL oc rt ini C0 mc ms Q kc ks pc ls (vI (nI n) :: r) C I J P := by
  intro p l e s m args below meth c D cA φ0 hM hT
  subst hi
  exact jw_narr hM hT hg hside.1 hty harr hdv hp hoS hoL rfl rfl hside.2.1 hside.2.2.1 hside.2.2.2.1 hside.2.2.2.2 hd (k p l e s m args below meth c D cA φ0 hM hT)
theorem AJ.anew {g n i idx : Nat} {E : String} (hg : gT g = some (.object E, n)) (hi : C g = i) (hside : g < 90 ∧ n * 4 ≤ 536870912 ∧ n < 2 ^ 31 ∧ kc' + 1 ≤ kc ∧ ks' + n ≤ ks) (hcl : Cond.classLink (ocN oc) idx E ∈ TB) (hov : Cond.arrayOver (.object E) ∈ lw_tbl) (hdv : P g i = fun _ => none) (hp : pO C P) (hoS : okS C r) (hoL : okL C ls) (hd : decode cc pc = .ok (.anewarray idx, 3)) (k : AJ d cc nL oc rt ini C0 mc ms Q kc' ks' (pc + 3) ls (vR g i :: r) (inC C g) I J P) : AJ d cc nL oc rt ini C0 mc ms Q kc ks pc ls (vI (nI n) :: r) C I J P := by
  intro p l e s m args below meth c D cA φ0 hM hT
  subst hi
  exact jw_anew hM hT hg hside.1 hcl hov hdv hp hoS hoL rfl rfl hside.2.1 hside.2.2.1 hside.2.2.2.1 hside.2.2.2.2 hd (k p l e s m args below meth c D cA φ0 hM hT)
theorem AJ.new {g i idx : Nat} (hi : C g = i) (hside : g < 9 ∧ kc' + 1 ≤ kc ∧ ks' + nF g ≤ ks) (hcl : Cond.classLink (ocN oc) idx (ocN g) ∈ TB) (hin : Cond.instantiable (ocN g) (nF g) ∈ TB) (hii : Cond.initialized (ocN g) ∈ TB) (hp : pO C P) (hoS : okS C r) (hoL : okL C ls) (hd : decode cc pc = .ok (.new idx, 3)) (k : AJ d cc nL oc rt ini C0 mc ms Q kc' ks' (pc + 3) ls (vR g i :: r) (inC C g) (up I g i (fun _ => 0)) J (up P g i (fun _ => none))) : AJ d cc nL oc rt ini C0 mc ms Q kc ks pc ls r C I J P := by
  intro p l e s m args below meth c D cA φ0 hM hT
  subst hi
  exact jw_new hM hT hside.1 hcl hin hii hp hoS hoL rfl rfl hside.2.1 hside.2.2 hd (k p l e s m args below meth c D cA φ0 hM hT)
theorem AJ.objI {idx a b : Nat} (hlk : Cond.methodLink (ocN oc) idx Lib.objectInit ∈ TB) (hside : 1 ≤ d ∧ catS r ≤ 8) (hd : decode cc pc = .ok (.invokespecial idx, 3)) (k : AJ d cc nL oc rt ini C0 mc ms Q kc ks (pc + 3) ls r C I J P) : AJ d cc nL oc rt ini C0 mc ms Q kc ks pc ls (vR a b :: r) C I J P := by
  intro p l e s m args below meth c D cA φ0 hM hT
  exact jw_objI hM hlk hside.1 (by show 20 ≤ 37 * d; omega) hside.2 hd (k p l e s m args below meth c D cA φ0 hM hT)
/-- a constructor is called -/
theorem AJ.cI {d1 np nLc g i mc1 ms1 : Nat} {y : MethodName} {cb : ByteArray} {as : List AV} {Q1 : QT} (hsite : SI oc cc pc y cb nLc np) (ct : Ct d1 y cb nLc none mc1 ms1 (vR g i :: as) C I J P Q1) (hst : st = as.reverse ++ vR g i :: r) (hside : as.length = np ∧ d1 + 1 ≤ d ∧ nLc ≤ 18 ∧ kc' + mc1 = kc ∧ ks' + ms1 = ks ∧ catS r ≤ 8) (hoS : okS C r) (hoL : okL C ls)
    (k : ∀ (v : Option AV) (C1 : hC) (I1 : hI) (J1 : hJ) (P1 : hP), Q1 v C1 I1 J1 P1 → AJ d cc nL oc rt ini C0 mc ms Q kc' ks' (pc + 3) ls (v.toList ++ r) C1 I1 J1 P1) : AJ d cc nL oc rt ini C0 mc ms Q kc ks pc ls st C I J P := by
  intro p l e s m args below meth c D cA φ0 hM hT
  obtain ⟨h1, h2, h3, h4, h5, h6⟩ := hside
  subst h4
  subst h5
  have hfr : d1 + 1 ≤ (rmD d mc ms).frames := h2
  have hlo : 19 + nLc + 37 * d1 ≤ (rmD d mc ms).locals := by show _ ≤ 37 * d; omega
  exact jw_callI (kc := kc') (ks := ks') hM hT hsite ct hst h1 hfr hlo rfl rfl (fun φ => by rw [catS_ok]; exact h6) (Or.inr ⟨hoS, hoL⟩) (fun r1 C1 I1 J1 P1 hq _ => k r1 C1 I1 J1 P1 hq p l e s m args below meth c D cA φ0 hM hT)
end AJN
