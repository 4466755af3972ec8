theorem u3_same {α : Type} (f : Nat → Nat → Nat → α) (g i j : Nat) (x : α) : u3 f g i j x g i j = x := by simp [u3]
theorem u3_ne {α : Type} (f : Nat → Nat → Nat → α) {g i j a b c : Nat} (x : α) (h : ¬ (a = g ∧ b = i ∧ c = j)) : u3 f g i j x a b c = f a b c := by simp [u3, h]
theorem gT_ge {g n : Nat} {ty : FieldType} (h : gT g = some (ty, n)) : 9 ≤ g := by
  rcases Nat.lt_or_ge g 9 with q | q
  · rcases (show g = 0 ∨ g = 1 ∨ g = 2 ∨ g = 3 ∨ g = 4 ∨ g = 5 ∨ g = 6 ∨ g = 7 ∨ g = 8 by omega) with rfl | rfl | rfl | rfl | rfl | rfl | rfl | rfl | rfl <;> cases h
  · exact q
theorem cellAt.obj {D : va_G} {cA : Nat → ClassId} {φ : Nat → Nat → Nat} {I : hI} {J : hJ} {P : hP} {g i : Nat} {H : Heap} (h : cellAt D cA φ I J P g i H) (hg : g < 9) : t_OB (φ g i) (D.1 g) (nF g) (D.2 g) H (fv φ g (I g i) (P g i)) := by
  rcases h with h | ⟨ty, n, h, -⟩
  · exact h.2
  · omega
theorem cellAt.arr {D : va_G} {cA : Nat → ClassId} {φ : Nat → Nat → Nat} {I : hI} {J : hJ} {P : hP} {g i n : Nat} {ty : FieldType} {H : Heap} (h : cellAt D cA φ I J P g i H) (hg : gT g = some (ty, n)) : H[φ g i]? = some (arrV (cA g) n (av φ ty (I g i) (J g i) (P g i))) := by
  rcases h with h | ⟨ty', n', h1, h2, h3⟩
  · have := gT_ge hg
    omega
  · rw [hg] at h2
    cases h2
    exact h3
/-- one cell changes, its own slot alone -/
theorem Wc.upd {D : va_G} {cA : Nat → ClassId} {φ : Nat → Nat → Nat} {A : Nat → Prop} {C : hC} {I I' : hI} {J J' : hJ} {P P' : hP} {H H1 : Heap} (h : Wc D cA φ A C I J P H) {g i : Nat} (hi : i < C g)
    (hI : ∀ a b : Nat, ¬ (a = g ∧ b = i) → I' a b = I a b) (hJ : ∀ a b : Nat, ¬ (a = g ∧ b = i) → J' a b = J a b) (hP : ∀ a b : Nat, ¬ (a = g ∧ b = i) → P' a b = P a b)
    (h1 : cellAt D cA φ I' J' P' g i H1) (oq : ∀ q : Nat, q ≠ φ g i → H1[q]? = H[q]?) : Wc D cA φ A C I' J' P' H1 := by
  refine ⟨fun a b hb => ?_, h.2.1, h.2.2⟩
  by_cases e : a = g ∧ b = i
  · obtain ⟨rfl, rfl⟩ := e
    exact h1
  · have hne : φ a b ≠ φ g i := fun q => e (h.2.1 a b g i hb hi q)
    have hk := oq _ hne
    rcases h.1 a b hb with q | ⟨ty, n, q1, q2, q3⟩
    · left
      rw [hI a b e, hP a b e]
      exact ⟨q.1, q.2.kept hk⟩
    · right
      refine ⟨ty, n, q1, q2, ?_⟩
      rw [hI a b e, hJ a b e, hP a b e, hk]
      exact q3
theorem u3_off {α : Type} (f : Nat → Nat → Nat → α) {g i j : Nat} (x : α) : ∀ a b : Nat, ¬ (a = g ∧ b = i) → u3 f g i j x a b = f a b := by
  intro a b h
  funext c
  exact u3_ne f x (fun q => h ⟨q.1, q.2.1⟩)
theorem u3_row {α : Type} (f : Nat → Nat → Nat → α) (g i j : Nat) (x : α) (c : Nat) : u3 f g i j x g i c = if c = j then x else f g i c := by
  simp [u3]
theorem inW {n : Nat} {j : Int32} (h0 : 0 ≤ j.toInt) (h1 : j.toInt < n) : vp_in j n := vp_in_iff.mpr ⟨h0, h1⟩
section JWH
variable {p : Program} {l : Launch} {e : Env} {R : Room} {s : State} {m : MethodId} {args : Array Value} {below : List Frame} {meth : Method} {c : Code} {D : va_G} {cA : Nat → ClassId} {φ0 : Nat → Nat → Nat} {C0 : hC} {mc ms nL : Nat} {Z : State → Prop} {kc ks pc : Nat} {ls : List (Option AV)} {r : List AV} {C : hC} {I : hI} {J : hJ} {P : hP} {cc : ByteArray} {oc : Nat} {rt : Option FieldType} {ini : Bool} {X : Nat × (Nat → Int32)}
theorem jw_getI (hM : Mc p s m args meth c cc nL oc rt ini) (hT : Wt D cA φ0 (afr C0 φ0 s.heap.size) X s) {v idx g i : Nat} (hf : fL oc idx = some v) (hg : v / 64 = g) (hr : isRf (tyV g (v % 64)) = false) (hi : i < C g) (hd : decode cc pc = .ok (.getfield idx, 3)) (k : JW p l e R s m args below meth c D cA φ0 C0 mc ms nL Z kc ks (pc + 3) ls (vI (I g i (v % 64)) :: r) C I J P) : JW p l e R s m args below meth c D cA φ0 C0 mc ms nL Z kc ks pc ls (vR g i :: r) C I J P := fun φ H locs cells slots lsR hE hW hS hl hn hc hs => by
  obtain ⟨f1, f2, f3⟩ := fL_ok hf
  subst hg
  have hob := (hW.1 _ i hi).obj f2
  have hPs : va_P D vwCl [(φ (v / 64) i, .inr (v / 64, (List.range (nF (v / 64))).map (fv φ (v / 64) (I (v / 64) i) (P (v / 64) i))))] H := by
    intro q x hx
    have hz : q < 1 := (List.getElem?_eq_some_iff.mp hx).1
    rw [show q = 0 by omega] at hx
    cases hx
    refine ⟨_, clV _ f2, hob.to (fun j hj => ?_)⟩
    simp [vp_V, List.getD, hj]
  refine va_get (D := D) (ci := v / 64) (v := .int (I (v / 64) i (v % 64))) (C := ocN (v / 64)) (T := TV (v / 64)) (N := nF (v / 64)) hM.1 hM.2.1 hM.2.2.2.2.1 (inV _ f2) hM.2.2.2.1 hT.1 hPs 0 rfl (clV _ f2) (v % 64) f3 (hM.2.2.2.2.1 _ f1) (fun x9 h9 => h9) ?_ hd (k φ H locs cells slots lsR hE hW hS hl hn hc hs)
  simp [f3, fv, hr]
theorem jw_getR (hM : Mc p s m args meth c cc nL oc rt ini) (hT : Wt D cA φ0 (afr C0 φ0 s.heap.size) X s) {v idx g i : Nat} {q : Nat × Nat} (hf : fL oc idx = some v) (hg : v / 64 = g) (hr : isRf (tyV g (v % 64)) = true) (hi : i < C g) (hq : P g i (v % 64) = some q) (hd : decode cc pc = .ok (.getfield idx, 3)) (k : JW p l e R s m args below meth c D cA φ0 C0 mc ms nL Z kc ks (pc + 3) ls (vR q.1 q.2 :: r) C I J P) : JW p l e R s m args below meth c D cA φ0 C0 mc ms nL Z kc ks pc ls (vR g i :: r) C I J P := fun φ H locs cells slots lsR hE hW hS hl hn hc hs => by
  obtain ⟨f1, f2, f3⟩ := fL_ok hf
  subst hg
  have hob := (hW.1 _ i hi).obj f2
  have hPs : va_P D vwCl [(φ (v / 64) i, .inr (v / 64, (List.range (nF (v / 64))).map (fv φ (v / 64) (I (v / 64) i) (P (v / 64) i))))] H := by
    intro q x hx
    have hz : q < 1 := (List.getElem?_eq_some_iff.mp hx).1
    rw [show q = 0 by omega] at hx
    cases hx
    refine ⟨_, clV _ f2, hob.to (fun j hj => ?_)⟩
    simp [vp_V, List.getD, hj]
  refine va_get (D := D) (ci := v / 64) (v := .ref (φ q.1 q.2)) (C := ocN (v / 64)) (T := TV (v / 64)) (N := nF (v / 64)) hM.1 hM.2.1 hM.2.2.2.2.1 (inV _ f2) hM.2.2.2.1 hT.1 hPs 0 rfl (clV _ f2) (v % 64) f3 (hM.2.2.2.2.1 _ f1) (fun x9 h9 => h9) ?_ hd (k φ H locs cells slots lsR hE hW hS hl hn hc hs)
  simp [f3, fv, hr, hq, rv]
theorem jw_putX (hM : Mc p s m args meth c cc nL oc rt ini) (hT : Wt D cA φ0 (afr C0 φ0 s.heap.size) X s) {v idx g i : Nat} {w : AV} {I' : hI} {P' : hP} (hf : fL oc idx = some v) (hg : v / 64 = g) (hi : i < C g) (hfin : (TV g (v % 64)).2.2.2 = false ∨ (ini = true ∧ oc = g))
    (hn0 : ∀ φ : Nat → Nat → Nat, narrow (tyV g (v % 64)) (cv φ w) = cv φ w) (hft : ∀ φ : Nat → Nat → Nat, fits (tyV g (v % 64)) (cv φ w) = true) (hI : ∀ a b : Nat, ¬ (a = g ∧ b = i) → I' a b = I a b) (hP : ∀ a b : Nat, ¬ (a = g ∧ b = i) → P' a b = P a b)
    (hv : ∀ (φ : Nat → Nat → Nat) (j : Nat), j < nF g → updV (fv φ g (I g i) (P g i)) (v % 64) (cv φ w) j = fv φ g (I' g i) (P' g i) j)
    (hd : decode cc pc = .ok (.putfield idx, 3)) (k : JW p l e R s m args below meth c D cA φ0 C0 mc ms nL Z kc ks (pc + 3) ls r C I' J P') : JW p l e R s m args below meth c D cA φ0 C0 mc ms nL Z kc ks pc ls (w :: vR g i :: r) C I J P := fun φ H locs cells slots lsR hE hW hS hl hn hc hs => by
  obtain ⟨f1, f2, f3⟩ := fL_ok hf
  subst hg
  have hob := (hW.1 _ i hi).obj f2
  have hap := va_apart (own := ocN oc) (cl := vwCl) (tys := []) hM.2.2.2.2.1 (inV _ f2) (tyV (v / 64)) (tyV_ok _ f2) (nmV _ f2) hT.1 (clV _ f2)
  obtain ⟨cell, q1, q2, q3, q4⟩ := hob
  obtain ⟨hSl, hfc, kC, hkC, hkind⟩ := hT.1.1 _ _ (clV _ f2)
  obtain ⟨cf, kf, fi, f, hfi, hsl⟩ := hSl (v % 64) f3
  have hst := (u_facts hfc hkC (u_lays hM.2.2.2.2.1 (inV _ f2) f3) hfi).1
  have fin : ∀ H' : Heap, H'[φ (v / 64) i]? = some (cell.setSlot f.slot (cv φ w)) → H'.size = H.size → (∀ q, q ≠ φ (v / 64) i → H'[q]? = H[q]?) → W p l e R s m args below meth c H' (locs ++ [⟨φ (v / 64) i, f.slot⟩]) cells slots Z (F0 m (pc + 3) lsR (r.map (cv φ))) := by
    intro H' e1 e2 e3
    refine k φ H' _ cells slots lsR hE (hW.upd hi hI (fun _ _ _ => rfl) hP (Or.inl ⟨f2, ?_⟩) e3) (hS.put e2 e3 (hW.2.2 _ _ hi)) hl hn hc hs
    rw [hsl] at e1
    exact t_OB.to (V := updV (fv φ (v / 64) (I (v / 64) i) (P (v / 64) i)) (v % 64) (cv φ w)) ⟨_, e1, q2, q3, t_set q4 hap f3 (cv φ w)⟩ (hv φ)
  have hlay := hM.2.2.2.2.1 _ (inV _ f2 _ (u_in_lay f3))
  by_cases hff : (TV (v / 64) (v % 64)).2.2.2 = false
  · unfold u_lay at hlay
    rw [if_neg (by rw [hff]; decide)] at hlay
    have h6 := u_store hfc hkC hkind hlay hfi (tyV_ok _ f2 _ f3) (hn0 φ) (hft φ)
    exact W.putK hM.1 hM.2.1 (f := f) ⟨hM.2.2.2.1, hM.2.2.2.2.1 _ f1, ⟨_, _, _, hfi⟩, hst⟩ (by rw [q2]; exact h6) q1 q3 (by rw [hsl]; exact k2_hasslot (q4 _ f3)) rfl rfl hd fin
  · have hft' : (TV (v / 64) (v % 64)).2.2.2 = true := by simpa using hff
    obtain ⟨hini, hoc⟩ : ini = true ∧ oc = v / 64 := by
      rcases hfin with q | q
      · exact absurd q hff
      · exact q
    unfold u_lay at hlay
    rw [if_pos hft'] at hlay
    have hcf : m.cls = cf := by
      obtain ⟨_, _, c', _, _, _, -, -, hf', -, -, -, hown2, -⟩ := Cond.laysFinal_spec hlay
      have e1 : c' = cf := by have := hfi.symm.trans hf'; simp at this; exact this.1.symm
      rw [dcV _ f2 _ f3, ← hoc] at hown2
      rw [← e1]; exact Option.some.inj (hM.2.2.2.1.symm.trans hown2)
    have h6 := u_fits hfc hkC hkind (Or.inr hlay) hfi (tyV_ok _ f2 _ f3) (hn0 φ) (hft φ)
    exact W.putFinK hM.1 hM.2.1 hM.2.2.2.1 (hM.2.2.2.2.1 _ f1) hfi hst hcf (hM.2.2.2.2.2.2.2 hini) (by rw [q2]; exact h6) q1 q3 (by rw [hsl]; exact k2_hasslot (q4 _ f3)) rfl rfl hd fin
theorem jw_putI (hM : Mc p s m args meth c cc nL oc rt ini) (hT : Wt D cA φ0 (afr C0 φ0 s.heap.size) X s) {v idx g i : Nat} {x : Int32} (hf : fL oc idx = some v) (hg : v / 64 = g) (hi : i < C g) (hty : tyV g (v % 64) = .int ∨ (tyV g (v % 64) = .boolean ∧ (x = 0 ∨ x = 1))) (hfin : (TV g (v % 64)).2.2.2 = false ∨ (ini = true ∧ oc = g)) (hd : decode cc pc = .ok (.putfield idx, 3)) (k : JW p l e R s m args below meth c D cA φ0 C0 mc ms nL Z kc ks (pc + 3) ls r C (u3 I g i (v % 64) x) J P) : JW p l e R s m args below meth c D cA φ0 C0 mc ms nL Z kc ks pc ls (vI x :: vR g i :: r) C I J P := by
  have hr : isRf (tyV g (v % 64)) = false := by
    rcases hty with h | h
    · rw [h]; rfl
    · rw [h.1]; rfl
  refine jw_putX hM hT (w := vI x) hf hg hi hfin (fun φ => ?_) (fun φ => ?_) (u3_off I x) (fun _ _ _ => rfl) (fun φ j hj => ?_) hd k
  · rcases hty with h | ⟨h, h1 | h1⟩
    · rw [h]; rfl
    · rw [h, h1]; rfl
    · rw [h, h1]; rfl
  · rcases hty with h | ⟨h, h1 | h1⟩
    · rw [h]; rfl
    · rw [h, h1]; rfl
    · rw [h, h1]; rfl
  · by_cases e : j = v % 64
    · subst e
      simp [updV, fv, hr, u3, cv]
    · simp [updV, fv, e, u3]
theorem jw_putR (hM : Mc p s m args meth c cc nL oc rt ini) (hT : Wt D cA φ0 (afr C0 φ0 s.heap.size) X s) {v idx g i a b : Nat} (hf : fL oc idx = some v) (hg : v / 64 = g) (hi : i < C g) (hr : isRf (tyV g (v % 64)) = true) (hfin : (TV g (v % 64)).2.2.2 = false ∨ (ini = true ∧ oc = g)) (hd : decode cc pc = .ok (.putfield idx, 3)) (k : JW p l e R s m args below meth c D cA φ0 C0 mc ms nL Z kc ks (pc + 3) ls r C I J (u3 P g i (v % 64) (some (a, b)))) : JW p l e R s m args below meth c D cA φ0 C0 mc ms nL Z kc ks pc ls (vR a b :: vR g i :: r) C I J P := by
  refine jw_putX hM hT (w := vR a b) hf hg hi hfin (fun φ => ?_) (fun φ => ?_) (fun _ _ _ => rfl) (u3_off P _) (fun φ j hj => ?_) hd k
  · revert hr
    cases tyV g (v % 64) <;> intro hr <;> first | rfl | cases hr
  · revert hr
    cases tyV g (v % 64) <;> intro hr <;> first | rfl | cases hr
  · by_cases e : j = v % 64
    · subst e
      simp [updV, fv, hr, u3, cv, rv]
    · simp [updV, fv, e, u3]
theorem jw_iald (hM : Mc p s m args meth c cc nL oc rt ini) (hT : Wt D cA φ0 (afr C0 φ0 s.heap.size) X s) {g i n : Nat} {j : Int32} (hg : gT g = some (.int, n)) (hi : i < C g) (h0 : 0 ≤ j.toInt) (h1 : j.toInt < n) (hd : decode cc pc = .ok (.iaload, 1)) (k : JW p l e R s m args below meth c D cA φ0 C0 mc ms nL Z kc ks (pc + 1) ls (vI (I g i j.toNatClampNeg) :: r) C I J P) : JW p l e R s m args below meth c D cA φ0 C0 mc ms nL Z kc ks pc ls (vI j :: vR g i :: r) C I J P := fun φ H locs cells slots lsR hE hW hS hl hn hc hs => by
  have hin := inW h0 h1
  have hlt : j.toNatClampNeg < n := Nat.not_le.mp fun q => hin (Or.inr q)
  exact W.iald (v := cv φ (vI (I g i j.toNatClampNeg))) hM.1 hM.2.1 ((hW.1 g i hi).arr hg) ((hT.2.1 g _ _ hg).1 _ _) (fun q => by cases q) (by show ¬ (j < 0 ∨ (arrV _ _ _).slots.size ≤ _); rw [arrV_size]; exact hin) (by rw [arrV_read _ _ hlt]; rfl) rfl rfl hd (k φ H locs cells slots lsR hE hW hS hl hn hc hs)
theorem jw_bald (hM : Mc p s m args meth c cc nL oc rt ini) (hT : Wt D cA φ0 (afr C0 φ0 s.heap.size) X s) {g i n : Nat} {j : Int32} (hg : gT g = some (.byte, n)) (hi : i < C g) (h0 : 0 ≤ j.toInt) (h1 : j.toInt < n) (hd : decode cc pc = .ok (.baload, 1)) (k : JW p l e R s m args below meth c D cA φ0 C0 mc ms nL Z kc ks (pc + 1) ls (vI (I g i j.toNatClampNeg) :: r) C I J P) : JW p l e R s m args below meth c D cA φ0 C0 mc ms nL Z kc ks pc ls (vI j :: vR g i :: r) C I J P := fun φ H locs cells slots lsR hE hW hS hl hn hc hs => by
  have hin := inW h0 h1
  have hlt : j.toNatClampNeg < n := Nat.not_le.mp fun q => hin (Or.inr q)
  exact W.bald (v := cv φ (vI (I g i j.toNatClampNeg))) hM.1 hM.2.1 ((hW.1 g i hi).arr hg) ((hT.2.1 g _ _ hg).1 _ _) (fun q => by cases q) (by show ¬ (j < 0 ∨ (arrV _ _ _).slots.size ≤ _); rw [arrV_size]; exact hin) (by rw [arrV_read _ _ hlt]; rfl) rfl rfl hd (k φ H locs cells slots lsR hE hW hS hl hn hc hs)
theorem jw_zald (hM : Mc p s m args meth c cc nL oc rt ini) (hT : Wt D cA φ0 (afr C0 φ0 s.heap.size) X s) {g i n : Nat} {j : Int32} (hg : gT g = some (.boolean, n)) (hi : i < C g) (h0 : 0 ≤ j.toInt) (h1 : j.toInt < n) (hd : decode cc pc = .ok (.baload, 1)) (k : JW p l e R s m args below meth c D cA φ0 C0 mc ms nL Z kc ks (pc + 1) ls (vI (I g i j.toNatClampNeg) :: r) C I J P) : JW p l e R s m args below meth c D cA φ0 C0 mc ms nL Z kc ks pc ls (vI j :: vR g i :: r) C I J P := fun φ H locs cells slots lsR hE hW hS hl hn hc hs => by
  have hin := inW h0 h1
  have hlt : j.toNatClampNeg < n := Nat.not_le.mp fun q => hin (Or.inr q)
  exact W.zald (v := cv φ (vI (I g i j.toNatClampNeg))) hM.1 hM.2.1 ((hW.1 g i hi).arr hg) ((hT.2.1 g _ _ hg).1 _ _) (fun q => by cases q) (by show ¬ (j < 0 ∨ (arrV _ _ _).slots.size ≤ _); rw [arrV_size]; exact hin) (by rw [arrV_read _ _ hlt]; rfl) rfl rfl hd (k φ H locs cells slots lsR hE hW hS hl hn hc hs)
theorem jw_lald (hM : Mc p s m args meth c cc nL oc rt ini) (hT : Wt D cA φ0 (afr C0 φ0 s.heap.size) X s) {g i n : Nat} {j : Int32} (hg : gT g = some (.long, n)) (hi : i < C g) (h0 : 0 ≤ j.toInt) (h1 : j.toInt < n) (hd : decode cc pc = .ok (.laload, 1)) (k : JW p l e R s m args below meth c D cA φ0 C0 mc ms nL Z kc ks (pc + 1) ls (vL (J g i j.toNatClampNeg) :: r) C I J P) : JW p l e R s m args below meth c D cA φ0 C0 mc ms nL Z kc ks pc ls (vI j :: vR g i :: r) C I J P := fun φ H locs cells slots lsR hE hW hS hl hn hc hs => by
  have hin := inW h0 h1
  have hlt : j.toNatClampNeg < n := Nat.not_le.mp fun q => hin (Or.inr q)
  exact W.lald (v := cv φ (vL (J g i j.toNatClampNeg))) hM.1 hM.2.1 ((hW.1 g i hi).arr hg) ((hT.2.1 g _ _ hg).1 _ _) (fun q => by cases q) (by show ¬ (j < 0 ∨ (arrV _ _ _).slots.size ≤ _); rw [arrV_size]; exact hin) (by rw [arrV_read _ _ hlt]; rfl) rfl rfl hd (k φ H locs cells slots lsR hE hW hS hl hn hc hs)
theorem jw_aald (hM : Mc p s m args meth c cc nL oc rt ini) (hT : Wt D cA φ0 (afr C0 φ0 s.heap.size) X s) {g i n : Nat} {j : Int32} {E : String} {q : Nat × Nat} (hg : gT g = some (.object E, n)) (hi : i < C g) (h0 : 0 ≤ j.toInt) (h1 : j.toInt < n) (hq : P g i j.toNatClampNeg = some q) (hd : decode cc pc = .ok (.aaload, 1)) (k : JW p l e R s m args below meth c D cA φ0 C0 mc ms nL Z kc ks (pc + 1) ls (vR q.1 q.2 :: r) C I J P) : JW p l e R s m args below meth c D cA φ0 C0 mc ms nL Z kc ks pc ls (vI j :: vR g i :: r) C I J P := fun φ H locs cells slots lsR hE hW hS hl hn hc hs => by
  have hin := inW h0 h1
  have hlt : j.toNatClampNeg < n := Nat.not_le.mp fun q => hin (Or.inr q)
  exact W.aald (v := .ref (φ q.1 q.2)) (ty := .object E) hM.1 hM.2.1 ((hW.1 g i hi).arr hg) ((hT.2.1 g _ _ hg).1 _ _) rfl (fun q => by cases q) (by show ¬ (j < 0 ∨ (arrV _ _ _).slots.size ≤ _); rw [arrV_size]; exact hin) (by rw [arrV_read _ _ hlt]; simp [av, hq, rv]) rfl rfl hd (k φ H locs cells slots lsR hE hW hS hl hn hc hs)
theorem jw_sld (hM : Mc p s m args meth c cc nL oc rt ini) (hT : Wt D cA φ0 (afr C0 φ0 s.heap.size) X s) {j : Int32} (h0 : 0 ≤ j.toInt) (h1 : j.toInt < X.1) (hd : decode cc pc = .ok (.iaload, 1)) (k : JW p l e R s m args below meth c D cA φ0 C0 mc ms nL Z kc ks (pc + 1) ls (vI (X.2 j.toNatClampNeg) :: r) C I J P) : JW p l e R s m args below meth c D cA φ0 C0 mc ms nL Z kc ks pc ls (vI j :: vR 92 0 :: r) C I J P := fun φ H locs cells slots lsR hE hW hS hl hn hc hs => by
  rcases hT.2.2.2.2.1 with q | ⟨hX, hbl, hbA⟩
  · omega
  · have e : φ 92 0 = φ0 92 0 := by rw [hE.2.2.2.2]
    show W p l _ R s m args below meth c H locs cells slots Z (F0 m pc lsR (.int j :: .ref (φ 92 0) :: r.map (cv φ)))
    rw [e]
    exact va_sld hM.1 hM.2.1 hX hbl hbA hS (inW h0 h1) hd (k φ H locs cells slots lsR hE hW hS hl hn hc hs)
theorem jw_slen (hM : Mc p s m args meth c cc nL oc rt ini) (hT : Wt D cA φ0 (afr C0 φ0 s.heap.size) X s) (hX0 : X.1 ≠ 0) (hd : decode cc pc = .ok (.arraylength, 1)) (k : JW p l e R s m args below meth c D cA φ0 C0 mc ms nL Z kc ks (pc + 1) ls (vI (nI X.1) :: r) C I J P) : JW p l e R s m args below meth c D cA φ0 C0 mc ms nL Z kc ks pc ls (vR 92 0 :: r) C I J P := fun φ H locs cells slots lsR hE hW hS hl hn hc hs => by
  rcases hT.2.2.2.2.1 with q | ⟨hX, hbl, hbA⟩
  · exact absurd q hX0
  · have e : φ 92 0 = φ0 92 0 := by rw [hE.2.2.2.2]
    show W p l _ R s m args below meth c H locs cells slots Z (F0 m pc lsR (.ref (φ 92 0) :: r.map (cv φ)))
    rw [e]
    exact va_slen hM.1 hM.2.1 hX hbl hbA hS hd (k φ H locs cells slots lsR hE hW hS hl hn hc hs)
theorem jw_iast (hM : Mc p s m args meth c cc nL oc rt ini) (hT : Wt D cA φ0 (afr C0 φ0 s.heap.size) X s) {g i n : Nat} {j : Int32} {x : Int32} (hg : gT g = some (.int, n)) (hi : i < C g) (h0 : 0 ≤ j.toInt) (h1 : j.toInt < n) (hd : decode cc pc = .ok (.iastore, 1)) (k : JW p l e R s m args below meth c D cA φ0 C0 mc ms nL Z kc ks (pc + 1) ls r C (u3 I g i j.toNatClampNeg x) J P) : JW p l e R s m args below meth c D cA φ0 C0 mc ms nL Z kc ks pc ls (vI x :: vI j :: vR g i :: r) C I J P := fun φ H locs cells slots lsR hE hW hS hl hn hc hs => by
  have hin := inW h0 h1
  refine W.iast (x := x) hM.1 hM.2.1 ((hW.1 g i hi).arr hg) ((hT.2.1 g _ _ hg).1 _ _) (fun q => by cases q) (by show ¬ (j < 0 ∨ (arrV _ _ _).slots.size ≤ _); rw [arrV_size]; exact hin) rfl rfl hd fun H1 e1 z oq => ?_
  refine k φ H1 _ cells slots lsR hE (hW.upd hi (u3_off I _) (fun _ _ _ => rfl) (fun _ _ _ => rfl) (Or.inr ⟨_, _, gT_ge hg, hg, ?_⟩) oq) (hS.put z oq (hW.2.2 _ _ hi)) hl hn hc hs
  rw [e1, arrV_store]
  congr 2
  funext q
  by_cases hq : q = j.toNatClampNeg
  · subst hq
    simp [updV, av, u3, vp_nar]
    try rfl
  · simp [updV, av, u3, hq]
theorem jw_bast (hM : Mc p s m args meth c cc nL oc rt ini) (hT : Wt D cA φ0 (afr C0 φ0 s.heap.size) X s) {g i n : Nat} {j : Int32} {x : Int32} (hg : gT g = some (.byte, n)) (hi : i < C g) (h0 : 0 ≤ j.toInt) (h1 : j.toInt < n) (hd : decode cc pc = .ok (.bastore, 1)) (k : JW p l e R s m args below meth c D cA φ0 C0 mc ms nL Z kc ks (pc + 1) ls r C (u3 I g i j.toNatClampNeg (vp_nar .byte x)) J P) : JW p l e R s m args below meth c D cA φ0 C0 mc ms nL Z kc ks pc ls (vI x :: vI j :: vR g i :: r) C I J P := fun φ H locs cells slots lsR hE hW hS hl hn hc hs => by
  have hin := inW h0 h1
  refine W.bast (x := x) hM.1 hM.2.1 ((hW.1 g i hi).arr hg) ((hT.2.1 g _ _ hg).1 _ _) (fun q => by cases q) (by show ¬ (j < 0 ∨ (arrV _ _ _).slots.size ≤ _); rw [arrV_size]; exact hin) rfl rfl hd fun H1 e1 z oq => ?_
  refine k φ H1 _ cells slots lsR hE (hW.upd hi (u3_off I _) (fun _ _ _ => rfl) (fun _ _ _ => rfl) (Or.inr ⟨_, _, gT_ge hg, hg, ?_⟩) oq) (hS.put z oq (hW.2.2 _ _ hi)) hl hn hc hs
  rw [e1, arrV_store]
  congr 2
  funext q
  by_cases hq : q = j.toNatClampNeg
  · subst hq
    simp [updV, av, u3, vp_nar]
    try rfl
  · simp [updV, av, u3, hq]
theorem jw_zast (hM : Mc p s m args meth c cc nL oc rt ini) (hT : Wt D cA φ0 (afr C0 φ0 s.heap.size) X s) {g i n : Nat} {j : Int32} {x : Int32} (hg : gT g = some (.boolean, n)) (hi : i < C g) (h0 : 0 ≤ j.toInt) (h1 : j.toInt < n) (hd : decode cc pc = .ok (.bastore, 1)) (k : JW p l e R s m args below meth c D cA φ0 C0 mc ms nL Z kc ks (pc + 1) ls r C (u3 I g i j.toNatClampNeg (vp_nar .boolean x)) J P) : JW p l e R s m args below meth c D cA φ0 C0 mc ms nL Z kc ks pc ls (vI x :: vI j :: vR g i :: r) C I J P := fun φ H locs cells slots lsR hE hW hS hl hn hc hs => by
  have hin := inW h0 h1
  refine W.zast (x := x) hM.1 hM.2.1 ((hW.1 g i hi).arr hg) ((hT.2.1 g _ _ hg).1 _ _) (fun q => by cases q) (by show ¬ (j < 0 ∨ (arrV _ _ _).slots.size ≤ _); rw [arrV_size]; exact hin) rfl rfl hd fun H1 e1 z oq => ?_
  refine k φ H1 _ cells slots lsR hE (hW.upd hi (u3_off I _) (fun _ _ _ => rfl) (fun _ _ _ => rfl) (Or.inr ⟨_, _, gT_ge hg, hg, ?_⟩) oq) (hS.put z oq (hW.2.2 _ _ hi)) hl hn hc hs
  rw [e1, arrV_store]
  congr 2
  funext q
  by_cases hq : q = j.toNatClampNeg
  · subst hq
    simp [updV, av, u3, vp_nar]
    try rfl
  · simp [updV, av, u3, hq]
theorem jw_last (hM : Mc p s m args meth c cc nL oc rt ini) (hT : Wt D cA φ0 (afr C0 φ0 s.heap.size) X s) {g i n : Nat} {j : Int32} {x : Int64} (hg : gT g = some (.long, n)) (hi : i < C g) (h0 : 0 ≤ j.toInt) (h1 : j.toInt < n) (hd : decode cc pc = .ok (.lastore, 1)) (k : JW p l e R s m args below meth c D cA φ0 C0 mc ms nL Z kc ks (pc + 1) ls r C I (u3 J g i j.toNatClampNeg x) P) : JW p l e R s m args below meth c D cA φ0 C0 mc ms nL Z kc ks pc ls (vL x :: vI j :: vR g i :: r) C I J P := fun φ H locs cells slots lsR hE hW hS hl hn hc hs => by
  have hin := inW h0 h1
  refine W.last (x := x) hM.1 hM.2.1 ((hW.1 g i hi).arr hg) ((hT.2.1 g _ _ hg).1 _ _) (fun q => by cases q) (by show ¬ (j < 0 ∨ (arrV _ _ _).slots.size ≤ _); rw [arrV_size]; exact hin) rfl rfl hd fun H1 e1 z oq => ?_
  refine k φ H1 _ cells slots lsR hE (hW.upd hi (fun _ _ _ => rfl) (u3_off J _) (fun _ _ _ => rfl) (Or.inr ⟨_, _, gT_ge hg, hg, ?_⟩) oq) (hS.put z oq (hW.2.2 _ _ hi)) hl hn hc hs
  rw [e1, arrV_store]
  congr 2
  funext q
  by_cases hq : q = j.toNatClampNeg
  · subst hq
    simp [updV, av, u3, vp_nar]
    try rfl
  · simp [updV, av, u3, hq]
theorem jw_aast (hM : Mc p s m args meth c cc nL oc rt ini) (hT : Wt D cA φ0 (afr C0 φ0 s.heap.size) X s) {g i n a b : Nat} {j : Int32} (ha : a < 9) (hg : gT g = some (.object (ocN a), n)) (hi : i < C g) (hb : b < C a) (h0 : 0 ≤ j.toInt) (h1 : j.toInt < n) (hd : decode cc pc = .ok (.aastore, 1)) (k : JW p l e R s m args below meth c D cA φ0 C0 mc ms nL Z kc ks (pc + 1) ls r C I J (u3 P g i j.toNatClampNeg (some (a, b)))) : JW p l e R s m args below meth c D cA φ0 C0 mc ms nL Z kc ks pc ls (vR a b :: vI j :: vR g i :: r) C I J P := fun φ H locs cells slots lsR hE hW hS hl hn hc hs => by
  have hin := inW h0 h1
  have hlt : j.toNatClampNeg < n := Nat.not_le.mp fun q => hin (Or.inr q)
  have hj0 : ¬ j < 0 := fun q => hin (Or.inl q)
  obtain ⟨cellV, g1, g2, g3, -⟩ := (hW.1 a b hb).obj ha
  have hcls := (hT.1.1 a _ (clV a ha)).2
  obtain ⟨kA, comp, k1, k2, k3, -⟩ := (hT.2.1 g _ _ hg).2
  have hcomp : comp = D.1 a := Option.some.inj (k3.symm.trans hcls.1)
  subst hcomp
  obtain ⟨kC, hkC, -⟩ := hcls.2
  refine W.aast hM.1 hM.2.1 ((hW.1 g i hi).arr hg) (fun q h => by cases h) (fun h => by cases h) k1 k2 rfl hkC ⟨hj0, by show _ < (arrV _ _ _).slots.size; rw [arrV_size]; exact hlt⟩ g1 (fun q h => by rw [g3] at h; cases h) (by rw [g2]; exact hkC) (by rw [g2]; exact va_assign hcls) rfl rfl hd fun H1 e1 z oq => ?_
  refine k φ H1 _ cells slots lsR hE (hW.upd hi (fun _ _ _ => rfl) (fun _ _ _ => rfl) (u3_off P _) (Or.inr ⟨_, _, gT_ge hg, hg, ?_⟩) oq) (hS.put z oq (hW.2.2 _ _ hi)) hl hn hc hs
  rw [e1, arrV_store]
  congr 2
  funext q
  by_cases hq : q = j.toNatClampNeg
  · subst hq
    simp [updV, av, u3, rv]
  · simp [updV, av, u3, hq]
end JWH
