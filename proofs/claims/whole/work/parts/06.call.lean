abbrev QT : Type := Option AV → hC → hI → hJ → hP → Prop
def rmD (d mc ms : Nat) : Room := { frames := d, cells := mc, slots := ms, locals := 37 * d }
/-- a contract's end -/
def Qk (D : va_G) (cA : Nat → ClassId) (φ0 : Nat → Nat → Nat) (C0 : hC) (Q : QT) : Array Value → State → Outcome → State → Prop := fun _ st o t =>
  (∃ (r : Option AV) (C : hC) (I : hI) (J : hJ) (P : hP) (φ : Nat → Nat → Nat), o = .returned (r.map (cv φ)) ∧ Q r C I J P ∧ Ex C0 φ0 C φ ∧ Wc D cA φ (afr C0 φ0 st.heap.size) C I J P t.heap) ∧ va_F (afr C0 φ0 st.heap.size) st t
abbrev ZM (below : List Frame) (D : va_G) (cA : Nat → ClassId) (φ0 : Nat → Nat → Nat) (C0 : hC) (Q : QT) (args : Array Value) (s : State) (mc ms : Nat) : State → Prop := MQ below (Qk D cA φ0 C0 Q) args s mc ms (afr C0 φ0 s.heap.size)
def X0 : Nat × (Nat → Int32) := (0, fun _ => 0)
/-- the judgement of a method's body, for every machine -/
def AJ (d : Nat) (cc : ByteArray) (nL oc : Nat) (rt : Option FieldType) (ini : Bool) (C0 : hC) (mc ms : Nat) (Q : QT) (kc ks pc : Nat) (ls : List (Option AV)) (st : List AV) (C : hC) (I : hI) (J : hJ) (P : hP) : Prop :=
  ∀ (p : Program) (l : Launch) (e : Env) (s : State) (m : MethodId) (args : Array Value) (below : List Frame) (meth : Method) (c : Code) (D : va_G) (cA : Nat → ClassId) (φ0 : Nat → Nat → Nat), Mc p s m args meth c cc nL oc rt ini → Wt D cA φ0 (afr C0 φ0 s.heap.size) X0 s →
    JW p l e (rmD d mc ms) s m args below meth c D cA φ0 C0 mc ms nL (ZM below D cA φ0 C0 Q args s mc ms) kc ks pc ls st C I J P
/-- a method's contract -/
def Ct (d : Nat) (y : MethodName) (cc : ByteArray) (nL : Nat) (rt : Option FieldType) (mc ms : Nat) (as : List AV) (C : hC) (I : hI) (J : hJ) (P : hP) (Q : QT) : Prop :=
  ∀ (l : Launch) (D : va_G) (cA : Nat → ClassId) (φ : Nat → Nat → Nat) (sz : Nat), Met l y (.code y cc nL rt :: TB) (rmD d mc ms) (va_Pc (as.map (cv φ)) (fun U => U.heap.size = sz ∧ Wt D cA φ (afr C φ sz) X0 U ∧ Wc D cA φ (afr C φ sz) C I J P U.heap)) (Qk D cA φ C Q) mc ms (afr C φ sz)
def enL : List AV → List (Option AV)
  | [] => []
  | .inr (.inl x) :: vs => some (vL x) :: none :: enL vs
  | v :: vs => some v :: enL vs
theorem enL_sl (φ : Nat → Nat → Nat) : ∀ as : List AV, (lg_sl (as.map (cv φ))).length = (enL as).length := by
  intro as
  induction as with
  | nil => rfl
  | cons v vs ih =>
    rcases v with x | y | q
    · simp [lg_sl, cv, Value.category, enL] at ih ⊢; omega
    · simp [lg_sl, cv, Value.category, enL] at ih ⊢; omega
    · simp [lg_sl, cv, Value.category, enL] at ih ⊢; omega
theorem enL_nil (φ : Nat → Nat → Nat) : ∀ (k b : Nat) (q : Nat × Value), q ∈ lvL φ b (List.replicate k none) → False := by
  intro k b q h
  obtain ⟨j, v, -, h2⟩ := lvL_of φ _ _ _ h
  rw [List.getElem?_replicate] at h2
  split at h2 <;> simp at h2
theorem enL_args (φ : Nat → Nat → Nat) (k : Nat) : ∀ (as : List AV) (b : Nat) (q : Nat × Value), q ∈ lvL φ b (enL as ++ List.replicate k none) → q ∈ lv_args b (as.map (cv φ)) := by
  intro as
  induction as with
  | nil => intro b q h; exact (enL_nil φ k b q h).elim
  | cons v vs ih =>
    intro b q h
    rcases v with x | y | w
    · rcases List.mem_cons.mp h with h | h
      · exact List.mem_cons.mpr (Or.inl h)
      · exact List.mem_cons.mpr (Or.inr (ih (b + 1) q h))
    · rcases List.mem_cons.mp h with h | h
      · exact List.mem_cons.mpr (Or.inl h)
      · exact List.mem_cons.mpr (Or.inr (ih (b + 2) q h))
    · rcases List.mem_cons.mp h with h | h
      · exact List.mem_cons.mpr (Or.inl h)
      · exact List.mem_cons.mpr (Or.inr (ih (b + 1) q h))
theorem Ct.of {d : Nat} {y : MethodName} {cc : ByteArray} {nL oc : Nat} {rt : Option FieldType} {mc ms : Nat} {as : List AV} {C : hC} {I : hI} {J : hJ} {P : hP} {Q : QT} {ini : Bool} {ls : List (Option AV)} (hy : plainName y.cls = true) (hoc : y.cls = ocN oc) (hini : ini = true → y.name = "<init>") (hls : enL as ++ List.replicate (nL - (enL as).length) none = ls) (hln : (enL as).length ≤ nL)
    (body : AJ d cc nL oc rt ini C mc ms Q mc ms 0 ls [] C I J P) : Ct d y cc nL rt mc ms as C I J P Q := by
  intro l D cA φ sz
  refine Met.ofW (cc := cc) (maxL := nL) (ret := rt) hy rfl ?_
  intro p e s m args below meth c s₁ B hml hv
  obtain ⟨rfl, hsz, hT, hW⟩ := hv
  subst hsz
  have hts := atoms_spec (ws := .code y cc nL rt :: TB) B.pre
  have hown : s.vm.findClass y.cls = some m.cls := findClass_of_methodNamed B.named
  have hM : Mc p s m (as.map (cv φ)).toArray meth c cc nL oc rt ini := ⟨B.exec, B.bytes, hml, by rw [← hoc]; exact hown, fun w hw => hts w (List.mem_cons_of_mem _ hw), B.returns, B.notSynchronized, fun h => (name_of_methodNamed B.named B.method).1.trans (hini h)⟩
  have hl := lv_entry (as.map (cv φ)) (n := nL) (by rw [enL_sl]; exact hln)
  rw [lg_entry_eq]
  refine body p l e s m _ below meth c D cA φ hM hT φ s.heap [] 0 0 _ ⟨fun _ _ _ => rfl, fun _ => Nat.le_refl _, rfl, rfl, rfl⟩ hW va_S.rf (lv_mono hl (fun q hq => ?_)) ?_ (by omega) (by omega)
  · rw [← hls] at hq
    exact enL_args φ _ as 0 q hq
  · rw [← hls, List.length_append, List.length_replicate]
    omega
section JWC
variable {p : Program} {l : Launch} {e : Env} {R : Room} {s : State} {m : MethodId} {args : Array Value} {below : List Frame} {meth : Method} {c : Code} {D : va_G} {cA : Nat → ClassId} {φ0 : Nat → Nat → Nat} {C0 : hC} {mc ms nL : Nat} {Z : State → Prop} {kc ks pc : Nat} {ls : List (Option AV)} {r : List AV} {C : hC} {I : hI} {J : hJ} {P : hP} {cc : ByteArray} {oc : Nat} {rt : Option FieldType} {ini : Bool} {X : Nat × (Nat → Int32)}
theorem jw_iret {Q : QT} (hM : Mc p s m args meth c cc nL oc (some .int) ini) {x : Int32} (hq : Q (some (vI x)) C I J P) (hd : decode cc pc = .ok (.ireturn, 1)) : JW p l e R s m args below meth c D cA φ0 C0 mc ms nL (ZM below D cA φ0 C0 Q args s mc ms) kc ks pc ls ([vI x]) C I J P := fun φ H locs cells slots lsR hE hW hS hl hn hc hs => W.widen (k := mc) (n := ms) (by omega) (by omega) (W.iret hM.1 hM.2.1 hM.2.2.2.2.2.1 (fun t ht _ => ⟨⟨_, C, I, J, P, φ, rfl, hq, hE, by rw [ht]; exact hW⟩, hS.F ht⟩) hS.2.2 hd hM.2.2.2.2.2.2.1)
theorem jw_zret {Q : QT} (hM : Mc p s m args meth c cc nL oc (some .boolean) ini) {x : Int32} (h01 : x = 0 ∨ x = 1) (hq : Q (some (vI x)) C I J P) (hd : decode cc pc = .ok (.ireturn, 1)) : JW p l e R s m args below meth c D cA φ0 C0 mc ms nL (ZM below D cA φ0 C0 Q args s mc ms) kc ks pc ls ([vI x]) C I J P := fun φ H locs cells slots lsR hE hW hS hl hn hc hs => W.widen (k := mc) (n := ms) (by omega) (by omega) (W.zret hM.1 hM.2.1 hM.2.2.2.2.2.1 (by rcases h01 with h | h <;> rw [h] <;> rfl) (fun t ht _ => ⟨⟨_, C, I, J, P, φ, rfl, hq, hE, by rw [ht]; exact hW⟩, hS.F ht⟩) hS.2.2 hd hM.2.2.2.2.2.2.1)
theorem jw_lret {Q : QT} (hM : Mc p s m args meth c cc nL oc (some .long) ini) {x : Int64} (hq : Q (some (vL x)) C I J P) (hd : decode cc pc = .ok (.lreturn, 1)) : JW p l e R s m args below meth c D cA φ0 C0 mc ms nL (ZM below D cA φ0 C0 Q args s mc ms) kc ks pc ls ([vL x]) C I J P := fun φ H locs cells slots lsR hE hW hS hl hn hc hs => W.widen (k := mc) (n := ms) (by omega) (by omega) (W.lret hM.1 hM.2.1 hM.2.2.2.2.2.1 (fun t ht _ => ⟨⟨_, C, I, J, P, φ, rfl, hq, hE, by rw [ht]; exact hW⟩, hS.F ht⟩) hS.2.2 hd hM.2.2.2.2.2.2.1)
theorem jw_vret {Q : QT} (hM : Mc p s m args meth c cc nL oc none ini)  (hq : Q (none) C I J P) (hd : decode cc pc = .ok (.return_, 1)) : JW p l e R s m args below meth c D cA φ0 C0 mc ms nL (ZM below D cA φ0 C0 Q args s mc ms) kc ks pc ls ([]) C I J P := fun φ H locs cells slots lsR hE hW hS hl hn hc hs => W.widen (k := mc) (n := ms) (by omega) (by omega) (W.vret hM.1 hM.2.1 hM.2.2.2.2.2.1 (fun t ht _ => ⟨⟨_, C, I, J, P, φ, rfl, hq, hE, by rw [ht]; exact hW⟩, hS.F ht⟩) hS.2.2 hd hM.2.2.2.2.2.2.1)
theorem jw_aret {Q : QT} {rt1 : FieldType} (hM : Mc p s m args meth c cc nL oc (some rt1) ini) {g i : Nat} (hrt : isRf rt1 = true) (hq : Q (some (vR g i)) C I J P) (hd : decode cc pc = .ok (.areturn, 1)) : JW p l e R s m args below meth c D cA φ0 C0 mc ms nL (ZM below D cA φ0 C0 Q args s mc ms) kc ks pc ls ([vR g i]) C I J P := fun φ H locs cells slots lsR hE hW hS hl hn hc hs => W.widen (k := mc) (n := ms) (by omega) (by omega) (W.aret hM.1 hM.2.1 hM.2.2.2.2.2.1 (by cases rt1 <;> first | exact Or.inl ⟨_, rfl⟩ | exact Or.inr ⟨_, rfl⟩ | cases hrt) (Or.inr ⟨_, rfl⟩) (fun t ht _ => ⟨⟨_, C, I, J, P, φ, rfl, hq, hE, by rw [ht]; exact hW⟩, hS.F ht⟩) hS.2.2 hd hM.2.2.2.2.2.2.1)
/-- what the tables say of a method that is called -/
def MF (y : MethodName) (cb : ByteArray) (nLc : Nat) (rtc : Option FieldType) (np : Nat) : Prop := Cond.code y cb nLc rtc ∈ TB ∧ Cond.initialized y.cls ∈ TB ∧ (y.cls ≠ "java/lang/invoke/MethodHandle" ∧ y.cls ≠ "java/lang/invoke/VarHandle" ∧ (parseMethodDescriptor y.desc).map (fun d => d.parameters.length) = some np)
def Lk (oc idx : Nat) (y : MethodName) : Prop := Cond.methodLink (ocN oc) idx y ∈ TB ∨ ∃ h : String, Cond.methodLinkNest (ocN oc) idx y h ∈ lw_tbl
def SV (oc : Nat) (cc : ByteArray) (pc : Nat) (y : MethodName) (cb : ByteArray) (nLc : Nat) (rtc : Option FieldType) (np : Nat) : Prop := ∃ idx : Nat, decode cc pc = .ok (.invokevirtual idx, 3) ∧ Lk oc idx y ∧ MF y cb nLc rtc np ∧ Cond.instanceMethod y ∈ TB ∧ Cond.selects y.cls y y ∈ TB
def SS (oc : Nat) (cc : ByteArray) (pc : Nat) (y : MethodName) (cb : ByteArray) (nLc : Nat) (rtc : Option FieldType) (np : Nat) : Prop := ∃ idx : Nat, decode cc pc = .ok (.invokestatic idx, 3) ∧ Lk oc idx y ∧ MF y cb nLc rtc np ∧ Cond.static y ∈ TB
def SI (oc : Nat) (cc : ByteArray) (pc : Nat) (y : MethodName) (cb : ByteArray) (nLc : Nat) (np : Nat) : Prop := ∃ idx : Nat, decode cc pc = .ok (.invokespecial idx, 3) ∧ Lk oc idx y ∧ MF y cb nLc none np ∧ Cond.instanceMethod y ∈ TB ∧ y.name = "<init>"
theorem goodT {y : MethodName} {cb : ByteArray} {nLc : Nat} {rtc : Option FieldType} (h : Cond.code y cb nLc rtc ∈ TB) : GoodIn TB (.code y cb nLc rtc :: TB) := fun w hw => by
  rcases List.mem_cons.mp hw with q | q
  · rw [q]; exact ⟨h, good_of_word (tb_good h)⟩
  · exact ⟨q, good_of_word (tb_good q)⟩
/-- what a callee sees: the tables at its start -/
theorem Wt.enter {D : va_G} {cA : Nat → ClassId} {φ0 φ : Nat → Nat → Nat} {C0 C : hC} {X : Nat × (Nat → Int32)} {s U : State} {H : Heap} {locs : List Loc} {I : hI} {J : hJ} {P : hP} (hT : Wt D cA φ0 (afr C0 φ0 s.heap.size) X s) (hE : Ex C0 φ0 C φ) (hW : Wc D cA φ (afr C0 φ0 s.heap.size) C I J P H) (hS : va_S (afr C0 φ0 s.heap.size) s.heap H locs) (hU : U.heap = H) (hw : s.WarmedH U.vm) : Wt D cA φ (afr C φ H.size) X0 U := by
  obtain ⟨h1, h2, h3, h4, -, h6, h7⟩ := hT
  refine ⟨va_K.moved hw.alike h1, fun g ty n hg => ⟨arrOfT_moved hw.alike (h2 g ty n hg).1, (h2 g ty n hg).2.moved hw.alike⟩, fun k hk => ?_, ?_, Or.inl rfl, fun o i y h hm => va_Nw.warmM hw (h6 o i y h hm), fun E hE => (h7 E hE).moved hw.alike⟩
  · rw [hE.2.2.1]
    exact vk_R.warm hw (h3 k hk)
  · rw [hE.2.2.1, hE.2.2.2.1, hU]
    refine vkT.moved hw.alike ((h4.kept (fun q hq hA => hS.2.1 q hq hA)).narrow (fun q hq => ?_))
    rcases hq with ⟨g, i, hi, rfl⟩ | hq
    · exact hW.2.2 g i hi
    · exact Or.inr (Nat.le_trans hS.1 hq)
theorem Wt.blind {D : va_G} {cA : Nat → ClassId} {φ : Nat → Nat → Nat} {A : Nat → Prop} {X : Nat × (Nat → Int32)} {s U : State} (hv : U.vm = s.vm) (hh : U.heap = s.heap) (hT : Wt D cA φ A X s) : Wt D cA φ A X U := by
  have ha : s.vm.Alike U.vm := by rw [hv]; exact Vm.Alike.refl _
  obtain ⟨h1, h2, h3, h4, h5, h6, h7⟩ := hT
  refine ⟨va_K.moved ha h1, fun g ty n hg => ⟨arrOfT_moved ha (h2 g ty n hg).1, (h2 g ty n hg).2.moved ha⟩, fun k hk => vk_R.same hv (h3 k hk), ?_, ?_, fun o i y h hm => va_Nw.same rfl hv.symm (h6 o i y h hm), fun E hE => (h7 E hE).moved ha⟩
  · rw [hh]; exact vkT.moved ha h4
  · rcases h5 with q | ⟨q1, q2, q3⟩
    · exact Or.inl q
    · rw [hh]; exact Or.inr ⟨va_X.moved ha q1, q2, q3⟩
theorem Ct.blind {D : va_G} {cA : Nat → ClassId} {φ : Nat → Nat → Nat} {C : hC} {I : hI} {J : hJ} {P : hP} {as : List Value} {sz : Nat} : FrameBlind (va_Pc as (fun U => U.heap.size = sz ∧ Wt D cA φ (afr C φ sz) X0 U ∧ Wc D cA φ (afr C φ sz) C I J P U.heap)) := by
  intro a U g mk ⟨h1, h2, h3, h4⟩
  exact ⟨h1, h2, Wt.blind (s := U) rfl rfl h3, h4⟩
theorem run_S (hM : Mc p s m args meth c cc nL oc rt ini) (hT : Wt D cA φ0 (afr C0 φ0 s.heap.size) X s) {φ : Nat → Nat → Nat} {H : Heap} {locs : List Loc} {cells slots mc1 ms1 d1 np nLc : Nat} {lsR : Array Slot} {y : MethodName} {cb : ByteArray} {rtc : Option FieldType} {as : List AV} {Q1 : QT} {rest st0 : List Value} (hsite : SS oc cc pc y cb nLc rtc np) (ct : Ct d1 y cb nLc rtc mc1 ms1 as C I J P Q1) (hnp : as.length = np) (hfr : d1 + 1 ≤ R.frames) (hlo : 19 + nLc + 37 * d1 ≤ R.locals) (hcl : cells + mc1 ≤ R.cells) (hsl : slots + ms1 ≤ R.slots)
    (hE : Ex C0 φ0 C φ) (hW : Wc D cA φ (afr C0 φ0 s.heap.size) C I J P H) (hS : va_S (afr C0 φ0 s.heap.size) s.heap H locs) (hlz : lsR.size = nL) (hst : st0 = (as.map (cv φ)).reverse ++ rest) (hcat : (rest.map fun v => v.category).sum ≤ 8) : va_Run p l e R s m args below meth c H locs cells slots mc1 ms1 (F0 m pc lsR st0) rest (Qk D cA φ C Q1 (as.map (cv φ)).toArray) (afr C φ H.size) := by
  obtain ⟨idx, hd, hlk, ⟨m1, m2, m3⟩, hstt⟩ := hsite
  have ht := hM.2.2.2.2.1
  have hp : PreS s H (va_Pc (as.map (cv φ)) (fun U => U.heap.size = H.size ∧ Wt D cA φ (afr C φ H.size) X0 U ∧ Wc D cA φ (afr C φ H.size) C I J P U.heap)) (as.map (cv φ)) :=
    ⟨Ct.blind, fun U hU hw => ⟨rfl, by rw [hU], hT.enter hE hW hS hU hw, by rw [hU]; exact ⟨hW.1, hW.2.1, fun g i hi => Or.inl ⟨g, i, hi, rfl⟩⟩⟩⟩
  rcases hlk with hlk | ⟨h, hlk⟩
  · exact va_runS ⟨hM.1, hM.2.1, hM.2.2.1, hM.2.2.2.1, ht⟩ (ct l D cA φ H.size) ⟨callB_of np ht (goodT m1) rfl rfl rfl (ht _ m2) (ht _ hlk) m3 ⟨hfr, by show 8 + (nLc + 11) + 37 * d1 ≤ _; omega⟩, ht _ hstt⟩ hp rfl (by rw [List.length_map]; exact hnp) hlz hst (lv_room hcat) hd ⟨hcl, hsl⟩
  · exact va_runSN ⟨hM.1, hM.2.1, hM.2.2.1, hM.2.2.2.1, ht⟩ (ct l D cA φ H.size) ⟨va_cnB np ht (goodT m1) rfl rfl rfl (hT.2.2.2.2.2.1 _ _ _ _ hlk) (ht _ m2) m3 ⟨hfr, by show 8 + (nLc + 11) + 37 * d1 ≤ _; omega⟩, ht _ hstt, trivial⟩ hp rfl (by rw [List.length_map]; exact hnp) hlz hst (lv_room hcat) hd ⟨hcl, hsl⟩
theorem run_V (hM : Mc p s m args meth c cc nL oc rt ini) (hT : Wt D cA φ0 (afr C0 φ0 s.heap.size) X s) {φ : Nat → Nat → Nat} {H : Heap} {locs : List Loc} {cells slots mc1 ms1 d1 np nLc : Nat} {lsR : Array Slot} {y : MethodName} {cb : ByteArray} {rtc : Option FieldType} {as : List AV} {Q1 : QT} {rest st0 : List Value} {g i : Nat} (hsite : SV oc cc pc y cb nLc rtc np) (ct : Ct d1 y cb nLc rtc mc1 ms1 (vR g i :: as) C I J P Q1) (hg9 : g < 9) (hyc : y.cls = ocN g) (hi : i < C g) (hnp : as.length = np) (hfr : d1 + 1 ≤ R.frames) (hlo : 19 + nLc + 37 * d1 ≤ R.locals) (hcl : cells + mc1 ≤ R.cells) (hsl : slots + ms1 ≤ R.slots)
    (hE : Ex C0 φ0 C φ) (hW : Wc D cA φ (afr C0 φ0 s.heap.size) C I J P H) (hS : va_S (afr C0 φ0 s.heap.size) s.heap H locs) (hlz : lsR.size = nL) (hst : st0 = (as.map (cv φ)).reverse ++ .ref (φ g i) :: rest) (hcat : (rest.map fun v => v.category).sum ≤ 8) : va_Run p l e R s m args below meth c H locs cells slots mc1 ms1 (F0 m pc lsR st0) rest (Qk D cA φ C Q1 (((vR g i :: as).map (cv φ)).toArray)) (afr C φ H.size) := by
  obtain ⟨idx, hd, hlk, ⟨m1, m2, m3⟩, hin, hsel⟩ := hsite
  have ht := hM.2.2.2.2.1
  have hrecv : ∃ cellB : Cell, H[φ g i]? = some cellB ∧ cellB.vm.isStatics = false ∧ s.vm.findClass y.cls = some cellB.cls := by
    obtain ⟨cell, g1, g2, g3, -⟩ := (hW.1 g i hi).obj hg9
    exact ⟨cell, g1, by rw [g3]; rfl, by rw [g2, hyc]; exact (hT.1.1 g _ (clV g hg9)).2.1⟩
  have hp : PreV s H y.cls (φ g i) (va_Pc ((vR g i :: as).map (cv φ)) (fun U => U.heap.size = H.size ∧ Wt D cA φ (afr C φ H.size) X0 U ∧ Wc D cA φ (afr C φ H.size) C I J P U.heap)) (as.map (cv φ)) :=
    ⟨Ct.blind, hrecv, fun U hU hw => ⟨rfl, by rw [hU], hT.enter hE hW hS hU hw, by rw [hU]; exact ⟨hW.1, hW.2.1, fun g i hi => Or.inl ⟨g, i, hi, rfl⟩⟩⟩⟩
  rcases hlk with hlk | ⟨h, hlk⟩
  · exact va_runV ⟨hM.1, hM.2.1, hM.2.2.1, hM.2.2.2.1, ht⟩ (ct l D cA φ H.size) ⟨callB_of np ht (goodT m1) rfl rfl rfl (ht _ m2) (ht _ hlk) m3 ⟨hfr, by show 8 + (nLc + 11) + 37 * d1 ≤ _; omega⟩, ht _ hin, ht _ hsel⟩ hp rfl (by rw [List.length_map]; exact hnp) hlz hst (lv_room hcat) hd ⟨hcl, hsl⟩
  · exact va_runVN ⟨hM.1, hM.2.1, hM.2.2.1, hM.2.2.2.1, ht⟩ (ct l D cA φ H.size) ⟨va_cnB np ht (goodT m1) rfl rfl rfl (hT.2.2.2.2.2.1 _ _ _ _ hlk) (ht _ m2) m3 ⟨hfr, by show 8 + (nLc + 11) + 37 * d1 ≤ _; omega⟩, ht _ hin, ht _ hsel⟩ hp rfl (by rw [List.length_map]; exact hnp) hlz hst (lv_room hcat) hd ⟨hcl, hsl⟩
theorem run_I (hM : Mc p s m args meth c cc nL oc rt ini) (hT : Wt D cA φ0 (afr C0 φ0 s.heap.size) X s) {φ : Nat → Nat → Nat} {H : Heap} {locs : List Loc} {cells slots mc1 ms1 d1 np nLc : Nat} {lsR : Array Slot} {y : MethodName} {cb : ByteArray} {as : List AV} {Q1 : QT} {rest st0 : List Value} {g i : Nat} (hsite : SI oc cc pc y cb nLc np) (ct : Ct d1 y cb nLc none mc1 ms1 (vR g i :: as) C I J P Q1) (hnp : as.length = np) (hfr : d1 + 1 ≤ R.frames) (hlo : 19 + nLc + 37 * d1 ≤ R.locals) (hcl : cells + mc1 ≤ R.cells) (hsl : slots + ms1 ≤ R.slots)
    (hE : Ex C0 φ0 C φ) (hW : Wc D cA φ (afr C0 φ0 s.heap.size) C I J P H) (hS : va_S (afr C0 φ0 s.heap.size) s.heap H locs) (hlz : lsR.size = nL) (hst : st0 = (as.map (cv φ)).reverse ++ .ref (φ g i) :: rest) (hcat : (rest.map fun v => v.category).sum ≤ 8) : va_Run p l e R s m args below meth c H locs cells slots mc1 ms1 (F0 m pc lsR st0) rest (Qk D cA φ C Q1 (((vR g i :: as).map (cv φ)).toArray)) (afr C φ H.size) := by
  obtain ⟨idx, hd, hlk, ⟨m1, m2, m3⟩, hin, hnm⟩ := hsite
  have ht := hM.2.2.2.2.1
  have hp : PreS s H (va_Pc ((vR g i :: as).map (cv φ)) (fun U => U.heap.size = H.size ∧ Wt D cA φ (afr C φ H.size) X0 U ∧ Wc D cA φ (afr C φ H.size) C I J P U.heap)) (.ref (φ g i) :: as.map (cv φ)) :=
    ⟨Ct.blind, fun U hU hw => ⟨rfl, by rw [hU], hT.enter hE hW hS hU hw, by rw [hU]; exact ⟨hW.1, hW.2.1, fun g i hi => Or.inl ⟨g, i, hi, rfl⟩⟩⟩⟩
  rcases hlk with hlk | ⟨h, hlk⟩
  · exact va_runI ⟨hM.1, hM.2.1, hM.2.2.1, hM.2.2.2.1, ht⟩ (ct l D cA φ H.size) ⟨callB_of np ht (goodT m1) rfl rfl rfl (ht _ m2) (ht _ hlk) m3 ⟨hfr, by show 8 + (nLc + 11) + 37 * d1 ≤ _; omega⟩, hnm, ht _ hin⟩ hp rfl (by rw [List.length_map]; exact hnp) hlz hst (lv_room hcat) hd ⟨hcl, hsl⟩
  · exact va_runIN ⟨hM.1, hM.2.1, hM.2.2.1, hM.2.2.2.1, ht⟩ (ct l D cA φ H.size) ⟨va_cnB np ht (goodT m1) rfl rfl rfl (hT.2.2.2.2.2.1 _ _ _ _ hlk) (ht _ m2) m3 ⟨hfr, by show 8 + (nLc + 11) + 37 * d1 ≤ _; omega⟩, hnm, ht _ hin⟩ hp rfl (by rw [List.length_map]; exact hnp) hlz hst (lv_room hcat) hd ⟨hcl, hsl⟩
theorem Ex.trans {C0 C C1 : hC} {φ0 φ φ1 : Nat → Nat → Nat} (h : Ex C0 φ0 C φ) (h1 : Ex C φ C1 φ1) : Ex C0 φ0 C1 φ1 := by
  obtain ⟨a1, a2, a3, a4, a5⟩ := h
  obtain ⟨b1, b2, b3, b4, b5⟩ := h1
  refine ⟨fun g i hi => ?_, fun g => Nat.le_trans (a2 g) (b2 g), b3.trans a3, b4.trans a4, b5.trans a5⟩
  have := a2 g
  have := b2 g
  rcases hi with q | q
  · rw [b1 g i (Or.inl (by omega)), a1 g i (Or.inl q)]
  · rw [b1 g i (Or.inr q), a1 g i (Or.inr (by omega))]
theorem Ex.eq {C : hC} {φ φ1 : Nat → Nat → Nat} (h : Ex C φ C φ1) : φ1 = φ := by
  funext g i
  exact h.1 g i (Nat.lt_or_ge i (C g))
/-- a value that the new cells don't touch -/
def okV (C : hC) (v : AV) : Prop := match v with
  | .inr (.inr q) => q.2 < C q.1 ∨ q.1 = 90 ∨ q.1 = 91 ∨ q.1 = 92
  | _ => True
theorem okV_cv {C C1 : hC} {φ φ1 : Nat → Nat → Nat} (h : Ex C φ C1 φ1) {v : AV} (hv : okV C v) : cv φ1 v = cv φ v := by
  rcases v with x | y | ⟨g, i⟩
  · rfl
  · rfl
  · show Value.ref (φ1 g i) = Value.ref (φ g i)
    rcases hv with q | q | q | q
    · rw [h.1 g i (Or.inl q)]
    · have q : g = 90 := q
      subst q; rw [h.2.2.1]
    · have q : g = 91 := q
      subst q; rw [h.2.2.2.1]
    · have q : g = 92 := q
      subst q; rw [h.2.2.2.2]
def okS (C : hC) (st : List AV) : Prop := ∀ v ∈ st, okV C v
def okL (C : hC) (ls : List (Option AV)) : Prop := ∀ v : AV, some v ∈ ls → okV C v
theorem okS_map {C C1 : hC} {φ φ1 : Nat → Nat → Nat} (h : Ex C φ C1 φ1) {st : List AV} (hv : okS C st) : st.map (cv φ1) = st.map (cv φ) := List.map_congr_left fun v hm => okV_cv h (hv v hm)
theorem okL_lvL {C C1 : hC} {φ φ1 : Nat → Nat → Nat} (h : Ex C φ C1 φ1) : ∀ (ls : List (Option AV)) (b : Nat), okL C ls → lvL φ1 b ls = lvL φ b ls := by
  intro ls
  induction ls with
  | nil => intro b _; rfl
  | cons x r ih =>
    intro b hv
    have ih' := ih (b + 1) (fun v hm => hv v (List.mem_cons_of_mem _ hm))
    cases x with
    | none => exact ih'
    | some w =>
      show (b, cv φ1 w) :: lvL φ1 (b + 1) r = (b, cv φ w) :: lvL φ (b + 1) r
      rw [ih', okV_cv h (hv w List.mem_cons_self)]
theorem jw_after {φ : Nat → Nat → Nat} {H : Heap} {locs : List Loc} {cells slots mc1 ms1 : Nat} {lsR : Array Slot} {Q1 : QT} {av : Array Value} {st0 : List Value}
    (hr : va_Run p l e R s m args below meth c H locs cells slots mc1 ms1 (F0 m pc lsR st0) (r.map (cv φ)) (Qk D cA φ C Q1 av) (afr C φ H.size))
    (hE : Ex C0 φ0 C φ) (hW : Wc D cA φ (afr C0 φ0 s.heap.size) C I J P H) (hS : va_S (afr C0 φ0 s.heap.size) s.heap H locs) (hl : lv_has lsR nL (lvL φ 0 ls)) (hn : ls.length = nL) (hc : cells + (kc + mc1) ≤ mc) (hs : slots + (ks + ms1) ≤ ms)
    (hok : (∀ r1 C1 I1 J1 P1, Q1 r1 C1 I1 J1 P1 → C1 = C) ∨ (okS C r ∧ okL C ls))
    (k : ∀ (r1 : Option AV) (C1 : hC) (I1 : hI) (J1 : hJ) (P1 : hP), Q1 r1 C1 I1 J1 P1 → (∀ g : Nat, C g ≤ C1 g) → JW p l e R s m args below meth c D cA φ0 C0 mc ms nL Z kc ks (pc + 3) ls (r1.toList ++ r) C1 I1 J1 P1) : W p l e R s m args below meth c H locs cells slots Z (F0 m pc lsR st0) := by
  intro T hTh Xs
  obtain ⟨v, st₀, t, T', L, h0, X', hL, e1, e2, ⟨⟨r1, C1, I1, J1, P1, φ1, hv, hq, hE1, hW1⟩, hF⟩, hgo⟩ := hr T hTh Xs
  have hsub : ∀ q, afr C φ H.size q → afr C0 φ0 s.heap.size q := by
    intro q hq
    rcases hq with ⟨g, i, hi, rfl⟩ | hq
    · exact hW.2.2 g i hi
    · exact Or.inr (Nat.le_trans hS.1 hq)
  rw [h0] at hW1 hF
  have hrest : r.map (cv φ1) = r.map (cv φ) ∧ lvL φ1 0 ls = lvL φ 0 ls := by
    rcases hok with q | ⟨q1, q2⟩
    · obtain rfl := q _ _ _ _ _ hq
      rw [hE1.eq]
      exact ⟨rfl, rfl⟩
    · exact ⟨okS_map hE1 q1, okL_lvL hE1 ls 0 q2⟩
  obtain ⟨t2, a1, b1⟩ := k r1 C1 I1 J1 P1 hq hE1.2.1 φ1 T'.heap (locs ++ L) (cells + mc1) (slots + ms1) lsR (hE.trans hE1) ⟨by rw [e1]; exact hW1.1, hW1.2.1, fun g i hi => hsub _ (hW1.2.2 g i hi)⟩
    ⟨Nat.le_trans hS.1 (by have q := hF.1; rw [h0] at q; rw [e1]; exact q), fun q h1 h2 => by rw [e1, hF.2 q (by rw [h0]; exact Nat.lt_of_lt_of_le h1 hS.1) (fun z => h2 (hsub q z)), h0]; exact hS.2.1 q h1 h2, fun q hq => by
      rcases List.mem_append.mp hq with h | h
      · exact hS.2.2 q h
      · exact hsub _ (hL q h)⟩ (by rw [hrest.2]; exact hl) hn (by omega) (by omega) T' rfl X'
  refine ⟨t2, hgo t2 ?_, b1⟩
  have hv' : v = r1.map (cv φ1) := by
    have := hv
    injection this
  rw [hv']
  have e3 : (r1.toList ++ r).map (cv φ1) = (r1.map (cv φ1)).toList ++ r.map (cv φ) := by
    rw [List.map_append, hrest.1]
    cases r1 <;> rfl
  rw [← e3]
  exact a1
theorem jw_callS (hM : Mc p s m args meth c cc nL oc rt ini) (hT : Wt D cA φ0 (afr C0 φ0 s.heap.size) X s) {mc1 ms1 d1 np nLc : Nat} {y : MethodName} {cb : ByteArray} {rtc : Option FieldType} {as st : List AV} {Q1 : QT} (hsite : SS oc cc pc y cb nLc rtc np) (ct : Ct d1 y cb nLc rtc mc1 ms1 as C I J P Q1) (hst : st = as.reverse ++ r) (hnp : as.length = np) (hfr : d1 + 1 ≤ R.frames) (hlo : 19 + nLc + 37 * d1 ≤ R.locals) (hRc : R.cells = mc) (hRs : R.slots = ms) (hcat : ∀ φ, ((r.map (cv φ)).map fun v => v.category).sum ≤ 8)
    (hok : (∀ r1 C1 I1 J1 P1, Q1 r1 C1 I1 J1 P1 → C1 = C) ∨ (okS C r ∧ okL C ls)) (k : ∀ (r1 : Option AV) (C1 : hC) (I1 : hI) (J1 : hJ) (P1 : hP), Q1 r1 C1 I1 J1 P1 → (∀ g : Nat, C g ≤ C1 g) → JW p l e R s m args below meth c D cA φ0 C0 mc ms nL Z kc ks (pc + 3) ls (r1.toList ++ r) C1 I1 J1 P1) : JW p l e R s m args below meth c D cA φ0 C0 mc ms nL Z (kc + mc1) (ks + ms1) pc ls st C I J P := fun φ H locs cells slots lsR hE hW hS hl hn hc hs =>
  jw_after (run_S hM hT hsite ct hnp hfr hlo (by rw [hRc]; omega) (by rw [hRs]; omega) hE hW hS hl.1 (by rw [hst, List.map_append, List.map_reverse]) (hcat φ)) hE hW hS hl hn hc hs hok k
theorem jw_callV (hM : Mc p s m args meth c cc nL oc rt ini) (hT : Wt D cA φ0 (afr C0 φ0 s.heap.size) X s) {mc1 ms1 d1 np nLc g i : Nat} {y : MethodName} {cb : ByteArray} {rtc : Option FieldType} {as st : List AV} {Q1 : QT} (hsite : SV oc cc pc y cb nLc rtc np) (ct : Ct d1 y cb nLc rtc mc1 ms1 (vR g i :: as) C I J P Q1) (hst : st = as.reverse ++ vR g i :: r) (hg9 : g < 9) (hyc : y.cls = ocN g) (hi : i < C g) (hnp : as.length = np) (hfr : d1 + 1 ≤ R.frames) (hlo : 19 + nLc + 37 * d1 ≤ R.locals) (hRc : R.cells = mc) (hRs : R.slots = ms) (hcat : ∀ φ, ((r.map (cv φ)).map fun v => v.category).sum ≤ 8)
    (hok : (∀ r1 C1 I1 J1 P1, Q1 r1 C1 I1 J1 P1 → C1 = C) ∨ (okS C r ∧ okL C ls)) (k : ∀ (r1 : Option AV) (C1 : hC) (I1 : hI) (J1 : hJ) (P1 : hP), Q1 r1 C1 I1 J1 P1 → (∀ g : Nat, C g ≤ C1 g) → JW p l e R s m args below meth c D cA φ0 C0 mc ms nL Z kc ks (pc + 3) ls (r1.toList ++ r) C1 I1 J1 P1) : JW p l e R s m args below meth c D cA φ0 C0 mc ms nL Z (kc + mc1) (ks + ms1) pc ls st C I J P := fun φ H locs cells slots lsR hE hW hS hl hn hc hs =>
  jw_after (run_V hM hT hsite ct hg9 hyc hi hnp hfr hlo (by rw [hRc]; omega) (by rw [hRs]; omega) hE hW hS hl.1 (by rw [hst, List.map_append, List.map_reverse]; rfl) (hcat φ)) hE hW hS hl hn hc hs hok k
theorem jw_callI (hM : Mc p s m args meth c cc nL oc rt ini) (hT : Wt D cA φ0 (afr C0 φ0 s.heap.size) X s) {mc1 ms1 d1 np nLc g i : Nat} {y : MethodName} {cb : ByteArray} {as st : List AV} {Q1 : QT} (hsite : SI oc cc pc y cb nLc np) (ct : Ct d1 y cb nLc none mc1 ms1 (vR g i :: as) C I J P Q1) (hst : st = as.reverse ++ vR g i :: r) (hnp : as.length = np) (hfr : d1 + 1 ≤ R.frames) (hlo : 19 + nLc + 37 * d1 ≤ R.locals) (hRc : R.cells = mc) (hRs : R.slots = ms) (hcat : ∀ φ, ((r.map (cv φ)).map fun v => v.category).sum ≤ 8)
    (hok : (∀ r1 C1 I1 J1 P1, Q1 r1 C1 I1 J1 P1 → C1 = C) ∨ (okS C r ∧ okL C ls)) (k : ∀ (r1 : Option AV) (C1 : hC) (I1 : hI) (J1 : hJ) (P1 : hP), Q1 r1 C1 I1 J1 P1 → (∀ g : Nat, C g ≤ C1 g) → JW p l e R s m args below meth c D cA φ0 C0 mc ms nL Z kc ks (pc + 3) ls (r1.toList ++ r) C1 I1 J1 P1) : JW p l e R s m args below meth c D cA φ0 C0 mc ms nL Z (kc + mc1) (ks + ms1) pc ls st C I J P := fun φ H locs cells slots lsR hE hW hS hl hn hc hs =>
  jw_after (run_I hM hT hsite ct hnp hfr hlo (by rw [hRc]; omega) (by rw [hRs]; omega) hE hW hS hl.1 (by rw [hst, List.map_append, List.map_reverse]; rfl) (hcat φ)) hE hW hS hl hn hc hs hok k
end JWC
