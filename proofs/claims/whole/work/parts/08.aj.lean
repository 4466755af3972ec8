/-! the judgement AJ: stretches, calls, switches -/
def qN (C : hC) (F : Option AV → hI → hJ → hP → Prop) : QT := fun r C1 I1 J1 P1 => C1 = C ∧ F r I1 J1 P1
def catS : List AV → Nat
  | [] => 0
  | .inr (.inl _) :: r => 2 + catS r
  | _ :: r => 1 + catS r
theorem catS_ok (φ : Nat → Nat → Nat) : ∀ r : List AV, ((r.map (cv φ)).map fun v => v.category).sum = catS r := by
  intro r
  induction r with
  | nil => rfl
  | cons v r ih =>
    rcases v with x | y | q
    · simp only [List.map_cons, List.sum_cons, ih]; rfl
    · simp only [List.map_cons, List.sum_cons, ih]; rfl
    · simp only [List.map_cons, List.sum_cons, ih]; rfl
section AJR
variable {d nL oc mc ms kc ks pc : Nat} {cc : ByteArray} {rt : Option FieldType} {ini : Bool} {C0 C : hC} {Q : QT} {ls : List (Option AV)} {st r : List AV} {I : hI} {J : hJ} {P : hP}
theorem AJ.blk {is : List (Instr × Nat)} (hB : Blk cc oc rt ini pc is = true) (h : wp Q (AJ d cc nL oc rt ini C0 mc ms Q kc ks) X0 is pc ls st C I J P) : AJ d cc nL oc rt ini C0 mc ms Q kc ks pc ls st C I J P := by
  intro p l e s m args below meth c D cA φ0 hM hT
  refine wp_sound hM hT (fun v pc ls C I J P hq hr => ?_) (fun pc ls st C I J P hk => hk p l e s m args below meth c D cA φ0 hM hT) is pc ls st C I J P hB h
  rcases v with _ | x | y | ⟨g, i⟩
  · obtain ⟨h1, rfl⟩ := hr
    exact jw_vret hM hq h1
  · obtain ⟨h1, rfl | ⟨rfl, h01⟩⟩ := hr
    · exact jw_iret hM hq h1
    · exact jw_zret hM h01 hq h1
  · obtain ⟨h1, rfl⟩ := hr
    exact jw_lret hM hq h1
  · obtain ⟨h1, t, rfl, h2⟩ := hr
    exact jw_aret hM h2 hq h1
/-- a call that makes no cells -/
theorem AJ.cS {d1 np nLc : Nat} {y : MethodName} {cb : ByteArray} {rtc : Option FieldType} {as : List AV} {F : Option AV → hI → hJ → hP → Prop} (hsite : SS oc cc pc y cb nLc rtc np) (ct : Ct d1 y cb nLc rtc 0 0 as C I J P (qN C F)) (hst : st = as.reverse ++ r) (hside : as.length = np ∧ d1 + 1 ≤ d ∧ nLc ≤ 18) (hcat : catS r ≤ 8)
    (k : ∀ (v : Option AV) (I1 : hI) (J1 : hJ) (P1 : hP), F v I1 J1 P1 → AJ d cc nL oc rt ini C0 mc ms Q kc ks (pc + 3) ls (v.toList ++ r) C I1 J1 P1) : AJ d cc nL oc rt ini C0 mc ms Q kc ks pc ls st C I J P := by
  intro p l e s m args below meth c D cA φ0 hM hT
  obtain ⟨h1, h2, h3⟩ := hside
  have hfr : d1 + 1 ≤ (rmD d mc ms).frames := h2
  have hlo : 19 + nLc + 37 * d1 ≤ (rmD d mc ms).locals := by show _ ≤ 37 * d; omega
  exact jw_callS (kc := kc) (ks := ks) (mc1 := 0) (ms1 := 0) hM hT hsite ct hst h1 hfr hlo rfl rfl (fun φ => by rw [catS_ok]; exact hcat) (Or.inl (fun _ _ _ _ _ h => h.1)) (fun r1 C1 I1 J1 P1 hq _ => by
    obtain ⟨rfl, hq⟩ := hq
    exact k r1 I1 J1 P1 hq p l e s m args below meth c D cA φ0 hM hT)
theorem AJ.cV {d1 np nLc g i : Nat} {y : MethodName} {cb : ByteArray} {rtc : Option FieldType} {as : List AV} {F : Option AV → hI → hJ → hP → Prop} (hsite : SV oc cc pc y cb nLc rtc np) (ct : Ct d1 y cb nLc rtc 0 0 (vR g i :: as) C I J P (qN C F)) (hst : st = as.reverse ++ vR g i :: r) (hyc : y.cls = ocN g) (hside : as.length = np ∧ d1 + 1 ≤ d ∧ nLc ≤ 18 ∧ g < 9) (hi : i < C g) (hcat : catS r ≤ 8)
    (k : ∀ (v : Option AV) (I1 : hI) (J1 : hJ) (P1 : hP), F v I1 J1 P1 → AJ d cc nL oc rt ini C0 mc ms Q kc ks (pc + 3) ls (v.toList ++ r) C I1 J1 P1) : AJ d cc nL oc rt ini C0 mc ms Q kc ks pc ls st C I J P := by
  intro p l e s m args below meth c D cA φ0 hM hT
  obtain ⟨h1, h2, h3, h4⟩ := hside
  have hfr : d1 + 1 ≤ (rmD d mc ms).frames := h2
  have hlo : 19 + nLc + 37 * d1 ≤ (rmD d mc ms).locals := by show _ ≤ 37 * d; omega
  exact jw_callV (kc := kc) (ks := ks) (mc1 := 0) (ms1 := 0) hM hT hsite ct hst h4 hyc hi h1 hfr hlo rfl rfl (fun φ => by rw [catS_ok]; exact hcat) (Or.inl (fun _ _ _ _ _ h => h.1)) (fun r1 C1 I1 J1 P1 hq _ => by
    obtain ⟨rfl, hq⟩ := hq
    exact k r1 I1 J1 P1 hq p l e s m args below meth c D cA φ0 hM hT)
theorem AJ.tsOut {x : Int32} {dflt lo hi : Int} {offs : Array Int} {len : Nat} {tgt : Nat} (hd : decode cc pc = .ok (.tableswitch dflt lo hi offs, len)) (h : x.toInt < lo ∨ hi < x.toInt) (ht : (pc : Int) + dflt = (tgt : Int)) (k : AJ d cc nL oc rt ini C0 mc ms Q kc ks tgt ls r C I J P) : AJ d cc nL oc rt ini C0 mc ms Q kc ks pc ls (vI x :: r) C I J P := by
  intro p l e s m args below meth c D cA φ0 hM hT
  exact jw_tsOut hM hd h ht (k p l e s m args below meth c D cA φ0 hM hT)
theorem AJ.tsIn {x : Int32} {dflt lo hi off : Int} {offs : Array Int} {len tgt : Nat} (hd : decode cc pc = .ok (.tableswitch dflt lo hi offs, len)) (h1 : ¬ x.toInt < lo) (h2 : ¬ hi < x.toInt) (ho : offs[(x.toInt - lo).toNat]? = some off) (ht : (pc : Int) + off = (tgt : Int)) (k : AJ d cc nL oc rt ini C0 mc ms Q kc ks tgt ls r C I J P) : AJ d cc nL oc rt ini C0 mc ms Q kc ks pc ls (vI x :: r) C I J P := by
  intro p l e s m args below meth c D cA φ0 hM hT
  exact jw_tsIn hM hd h1 h2 ho ht (k p l e s m args below meth c D cA φ0 hM hT)
end AJR
