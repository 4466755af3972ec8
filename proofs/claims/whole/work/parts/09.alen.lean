/-! a row's length -/
section ALN
variable {d nL oc mc ms kc ks pc : Nat} {cc : ByteArray} {rt : Option FieldType} {ini : Bool} {C0 C : hC} {Q : QT} {ls : List (Option AV)} {r : List AV} {I : hI} {J : hJ} {P : hP}
theorem AJ.alen {g i n : Nat} {ty : FieldType} (hg : gT g = some (ty, n)) (hi : i < C g) (hd : decode cc pc = .ok (.arraylength, 1)) (k : AJ d cc nL oc rt ini C0 mc ms Q kc ks (pc + 1) ls (vI (nI n) :: r) C I J P) : AJ d cc nL oc rt ini C0 mc ms Q kc ks pc ls (vR g i :: r) C I J P := by
  intro p l e s m args below meth c D cA φ0 hM hT φ H locs cells slots lsR hE hW hS hl hn hc hs
  exact W.alen (n := nI n) hM.1 hM.2.1 ((hW.1 g i hi).arr hg) ((hT.2.1 g _ _ hg).1 _ _) (by rw [arrV_size]; rfl) rfl rfl hd (k p l e s m args below meth c D cA φ0 hM hT φ H locs cells slots lsR hE hW hS hl hn hc hs)
end ALN
