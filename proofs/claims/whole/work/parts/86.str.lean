/-! the library's text: String.length, String.charAt over the literals -/
theorem lS_38 : Cond.fieldLink (ocN 12) 38 "java/lang/String" "COMPACT_STRINGS" "Z" ∈ TB := tbm 463 (by decide +kernel) (by decide +kernel)
theorem lS_9 : Cond.fieldLink (ocN 12) 9 "java/lang/String" "value" "[B" ∈ TB := tbm 1297 (by decide +kernel) (by decide +kernel)
theorem lS_15 : Cond.fieldLink (ocN 12) 15 "java/lang/String" "coder" "B" ∈ TB := tbm 1298 (by decide +kernel) (by decide +kernel)
theorem lS_1053 : Cond.fieldLink (ocN 12) 1053 "jdk/internal/util/Preconditions" "SIOOBE_FORMATTER" "Ljava/util/function/BiFunction;" ∈ TB := tbm 479 (by decide +kernel) (by decide +kernel)
section STR
variable {d nL oc mc ms kc ks pc : Nat} {cc : ByteArray} {rt : Option FieldType} {ini : Bool} {C0 C : hC} {Q : QT} {ls : List (Option AV)} {st r : List AV} {I : hI} {J : hJ} {P : hP}
theorem AJ.gs38 (hd : decode cc pc = .ok (.getstatic 38, 3)) (k : AJ d cc nL 12 rt ini C0 mc ms Q kc ks (pc + 3) ls (vI 1 :: r) C I J P) : AJ d cc nL 12 rt ini C0 mc ms Q kc ks pc ls r C I J P := by
  intro p l e s m args below meth c D cA φ0 hM hT φ H locs cells slots lsR hE hW hS hl hn hc hs
  exact va_gets hM.1 hM.2.1 hT.2.2.2.1.2.1 hS hM.2.2.2.1 (hM.2.2.2.2.1 _ lS_38) (fun x h => h) hd (k p l e s m args below meth c D cA φ0 hM hT φ H locs cells slots lsR hE hW hS hl hn hc hs)
theorem AJ.gf9 {i : Nat} (hi : i < 11) (hd : decode cc pc = .ok (.getfield 9, 3)) (k : AJ d cc nL 12 rt ini C0 mc ms Q kc ks (pc + 3) ls (vR 91 i :: r) C I J P) : AJ d cc nL 12 rt ini C0 mc ms Q kc ks pc ls (vR 90 i :: r) C I J P := by
  intro p l e s m args below meth c D cA φ0 hM hT φ H locs cells slots lsR hE hW hS hl hn hc hs
  have hO := (hT.2.2.2.1.1.1 i hi).2.2.1
  have kk := k p l e s m args below meth c D cA φ0 hM hT φ H locs cells slots lsR hE hW hS hl hn hc hs
  have e0 : (vR 90 i :: r).map (cv φ) = .ref (φ0 90 i) :: r.map (cv φ) := by
    show Value.ref (φ 90 i) :: _ = _
    rw [hE.2.2.1]
  have e1 : (vR 91 i :: r).map (cv φ) = .ref (φ0 91 i) :: r.map (cv φ) := by
    show Value.ref (φ 91 i) :: _ = _
    rw [hE.2.2.2.1]
  rw [e1] at kk
  rw [e0]
  exact vk_getf hM.1 hM.2.1 hO hS hM.2.2.2.1 (hM.2.2.2.2.1 _ lS_9) (fun x h => h) hd kk
theorem AJ.gf15 {i : Nat} (hi : i < 11) (hd : decode cc pc = .ok (.getfield 15, 3)) (k : AJ d cc nL 12 rt ini C0 mc ms Q kc ks (pc + 3) ls (vI 0 :: r) C I J P) : AJ d cc nL 12 rt ini C0 mc ms Q kc ks pc ls (vR 90 i :: r) C I J P := by
  intro p l e s m args below meth c D cA φ0 hM hT φ H locs cells slots lsR hE hW hS hl hn hc hs
  have hO := (hT.2.2.2.1.1.1 i hi).2.1
  have kk := k p l e s m args below meth c D cA φ0 hM hT φ H locs cells slots lsR hE hW hS hl hn hc hs
  have e0 : (vR 90 i :: r).map (cv φ) = .ref (φ0 90 i) :: r.map (cv φ) := by
    show Value.ref (φ 90 i) :: _ = _
    rw [hE.2.2.1]
  rw [e0]
  exact vk_getf hM.1 hM.2.1 hO hS hM.2.2.2.1 (hM.2.2.2.2.1 _ lS_15) (fun x h => h) hd kk
theorem AJ.ln91 {i : Nat} (hi : i < 11) (hd : decode cc pc = .ok (.arraylength, 1)) (k : AJ d cc nL oc rt ini C0 mc ms Q kc ks (pc + 1) ls (vI (nI (sln.getD i 0)) :: r) C I J P) : AJ d cc nL oc rt ini C0 mc ms Q kc ks pc ls (vR 91 i :: r) C I J P := by
  intro p l e s m args below meth c D cA φ0 hM hT φ H locs cells slots lsR hE hW hS hl hn hc hs
  have hO := (hT.2.2.2.1.1.1 i hi).2.2.2
  have kk := k p l e s m args below meth c D cA φ0 hM hT φ H locs cells slots lsR hE hW hS hl hn hc hs
  have e0 : (vR 91 i :: r).map (cv φ) = .ref (φ0 91 i) :: r.map (cv φ) := by
    show Value.ref (φ 91 i) :: _ = _
    rw [hE.2.2.2.1]
  rw [e0]
  exact va_tlen hM.1 hM.2.1 hO hS rfl hd kk
theorem sln_lt : ∀ i, i < 11 → sln.getD i 0 < 100 := by decide
theorem AJ.tb91 {i j : Nat} (hi : i < 11) (hj : j < sln.getD i 0) (hj2 : j < 2 ^ 31) (hd : decode cc pc = .ok (.baload, 1)) (k : AJ d cc nL oc rt ini C0 mc ms Q kc ks (pc + 1) ls (vI ((sby.getD i []).getD j 0) :: r) C I J P) : AJ d cc nL oc rt ini C0 mc ms Q kc ks pc ls (vI (nI j) :: vR 91 i :: r) C I J P := by
  intro p l e s m args below meth c D cA φ0 hM hT φ H locs cells slots lsR hE hW hS hl hn hc hs
  have hO := (hT.2.2.2.1.1.1 i hi).2.2.2
  have kk := k p l e s m args below meth c D cA φ0 hM hT φ H locs cells slots lsR hE hW hS hl hn hc hs
  have e0 : (vI (nI j) :: vR 91 i :: r).map (cv φ) = .int (nI j) :: .ref (φ0 91 i) :: r.map (cv φ) := by
    show Value.int (nI j) :: Value.ref (φ 91 i) :: _ = _
    rw [hE.2.2.2.1]
  rw [e0]
  have h100 : sln.getD i 0 < 100 := sln_lt i hi
  exact va_tb hM.1 hM.2.1 hO hS (vp_in_nI hj (by omega)) (by rw [nI_clamp hj2]; rfl) hd kk
theorem AJ.nret {ty : FieldType} {x : Int32} (hn0 : narrow ty (.int x) = .int x) (hq : Q (some (vI x)) C I J P) (hd : decode cc pc = .ok (.ireturn, 1)) : AJ d cc nL oc (some ty) ini C0 mc ms Q kc ks pc ls [vI x] C I J P := by
  intro p l e s m args below meth c D cA φ0 hM hT φ H locs cells slots lsR hE hW hS hl hn hc hs
  exact W.widen (k := mc) (n := ms) (by omega) (by omega) (W.zret hM.1 hM.2.1 hM.2.2.2.2.2.1 hn0 (fun t ht _ => ⟨⟨_, C, I, J, P, φ, rfl, hq, hE, by rw [ht]; exact hW⟩, hS.F ht⟩) hS.2.2 hd hM.2.2.2.2.2.2.1)
theorem AJ.i2c {x v : Int32} (hv : (x.toUInt32 % 65536).toInt32 = v) (hd : decode cc pc = .ok (.i2c, 1)) (k : AJ d cc nL oc rt ini C0 mc ms Q kc ks (pc + 1) ls (vI v :: r) C I J P) : AJ d cc nL oc rt ini C0 mc ms Q kc ks pc ls (vI x :: r) C I J P := by
  intro p l e s m args below meth c D cA φ0 hM hT φ H locs cells slots lsR hE hW hS hl hn hc hs
  exact lv_i2c hM.1 hM.2.1 hd hv (k p l e s m args below meth c D cA φ0 hM hT φ H locs cells slots lsR hE hW hS hl hn hc hs)
theorem AJ.ldcS {i : Nat} (hi : i < 11) (hd : decode cc pc = .ok (.ldc (six i), 2)) (k : AJ d cc nL 6 rt ini C0 mc ms Q kc ks (pc + 2) ls (vR 90 i :: r) C I J P) : AJ d cc nL 6 rt ini C0 mc ms Q kc ks pc ls r C I J P := by
  intro p l e s m args below meth c D cA φ0 hM hT φ H locs cells slots lsR hE hW hS hl hn hc hs
  have kk := k p l e s m args below meth c D cA φ0 hM hT φ H locs cells slots lsR hE hW hS hl hn hc hs
  have e0 : (vR 90 i :: r).map (cv φ) = .ref (φ0 90 i) :: r.map (cv φ) := by
    show Value.ref (φ 90 i) :: _ = _
    rw [hE.2.2.1]
  rw [e0] at kk
  exact va_ldcS hM.1 hM.2.1 hM.2.2.2.1 (hT.2.2.1 i hi) hd kk
end STR
