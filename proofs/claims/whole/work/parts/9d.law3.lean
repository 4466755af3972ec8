/-! the law: literals and statics at its start -/
def fl1 : List Cond := flatC (Jvm.Cond.and given_1 narrow_1)
def tmS (i : Nat) : Term := Term.string RX6 (six i)
theorem f_len : ∀ i, i < 11 → sln.getD i 0 < 2 ^ 31 := by decide +kernel
theorem f_ex : ∀ i, i < 11 → Cond.exactly (tmS i) "java/lang/String" ∈ fl1 := by decide +kernel
theorem f_co : ∀ i, i < 11 → Cond.eq (.field (tmS i) "java/lang/String" "coder" "B") (.int 0) ∈ fl1 := by decide +kernel
theorem f_ar : ∀ i, i < 11 → Cond.arrayOf (.field (tmS i) "java/lang/String" "value" "[B") .byte ∈ fl1 := by decide +kernel
theorem f_le : ∀ i, i < 11 → Cond.eq (.length (.field (tmS i) "java/lang/String" "value" "[B")) (.int (Int32.ofNat (sln.getD i 0))) ∈ fl1 := by decide +kernel
theorem f_el : ∀ i, i < 11 → ∀ j, j < sln.getD i 0 → Cond.eq (.elem (.field (tmS i) "java/lang/String" "value" "[B") (.int (Int32.ofNat j))) (.int ((sby.getD i []).getD j 0)) ∈ fl1 := by decide +kernel
theorem f_ne : ∀ i, i < 11 → ∀ j, j < 11 → i ≠ j → Cond.not (Cond.eq (tmS i) (tmS j)) ∈ fl1 ∨ Cond.not (Cond.eq (tmS j) (tmS i)) ∈ fl1 := by decide +kernel
theorem f_cs : Cond.eq (.static "java/lang/String" "COMPACT_STRINGS" "Z") (.int 1) ∈ fl1 := by decide +kernel
theorem f_si : Cond.isRef (.static "jdk/internal/util/Preconditions" "SIOOBE_FORMATTER" "Ljava/util/function/BiFunction;") ∈ fl1 := by decide +kernel
section LAW3
variable {s : State} {b L : Nat} {xs : Nat → Int32}
theorem wt_st (hts : ∀ w ∈ lw_tbl, w.before #[Value.ref b] s = true) (hgv : (Jvm.Cond.and given_1 narrow_1).before #[Value.ref b] s = true) (hX : va_X b L xs s s.heap) (hbl : b < s.heap.size) : ∃ (D : va_G) (cA : Nat → ClassId) (φ0 : Nat → Nat → Nat), φ0 92 0 = b ∧ Wt D cA φ0 (afr C00 φ0 s.heap.size) (L, xs) s := by
  have hf : ∀ c ∈ fl1, c.before #[Value.ref b] s = true := flat_of_before _ hgv
  obtain ⟨D, hD⟩ := cl_st hts
  obtain ⟨cA, hA⟩ := kn_st hts
  have hlt : ∀ a : Nat, a < s.heap.size → ¬ (fun q : Nat => s.heap.size ≤ q) a := fun a h => Nat.not_le.mpr h
  obtain ⟨adK, adV, hS, hE⟩ := vk_Sof (args := #[Value.ref b]) (s := s) (N := 11) (tm := tmS) (len := sln) (byt := sby) (A := fun q => s.heap.size ≤ q) f_len (fun i hi => hf _ (f_ex i hi)) (fun i hi => hf _ (f_co i hi)) (fun i hi => hf _ (f_ar i hi)) (fun i hi => hf _ (f_le i hi)) (fun i hi j hj => hf _ (f_el i hi j hj)) (fun i j hi hj hij => (f_ne i hi j hj hij).imp (fun h => hf _ h) (fun h => hf _ h)) hlt
  have hZ := va_Zof (A := fun q => s.heap.size ≤ q) (hts (.laysStatic "java/lang/String" "COMPACT_STRINGS" "Z") (List.mem_of_getElem? (i := 464) (by decide +kernel))) (hts (.initialized "java/lang/String") (List.mem_of_getElem? (i := 87) (by decide +kernel))) (va_eqi (hf _ f_cs)) hlt
  have hQ := va_Zqof (A := fun q => s.heap.size ≤ q) (hts (.laysStatic "jdk/internal/util/Preconditions" "SIOOBE_FORMATTER" "Ljava/util/function/BiFunction;") (List.mem_of_getElem? (i := 480) (by decide +kernel))) (hts (.initialized "jdk/internal/util/Preconditions") (List.mem_of_getElem? (i := 89) (by decide +kernel))) (hf _ f_si) hlt
  refine ⟨D, cA, fun g i => if g = 90 then adK i else if g = 91 then adV i else b, rfl, hD, hA, fun k hk => vk_R.of (A := #[Value.ref b]) (hts _ (in_str k hk)) (hE k hk), ?_, Or.inr ⟨hX, hbl, fun h => ?_⟩, fun o i y h hm => va_Nw.of rfl (hts _ hm), fun E hE => va_AO.of (hts _ hE)⟩
  · exact vkT.narrow (A := fun q => s.heap.size ≤ q) ⟨hS, hZ, hQ⟩ (fun q h => afr0 h)
  · have := afr0 h
    exact absurd this (Nat.not_le.mpr hbl)
end LAW3
