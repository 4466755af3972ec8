/-! the law: its rules hold of the machine; the world at its start -/
def C00 : hC := fun _ => 0
theorem hdL33 : decode cL_law 33 = .ok (.tableswitch 763 0 23 #[111, 174, 197, 210, 223, 246, 309, 332, 355, 418, 451, 474, 507, 550, 563, 586, 599, 622, 635, 658, 681, 694, 707, 740], 111) := by decide +kernel
theorem tg_in : ∀ n, n < 24 → (#[111, 174, 197, 210, 223, 246, 309, 332, 355, 418, 451, 474, 507, 550, 563, 586, 599, 622, 635, 658, 681, 694, 707, 740] : Array Int)[n]? = some ((tgL.getD n 796 : Int) - 33) := by decide +kernel
theorem tg_out : ∀ n, n < 32 → 24 ≤ n → tgL.getD n 796 = 796 := by decide +kernel
section LAW2
variable {p : Program} {l : Launch} {e : Env} {s : State} {m : MethodId} {below : List Frame} {meth : Method} {c : Code} {D : va_G} {cA : Nat → ClassId} {φ0 : Nat → Nat → Nat} {b L : Nat} {xs : Nat → Int32}
theorem afr0 {φ : Nat → Nat → Nat} {sz q : Nat} (h : afr C00 φ sz q) : sz ≤ q := by
  rcases h with ⟨g, i, hi, -⟩ | h
  · exact absurd hi (Nat.not_lt_zero _)
  · exact h
theorem lawF_jw (hM : Mc p s m #[Value.ref b] meth c cL_law 4 9 (some .boolean) false) (hT : Wt D cA φ0 (afr C00 φ0 s.heap.size) (L, xs) s) (hX : va_X b L xs s s.heap) (hbl : b < s.heap.size) (h92 : φ0 92 0 = b) : LawF L xs (JW p l e room_1 s m #[Value.ref b] below meth c D cA φ0 C00 600000 7302250 4 (lw_Z below #[Value.ref b] s) 0 0) := by
  have hbA : ¬ afr C00 φ0 s.heap.size b := fun h => by have := afr0 h; omega
  refine ⟨?_, ?_, ?_, ?_, ?_⟩
  · intro is pc ls st C I J P hB hw
    exact wp_sound hM hT (fun v pc ls C I J P hq _ => hq.elim) (fun pc ls st C I J P hk => hk) is pc ls st C I J P hB hw
  · intro pc d1 np nLc g i y cb rtc as r st F1 ls I J P hsite ct hst hyc hside hi hcat k
    obtain ⟨h1, h2, h3, h4⟩ := hside
    have hfr : d1 + 1 ≤ room_1.frames := h2
    have hlo : 19 + nLc + 37 * d1 ≤ room_1.locals := by show _ ≤ 530; omega
    exact jw_callV (kc := 0) (ks := 0) (mc1 := 0) (ms1 := 0) hM hT hsite ct hst h4 hyc hi h1 hfr hlo rfl rfl (fun φ => by rw [catS_ok]; exact hcat) (Or.inl (fun _ _ _ _ _ h => h.1)) (fun r1 C1 I1 J1 P1 hq _ => by
      obtain ⟨rfl, hq⟩ := hq
      exact k r1 I1 J1 P1 hq)
  · intro ls r C I J P k φ H locs cells slots lsR hE hW hS hl hn hc hs
    have e92 : φ 92 0 = b := by rw [hE.2.2.2.2]; exact h92
    show W p l _ room_1 s m #[Value.ref b] below meth c H locs cells slots _ (F0 m 20 lsR (.ref (φ 92 0) :: r.map (cv φ)))
    rw [e92]
    exact va_slen hM.1 hM.2.1 hX hbl hbA hS (by decide +kernel) (k φ H locs cells slots lsR hE hW hS hl hn hc hs)
  · intro n ls r C I J P hn k
    have ht : (nI n).toInt = (n : Int) := nI_toInt (by omega)
    by_cases h : n < 24
    · refine jw_tsIn hM hdL33 (by rw [ht]; omega) (by rw [ht]; omega) (off := (tgL.getD n 796 : Int) - 33) ?_ ?_ k
      · rw [ht, show ((n : Int) - 0).toNat = n by omega]
        exact tg_in n h
      · show (33 : Int) + _ = _
        omega
    · rw [tg_out n hn (by omega)] at k
      exact jw_tsOut hM hdL33 (Or.inr (by rw [ht]; omega)) (by decide) k
  · intro ls C I J P φ H locs cells slots lsR hE hW hS hl hn hc hs
    refine lv_iconst (v := 1) hM.1 hM.2.1 (show decode cL_law 802 = .ok (.iconst 1, 1) by decide +kernel) rfl ?_
    refine va_forget (fun q hq => afr0 (hS.2.2 q hq)) (W.widen (k := 600000) (n := 7302250) (by omega) (by omega) ?_)
    exact lw_ret hM.1 hM.2.1 hM.2.2.2.2.2.1 hM.2.2.2.2.2.2.1 (by decide +kernel)
end LAW2
theorem arr_st {ty : FieldType} {args : Array Value} {s : State} (h : (Cond.arrayClass ty).before args s = true) (hp : ∀ C, ¬ ty = .object C) : ∃ cA : ClassId, ArrOfT s cA ty ∧ va_RA s cA ty := by
  obtain ⟨c, k, comp, h1, h2, h3⟩ := Cond.arrayClass_spec h
  refine ⟨c, fun n z => ⟨fun k h => (by cases h), k, h2, comp, h3⟩, ?_⟩
  cases ty <;> first | exact h1 | exact absurd rfl (hp _)
theorem arr_so {E : String} {args : Array Value} {s : State} (h : (Cond.arrayOver (.object E)).before args s = true) : ∃ cA : ClassId, ArrOfT s cA (.object E) ∧ va_RA s cA (.object E) := by
  obtain ⟨comp, c, k, h1, -, h2, h3, h4⟩ := Cond.arrayOver_spec h
  exact ⟨c, fun n z => ⟨fun k h => (by cases h), k, h2, comp, h3⟩, k, comp, h2, h3, h1, h4⟩
theorem gT_ty {g n : Nat} {ty : FieldType} (h : gT g = some (ty, n)) : ty = .int ∨ ty = .byte ∨ ty = .boolean ∨ ty = .long ∨ ty = .object RX0 ∨ ty = .object RX1 ∨ ty = .object RX3 ∨ ty = .object RX4 := by
  unfold gT at h
  split at h
  all_goals first | (cases h; simp; done) | cases h
theorem kn_st {args : Array Value} {s : State} (hts : ∀ w ∈ lw_tbl, w.before args s = true) : ∃ cA : Nat → ClassId, KnA cA s := by
  have h0 : ∀ g : Nat, ∃ c : ClassId, ∀ (ty : FieldType) (n : Nat), gT g = some (ty, n) → ArrOfT s c ty ∧ va_RA s c ty := by
    intro g
    cases hg : gT g with
    | none => exact ⟨0, fun ty n h => by cases h⟩
    | some q =>
      obtain ⟨ty, n⟩ := q
      have h1 : ∃ cA : ClassId, ArrOfT s cA ty ∧ va_RA s cA ty := by
        rcases gT_ty hg with rfl | rfl | rfl | rfl | rfl | rfl | rfl | rfl
        · exact arr_st (hts _ (tb_in a_int)) (fun C h => by cases h)
        · exact arr_st (hts _ (tb_in a_byte)) (fun C h => by cases h)
        · exact arr_st (hts _ (tb_in a_boolean)) (fun C h => by cases h)
        · exact arr_st (hts _ (tb_in a_long)) (fun C h => by cases h)
        · exact arr_so (hts _ (List.mem_of_getElem? (i := 149) (by decide +kernel)))
        · exact arr_so (hts _ (List.mem_of_getElem? (i := 104) (by decide +kernel)))
        · exact arr_so (hts _ (List.mem_of_getElem? (i := 242) (by decide +kernel)))
        · exact arr_so (hts _ (List.mem_of_getElem? (i := 102) (by decide +kernel)))
      obtain ⟨c, hc⟩ := h1
      exact ⟨c, fun ty' n' h => by cases h; exact hc⟩
  obtain ⟨f, hf⟩ := Classical.axiomOfChoice h0
  exact ⟨f, fun g ty n h => hf g ty n h⟩
theorem in_inst (k : Nat) (hk : k < 9) : Cond.instantiable (ocN k) (nF k) ∈ lw_tbl := by
  have e : ∀ k, k < 9 → lw_tbl[([150, 265, 123, 295, 243, 106, 129, 94, 888] : List Nat).getD k 0]? = some (Cond.instantiable (ocN k) (nF k)) := by decide +kernel
  exact List.mem_of_getElem? (e k hk)
theorem in_str (k : Nat) (hk : k < 11) : Cond.stringRef RX6 (six k) (stx.getD k "") ∈ lw_tbl := by
  have e : ∀ k, k < 11 → lw_tbl[([451, 503, 504, 505, 506, 507, 508, 509, 510, 511, 512] : List Nat).getD k 0]? = some (Cond.stringRef RX6 (six k) (stx.getD k "")) := by decide +kernel
  exact List.mem_of_getElem? (e k hk)
theorem cl_st {args : Array Value} {s : State} (hts : ∀ w ∈ lw_tbl, w.before args s = true) : ∃ D : va_G, va_K D vwCl [] s := by
  have h0 : ∀ k : Nat, ∃ q : ClassId × (Nat → Nat), k < 9 → u_Kn s (ocN k) (TV k) (nF k) q.1 q.2 := by
    intro k
    by_cases hk : k < 9
    · obtain ⟨cC, iS, h⟩ := u_known (C := ocN k) (T := TV k) (N := nF k) (n := nF k) (ws := TB) (fun w hw => hts w (tb_in hw)) (inV k hk) (hts _ (in_inst k hk))
      exact ⟨(cC, iS), fun _ => h⟩
    · exact ⟨(0, fun _ => 0), fun h => absurd h hk⟩
  obtain ⟨f, hf⟩ := Classical.axiomOfChoice h0
  refine ⟨(fun k => (f k).1, fun k => (f k).2), fun k q hq => ?_, fun k q h => by simp at h⟩
  have hk : k < 9 := (List.getElem?_eq_some_iff.mp hq).1
  rw [clV k hk] at hq
  cases hq
  exact hf k hk
