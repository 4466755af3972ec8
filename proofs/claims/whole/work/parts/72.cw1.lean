/-! the class: what changes leave as it was -/
def eqS (σ' σ : St) : Prop := ∀ g, 2 ≤ g → g ≤ 21 → σ' g = σ g
section CW1
variable {σ σ' : St} {I : hI} {J : hJ} {τ : Nat → Int32} {sw : Nat}
theorem hold_c (e : eqS σ' σ) (k i r : Nat) : hold σ' k i r = hold σ k i r := by
  simp only [hold, e 15 (by decide) (by decide), e 3 (by decide) (by decide), e 12 (by decide) (by decide), e 14 (by decide) (by decide), e 16 (by decide) (by decide)]
theorem allH_c (e : eqS σ' σ) (k u r : Nat) : ∀ n, allH σ' k u r n = allH σ k u r n := by
  intro n
  induction n with
  | zero => rfl
  | succ n ih => rw [allH, allH, ih, hold_c e]
theorem rowsH_c (e : eqS σ' σ) (k u : Nat) : rowsH σ' k u = rowsH σ k u := by
  unfold rowsH
  rw [e 2 (by decide) (by decide), e 12 (by decide) (by decide), e 13 (by decide) (by decide)]
  exact cnt_congr _ (fun r _ => allH_c e k u r _)
theorem fndC_c (e : eqS σ' σ) (k c : Nat) : ∀ n i, fndC σ' k c n i = fndC σ k c n i := by
  intro n
  induction n with
  | zero => intro i; rfl
  | succ n ih => intro i; rw [fndC, fndC, ih, e 14 (by decide) (by decide)]
theorem cOn_c (e : eqS σ' σ) (k c : Nat) : cOn σ' k c = cOn σ k c := by rw [cOn, cOn, fndC_c e, e 13 (by decide) (by decide)]
theorem usd_c (e : eqS σ' σ) (k m : Nat) : ∀ n i, usd σ' k m n i = usd σ k m n i := by
  intro n
  induction n with
  | zero => intro i; rfl
  | succ n ih => intro i; rw [usd, usd, ih, e 6 (by decide) (by decide), cOn_c e, e 15 (by decide) (by decide)]
theorem ent_c (e : eqS σ' σ) (k m : Nat) : ent σ' k m = ent σ k m := by
  have h1 : uOf σ' k m = uOf σ k m := by rw [uOf, uOf, usd_c e, e 5 (by decide) (by decide)]
  rw [ent, ent, h1, rowsH_c e]
theorem srt_c (e : eqS σ' σ) (k m : Nat) : ∀ n i, srt σ' k m n i = srt σ k m n i := by
  intro n
  induction n with
  | zero => intro i; rfl
  | succ n ih => intro i; rw [srt, srt, ih, e 20 (by decide) (by decide), e 6 (by decide) (by decide), cOn_c e, e 15 (by decide) (by decide)]
theorem sm_c {f g : Nat → Nat} : ∀ n, (∀ r, f r = g r) → sm f n = sm g n := by
  intro n
  induction n with
  | zero => intro _; rfl
  | succ n ih => intro h; rw [sm, sm, ih h, h n]
theorem sameV_c (e : eqS σ' σ) (k r : Nat) : sameV σ' k r = sameV σ k r := by
  unfold sameV
  rw [e 3 (by decide) (by decide), e 17 (by decide) (by decide), e 19 (by decide) (by decide), e 12 (by decide) (by decide), e 18 (by decide) (by decide), e 2 (by decide) (by decide)]
theorem jl_c (e : eqS σ' σ) (k : Nat) : jl σ' k = jl σ k := by
  unfold jl
  rw [e 2 (by decide) (by decide), e 12 (by decide) (by decide), e 13 (by decide) (by decide)]
  exact sm_c _ (fun r => by rw [allH_c e, sameV_c e])
theorem isX_c (e : eqS σ' σ) (k : Nat) : isX σ' k = isX σ k := funext fun m => by rw [isX, isX, e 4 (by decide) (by decide), e 12 (by decide) (by decide)]
theorem bsN_c {p q : Nat → Bool} : ∀ n, (∀ m, p m = q m) → bsN p n = bsN q n := by
  intro n
  induction n with
  | zero => intro _; rfl
  | succ n ih => intro h; rw [bsN, bsN, ih h, h n]
theorem PLd.cs {k : Nat} (h : PLd σ I k) (e : eqS σ' σ) (e4 : σ' 0 4 = σ 0 4) : PLd σ' I k := by
  have x1 : ∀ n, ixM σ' k n = ixM σ k n := fun n => by rw [ixM, ixM, isX_c e]
  have x2 : ∀ n, soM σ' k n = soM σ k n := fun n => bsN_c n (fun m => by rw [isX_c e, srt_c e, e 5 (by decide) (by decide)])
  have x3 : ∀ n, jnM σ' k n = jnM σ k n := fun n => bsN_c n (fun m => by rw [isJ, isJ, e 4 (by decide) (by decide), e 17 (by decide) (by decide), e 6 (by decide) (by decide), e 19 (by decide) (by decide)])
  have x4 : ∀ m, enI σ' k m = enI σ k m := fun m => by unfold enI; rw [isX_c e, ent_c e]
  have x5 : rN σ' k = rN σ k := rowsH_c e k 15
  have x6 : ∀ x, pgN σ' x = pgN σ x := fun x => by rw [pgN, pgN, e 2 (by decide) (by decide)]
  unfold PLd at h ⊢
  rw [e4, x1, x2, x3, x5, x6, x6, jl_c e, e 10 (by decide) (by decide), e 21 (by decide) (by decide), e 12 (by decide) (by decide), e 20 (by decide) (by decide), e 17 (by decide) (by decide), e 2 (by decide) (by decide)]
  obtain ⟨a, b, c⟩ := h
  exact ⟨a, fun m hm => by rw [x4]; exact b m hm, c⟩
theorem DR.cs {o k : Nat} (h : DR σ o k I) (e : eqS σ' σ) : DR σ' o k I := by
  unfold DR at h ⊢
  rw [e 10 (by decide) (by decide), e 11 (by decide) (by decide), e 12 (by decide) (by decide), e 13 (by decide) (by decide), e 14 (by decide) (by decide), e 15 (by decide) (by decide), e 16 (by decide) (by decide), e 17 (by decide) (by decide), e 18 (by decide) (by decide), e 19 (by decide) (by decide), e 20 (by decide) (by decide), e 21 (by decide) (by decide)]
  exact h
theorem VR.cs {m : Nat} (h : VR σ I m) (e : eqS σ' σ) : VR σ' I m := by
  unfold VR at h ⊢
  rw [e 4 (by decide) (by decide), e 5 (by decide) (by decide), e 6 (by decide) (by decide), e 7 (by decide) (by decide), e 8 (by decide) (by decide)]
  exact h
theorem TR.cs {x : Nat} (h : TR σ I x) (h64 : σ 2 x ≤ 64) (e1 : σ' 1 x = σ 1 x) (e2 : σ' 2 x = σ 2 x) (e3 : ∀ j, 256 * x ≤ j → j < 256 * x + 256 → σ' 3 j = σ 3 j) : TR σ' I x := by
  obtain ⟨a, b, c, d⟩ := h
  refine ⟨by rw [e1]; exact a, by rw [e2]; exact b, fun r q hr hq => by rw [e3 _ (by omega) (by omega)]; exact c r q hr hq, fun q v hq hv => ?_⟩
  rw [d q v hq hv, e2]
  congr 1
  exact cnt_congr _ (fun r hr => by rw [e3 _ (by omega) (by omega)])
/-- all but the PLANS -/
def CRb (σ : St) (τ : Nat → Int32) (sw : Nat) (I : hI) : Prop := (sw ≤ 1 ∧ I 5 0 1 = nI (σ 0 0) ∧ ∀ j, j < 2000 → I 19 0 j = τ j) ∧ (I 7 0 1 = nI (σ 0 1) ∧ I 7 0 12 = nI (σ 0 2) ∧ I 7 0 13 = nI (σ 0 3) ∧ I 7 0 3 = nI (σ 0 4) ∧ I 7 0 7 = nI (σ 0 5) ∧ I 7 0 10 = nI (σ 0 6) ∧ I 7 0 14 = oI (σ 0 7)) ∧ (∀ x, x < 4 → TR σ I x) ∧ (∀ x, x < 4 → I 14 0 x = nI (σ 1 x)) ∧ (∀ m, m < 8 → VR σ I m) ∧ (∀ k, k < σ 0 5 → DR σ (8 * sw + k) k I) ∧ ∀ i, i < 8 → I 26 0 i = nI (σ 22 i)
theorem CR.b (h : CR σ τ sw I) : CRb σ τ sw I := ⟨h.1, h.2.1, h.2.2.1, h.2.2.2.1, h.2.2.2.2.1, h.2.2.2.2.2.1, h.2.2.2.2.2.2.2⟩
theorem CRb.c (h : CRb σ τ sw I) (p : ∀ k, k < σ 0 5 → PLd σ I k) : CR σ τ sw I := ⟨h.1, h.2.1, h.2.2.1, h.2.2.2.1, h.2.2.2.2.1, h.2.2.2.2.2.1, p, h.2.2.2.2.2.2⟩
theorem CRb.fr {I1 : hI} (h : CRb σ τ sw I) (e : ∀ g i j, ¬ g = 3 → ¬ g = 16 → I1 g i j = I g i j) : CRb σ τ sw I1 := by
  obtain ⟨⟨h1, h2, h3⟩, ⟨b1, b2, b3, b4, b5, b6, b7⟩, c, d, m, k, y⟩ := h
  refine ⟨⟨h1, by rw [e 5 0 1 (by decide) (by decide)]; exact h2, fun j hj => by rw [e 19 0 j (by decide) (by decide)]; exact h3 j hj⟩, ⟨?_, ?_, ?_, ?_, ?_, ?_, ?_⟩, fun x hx => (c x hx).cg (fun g j z => e g x j (by omega) (by omega)), fun x hx => by rw [e 14 0 x (by decide) (by decide)]; exact d x hx, fun q hq => (m q hq).cg (fun g j z => e g q j (by omega) (by omega)), fun q hq => (k q hq).cg (fun g j z => e g _ j (by omega) (by omega)), fun i hi => by rw [e 26 0 i (by decide) (by decide)]; exact y i hi⟩
  · rw [e 7 0 1 (by decide) (by decide)]; exact b1
  · rw [e 7 0 12 (by decide) (by decide)]; exact b2
  · rw [e 7 0 13 (by decide) (by decide)]; exact b3
  · rw [e 7 0 3 (by decide) (by decide)]; exact b4
  · rw [e 7 0 7 (by decide) (by decide)]; exact b5
  · rw [e 7 0 10 (by decide) (by decide)]; exact b6
  · rw [e 7 0 14 (by decide) (by decide)]; exact b7
/-- only the class's own -/
def gF (I I1 : hI) : Prop := ∀ g i j, ¬ (g ≤ 7 ∨ (10 ≤ g ∧ g ≤ 27)) → I1 g i j = I g i j
theorem gF.rf : gF I I := fun _ _ _ _ => rfl
theorem gF.tr {I1 I2 : hI} (h : gF I I1) (h2 : gF I1 I2) : gF I I2 := fun g i j q => (h2 g i j q).trans (h g i j q)
theorem gF.put {I1 : hI} (h : gF I I1) {g i j : Nat} {x : Int32} (hg : g ≤ 7 ∨ (10 ≤ g ∧ g ≤ 27)) : gF I (u3 I1 g i j x) := fun a b c q => by
  rw [u3_ne _ _ (fun z => q (by rw [z.1]; exact hg))]
  exact h a b c q
theorem pG.gf {I1 : hI} (h : pG I I1) : gF I I1 := fun g i j q => h g i j (fun z => q (by omega))
theorem pF.gf {I1 : hI} (h : pF I I1) : gF I I1 := h.toG.gf
theorem gQ.gf {k : Nat} {A : Nat → Prop} {b : Prop} {I1 : hI} (h : gQ k A b I I1) : gF I I1 := fun g i j q => h.o (fun z => q (by omega)) (fun z => q (by omega))
theorem CR.upd {σ' : St} {τ' : Nat → Int32} {I1 : hI} (h : CR σ τ sw I) (w : WF σ) (e : eqS σ' σ) (e1 : σ' 1 = σ 1) (e4 : σ' 0 4 = σ 0 4) (e5 : σ' 0 5 = σ 0 5) (eI : ∀ g i j, ¬ g = 5 → ¬ g = 7 → ¬ g = 19 → ¬ g = 26 → I1 g i j = I g i j) (t1 : I1 5 0 1 = nI (σ' 0 0)) (t2 : ∀ j, j < 2000 → I1 19 0 j = τ' j) (b : I1 7 0 1 = nI (σ' 0 1) ∧ I1 7 0 12 = nI (σ' 0 2) ∧ I1 7 0 13 = nI (σ' 0 3) ∧ I1 7 0 3 = nI (σ' 0 4) ∧ I1 7 0 7 = nI (σ' 0 5) ∧ I1 7 0 10 = nI (σ' 0 6) ∧ I1 7 0 14 = oI (σ' 0 7)) (y : ∀ i, i < 8 → I1 26 0 i = nI (σ' 22 i)) : CR σ' τ' sw I1 := by
  refine ⟨⟨h.sw1, t1, t2⟩, b, fun x hx => ?_, fun x hx => ?_, fun m hm => ?_, fun k hk => ?_, fun k hk => ?_, y⟩
  · exact ((h.tab hx).cg (fun g j z => eI g x j (by omega) (by omega) (by omega) (by omega))).cs (w.rows x) (by rw [e1]) (by rw [e 2 (by decide) (by decide)]) (fun j _ _ => by rw [e 3 (by decide) (by decide)])
  · rw [eI 14 0 x (by decide) (by decide) (by decide) (by decide), e1]; exact h.wid hx
  · exact ((h.mv hm).cg (fun g j z => eI g m j (by omega) (by omega) (by omega) (by omega))).cs e
  · rw [e5] at hk
    exact ((h.deed hk).cg (fun g j z => eI g _ j (by omega) (by omega) (by omega) (by omega))).cs e
  · rw [e5] at hk
    exact ((h.plan hk).cg (fun g j z => eI g k j (by omega) (by omega) (by omega) (by omega))).cs e e4
theorem x7_isTb (sw : Nat) {j n : Nat} (hn : n ≤ 4) (hj : j < n) (hc : I 7 0 1 = nI n) : kX7_isTable [vR 7 0, vI (nI j)] I J (PP sw) (eq4 (some (vI 1)) I J (PP sw)) := by
  refine eX7_isTable (ls := [some (vR 7 0), some (vI (nI j))]) rfl (Nat.le_of_ble_eq_true rfl) ?_
  refine AJ.blk bX7_isTable_0 ?_
  simp (disch := omega) only [wp, p1, p2, q1, q2, r1, ri, fR, sI, sJ, sR, d1, d2, ct1, ldI, ldL, ldR, rq, noL, brc, vI, vL, vR, List.getElem?_cons_zero, List.getElem?_cons_succ, List.getElem?_nil, List.set_cons_zero, List.set_cons_succ, List.set_nil, List.length_cons, List.length_nil, List.length_set, List.cons_append, List.nil_append, Nat.reduceDiv, Nat.reduceMod, Nat.reduceAdd, Nat.reduceMul, Nat.reduceSub, Nat.reduceLT, Nat.reduceEqDiff, Int.reduceToNat, Int32.reduceOfInt, Int64.reduceOfInt, reduceIte, true_and, and_true, reduceCtorEq, not_false_eq_true, Nat.lt_add_one, Nat.zero_lt_succ, Nat.zero_lt_one, Option.toList_some, Option.toList_none, imp_self, forall_const, true_or, or_true, eq_self, i1_0, i0_1, im_0, u3_same, u3_g, u3_j, u3_i, false_or, or_false, not_true_eq_false, false_implies, CC_0, CC_1, CC_2, CC_3, CC_4, CC_5, CC_6, CC_7, CC_8, CC_10, CC_11, CC_12, CC_13, CC_14, CC_15, CC_16, CC_17, CC_18, CC_19, CC_20, CC_21, CC_22, CC_23, CC_24, CC_25, CC_26, CC_27, CC_30, CC_31, CC_32, CC_33, CC_34, CC_35, CC_36, CC_37, CC_38, CC_39, CC_40, CC_41, CC_42, CC_43, CC_44, CC_45, CC_46, CC_47, CC_48, CC_49, CC_50, CC_51, CC_52, CC_53, CC_54, CC_55, CC_56, CC_57, CC_58, CC_59, CC_60, PP_0_5, PP_0_6, PP_0_7, PP_1_1, PP_2_0, PP_2_1, PP_3_6, PP_4_2, PP_4_3, PP_5_0, PP_6_0, PP_6_1, PP_6_2, PP_7_0, PP_7_2, PP_7_4, PP_7_5, PP_7_8, PP_7_9, PP_7_11, PP_8_1, PP_8_3, PP_8_5, PP_8_6, PP_8_7, PP_8_8, PP_8_9, PP_8_19, PP_8_20, PP_8_21, PP_8_22, PP_8_23, PP_8_24, PP_8_25, PP_8_26, PP_8_27, PP_8_28, PP_8_29, PP_8_30, PP_8_31, PP_8_33, PP_8_34, PP_8_35, PP_8_39, PP_8_40, PP_8_41, PP_8_42, PP_8_43, PP_8_44, PP_8_51, PP_8_52, PP_2_2, PP_7_6, arN_10, arN_11, arN_12, arN_13, arN_14, arN_16, arN_17, arN_18, arN_19, arN_20, arN_21, arN_22, arN_26, arN_27, arN_30, arN_31, arN_32, arN_33, arN_34, arN_35, arN_36, arN_37, arN_38, arN_39, arN_40, arN_41, arN_42, arN_43, arN_44, arN_45, arN_46, arN_47, arN_48, arN_49, arN_50, arN_51, arN_52, arN_53, arN_54, arN_55, arN_56, arN_57, arN_58, arN_59, arN_60, arE_15, arE_23, arE_24, arE_25, nI_leI, nI_ltI, nI_eq, nI_toInt, nI_clamp, PP_15, PP_23, PP_24, PP_25, hc, nI_add, pk_mul, pk_div, pk_sub, nI_1, n1_add, nI_or, shl1, l_2, l_3, l_4, l_5, l_6, l_7, l_8, l_15, l_16, l_20, l_64, l_100, l_255, l_300, l_800, l_1000, l_2000, nI_is0, nI_is1, nI_le0, n0_le, nI_lt0, n0_lt, nI_lt1, m1_nI, oI_m1, oI_nI, nI_oI, oI_oI, bI_is0, bI_is1]
  repeat' (first | with_reducible apply And.intro | with_reducible intro _)
  all_goals try omega
  refine AJ.blk bX7_isTable_17 ?_
  simp (disch := omega) only [wp, p1, p2, q1, q2, r1, ri, fR, sI, sJ, sR, d1, d2, ct1, ldI, ldL, ldR, rq, noL, brc, vI, vL, vR, List.getElem?_cons_zero, List.getElem?_cons_succ, List.getElem?_nil, List.set_cons_zero, List.set_cons_succ, List.set_nil, List.length_cons, List.length_nil, List.length_set, List.cons_append, List.nil_append, Nat.reduceDiv, Nat.reduceMod, Nat.reduceAdd, Nat.reduceMul, Nat.reduceSub, Nat.reduceLT, Nat.reduceEqDiff, Int.reduceToNat, Int32.reduceOfInt, Int64.reduceOfInt, reduceIte, true_and, and_true, reduceCtorEq, not_false_eq_true, Nat.lt_add_one, Nat.zero_lt_succ, Nat.zero_lt_one, Option.toList_some, Option.toList_none, imp_self, forall_const, true_or, or_true, eq_self, i1_0, i0_1, im_0, u3_same, u3_g, u3_j, u3_i, false_or, or_false, not_true_eq_false, false_implies, CC_0, CC_1, CC_2, CC_3, CC_4, CC_5, CC_6, CC_7, CC_8, CC_10, CC_11, CC_12, CC_13, CC_14, CC_15, CC_16, CC_17, CC_18, CC_19, CC_20, CC_21, CC_22, CC_23, CC_24, CC_25, CC_26, CC_27, CC_30, CC_31, CC_32, CC_33, CC_34, CC_35, CC_36, CC_37, CC_38, CC_39, CC_40, CC_41, CC_42, CC_43, CC_44, CC_45, CC_46, CC_47, CC_48, CC_49, CC_50, CC_51, CC_52, CC_53, CC_54, CC_55, CC_56, CC_57, CC_58, CC_59, CC_60, PP_0_5, PP_0_6, PP_0_7, PP_1_1, PP_2_0, PP_2_1, PP_3_6, PP_4_2, PP_4_3, PP_5_0, PP_6_0, PP_6_1, PP_6_2, PP_7_0, PP_7_2, PP_7_4, PP_7_5, PP_7_8, PP_7_9, PP_7_11, PP_8_1, PP_8_3, PP_8_5, PP_8_6, PP_8_7, PP_8_8, PP_8_9, PP_8_19, PP_8_20, PP_8_21, PP_8_22, PP_8_23, PP_8_24, PP_8_25, PP_8_26, PP_8_27, PP_8_28, PP_8_29, PP_8_30, PP_8_31, PP_8_33, PP_8_34, PP_8_35, PP_8_39, PP_8_40, PP_8_41, PP_8_42, PP_8_43, PP_8_44, PP_8_51, PP_8_52, PP_2_2, PP_7_6, arN_10, arN_11, arN_12, arN_13, arN_14, arN_16, arN_17, arN_18, arN_19, arN_20, arN_21, arN_22, arN_26, arN_27, arN_30, arN_31, arN_32, arN_33, arN_34, arN_35, arN_36, arN_37, arN_38, arN_39, arN_40, arN_41, arN_42, arN_43, arN_44, arN_45, arN_46, arN_47, arN_48, arN_49, arN_50, arN_51, arN_52, arN_53, arN_54, arN_55, arN_56, arN_57, arN_58, arN_59, arN_60, arE_15, arE_23, arE_24, arE_25, nI_leI, nI_ltI, nI_eq, nI_toInt, nI_clamp, PP_15, PP_23, PP_24, PP_25]
  exact qN.mk eq4.rfl
theorem x7_measure (h : CRb σ τ sw I) (w : WF σ) : kX7_measureDeeds [vR 7 0] I J (PP sw) (fun v1 I1 J1 P1 => none = v1 ∧ J = J1 ∧ PP sw = P1 ∧ gF I I1 ∧ (∀ g i j, ¬ g = 3 → ¬ g = 16 → I1 g i j = I g i j) ∧ CR σ τ sw I1) := by
  refine eX7_measureDeeds (ls := [some (vR 7 0), none]) rfl (Nat.le_of_ble_eq_true rfl) ?_
  have h5 : σ 0 5 ≤ 8 := w.1.2.2.2.2.2.1
  have hsw := h.1.1
  have lp : ∀ n k, k + n = σ 0 5 → ∀ I1, (∀ g i j, ¬ g = 3 → ¬ g = 16 → I1 g i j = I g i j) → (∀ k', k' < k → PLd σ I1 k') → jX7_measureDeeds (qN CC (fun v1 I1 J1 P1 => none = v1 ∧ J = J1 ∧ PP sw = P1 ∧ gF I I1 ∧ (∀ g i j, ¬ g = 3 → ¬ g = 16 → I1 g i j = I g i j) ∧ CR σ τ sw I1)) 2 [some (vR 7 0), some (vI (nI k))] [] I1 J (PP sw) := by
    intro n
    induction n with
    | zero =>
      intro k hk I1 hS hp
      obtain rfl : k = σ 0 5 := by omega
      have h1 := h.fr hS
      have hd := h1.2.1.2.2.2.2.1
      refine AJ.blk bX7_measureDeeds_2 ?_
      simp (disch := omega) only [wp, p1, p2, q1, q2, r1, ri, fR, sI, sJ, sR, d1, d2, ct1, ldI, ldL, ldR, rq, noL, brc, vI, vL, vR, List.getElem?_cons_zero, List.getElem?_cons_succ, List.getElem?_nil, List.set_cons_zero, List.set_cons_succ, List.set_nil, List.length_cons, List.length_nil, List.length_set, List.cons_append, List.nil_append, Nat.reduceDiv, Nat.reduceMod, Nat.reduceAdd, Nat.reduceMul, Nat.reduceSub, Nat.reduceLT, Nat.reduceEqDiff, Int.reduceToNat, Int32.reduceOfInt, Int64.reduceOfInt, reduceIte, true_and, and_true, reduceCtorEq, not_false_eq_true, Nat.lt_add_one, Nat.zero_lt_succ, Nat.zero_lt_one, Option.toList_some, Option.toList_none, imp_self, forall_const, true_or, or_true, eq_self, i1_0, i0_1, im_0, u3_same, u3_g, u3_j, u3_i, false_or, or_false, not_true_eq_false, false_implies, CC_0, CC_1, CC_2, CC_3, CC_4, CC_5, CC_6, CC_7, CC_8, CC_10, CC_11, CC_12, CC_13, CC_14, CC_15, CC_16, CC_17, CC_18, CC_19, CC_20, CC_21, CC_22, CC_23, CC_24, CC_25, CC_26, CC_27, CC_30, CC_31, CC_32, CC_33, CC_34, CC_35, CC_36, CC_37, CC_38, CC_39, CC_40, CC_41, CC_42, CC_43, CC_44, CC_45, CC_46, CC_47, CC_48, CC_49, CC_50, CC_51, CC_52, CC_53, CC_54, CC_55, CC_56, CC_57, CC_58, CC_59, CC_60, PP_0_5, PP_0_6, PP_0_7, PP_1_1, PP_2_0, PP_2_1, PP_3_6, PP_4_2, PP_4_3, PP_5_0, PP_6_0, PP_6_1, PP_6_2, PP_7_0, PP_7_2, PP_7_4, PP_7_5, PP_7_8, PP_7_9, PP_7_11, PP_8_1, PP_8_3, PP_8_5, PP_8_6, PP_8_7, PP_8_8, PP_8_9, PP_8_19, PP_8_20, PP_8_21, PP_8_22, PP_8_23, PP_8_24, PP_8_25, PP_8_26, PP_8_27, PP_8_28, PP_8_29, PP_8_30, PP_8_31, PP_8_33, PP_8_34, PP_8_35, PP_8_39, PP_8_40, PP_8_41, PP_8_42, PP_8_43, PP_8_44, PP_8_51, PP_8_52, PP_2_2, PP_7_6, arN_10, arN_11, arN_12, arN_13, arN_14, arN_16, arN_17, arN_18, arN_19, arN_20, arN_21, arN_22, arN_26, arN_27, arN_30, arN_31, arN_32, arN_33, arN_34, arN_35, arN_36, arN_37, arN_38, arN_39, arN_40, arN_41, arN_42, arN_43, arN_44, arN_45, arN_46, arN_47, arN_48, arN_49, arN_50, arN_51, arN_52, arN_53, arN_54, arN_55, arN_56, arN_57, arN_58, arN_59, arN_60, arE_15, arE_23, arE_24, arE_25, nI_leI, nI_ltI, nI_eq, nI_toInt, nI_clamp, PP_15, PP_23, PP_24, PP_25, hd]
      repeat' (first | with_reducible apply And.intro | with_reducible intro _)
      all_goals try omega
      refine AJ.blk bX7_measureDeeds_59 ?_
      simp (disch := omega) only [wp, p1, p2, q1, q2, r1, ri, fR, sI, sJ, sR, d1, d2, ct1, ldI, ldL, ldR, rq, noL, brc, vI, vL, vR, List.getElem?_cons_zero, List.getElem?_cons_succ, List.getElem?_nil, List.set_cons_zero, List.set_cons_succ, List.set_nil, List.length_cons, List.length_nil, List.length_set, List.cons_append, List.nil_append, Nat.reduceDiv, Nat.reduceMod, Nat.reduceAdd, Nat.reduceMul, Nat.reduceSub, Nat.reduceLT, Nat.reduceEqDiff, Int.reduceToNat, Int32.reduceOfInt, Int64.reduceOfInt, reduceIte, true_and, and_true, reduceCtorEq, not_false_eq_true, Nat.lt_add_one, Nat.zero_lt_succ, Nat.zero_lt_one, Option.toList_some, Option.toList_none, imp_self, forall_const, true_or, or_true, eq_self, i1_0, i0_1, im_0, u3_same, u3_g, u3_j, u3_i, false_or, or_false, not_true_eq_false, false_implies, CC_0, CC_1, CC_2, CC_3, CC_4, CC_5, CC_6, CC_7, CC_8, CC_10, CC_11, CC_12, CC_13, CC_14, CC_15, CC_16, CC_17, CC_18, CC_19, CC_20, CC_21, CC_22, CC_23, CC_24, CC_25, CC_26, CC_27, CC_30, CC_31, CC_32, CC_33, CC_34, CC_35, CC_36, CC_37, CC_38, CC_39, CC_40, CC_41, CC_42, CC_43, CC_44, CC_45, CC_46, CC_47, CC_48, CC_49, CC_50, CC_51, CC_52, CC_53, CC_54, CC_55, CC_56, CC_57, CC_58, CC_59, CC_60, PP_0_5, PP_0_6, PP_0_7, PP_1_1, PP_2_0, PP_2_1, PP_3_6, PP_4_2, PP_4_3, PP_5_0, PP_6_0, PP_6_1, PP_6_2, PP_7_0, PP_7_2, PP_7_4, PP_7_5, PP_7_8, PP_7_9, PP_7_11, PP_8_1, PP_8_3, PP_8_5, PP_8_6, PP_8_7, PP_8_8, PP_8_9, PP_8_19, PP_8_20, PP_8_21, PP_8_22, PP_8_23, PP_8_24, PP_8_25, PP_8_26, PP_8_27, PP_8_28, PP_8_29, PP_8_30, PP_8_31, PP_8_33, PP_8_34, PP_8_35, PP_8_39, PP_8_40, PP_8_41, PP_8_42, PP_8_43, PP_8_44, PP_8_51, PP_8_52, PP_2_2, PP_7_6, arN_10, arN_11, arN_12, arN_13, arN_14, arN_16, arN_17, arN_18, arN_19, arN_20, arN_21, arN_22, arN_26, arN_27, arN_30, arN_31, arN_32, arN_33, arN_34, arN_35, arN_36, arN_37, arN_38, arN_39, arN_40, arN_41, arN_42, arN_43, arN_44, arN_45, arN_46, arN_47, arN_48, arN_49, arN_50, arN_51, arN_52, arN_53, arN_54, arN_55, arN_56, arN_57, arN_58, arN_59, arN_60, arE_15, arE_23, arE_24, arE_25, nI_leI, nI_ltI, nI_eq, nI_toInt, nI_clamp, PP_15, PP_23, PP_24, PP_25]
      exact qN.mk ⟨rfl, rfl, rfl, fun g i j q => hS g i j (by omega) (by omega), hS, h1.c hp⟩
    | succ n ih =>
      intro k hk I1 hS hp
      have h1 := h.fr hS
      have hd := h1.2.1.2.2.2.2.1
      have hm := h1.2.1.2.2.2.1
      have hc1 := h1.2.1.1
      have hn1 : σ 0 1 ≤ 4 := w.1.2.1
      have h12 : σ 12 k < σ 0 1 := (w.deed (k := k) (by omega)).2.2.1
      have d2 := (h1.2.2.2.2.2.1 k (by omega)).2.2.1
      refine AJ.blk bX7_measureDeeds_2 ?_
      simp (disch := omega) only [wp, p1, p2, q1, q2, r1, ri, fR, sI, sJ, sR, d1, d2, ct1, ldI, ldL, ldR, rq, noL, brc, vI, vL, vR, List.getElem?_cons_zero, List.getElem?_cons_succ, List.getElem?_nil, List.set_cons_zero, List.set_cons_succ, List.set_nil, List.length_cons, List.length_nil, List.length_set, List.cons_append, List.nil_append, Nat.reduceDiv, Nat.reduceMod, Nat.reduceAdd, Nat.reduceMul, Nat.reduceSub, Nat.reduceLT, Nat.reduceEqDiff, Int.reduceToNat, Int32.reduceOfInt, Int64.reduceOfInt, reduceIte, true_and, and_true, reduceCtorEq, not_false_eq_true, Nat.lt_add_one, Nat.zero_lt_succ, Nat.zero_lt_one, Option.toList_some, Option.toList_none, imp_self, forall_const, true_or, or_true, eq_self, i1_0, i0_1, im_0, u3_same, u3_g, u3_j, u3_i, false_or, or_false, not_true_eq_false, false_implies, CC_0, CC_1, CC_2, CC_3, CC_4, CC_5, CC_6, CC_7, CC_8, CC_10, CC_11, CC_12, CC_13, CC_14, CC_15, CC_16, CC_17, CC_18, CC_19, CC_20, CC_21, CC_22, CC_23, CC_24, CC_25, CC_26, CC_27, CC_30, CC_31, CC_32, CC_33, CC_34, CC_35, CC_36, CC_37, CC_38, CC_39, CC_40, CC_41, CC_42, CC_43, CC_44, CC_45, CC_46, CC_47, CC_48, CC_49, CC_50, CC_51, CC_52, CC_53, CC_54, CC_55, CC_56, CC_57, CC_58, CC_59, CC_60, PP_0_5, PP_0_6, PP_0_7, PP_1_1, PP_2_0, PP_2_1, PP_3_6, PP_4_2, PP_4_3, PP_5_0, PP_6_0, PP_6_1, PP_6_2, PP_7_0, PP_7_2, PP_7_4, PP_7_5, PP_7_8, PP_7_9, PP_7_11, PP_8_1, PP_8_3, PP_8_5, PP_8_6, PP_8_7, PP_8_8, PP_8_9, PP_8_19, PP_8_20, PP_8_21, PP_8_22, PP_8_23, PP_8_24, PP_8_25, PP_8_26, PP_8_27, PP_8_28, PP_8_29, PP_8_30, PP_8_31, PP_8_33, PP_8_34, PP_8_35, PP_8_39, PP_8_40, PP_8_41, PP_8_42, PP_8_43, PP_8_44, PP_8_51, PP_8_52, PP_2_2, PP_7_6, arN_10, arN_11, arN_12, arN_13, arN_14, arN_16, arN_17, arN_18, arN_19, arN_20, arN_21, arN_22, arN_26, arN_27, arN_30, arN_31, arN_32, arN_33, arN_34, arN_35, arN_36, arN_37, arN_38, arN_39, arN_40, arN_41, arN_42, arN_43, arN_44, arN_45, arN_46, arN_47, arN_48, arN_49, arN_50, arN_51, arN_52, arN_53, arN_54, arN_55, arN_56, arN_57, arN_58, arN_59, arN_60, arE_15, arE_23, arE_24, arE_25, nI_leI, nI_ltI, nI_eq, nI_toInt, nI_clamp, PP_15, PP_23, PP_24, PP_25, hd, d2]
      repeat' (first | with_reducible apply And.intro | with_reducible intro _)
      all_goals try omega
      refine AJ.cV sX7_measureDeeds_20 (x7_isTb sw hn1 h12 hc1) rfl rfl ⟨rfl, Nat.le_of_ble_eq_true rfl, Nat.le_of_ble_eq_true rfl, Nat.le_of_ble_eq_true rfl⟩ (Nat.le_of_ble_eq_true rfl) (Nat.le_of_ble_eq_true rfl) ?_
      rintro _ _ _ _ ⟨rfl, rfl, rfl, rfl⟩
      simp only [Option.toList_some, Option.toList_none, List.cons_append, List.nil_append, Nat.reduceAdd]
      refine AJ.blk bX7_measureDeeds_23 ?_
      simp (disch := omega) only [wp, p1, p2, q1, q2, r1, ri, fR, sI, sJ, sR, d1, d2, ct1, ldI, ldL, ldR, rq, noL, brc, vI, vL, vR, List.getElem?_cons_zero, List.getElem?_cons_succ, List.getElem?_nil, List.set_cons_zero, List.set_cons_succ, List.set_nil, List.length_cons, List.length_nil, List.length_set, List.cons_append, List.nil_append, Nat.reduceDiv, Nat.reduceMod, Nat.reduceAdd, Nat.reduceMul, Nat.reduceSub, Nat.reduceLT, Nat.reduceEqDiff, Int.reduceToNat, Int32.reduceOfInt, Int64.reduceOfInt, reduceIte, true_and, and_true, reduceCtorEq, not_false_eq_true, Nat.lt_add_one, Nat.zero_lt_succ, Nat.zero_lt_one, Option.toList_some, Option.toList_none, imp_self, forall_const, true_or, or_true, eq_self, i1_0, i0_1, im_0, u3_same, u3_g, u3_j, u3_i, false_or, or_false, not_true_eq_false, false_implies, CC_0, CC_1, CC_2, CC_3, CC_4, CC_5, CC_6, CC_7, CC_8, CC_10, CC_11, CC_12, CC_13, CC_14, CC_15, CC_16, CC_17, CC_18, CC_19, CC_20, CC_21, CC_22, CC_23, CC_24, CC_25, CC_26, CC_27, CC_30, CC_31, CC_32, CC_33, CC_34, CC_35, CC_36, CC_37, CC_38, CC_39, CC_40, CC_41, CC_42, CC_43, CC_44, CC_45, CC_46, CC_47, CC_48, CC_49, CC_50, CC_51, CC_52, CC_53, CC_54, CC_55, CC_56, CC_57, CC_58, CC_59, CC_60, PP_0_5, PP_0_6, PP_0_7, PP_1_1, PP_2_0, PP_2_1, PP_3_6, PP_4_2, PP_4_3, PP_5_0, PP_6_0, PP_6_1, PP_6_2, PP_7_0, PP_7_2, PP_7_4, PP_7_5, PP_7_8, PP_7_9, PP_7_11, PP_8_1, PP_8_3, PP_8_5, PP_8_6, PP_8_7, PP_8_8, PP_8_9, PP_8_19, PP_8_20, PP_8_21, PP_8_22, PP_8_23, PP_8_24, PP_8_25, PP_8_26, PP_8_27, PP_8_28, PP_8_29, PP_8_30, PP_8_31, PP_8_33, PP_8_34, PP_8_35, PP_8_39, PP_8_40, PP_8_41, PP_8_42, PP_8_43, PP_8_44, PP_8_51, PP_8_52, PP_2_2, PP_7_6, arN_10, arN_11, arN_12, arN_13, arN_14, arN_16, arN_17, arN_18, arN_19, arN_20, arN_21, arN_22, arN_26, arN_27, arN_30, arN_31, arN_32, arN_33, arN_34, arN_35, arN_36, arN_37, arN_38, arN_39, arN_40, arN_41, arN_42, arN_43, arN_44, arN_45, arN_46, arN_47, arN_48, arN_49, arN_50, arN_51, arN_52, arN_53, arN_54, arN_55, arN_56, arN_57, arN_58, arN_59, arN_60, arE_15, arE_23, arE_24, arE_25, nI_leI, nI_ltI, nI_eq, nI_toInt, nI_clamp, PP_15, PP_23, PP_24, PP_25, hm]
      repeat' (first | with_reducible apply And.intro | with_reducible intro _)
      all_goals try omega
      refine AJ.cV sX7_measureDeeds_50 (x3_measure sw (o := 8 * sw + k) (k := k) (by omega) (by omega) w (by omega) (h1.2.2.2.2.2.1 k (by omega)) h1.2.2.1 h1.2.2.2.2.1) rfl rfl ⟨rfl, Nat.le_of_ble_eq_true rfl, Nat.le_of_ble_eq_true rfl, Nat.le_of_ble_eq_true rfl⟩ (show k < 8 by omega) (Nat.le_of_ble_eq_true rfl) ?_
      rintro _ I2 _ _ ⟨rfl, rfl, rfl, hS2, hp2⟩
      simp only [Option.toList_some, Option.toList_none, List.cons_append, List.nil_append, Nat.reduceAdd]
      refine AJ.blk bX7_measureDeeds_53 ?_
      simp (disch := omega) only [wp, p1, p2, q1, q2, r1, ri, fR, sI, sJ, sR, d1, d2, ct1, ldI, ldL, ldR, rq, noL, brc, vI, vL, vR, List.getElem?_cons_zero, List.getElem?_cons_succ, List.getElem?_nil, List.set_cons_zero, List.set_cons_succ, List.set_nil, List.length_cons, List.length_nil, List.length_set, List.cons_append, List.nil_append, Nat.reduceDiv, Nat.reduceMod, Nat.reduceAdd, Nat.reduceMul, Nat.reduceSub, Nat.reduceLT, Nat.reduceEqDiff, Int.reduceToNat, Int32.reduceOfInt, Int64.reduceOfInt, reduceIte, true_and, and_true, reduceCtorEq, not_false_eq_true, Nat.lt_add_one, Nat.zero_lt_succ, Nat.zero_lt_one, Option.toList_some, Option.toList_none, imp_self, forall_const, true_or, or_true, eq_self, i1_0, i0_1, im_0, u3_same, u3_g, u3_j, u3_i, false_or, or_false, not_true_eq_false, false_implies, CC_0, CC_1, CC_2, CC_3, CC_4, CC_5, CC_6, CC_7, CC_8, CC_10, CC_11, CC_12, CC_13, CC_14, CC_15, CC_16, CC_17, CC_18, CC_19, CC_20, CC_21, CC_22, CC_23, CC_24, CC_25, CC_26, CC_27, CC_30, CC_31, CC_32, CC_33, CC_34, CC_35, CC_36, CC_37, CC_38, CC_39, CC_40, CC_41, CC_42, CC_43, CC_44, CC_45, CC_46, CC_47, CC_48, CC_49, CC_50, CC_51, CC_52, CC_53, CC_54, CC_55, CC_56, CC_57, CC_58, CC_59, CC_60, PP_0_5, PP_0_6, PP_0_7, PP_1_1, PP_2_0, PP_2_1, PP_3_6, PP_4_2, PP_4_3, PP_5_0, PP_6_0, PP_6_1, PP_6_2, PP_7_0, PP_7_2, PP_7_4, PP_7_5, PP_7_8, PP_7_9, PP_7_11, PP_8_1, PP_8_3, PP_8_5, PP_8_6, PP_8_7, PP_8_8, PP_8_9, PP_8_19, PP_8_20, PP_8_21, PP_8_22, PP_8_23, PP_8_24, PP_8_25, PP_8_26, PP_8_27, PP_8_28, PP_8_29, PP_8_30, PP_8_31, PP_8_33, PP_8_34, PP_8_35, PP_8_39, PP_8_40, PP_8_41, PP_8_42, PP_8_43, PP_8_44, PP_8_51, PP_8_52, PP_2_2, PP_7_6, arN_10, arN_11, arN_12, arN_13, arN_14, arN_16, arN_17, arN_18, arN_19, arN_20, arN_21, arN_22, arN_26, arN_27, arN_30, arN_31, arN_32, arN_33, arN_34, arN_35, arN_36, arN_37, arN_38, arN_39, arN_40, arN_41, arN_42, arN_43, arN_44, arN_45, arN_46, arN_47, arN_48, arN_49, arN_50, arN_51, arN_52, arN_53, arN_54, arN_55, arN_56, arN_57, arN_58, arN_59, arN_60, arE_15, arE_23, arE_24, arE_25, nI_leI, nI_ltI, nI_eq, nI_toInt, nI_clamp, PP_15, PP_23, PP_24, PP_25, nI_1]
      refine ih (k + 1) (by omega) I2 (fun g i j a b => (hS2.o a b).trans (hS g i j a b)) (fun k' hk' => ?_)
      by_cases q : k' = k
      · subst q; exact hp2
      · exact (hp k' (by omega)).cg (fun g j z => hS2 g k' j (by omega) (by omega))
  refine AJ.blk bX7_measureDeeds_0 ?_
  simp (disch := omega) only [wp, p1, p2, q1, q2, r1, ri, fR, sI, sJ, sR, d1, d2, ct1, ldI, ldL, ldR, rq, noL, brc, vI, vL, vR, List.getElem?_cons_zero, List.getElem?_cons_succ, List.getElem?_nil, List.set_cons_zero, List.set_cons_succ, List.set_nil, List.length_cons, List.length_nil, List.length_set, List.cons_append, List.nil_append, Nat.reduceDiv, Nat.reduceMod, Nat.reduceAdd, Nat.reduceMul, Nat.reduceSub, Nat.reduceLT, Nat.reduceEqDiff, Int.reduceToNat, Int32.reduceOfInt, Int64.reduceOfInt, reduceIte, true_and, and_true, reduceCtorEq, not_false_eq_true, Nat.lt_add_one, Nat.zero_lt_succ, Nat.zero_lt_one, Option.toList_some, Option.toList_none, imp_self, forall_const, true_or, or_true, eq_self, i1_0, i0_1, im_0, u3_same, u3_g, u3_j, u3_i, false_or, or_false, not_true_eq_false, false_implies, CC_0, CC_1, CC_2, CC_3, CC_4, CC_5, CC_6, CC_7, CC_8, CC_10, CC_11, CC_12, CC_13, CC_14, CC_15, CC_16, CC_17, CC_18, CC_19, CC_20, CC_21, CC_22, CC_23, CC_24, CC_25, CC_26, CC_27, CC_30, CC_31, CC_32, CC_33, CC_34, CC_35, CC_36, CC_37, CC_38, CC_39, CC_40, CC_41, CC_42, CC_43, CC_44, CC_45, CC_46, CC_47, CC_48, CC_49, CC_50, CC_51, CC_52, CC_53, CC_54, CC_55, CC_56, CC_57, CC_58, CC_59, CC_60, PP_0_5, PP_0_6, PP_0_7, PP_1_1, PP_2_0, PP_2_1, PP_3_6, PP_4_2, PP_4_3, PP_5_0, PP_6_0, PP_6_1, PP_6_2, PP_7_0, PP_7_2, PP_7_4, PP_7_5, PP_7_8, PP_7_9, PP_7_11, PP_8_1, PP_8_3, PP_8_5, PP_8_6, PP_8_7, PP_8_8, PP_8_9, PP_8_19, PP_8_20, PP_8_21, PP_8_22, PP_8_23, PP_8_24, PP_8_25, PP_8_26, PP_8_27, PP_8_28, PP_8_29, PP_8_30, PP_8_31, PP_8_33, PP_8_34, PP_8_35, PP_8_39, PP_8_40, PP_8_41, PP_8_42, PP_8_43, PP_8_44, PP_8_51, PP_8_52, PP_2_2, PP_7_6, arN_10, arN_11, arN_12, arN_13, arN_14, arN_16, arN_17, arN_18, arN_19, arN_20, arN_21, arN_22, arN_26, arN_27, arN_30, arN_31, arN_32, arN_33, arN_34, arN_35, arN_36, arN_37, arN_38, arN_39, arN_40, arN_41, arN_42, arN_43, arN_44, arN_45, arN_46, arN_47, arN_48, arN_49, arN_50, arN_51, arN_52, arN_53, arN_54, arN_55, arN_56, arN_57, arN_58, arN_59, arN_60, arE_15, arE_23, arE_24, arE_25, nI_leI, nI_ltI, nI_eq, nI_toInt, nI_clamp, PP_15, PP_23, PP_24, PP_25]
  exact lp (σ 0 5) 0 (by omega) I (fun _ _ _ _ _ => rfl) (fun k' hk' => by omega)
end CW1
