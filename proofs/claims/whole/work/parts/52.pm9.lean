/-! a DEED read: what it leaves -/
section PM9
variable {K S V : Nat → Nat} {σ : St} {I : hI} {J : hJ}
theorem Gd.eD {ρ a : St} {k : Nat} (h : Gd K S ρ a) : eD k ρ a := ⟨fun g j x _ _ => h.2.1 g j x, h.2.2⟩
theorem ord_l {k : Nat} {ρ a : St} (hI : PI K S ρ) (hB : KB K S V σ) (h : pOrd K S V σ k ρ = .inl a) : PI K S a ∧ eD k ρ a ∧ ∀ g j, ¬ g = 0 → ¬ g = 20 → a g j = ρ g j := by
  unfold pOrd at h
  split at h
  · rename_i q
    cases e1 : pNext S ρ with
    | inr e => rw [e1, bnd_r] at h; cases h
    | inl b =>
      rw [e1, bnd_l] at h
      have gb := (Gd.rf hI).next hB (by rw [q]; decide) e1
      cases e2 : pMust K S 2 b with
      | inr e => rw [e2, bnd_r] at h; cases h
      | inl c =>
        rw [e2, bnd_l] at h
        obtain ⟨gc, nc, sc⟩ := gb.must hB (by decide) e2
        have gn := gc.note (q := badC σ (ρ 12 k) (V (b 0 0))) (c := 4) (by decide) sc
        obtain rfl := Sum.inl.inj h
        exact ⟨gn.1.cg (fun j => by rw [uS_g (by decide)]), gn.eD.put (by decide), fun g j x y => by rw [uS_g y]; exact gn.2.1 g j x⟩
  · obtain rfl := Sum.inl.inj h
    exact ⟨hI, eD.rf, fun _ _ _ _ => rfl⟩
theorem join_l {k : Nat} {ρ a : St} (hI : PI K S ρ) (hB : KB K S V σ) (h : pJoin K S V σ k ρ = .inl a) : PI K S a ∧ eD k ρ a ∧ ∀ g j, ¬ g = 0 → ¬ g = 17 → ¬ g = 18 → ¬ g = 19 → a g j = ρ g j := by
  unfold pJoin at h
  split at h
  · rename_i q
    cases e1 : pNext S ρ with
    | inr e => rw [e1, bnd_r] at h; cases h
    | inl b =>
    rw [e1, bnd_l] at h
    have gb := (Gd.rf hI).next hB (by rw [q]; decide) e1
    cases e2 : pMust K S 2 b with
    | inr e => rw [e2, bnd_r] at h; cases h
    | inl c =>
    rw [e2, bnd_l] at h
    obtain ⟨gc, nc, sc⟩ := gb.must hB (by decide) e2
    have gn := gc.note (q := decide (σ 0 1 ≤ V (b 0 0))) (c := 4) (by decide) sc
    cases e3 : pMust K S 26 (pNote (decide (σ 0 1 ≤ V (b 0 0))) 4 (S (b 0 0)) c) with
    | inr e => rw [e3, bnd_r] at h; cases h
    | inl d =>
    rw [e3, bnd_l] at h
    obtain ⟨gd, -, -⟩ := gn.must hB (by decide) e3
    cases e4 : pMust K S 2 d with
    | inr e => rw [e4, bnd_r] at h; cases h
    | inl f =>
    rw [e4, bnd_l] at h
    obtain ⟨gf, nf, sf⟩ := gd.must hB (by decide) e4
    have gn2 := gf.note (q := badC σ (ρ 12 k) (V (d 0 0))) (c := 4) (by decide) sf
    cases e5 : pMust K S 5 (pNote (badC σ (ρ 12 k) (V (d 0 0))) 4 (S (d 0 0)) f) with
    | inr e => rw [e5, bnd_r] at h; cases h
    | inl u =>
    rw [e5, bnd_l] at h
    obtain ⟨gu, -, -⟩ := gn2.must hB (by decide) e5
    cases e6 : pMust K S 2 u with
    | inr e => rw [e6, bnd_r] at h; cases h
    | inl v =>
    rw [e6, bnd_l] at h
    obtain ⟨gv, nv, sv⟩ := gu.must hB (by decide) e6
    have gn3 := gv.note (q := badC σ (V (b 0 0)) (V (u 0 0))) (c := 4) (by decide) sv
    obtain rfl := Sum.inl.inj h
    exact ⟨gn3.1.cg (fun j => by rw [uS_g (by decide), uS_g (by decide), uS_g (by decide)]), ((gn3.eD.put (by decide)).put (by decide)).put (by decide), fun g j x y z z2 => by rw [uS_g z2, uS_g z, uS_g y]; exact gn3.2.1 g j x⟩
  · obtain rfl := Sum.inl.inj h
    exact ⟨hI, eD.rf, fun _ _ _ _ _ _ => rfl⟩
theorem ands_l (hB : KB K S V σ) {k : Nat} : ∀ (f : Nat) (ρ a : St), ρ 13 k + f = 5 → PI K S ρ → DB ρ k → pAnds K S V σ k f ρ = .inl a → PI K S a ∧ DB a k ∧ eD k ρ a := by
  intro f
  induction f with
  | zero => intro ρ a hf hI hD; exact absurd hD.2.1 (by omega)
  | succ f ih =>
    intro ρ a hf hI hD h
    unfold pAnds at h
    split at h
    · rename_i q
      cases e1 : pNext S ρ with
      | inr e => rw [e1, bnd_r] at h; cases h
      | inl b =>
        rw [e1, bnd_l] at h
        have gb := (Gd.rf hI).next hB (by rw [q]; decide) e1
        have e13 : b 13 k = ρ 13 k := gb.2.1 13 k (by decide)
        have hD2 : DB b k := ⟨by rw [gb.2.1 12 k (by decide)]; exact hD.1, by rw [e13]; exact hD.2.1, fun i hi => by rw [gb.2.1 14 _ (by decide)]; exact hD.2.2 i (by rw [← e13]; exact hi)⟩
        split at h
        · cases h
        · rename_i z
          cases e2 : pCond K S V σ k b with
          | inr e => rw [e2, bnd_r] at h; cases h
          | inl c =>
            rw [e2, bnd_l] at h
            obtain ⟨i3, d3, t3, x3⟩ := cond_l gb.1 hB hD2 z e2
            obtain ⟨r1, r2, r3⟩ := ih c a (by omega) i3 d3 h
            exact ⟨r1, r2, (gb.eD.tr x3).tr r3⟩
    · obtain rfl := Sum.inl.inj h
      exact ⟨hI, hD, eD.rf⟩
theorem conds_l (hB : KB K S V σ) {k : Nat} {ρ a : St} (hI : PI K S ρ) (hD : DB ρ k) (h13 : ρ 13 k = 0) (h : pConds K S V σ k ρ = .inl a) : PI K S a ∧ DB a k ∧ eD k ρ a := by
  unfold pConds at h
  split at h
  · rename_i q
    cases e1 : pNext S ρ with
    | inr e => rw [e1, bnd_r] at h; cases h
    | inl b =>
      rw [e1, bnd_l] at h
      have gb := (Gd.rf hI).next hB (by rw [q]; decide) e1
      have e13 : b 13 k = ρ 13 k := gb.2.1 13 k (by decide)
      have hD2 : DB b k := ⟨by rw [gb.2.1 12 k (by decide)]; exact hD.1, by rw [e13]; exact hD.2.1, fun i hi => by rw [gb.2.1 14 _ (by decide)]; exact hD.2.2 i (by rw [← e13]; exact hi)⟩
      cases e2 : pCond K S V σ k b with
      | inr e => rw [e2, bnd_r] at h; cases h
      | inl c =>
        rw [e2, bnd_l] at h
        obtain ⟨i3, d3, t3, x3⟩ := cond_l gb.1 hB hD2 (by omega) e2
        obtain ⟨r1, r2, r3⟩ := ands_l hB 4 c a (by omega) i3 d3 h
        exact ⟨r1, r2, (gb.eD.tr x3).tr r3⟩
  · obtain rfl := Sum.inl.inj h
    exact ⟨hI, hD, eD.rf⟩
theorem ask_l (hB : KB K S V σ) {k : Nat} {ρ a : St} (hI : PI K S ρ) (hD : DB ρ k) (h13 : ρ 13 k = 0) (h : pAsk K S V σ k ρ = .inl a) : PI K S a ∧ DB a k ∧ eD k ρ a := by
  unfold pAsk at h
  cases e1 : pConds K S V σ k ρ with
  | inr e => rw [e1, bnd_r] at h; cases h
  | inl b =>
    rw [e1, bnd_l] at h
    obtain ⟨i1, d1, x1⟩ := conds_l hB hI hD h13 e1
    cases e2 : pJoin K S V σ k b with
    | inr e => rw [e2, bnd_r] at h; cases h
    | inl c =>
      rw [e2, bnd_l] at h
      obtain ⟨i2, x2, y2⟩ := join_l i1 hB e2
      obtain ⟨i3, x3, y3⟩ := ord_l i2 hB h
      have z : ∀ g j, ¬ g = 0 → ¬ g = 17 → ¬ g = 18 → ¬ g = 19 → ¬ g = 20 → a g j = b g j := fun g j w1 w2 w3 w4 w5 => by rw [y3 g j w1 w5, y2 g j w1 w2 w3 w4]
      refine ⟨i3, ⟨?_, ?_, fun i hi => ?_⟩, (x1.tr x2).tr x3⟩
      · rw [z 12 k (by decide) (by decide) (by decide) (by decide) (by decide)]; exact d1.1
      · rw [z 13 k (by decide) (by decide) (by decide) (by decide) (by decide)]; exact d1.2.1
      · rw [z 13 k (by decide) (by decide) (by decide) (by decide) (by decide)] at hi
        rw [z 14 _ (by decide) (by decide) (by decide) (by decide) (by decide)]; exact d1.2.2 i hi
theorem wrt_l (hB : KB K S V σ) {k : Nat} {ρ a : St} (hI : PI K S ρ) (h : pWrt K S V k ρ = .inl a) : PI K S a ∧ eD k ρ a ∧ ∀ g j, ¬ g = 0 → ¬ g = 21 → a g j = ρ g j := by
  unfold pWrt at h
  cases e1 : pMust K S 30 ρ with
  | inr e => rw [e1, bnd_r] at h; cases h
  | inl b =>
    rw [e1, bnd_l] at h
    obtain ⟨gb, -, -⟩ := (Gd.rf hI).must hB (by decide) e1
    cases e2 : pMust K S 2 b with
    | inr e => rw [e2, bnd_r] at h; cases h
    | inl c =>
      rw [e2, bnd_l] at h
      obtain ⟨gc, nc, sc⟩ := gb.must hB (by decide) e2
      have hP : PI K S (uS c 21 k (V (b 0 0))) := gc.1.cg (fun j => uS_g (by decide))
      have hn := hP.note (b := decide (V (b 0 0) < 1 ∨ 100 < V (b 0 0))) (c := 5) (p := S (b 0 0)) (by decide) (by rw [uS_g (by decide)]; exact sc)
      obtain rfl := Sum.inl.inj h
      exact ⟨hn, (gc.eD.put (by decide)).note, fun g j x y => by rw [pNote_g x, uS_g y]; exact gc.2.1 g j x⟩
/-- the DEEDS ahead -/
def EA (ρ : St) (sd : Nat) (I : hI) (k : Nat) : Prop := ∀ k', k' < k → MRd ρ sd I k' ∧ ρ 13 k' ≤ 4
def LK (sd k : Nat) (I : hI) : Prop := I 8 0 18 = nI sd ∧ I 37 0 sd = nI k
theorem EA.go {ρ a : St} {sd k : Nat} {I1 : hI} (h : EA ρ sd I k) (s : dS (8 * sd + k) I I1) (e : eD k ρ a) : EA a sd I1 k := fun k' hk => by
  obtain ⟨h1, h2⟩ := h k' hk
  exact ⟨(h1.dS (by omega) h2 s).eD (by omega) h2 e, by rw [e.1 13 k' (by decide) (by omega) (by omega)]; exact h2⟩
theorem LK.go {sd k : Nat} {I1 : hI} (h : LK sd k I) (s : dS (8 * sd + k) I I1) : LK sd k I1 := ⟨by rw [s 8 0 18 (by unfold inD; omega)]; exact h.1, by rw [s 37 0 sd (by unfold inD; omega)]; exact h.2⟩
/-- the end of a DEED -/
theorem l8_294 (sw : Nat) {sd k : Nat} (hsd : sd ≤ 1) (hk : k < 8) (hB : KB K S V σ) {I1 : hI} (hS : tS sd I I1) (hC : CX K S V σ I1) {e : St} (hr : PM e I1) (hI : PI K S e) (h3 : e 0 3 = k) (hM : MRd e sd I1 k) (hE : EA e sd I1 k) (hL : LK sd k I1) {x1 x2 : Option AV} : jX8_tellDeed (qN CC (tF (bnd (pMust K S 6 e) fun f => .inl (uS f 0 3 (k + 1))) sd I J (PP sw))) 294 [some (vR 8 0), x1, x2] [] I1 J (PP sw) := by
  refine AJ.blk bX8_tellDeed_294 ?_
  simp (disch := omega) only [wp, p1, p2, q1, q2, r1, ri, fR, sI, sJ, sR, d1, d2, ct1, ldI, ldL, ldR, rq, noL, brc, vI, vL, vR, List.getElem?_cons_zero, List.getElem?_cons_succ, List.getElem?_nil, List.set_cons_zero, List.set_cons_succ, List.set_nil, List.length_cons, List.length_nil, List.length_set, List.cons_append, List.nil_append, Nat.reduceDiv, Nat.reduceMod, Nat.reduceAdd, Nat.reduceMul, Nat.reduceSub, Nat.reduceLT, Nat.reduceEqDiff, Int.reduceToNat, Int32.reduceOfInt, Int64.reduceOfInt, reduceIte, true_and, and_true, reduceCtorEq, not_false_eq_true, Nat.lt_add_one, Nat.zero_lt_succ, Nat.zero_lt_one, Option.toList_some, Option.toList_none, imp_self, forall_const, true_or, or_true, eq_self, i1_0, i0_1, im_0, u3_same, u3_g, u3_j, u3_i, false_or, or_false, not_true_eq_false, false_implies, CC_0, CC_1, CC_2, CC_3, CC_4, CC_5, CC_6, CC_7, CC_8, CC_10, CC_11, CC_12, CC_13, CC_14, CC_15, CC_16, CC_17, CC_18, CC_19, CC_20, CC_21, CC_22, CC_23, CC_24, CC_25, CC_26, CC_27, CC_30, CC_31, CC_32, CC_33, CC_34, CC_35, CC_36, CC_37, CC_38, CC_39, CC_40, CC_41, CC_42, CC_43, CC_44, CC_45, CC_46, CC_47, CC_48, CC_49, CC_50, CC_51, CC_52, CC_53, CC_54, CC_55, CC_56, CC_57, CC_58, CC_59, CC_60, PP_0_5, PP_0_6, PP_0_7, PP_1_1, PP_2_0, PP_2_1, PP_3_6, PP_4_2, PP_4_3, PP_5_0, PP_6_0, PP_6_1, PP_6_2, PP_7_0, PP_7_2, PP_7_4, PP_7_5, PP_7_8, PP_7_9, PP_7_11, PP_8_1, PP_8_3, PP_8_5, PP_8_6, PP_8_7, PP_8_8, PP_8_9, PP_8_19, PP_8_20, PP_8_21, PP_8_22, PP_8_23, PP_8_24, PP_8_25, PP_8_26, PP_8_27, PP_8_28, PP_8_29, PP_8_30, PP_8_31, PP_8_33, PP_8_34, PP_8_35, PP_8_39, PP_8_40, PP_8_41, PP_8_42, PP_8_43, PP_8_44, PP_8_51, PP_8_52, PP_2_2, PP_7_6, arN_10, arN_11, arN_12, arN_13, arN_14, arN_16, arN_17, arN_18, arN_19, arN_20, arN_21, arN_22, arN_26, arN_27, arN_30, arN_31, arN_32, arN_33, arN_34, arN_35, arN_36, arN_37, arN_38, arN_39, arN_40, arN_41, arN_42, arN_43, arN_44, arN_45, arN_46, arN_47, arN_48, arN_49, arN_50, arN_51, arN_52, arN_53, arN_54, arN_55, arN_56, arN_57, arN_58, arN_59, arN_60, arE_15, arE_23, arE_24, arE_25, nI_leI, nI_ltI, nI_eq, nI_toInt, nI_clamp, PP_15, PP_23, PP_24, PP_25]
  refine AJ.cV sX8_tellDeed_297 (c8_must sw hr hI hC hB (k := 6) l_6 (by decide)) rfl rfl ⟨rfl, Nat.le_of_ble_eq_true rfl, Nat.le_of_ble_eq_true rfl, Nat.le_of_ble_eq_true rfl⟩ (Nat.le_of_ble_eq_true rfl) (Nat.le_of_ble_eq_true rfl) ?_
  rintro _ I2 _ _ ⟨rfl, rfl, rfl, hs2, hr2⟩
  simp only [Option.toList_some, Option.toList_none, List.cons_append, List.nil_append, Nat.reduceAdd]
  cases e2 : pMust K S 6 e with
  | inr c =>
    rw [e2, pR_r] at hr2
    rw [bnd_r]
    exact g8_300 sw (hS.tr hs2.toT) hr2
  | inl f =>
    rw [e2, pR_l] at hr2
    rw [bnd_l]
    obtain ⟨gf, -, -⟩ := (Gd.rf hI).must hB (by decide) e2
    have hL2 := hL.go hs2.toD
    obtain ⟨l1, l2⟩ := hL2
    have hf := hr2.2.1
    have hE2 := hE.go hs2.toD gf.eD
    have hM2 : MRd f sd I2 k := (hM.pS hs2).cg (fun g j h1 h2 => gf.2.1 g j (by omega))
    refine AJ.blk bX8_tellDeed_300 ?_
    simp (disch := omega) only [wp, p1, p2, q1, q2, r1, ri, fR, sI, sJ, sR, d1, d2, ct1, ldI, ldL, ldR, rq, noL, brc, vI, vL, vR, List.getElem?_cons_zero, List.getElem?_cons_succ, List.getElem?_nil, List.set_cons_zero, List.set_cons_succ, List.set_nil, List.length_cons, List.length_nil, List.length_set, List.cons_append, List.nil_append, Nat.reduceDiv, Nat.reduceMod, Nat.reduceAdd, Nat.reduceMul, Nat.reduceSub, Nat.reduceLT, Nat.reduceEqDiff, Int.reduceToNat, Int32.reduceOfInt, Int64.reduceOfInt, reduceIte, true_and, and_true, reduceCtorEq, not_false_eq_true, Nat.lt_add_one, Nat.zero_lt_succ, Nat.zero_lt_one, Option.toList_some, Option.toList_none, imp_self, forall_const, true_or, or_true, eq_self, i1_0, i0_1, im_0, u3_same, u3_g, u3_j, u3_i, false_or, or_false, not_true_eq_false, false_implies, CC_0, CC_1, CC_2, CC_3, CC_4, CC_5, CC_6, CC_7, CC_8, CC_10, CC_11, CC_12, CC_13, CC_14, CC_15, CC_16, CC_17, CC_18, CC_19, CC_20, CC_21, CC_22, CC_23, CC_24, CC_25, CC_26, CC_27, CC_30, CC_31, CC_32, CC_33, CC_34, CC_35, CC_36, CC_37, CC_38, CC_39, CC_40, CC_41, CC_42, CC_43, CC_44, CC_45, CC_46, CC_47, CC_48, CC_49, CC_50, CC_51, CC_52, CC_53, CC_54, CC_55, CC_56, CC_57, CC_58, CC_59, CC_60, PP_0_5, PP_0_6, PP_0_7, PP_1_1, PP_2_0, PP_2_1, PP_3_6, PP_4_2, PP_4_3, PP_5_0, PP_6_0, PP_6_1, PP_6_2, PP_7_0, PP_7_2, PP_7_4, PP_7_5, PP_7_8, PP_7_9, PP_7_11, PP_8_1, PP_8_3, PP_8_5, PP_8_6, PP_8_7, PP_8_8, PP_8_9, PP_8_19, PP_8_20, PP_8_21, PP_8_22, PP_8_23, PP_8_24, PP_8_25, PP_8_26, PP_8_27, PP_8_28, PP_8_29, PP_8_30, PP_8_31, PP_8_33, PP_8_34, PP_8_35, PP_8_39, PP_8_40, PP_8_41, PP_8_42, PP_8_43, PP_8_44, PP_8_51, PP_8_52, PP_2_2, PP_7_6, arN_10, arN_11, arN_12, arN_13, arN_14, arN_16, arN_17, arN_18, arN_19, arN_20, arN_21, arN_22, arN_26, arN_27, arN_30, arN_31, arN_32, arN_33, arN_34, arN_35, arN_36, arN_37, arN_38, arN_39, arN_40, arN_41, arN_42, arN_43, arN_44, arN_45, arN_46, arN_47, arN_48, arN_49, arN_50, arN_51, arN_52, arN_53, arN_54, arN_55, arN_56, arN_57, arN_58, arN_59, arN_60, arE_15, arE_23, arE_24, arE_25, nI_leI, nI_ltI, nI_eq, nI_toInt, nI_clamp, PP_15, PP_23, PP_24, PP_25, hf, l1, l2, nI_1]
    repeat' (first | with_reducible apply And.intro | with_reducible intro _)
    all_goals try omega
    refine AJ.blk bX8_tellDeed_320 ?_
    simp (disch := omega) only [wp, p1, p2, q1, q2, r1, ri, fR, sI, sJ, sR, d1, d2, ct1, ldI, ldL, ldR, rq, noL, brc, vI, vL, vR, List.getElem?_cons_zero, List.getElem?_cons_succ, List.getElem?_nil, List.set_cons_zero, List.set_cons_succ, List.set_nil, List.length_cons, List.length_nil, List.length_set, List.cons_append, List.nil_append, Nat.reduceDiv, Nat.reduceMod, Nat.reduceAdd, Nat.reduceMul, Nat.reduceSub, Nat.reduceLT, Nat.reduceEqDiff, Int.reduceToNat, Int32.reduceOfInt, Int64.reduceOfInt, reduceIte, true_and, and_true, reduceCtorEq, not_false_eq_true, Nat.lt_add_one, Nat.zero_lt_succ, Nat.zero_lt_one, Option.toList_some, Option.toList_none, imp_self, forall_const, true_or, or_true, eq_self, i1_0, i0_1, im_0, u3_same, u3_g, u3_j, u3_i, false_or, or_false, not_true_eq_false, false_implies, CC_0, CC_1, CC_2, CC_3, CC_4, CC_5, CC_6, CC_7, CC_8, CC_10, CC_11, CC_12, CC_13, CC_14, CC_15, CC_16, CC_17, CC_18, CC_19, CC_20, CC_21, CC_22, CC_23, CC_24, CC_25, CC_26, CC_27, CC_30, CC_31, CC_32, CC_33, CC_34, CC_35, CC_36, CC_37, CC_38, CC_39, CC_40, CC_41, CC_42, CC_43, CC_44, CC_45, CC_46, CC_47, CC_48, CC_49, CC_50, CC_51, CC_52, CC_53, CC_54, CC_55, CC_56, CC_57, CC_58, CC_59, CC_60, PP_0_5, PP_0_6, PP_0_7, PP_1_1, PP_2_0, PP_2_1, PP_3_6, PP_4_2, PP_4_3, PP_5_0, PP_6_0, PP_6_1, PP_6_2, PP_7_0, PP_7_2, PP_7_4, PP_7_5, PP_7_8, PP_7_9, PP_7_11, PP_8_1, PP_8_3, PP_8_5, PP_8_6, PP_8_7, PP_8_8, PP_8_9, PP_8_19, PP_8_20, PP_8_21, PP_8_22, PP_8_23, PP_8_24, PP_8_25, PP_8_26, PP_8_27, PP_8_28, PP_8_29, PP_8_30, PP_8_31, PP_8_33, PP_8_34, PP_8_35, PP_8_39, PP_8_40, PP_8_41, PP_8_42, PP_8_43, PP_8_44, PP_8_51, PP_8_52, PP_2_2, PP_7_6, arN_10, arN_11, arN_12, arN_13, arN_14, arN_16, arN_17, arN_18, arN_19, arN_20, arN_21, arN_22, arN_26, arN_27, arN_30, arN_31, arN_32, arN_33, arN_34, arN_35, arN_36, arN_37, arN_38, arN_39, arN_40, arN_41, arN_42, arN_43, arN_44, arN_45, arN_46, arN_47, arN_48, arN_49, arN_50, arN_51, arN_52, arN_53, arN_54, arN_55, arN_56, arN_57, arN_58, arN_59, arN_60, arE_15, arE_23, arE_24, arE_25, nI_leI, nI_ltI, nI_eq, nI_toInt, nI_clamp, PP_15, PP_23, PP_24, PP_25]
    refine qN.mk ⟨rfl, rfl, rfl, (hS.tr hs2.toT).put (Or.inr (Or.inl ⟨rfl, rfl⟩)), ?_, fun a ha => ?_⟩
    · rw [pR_l]
      obtain ⟨p1, p2, p3, p4⟩ := hr2
      refine ⟨?_, ?_, ?_, fun z => ?_⟩
      · rw [u3_g (by decide), uS_j (by decide)]; exact p1
      · rw [u3_g (by decide)]; exact p2
      · rw [u3_g (by decide), uS_j (by decide)]; exact p3
      · rw [uS_j (by decide)] at z; rw [u3_g (by decide), uS_j (by decide)]; exact p4 z
    · obtain rfl := Sum.inl.inj ha
      refine ⟨by rw [u3_same, uS_same], fun k' hk' => ?_⟩
      rw [uS_same] at hk'
      have h5 : MRd f sd I2 k' := by
        by_cases z : k' = k
        · subst z; exact hM2
        · exact (hE2 k' (by omega)).1
      have h6 : MRd (uS f 0 3 (k + 1)) sd I2 k' := h5.cg (fun g j h1 h2 => uS_g (by omega))
      have eI : ∀ g, g ≠ 37 → u3 I2 37 0 sd (nI (k + 1)) g = I2 g := fun g hg => funext (fun i => funext (fun j => u3_g hg))
      unfold MRd at h6 ⊢
      rw [eI 38 (by decide), eI 39 (by decide), eI 40 (by decide), eI 41 (by decide), eI 42 (by decide), eI 43 (by decide), eI 44 (by decide), eI 45 (by decide), eI 46 (by decide), eI 47 (by decide), eI 48 (by decide), eI 49 (by decide)]
      exact h6
end PM9
