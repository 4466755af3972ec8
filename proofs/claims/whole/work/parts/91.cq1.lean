/-! the class: read -/
theorem Wc.eqv {D : va_G} {cA : Nat → ClassId} {φ : Nat → Nat → Nat} {A : Nat → Prop} {C : hC} {I I' : hI} {J J' : hJ} {P P' : hP} {H : Heap} (h : Wc D cA φ A C I J P H) (eI : ∀ g i, i < C g → I' g i = I g i) (eJ : ∀ g i, i < C g → J' g i = J g i) (eP : ∀ g i, i < C g → P' g i = P g i) : Wc D cA φ A C I' J' P' H := by
  refine ⟨fun g i hi => ?_, h.2⟩
  have := h.1 g i hi
  unfold cellAt at this ⊢
  rw [eI g i hi, eJ g i hi, eP g i hi]
  exact this
theorem AJ.eqv {d nL oc mc ms kc ks pc : Nat} {cc : ByteArray} {rt : Option FieldType} {ini : Bool} {C0 C : hC} {Q : QT} {ls : List (Option AV)} {st : List AV} {I I' : hI} {J J' : hJ} {P P' : hP} (eI : ∀ g i, i < C g → I' g i = I g i) (eJ : ∀ g i, i < C g → J' g i = J g i) (eP : ∀ g i, i < C g → P' g i = P g i) (k : AJ d cc nL oc rt ini C0 mc ms Q kc ks pc ls st C I' J' P') : AJ d cc nL oc rt ini C0 mc ms Q kc ks pc ls st C I J P := by
  intro p l e s m args below meth c D cA φ0 hM hT φ H locs cells slots lsR hE hW hS hl hn hc hs
  exact k p l e s m args below meth c D cA φ0 hM hT φ H locs cells slots lsR hE (hW.eqv eI eJ eP) hS hl hn hc hs
section CQ1
variable {K S V : Nat → Nat} {σ : St} {I : hI} {J : hJ} {τ : Nat → Int32} {sw : Nat}
theorem tab_ci (hB : KB K S V σ) {k : Nat} {ρ a : St} (hi0 : CI K S ρ) (h : pTab K S V σ k ρ = .inl a) : CI K S a ∧ a 12 k ≤ 9999 ∧ ∀ g j, ¬ g = 0 → ¬ g = 12 → a g j = ρ g j := by
  obtain ⟨p1', -, p3', p4', -⟩ := tab_l hB hi0.1 h
  refine ⟨⟨p1', ?_⟩, p4', p3'⟩
  unfold pTab at h
  obtain ⟨c, e2, h⟩ := bnd_i h
  obtain ⟨ec, ic, -⟩ := hi0.must hB (by decide) e2
  obtain rfl := Sum.inl.inj h
  rw [pNote_t, uS_g (by decide)]
  exact ic.2
theorem wrt_ci (hB : KB K S V σ) {k : Nat} {ρ a : St} (hi0 : CI K S ρ) (h : pWrt K S V k ρ = .inl a) : CI K S a := by
  obtain ⟨p1', -, -⟩ := wrt_l hB hi0.1 h
  refine ⟨p1', ?_⟩
  unfold pWrt at h
  obtain ⟨b, e1, h⟩ := bnd_i h
  obtain ⟨eb, ib, -⟩ := hi0.must hB (by decide) e1
  obtain ⟨c, e2, h⟩ := bnd_i h
  obtain ⟨ec, ic, -⟩ := ib.must hB (by decide) e2
  obtain rfl := Sum.inl.inj h
  rw [pNote_t, uS_g (by decide)]
  exact ic.2
theorem ask_ci (hB : KB K S V σ) {k : Nat} {ρ a : St} (hi0 : CI K S ρ) (hD : DB ρ k) (h13 : ρ 13 k = 0) (h : pAsk K S V σ k ρ = .inl a) : CI K S a := by
  unfold pAsk at h
  obtain ⟨b, e1, h⟩ := bnd_i h
  obtain ⟨ib, -⟩ := conds_ci hB hi0 hD h13 e1
  obtain ⟨c, e2, h⟩ := bnd_i h
  exact ord_ci hB (join_ci hB ib e2) h
theorem deed_ci (hB : KB K S V σ) {ρ a : St} (hi0 : CI K S ρ) (h : pDeed K S V σ ρ = .inl a) : CI K S a := by
  unfold pDeed at h
  split at h
  case isFalse => cases h
  rename_i hk
  split at h
  · cases h
  generalize hk0 : ρ 0 3 = k at h
  have i0 : CI K S (pInit k (if K (ρ 0 0) = 28 then 1 else 0) ρ) := hi0.cg init_0
  obtain ⟨a1, e1, h⟩ := bnd_i h
  obtain ⟨q1, i1⟩ := i0.next hB (by rw [init_0]; rcases hk with y | y <;> rw [y] <;> decide) e1
  obtain ⟨a2, e2, h⟩ := bnd_i h
  obtain ⟨i2, f2⟩ := share_ci hB i1 e2
  obtain ⟨a3, e3, h⟩ := bnd_i h
  obtain ⟨q3, i3, -⟩ := i2.must hB (by split <;> decide) e3
  obtain ⟨a4, e4, h⟩ := bnd_i h
  obtain ⟨i4, b4, f4⟩ := tab_ci hB i3 e4
  have t13 : a4 13 k = 0 := by
    rw [f4 13 k (by decide) (by decide), q3, uS_g (by decide), f2 13 k (by decide) (by decide), q1, uS_g (by decide)]
    simp [pInit, uS]
  obtain ⟨a5, e5, h⟩ := bnd_i h
  have i5 : CI K S a5 := by
    split at e5
    · exact wrt_ci hB i4 e5
    · exact ask_ci hB i4 ⟨b4, by omega, fun i hi => by omega⟩ t13 e5
  obtain ⟨a6, e6, h⟩ := bnd_i h
  obtain ⟨q6, i6, -⟩ := i5.must hB (by decide) e6
  obtain rfl := Sum.inl.inj h
  obtain ⟨⟨y1, y2, y3, y4⟩, y5⟩ := i6
  exact ⟨⟨by rw [uS_j (by decide)]; exact y1, by rw [uS_j (by decide)]; exact y2, by rw [uS_j (by decide), uS_j (by decide), uS_j (by decide)]; exact y3, by rw [uS_j (by decide)]; exact y4⟩, by rw [uS_j (by decide)]; exact y5⟩
/-- what parse may change -/
def pF2 (sw : Nat) (I I1 : hI) : Prop := ∀ g i j, ¬ (g = 2 ∧ 3 ≤ j ∧ j ≤ 6) → ¬ (20 ≤ g ∧ g ≤ 22) → ¬ ((g = 0 ∨ (10 ≤ g ∧ g ≤ 12)) ∧ ((8 * (1 - sw) ≤ i ∧ i < 8 * (1 - sw) + 8) ∨ i = 99)) → I1 g i j = I g i j
def rdC (sw : Nat) (r : PR) (I : hI) (J : hJ) (P : hP) : FT := fun v1 I1 J1 P1 => none = v1 ∧ J = J1 ∧ P = P1 ∧ pF2 sw I I1 ∧ pRc r I1 ∧ ∀ a, r = .inl a → I1 2 0 4 = nI (a 0 3) ∧ ∀ k, k < a 0 3 → DR a (8 * (1 - sw) + k) k I1
theorem oD_e {k : Nat} (h : k < 8) : oD sw k = 8 * (1 - sw) + k := if_pos h
theorem pF2.dC {k : Nat} {I1 I2 : hI} (h : pF2 sw I I1) (s : dC (oD sw k) I1 I2) : pF2 sw I I2 := fun g i j q1 q2 q3 => by
  by_cases y : k < 8
  · rw [oD_e y] at s
    rw [s g i j (by omega) (by omega)]
    exact h g i j q1 q2 q3
  · have e9 : oD sw k = 99 := if_neg y
    rw [e9] at s
    rw [s g i j (by omega) (by omega)]
    exact h g i j q1 q2 q3
theorem pF2.put4 {I1 : hI} {x : Int32} (h : pF2 sw I I1) : pF2 sw I (u3 I1 2 0 4 x) := fun g i j q1 q2 q3 => by
  rw [u3_ne _ _ (fun z => q1 ⟨z.1, by omega, by omega⟩)]
  exact h g i j q1 q2 q3
theorem CY.of {I1 : hI} (h : CY K S V σ I) (e : ∀ g j, (g = 14 ∨ (20 ≤ g ∧ g ≤ 22)) → I1 g 0 j = I g 0 j) : CY K S V σ I1 := by
  obtain ⟨h1, h2⟩ := h
  refine ⟨fun t ht hz => ?_, fun x hx => by rw [e 14 x (by omega)]; exact h2 x hx⟩
  rw [e 20 t (by omega), e 21 t (by omega), e 22 t (by omega)]
  exact h1 t ht hz
theorem DR.ce {ρ a : St} {o k : Nat} (h : DR ρ o k I) (h4 : ρ 13 k ≤ 4) (e : ∀ g, 10 ≤ g → g ≤ 21 → ¬ (14 ≤ g ∧ g ≤ 16) → a g k = ρ g k) (e2 : ∀ g i, 14 ≤ g → g ≤ 16 → i < 4 → a g (4 * k + i) = ρ g (4 * k + i)) : DR a o k I := by
  obtain ⟨a0, a1, a2, a3, a4, a5, a6, a7, a8⟩ := h
  unfold DR
  rw [e 10 (by decide) (by decide) (by decide), e 11 (by decide) (by decide) (by decide), e 12 (by decide) (by decide) (by decide), e 13 (by decide) (by decide) (by decide), e 17 (by decide) (by decide) (by decide), e 18 (by decide) (by decide) (by decide), e 19 (by decide) (by decide) (by decide), e 20 (by decide) (by decide) (by decide), e 21 (by decide) (by decide) (by decide)]
  exact ⟨a0, a1, a2, a3, a4, fun i hi => by rw [e2 14 i (by decide) (by decide) (by omega), e2 15 i (by decide) (by decide) (by omega), e2 16 i (by decide) (by decide) (by omega)]; exact a5 i hi, a6, a7, a8⟩
theorem x2_parse (hsw : sw ≤ 1) (w : WF σ) (wg : WG σ) (hT : TP τ (σ 0 0) I) (hw : ∀ x, x < 4 → I 14 0 x = nI (σ 1 x)) : kX2_parse [vR 2 0, vR 5 0] I J (PP sw) (rdC sw (rdP σ τ) I J (PP sw)) := by
  refine eX2_parse (ls := [some (vR 2 0), some (vR 5 0), none]) rfl (Nat.le_of_ble_eq_true rfl) ?_
  have hB := rd_kb (τ := τ) w
  refine AJ.blk bX2_parse_0 ?_
  simp (disch := omega) only [wp, p1, p2, q1, q2, r1, ri, fR, sI, sJ, sR, d1, d2, ct1, ldI, ldL, ldR, rq, noL, brc, vI, vL, vR, List.getElem?_cons_zero, List.getElem?_cons_succ, List.getElem?_nil, List.set_cons_zero, List.set_cons_succ, List.set_nil, List.length_cons, List.length_nil, List.length_set, List.cons_append, List.nil_append, Nat.reduceDiv, Nat.reduceMod, Nat.reduceAdd, Nat.reduceMul, Nat.reduceSub, Nat.reduceLT, Nat.reduceEqDiff, Int.reduceToNat, Int32.reduceOfInt, Int64.reduceOfInt, reduceIte, true_and, and_true, reduceCtorEq, not_false_eq_true, Nat.lt_add_one, Nat.zero_lt_succ, Nat.zero_lt_one, Option.toList_some, Option.toList_none, imp_self, forall_const, true_or, or_true, eq_self, i1_0, i0_1, im_0, u3_same, u3_g, u3_j, u3_i, false_or, or_false, not_true_eq_false, false_implies, CC_0, CC_1, CC_2, CC_3, CC_4, CC_5, CC_6, CC_7, CC_8, CC_10, CC_11, CC_12, CC_13, CC_14, CC_15, CC_16, CC_17, CC_18, CC_19, CC_20, CC_21, CC_22, CC_23, CC_24, CC_25, CC_26, CC_27, CC_30, CC_31, CC_32, CC_33, CC_34, CC_35, CC_36, CC_37, CC_38, CC_39, CC_40, CC_41, CC_42, CC_43, CC_44, CC_45, CC_46, CC_47, CC_48, CC_49, CC_50, CC_51, CC_52, CC_53, CC_54, CC_55, CC_56, CC_57, CC_58, CC_59, CC_60, PP_0_5, PP_0_6, PP_0_7, PP_1_1, PP_2_0, PP_2_1, PP_3_6, PP_4_2, PP_4_3, PP_5_0, PP_6_0, PP_6_1, PP_6_2, PP_7_0, PP_7_2, PP_7_4, PP_7_5, PP_7_8, PP_7_9, PP_7_11, PP_8_1, PP_8_3, PP_8_5, PP_8_6, PP_8_7, PP_8_8, PP_8_9, PP_8_19, PP_8_20, PP_8_21, PP_8_22, PP_8_23, PP_8_24, PP_8_25, PP_8_26, PP_8_27, PP_8_28, PP_8_29, PP_8_30, PP_8_31, PP_8_33, PP_8_34, PP_8_35, PP_8_39, PP_8_40, PP_8_41, PP_8_42, PP_8_43, PP_8_44, PP_8_51, PP_8_52, PP_2_2, PP_7_6, arN_10, arN_11, arN_12, arN_13, arN_14, arN_16, arN_17, arN_18, arN_19, arN_20, arN_21, arN_22, arN_26, arN_27, arN_30, arN_31, arN_32, arN_33, arN_34, arN_35, arN_36, arN_37, arN_38, arN_39, arN_40, arN_41, arN_42, arN_43, arN_44, arN_45, arN_46, arN_47, arN_48, arN_49, arN_50, arN_51, arN_52, arN_53, arN_54, arN_55, arN_56, arN_57, arN_58, arN_59, arN_60, arE_15, arE_23, arE_24, arE_25, nI_leI, nI_ltI, nI_eq, nI_toInt, nI_clamp, PP_15, PP_23, PP_24, PP_25]
  refine AJ.cV sX2_parse_5 (x6_scan hT) rfl rfl ⟨rfl, Nat.le_of_ble_eq_true rfl, Nat.le_of_ble_eq_true rfl, Nat.le_of_ble_eq_true rfl⟩ (Nat.le_of_ble_eq_true rfl) (Nat.le_of_ble_eq_true rfl) ?_
  rintro _ I2 _ _ ⟨rfl, rfl, rfl, s2, k2⟩
  simp only [Option.toList_some, Option.toList_none, List.cons_append, List.nil_append, Nat.reduceAdd]
  unfold TKc at k2
  unfold rdP
  generalize hK : kT (chN τ (σ 0 0)) (σ 0 0) = K at *
  generalize hSS : stT (chN τ (σ 0 0)) (σ 0 0) = S at *
  generalize hVV : vT (chN τ (σ 0 0)) (σ 0 0) = V at *
  have lp : ∀ (f : Nat) (ρ : St) (I1 : hI) (R : PR), ρ 0 3 + f = 9 → ρ 0 3 ≤ 8 → pLoop K S V σ f ρ = R → pF2 sw I I1 → CY K S V σ I1 → PC ρ I1 → CI K S ρ → I1 2 0 4 = nI (ρ 0 3) → (∀ k, k < ρ 0 3 → DR ρ (8 * (1 - sw) + k) k I1 ∧ ρ 13 k ≤ 4) → jX2_parse (qN CC (rdC sw R I J (PP sw))) 30 [some (vR 2 0), some (vR 5 0), some (vI (nI (ρ 0 3)))] [] I1 J (PP sw) := by
    intro f
    induction f with
    | zero => intro ρ I1 R hf h8; omega
    | succ f ih =>
      intro ρ I1 R hf h8 hR hF hC hP hi0 h4 hD
      obtain ⟨tk, -⟩ := hi0.tok hC
      have hkt := (hB.1 (ρ 0 0)).1
      have c0 := cK_0 hkt
      have cl := cK_le hkt
      have p3 := hP.1
      have la := hi0.1.1
      unfold pLoop at hR
      by_cases q : K (ρ 0 0) = 0
      · rw [if_pos q] at hR
        subst hR
        have y0 := c0.mpr q
        refine AJ.blk bX2_parse_30 ?_
        simp (disch := omega) only [wp, p1, p2, q1, q2, r1, ri, fR, sI, sJ, sR, d1, d2, ct1, ldI, ldL, ldR, rq, noL, brc, vI, vL, vR, List.getElem?_cons_zero, List.getElem?_cons_succ, List.getElem?_nil, List.set_cons_zero, List.set_cons_succ, List.set_nil, List.length_cons, List.length_nil, List.length_set, List.cons_append, List.nil_append, Nat.reduceDiv, Nat.reduceMod, Nat.reduceAdd, Nat.reduceMul, Nat.reduceSub, Nat.reduceLT, Nat.reduceEqDiff, Int.reduceToNat, Int32.reduceOfInt, Int64.reduceOfInt, reduceIte, true_and, and_true, reduceCtorEq, not_false_eq_true, Nat.lt_add_one, Nat.zero_lt_succ, Nat.zero_lt_one, Option.toList_some, Option.toList_none, imp_self, forall_const, true_or, or_true, eq_self, i1_0, i0_1, im_0, u3_same, u3_g, u3_j, u3_i, false_or, or_false, not_true_eq_false, false_implies, CC_0, CC_1, CC_2, CC_3, CC_4, CC_5, CC_6, CC_7, CC_8, CC_10, CC_11, CC_12, CC_13, CC_14, CC_15, CC_16, CC_17, CC_18, CC_19, CC_20, CC_21, CC_22, CC_23, CC_24, CC_25, CC_26, CC_27, CC_30, CC_31, CC_32, CC_33, CC_34, CC_35, CC_36, CC_37, CC_38, CC_39, CC_40, CC_41, CC_42, CC_43, CC_44, CC_45, CC_46, CC_47, CC_48, CC_49, CC_50, CC_51, CC_52, CC_53, CC_54, CC_55, CC_56, CC_57, CC_58, CC_59, CC_60, PP_0_5, PP_0_6, PP_0_7, PP_1_1, PP_2_0, PP_2_1, PP_3_6, PP_4_2, PP_4_3, PP_5_0, PP_6_0, PP_6_1, PP_6_2, PP_7_0, PP_7_2, PP_7_4, PP_7_5, PP_7_8, PP_7_9, PP_7_11, PP_8_1, PP_8_3, PP_8_5, PP_8_6, PP_8_7, PP_8_8, PP_8_9, PP_8_19, PP_8_20, PP_8_21, PP_8_22, PP_8_23, PP_8_24, PP_8_25, PP_8_26, PP_8_27, PP_8_28, PP_8_29, PP_8_30, PP_8_31, PP_8_33, PP_8_34, PP_8_35, PP_8_39, PP_8_40, PP_8_41, PP_8_42, PP_8_43, PP_8_44, PP_8_51, PP_8_52, PP_2_2, PP_7_6, arN_10, arN_11, arN_12, arN_13, arN_14, arN_16, arN_17, arN_18, arN_19, arN_20, arN_21, arN_22, arN_26, arN_27, arN_30, arN_31, arN_32, arN_33, arN_34, arN_35, arN_36, arN_37, arN_38, arN_39, arN_40, arN_41, arN_42, arN_43, arN_44, arN_45, arN_46, arN_47, arN_48, arN_49, arN_50, arN_51, arN_52, arN_53, arN_54, arN_55, arN_56, arN_57, arN_58, arN_59, arN_60, arE_15, arE_23, arE_24, arE_25, nI_leI, nI_ltI, nI_eq, nI_toInt, nI_clamp, PP_15, PP_23, PP_24, PP_25, l_8, p3, tk, y0, nI_00]
        repeat' (first | with_reducible apply And.intro | with_reducible intro _)
        all_goals try omega
        refine AJ.blk bX2_parse_59 ?_
        simp (disch := omega) only [wp, p1, p2, q1, q2, r1, ri, fR, sI, sJ, sR, d1, d2, ct1, ldI, ldL, ldR, rq, noL, brc, vI, vL, vR, List.getElem?_cons_zero, List.getElem?_cons_succ, List.getElem?_nil, List.set_cons_zero, List.set_cons_succ, List.set_nil, List.length_cons, List.length_nil, List.length_set, List.cons_append, List.nil_append, Nat.reduceDiv, Nat.reduceMod, Nat.reduceAdd, Nat.reduceMul, Nat.reduceSub, Nat.reduceLT, Nat.reduceEqDiff, Int.reduceToNat, Int32.reduceOfInt, Int64.reduceOfInt, reduceIte, true_and, and_true, reduceCtorEq, not_false_eq_true, Nat.lt_add_one, Nat.zero_lt_succ, Nat.zero_lt_one, Option.toList_some, Option.toList_none, imp_self, forall_const, true_or, or_true, eq_self, i1_0, i0_1, im_0, u3_same, u3_g, u3_j, u3_i, false_or, or_false, not_true_eq_false, false_implies, CC_0, CC_1, CC_2, CC_3, CC_4, CC_5, CC_6, CC_7, CC_8, CC_10, CC_11, CC_12, CC_13, CC_14, CC_15, CC_16, CC_17, CC_18, CC_19, CC_20, CC_21, CC_22, CC_23, CC_24, CC_25, CC_26, CC_27, CC_30, CC_31, CC_32, CC_33, CC_34, CC_35, CC_36, CC_37, CC_38, CC_39, CC_40, CC_41, CC_42, CC_43, CC_44, CC_45, CC_46, CC_47, CC_48, CC_49, CC_50, CC_51, CC_52, CC_53, CC_54, CC_55, CC_56, CC_57, CC_58, CC_59, CC_60, PP_0_5, PP_0_6, PP_0_7, PP_1_1, PP_2_0, PP_2_1, PP_3_6, PP_4_2, PP_4_3, PP_5_0, PP_6_0, PP_6_1, PP_6_2, PP_7_0, PP_7_2, PP_7_4, PP_7_5, PP_7_8, PP_7_9, PP_7_11, PP_8_1, PP_8_3, PP_8_5, PP_8_6, PP_8_7, PP_8_8, PP_8_9, PP_8_19, PP_8_20, PP_8_21, PP_8_22, PP_8_23, PP_8_24, PP_8_25, PP_8_26, PP_8_27, PP_8_28, PP_8_29, PP_8_30, PP_8_31, PP_8_33, PP_8_34, PP_8_35, PP_8_39, PP_8_40, PP_8_41, PP_8_42, PP_8_43, PP_8_44, PP_8_51, PP_8_52, PP_2_2, PP_7_6, arN_10, arN_11, arN_12, arN_13, arN_14, arN_16, arN_17, arN_18, arN_19, arN_20, arN_21, arN_22, arN_26, arN_27, arN_30, arN_31, arN_32, arN_33, arN_34, arN_35, arN_36, arN_37, arN_38, arN_39, arN_40, arN_41, arN_42, arN_43, arN_44, arN_45, arN_46, arN_47, arN_48, arN_49, arN_50, arN_51, arN_52, arN_53, arN_54, arN_55, arN_56, arN_57, arN_58, arN_59, arN_60, arE_15, arE_23, arE_24, arE_25, nI_leI, nI_ltI, nI_eq, nI_toInt, nI_clamp, PP_15, PP_23, PP_24, PP_25]
        exact qN.mk ⟨rfl, rfl, rfl, hF, hP, fun a ha => by obtain rfl := Sum.inl.inj ha; exact ⟨h4, fun k hk => (hD k hk).1⟩⟩
      rw [if_neg q] at hR
      have y0 : ¬ cK (K (ρ 0 0)) = 0 := fun y => q (c0.mp y)
      refine AJ.blk bX2_parse_30 ?_
      simp (disch := omega) only [wp, p1, p2, q1, q2, r1, ri, fR, sI, sJ, sR, d1, d2, ct1, ldI, ldL, ldR, rq, noL, brc, vI, vL, vR, List.getElem?_cons_zero, List.getElem?_cons_succ, List.getElem?_nil, List.set_cons_zero, List.set_cons_succ, List.set_nil, List.length_cons, List.length_nil, List.length_set, List.cons_append, List.nil_append, Nat.reduceDiv, Nat.reduceMod, Nat.reduceAdd, Nat.reduceMul, Nat.reduceSub, Nat.reduceLT, Nat.reduceEqDiff, Int.reduceToNat, Int32.reduceOfInt, Int64.reduceOfInt, reduceIte, true_and, and_true, reduceCtorEq, not_false_eq_true, Nat.lt_add_one, Nat.zero_lt_succ, Nat.zero_lt_one, Option.toList_some, Option.toList_none, imp_self, forall_const, true_or, or_true, eq_self, i1_0, i0_1, im_0, u3_same, u3_g, u3_j, u3_i, false_or, or_false, not_true_eq_false, false_implies, CC_0, CC_1, CC_2, CC_3, CC_4, CC_5, CC_6, CC_7, CC_8, CC_10, CC_11, CC_12, CC_13, CC_14, CC_15, CC_16, CC_17, CC_18, CC_19, CC_20, CC_21, CC_22, CC_23, CC_24, CC_25, CC_26, CC_27, CC_30, CC_31, CC_32, CC_33, CC_34, CC_35, CC_36, CC_37, CC_38, CC_39, CC_40, CC_41, CC_42, CC_43, CC_44, CC_45, CC_46, CC_47, CC_48, CC_49, CC_50, CC_51, CC_52, CC_53, CC_54, CC_55, CC_56, CC_57, CC_58, CC_59, CC_60, PP_0_5, PP_0_6, PP_0_7, PP_1_1, PP_2_0, PP_2_1, PP_3_6, PP_4_2, PP_4_3, PP_5_0, PP_6_0, PP_6_1, PP_6_2, PP_7_0, PP_7_2, PP_7_4, PP_7_5, PP_7_8, PP_7_9, PP_7_11, PP_8_1, PP_8_3, PP_8_5, PP_8_6, PP_8_7, PP_8_8, PP_8_9, PP_8_19, PP_8_20, PP_8_21, PP_8_22, PP_8_23, PP_8_24, PP_8_25, PP_8_26, PP_8_27, PP_8_28, PP_8_29, PP_8_30, PP_8_31, PP_8_33, PP_8_34, PP_8_35, PP_8_39, PP_8_40, PP_8_41, PP_8_42, PP_8_43, PP_8_44, PP_8_51, PP_8_52, PP_2_2, PP_7_6, arN_10, arN_11, arN_12, arN_13, arN_14, arN_16, arN_17, arN_18, arN_19, arN_20, arN_21, arN_22, arN_26, arN_27, arN_30, arN_31, arN_32, arN_33, arN_34, arN_35, arN_36, arN_37, arN_38, arN_39, arN_40, arN_41, arN_42, arN_43, arN_44, arN_45, arN_46, arN_47, arN_48, arN_49, arN_50, arN_51, arN_52, arN_53, arN_54, arN_55, arN_56, arN_57, arN_58, arN_59, arN_60, arE_15, arE_23, arE_24, arE_25, nI_leI, nI_ltI, nI_eq, nI_toInt, nI_clamp, PP_15, PP_23, PP_24, PP_25, l_8, p3, tk, nI_is0, y0]
      repeat' (first | with_reducible apply And.intro | with_reducible intro _)
      all_goals try omega
      refine AJ.cV sX2_parse_53 (x2_deed hsw w wg hB (k := ρ 0 3) rfl h8 hP hi0 hC) rfl rfl ⟨rfl, Nat.le_of_ble_eq_true rfl, Nat.le_of_ble_eq_true rfl, Nat.le_of_ble_eq_true rfl⟩ (Nat.le_of_ble_eq_true rfl) (Nat.le_of_ble_eq_true rfl) ?_
      rintro _ I3 _ _ ⟨rfl, rfl, rfl, s3, g3, d3⟩
      simp only [Option.toList_some, Option.toList_none, List.cons_append, List.nil_append, Nat.reduceAdd]
      cases e3 : pDeed K S V σ ρ with
      | inr e =>
        rw [e3] at g3 hR
        rw [bnd_r] at hR
        subst hR
        refine AJ.blk bX2_parse_56 ?_
        simp (disch := omega) only [wp, p1, p2, q1, q2, r1, ri, fR, sI, sJ, sR, d1, d2, ct1, ldI, ldL, ldR, rq, noL, brc, vI, vL, vR, List.getElem?_cons_zero, List.getElem?_cons_succ, List.getElem?_nil, List.set_cons_zero, List.set_cons_succ, List.set_nil, List.length_cons, List.length_nil, List.length_set, List.cons_append, List.nil_append, Nat.reduceDiv, Nat.reduceMod, Nat.reduceAdd, Nat.reduceMul, Nat.reduceSub, Nat.reduceLT, Nat.reduceEqDiff, Int.reduceToNat, Int32.reduceOfInt, Int64.reduceOfInt, reduceIte, true_and, and_true, reduceCtorEq, not_false_eq_true, Nat.lt_add_one, Nat.zero_lt_succ, Nat.zero_lt_one, Option.toList_some, Option.toList_none, imp_self, forall_const, true_or, or_true, eq_self, i1_0, i0_1, im_0, u3_same, u3_g, u3_j, u3_i, false_or, or_false, not_true_eq_false, false_implies, CC_0, CC_1, CC_2, CC_3, CC_4, CC_5, CC_6, CC_7, CC_8, CC_10, CC_11, CC_12, CC_13, CC_14, CC_15, CC_16, CC_17, CC_18, CC_19, CC_20, CC_21, CC_22, CC_23, CC_24, CC_25, CC_26, CC_27, CC_30, CC_31, CC_32, CC_33, CC_34, CC_35, CC_36, CC_37, CC_38, CC_39, CC_40, CC_41, CC_42, CC_43, CC_44, CC_45, CC_46, CC_47, CC_48, CC_49, CC_50, CC_51, CC_52, CC_53, CC_54, CC_55, CC_56, CC_57, CC_58, CC_59, CC_60, PP_0_5, PP_0_6, PP_0_7, PP_1_1, PP_2_0, PP_2_1, PP_3_6, PP_4_2, PP_4_3, PP_5_0, PP_6_0, PP_6_1, PP_6_2, PP_7_0, PP_7_2, PP_7_4, PP_7_5, PP_7_8, PP_7_9, PP_7_11, PP_8_1, PP_8_3, PP_8_5, PP_8_6, PP_8_7, PP_8_8, PP_8_9, PP_8_19, PP_8_20, PP_8_21, PP_8_22, PP_8_23, PP_8_24, PP_8_25, PP_8_26, PP_8_27, PP_8_28, PP_8_29, PP_8_30, PP_8_31, PP_8_33, PP_8_34, PP_8_35, PP_8_39, PP_8_40, PP_8_41, PP_8_42, PP_8_43, PP_8_44, PP_8_51, PP_8_52, PP_2_2, PP_7_6, arN_10, arN_11, arN_12, arN_13, arN_14, arN_16, arN_17, arN_18, arN_19, arN_20, arN_21, arN_22, arN_26, arN_27, arN_30, arN_31, arN_32, arN_33, arN_34, arN_35, arN_36, arN_37, arN_38, arN_39, arN_40, arN_41, arN_42, arN_43, arN_44, arN_45, arN_46, arN_47, arN_48, arN_49, arN_50, arN_51, arN_52, arN_53, arN_54, arN_55, arN_56, arN_57, arN_58, arN_59, arN_60, arE_15, arE_23, arE_24, arE_25, nI_leI, nI_ltI, nI_eq, nI_toInt, nI_clamp, PP_15, PP_23, PP_24, PP_25, isL, bI_f]
        refine AJ.blk bX2_parse_59 ?_
        simp (disch := omega) only [wp, p1, p2, q1, q2, r1, ri, fR, sI, sJ, sR, d1, d2, ct1, ldI, ldL, ldR, rq, noL, brc, vI, vL, vR, List.getElem?_cons_zero, List.getElem?_cons_succ, List.getElem?_nil, List.set_cons_zero, List.set_cons_succ, List.set_nil, List.length_cons, List.length_nil, List.length_set, List.cons_append, List.nil_append, Nat.reduceDiv, Nat.reduceMod, Nat.reduceAdd, Nat.reduceMul, Nat.reduceSub, Nat.reduceLT, Nat.reduceEqDiff, Int.reduceToNat, Int32.reduceOfInt, Int64.reduceOfInt, reduceIte, true_and, and_true, reduceCtorEq, not_false_eq_true, Nat.lt_add_one, Nat.zero_lt_succ, Nat.zero_lt_one, Option.toList_some, Option.toList_none, imp_self, forall_const, true_or, or_true, eq_self, i1_0, i0_1, im_0, u3_same, u3_g, u3_j, u3_i, false_or, or_false, not_true_eq_false, false_implies, CC_0, CC_1, CC_2, CC_3, CC_4, CC_5, CC_6, CC_7, CC_8, CC_10, CC_11, CC_12, CC_13, CC_14, CC_15, CC_16, CC_17, CC_18, CC_19, CC_20, CC_21, CC_22, CC_23, CC_24, CC_25, CC_26, CC_27, CC_30, CC_31, CC_32, CC_33, CC_34, CC_35, CC_36, CC_37, CC_38, CC_39, CC_40, CC_41, CC_42, CC_43, CC_44, CC_45, CC_46, CC_47, CC_48, CC_49, CC_50, CC_51, CC_52, CC_53, CC_54, CC_55, CC_56, CC_57, CC_58, CC_59, CC_60, PP_0_5, PP_0_6, PP_0_7, PP_1_1, PP_2_0, PP_2_1, PP_3_6, PP_4_2, PP_4_3, PP_5_0, PP_6_0, PP_6_1, PP_6_2, PP_7_0, PP_7_2, PP_7_4, PP_7_5, PP_7_8, PP_7_9, PP_7_11, PP_8_1, PP_8_3, PP_8_5, PP_8_6, PP_8_7, PP_8_8, PP_8_9, PP_8_19, PP_8_20, PP_8_21, PP_8_22, PP_8_23, PP_8_24, PP_8_25, PP_8_26, PP_8_27, PP_8_28, PP_8_29, PP_8_30, PP_8_31, PP_8_33, PP_8_34, PP_8_35, PP_8_39, PP_8_40, PP_8_41, PP_8_42, PP_8_43, PP_8_44, PP_8_51, PP_8_52, PP_2_2, PP_7_6, arN_10, arN_11, arN_12, arN_13, arN_14, arN_16, arN_17, arN_18, arN_19, arN_20, arN_21, arN_22, arN_26, arN_27, arN_30, arN_31, arN_32, arN_33, arN_34, arN_35, arN_36, arN_37, arN_38, arN_39, arN_40, arN_41, arN_42, arN_43, arN_44, arN_45, arN_46, arN_47, arN_48, arN_49, arN_50, arN_51, arN_52, arN_53, arN_54, arN_55, arN_56, arN_57, arN_58, arN_59, arN_60, arE_15, arE_23, arE_24, arE_25, nI_leI, nI_ltI, nI_eq, nI_toInt, nI_clamp, PP_15, PP_23, PP_24, PP_25]
        exact qN.mk ⟨rfl, rfl, rfl, hF.dC s3, g3, fun a ha => by cases ha⟩
      | inl a =>
        rw [e3] at g3 hR
        have g3 : PC a I3 := g3
        rw [bnd_l] at hR
        obtain ⟨dd1, -, dd3, d4, d5, -⟩ := deed_l hB hi0.1 h8 e3
        have ia := deed_ci hB hi0 e3
        have hF3 := hF.dC s3
        have h43 : I3 2 0 4 = nI (ρ 0 3) := by rw [s3 2 0 4 (by omega) (by omega)]; exact h4
        have hDk := d3 a e3
        rw [oD_e dd1] at s3 hDk
        refine AJ.blk bX2_parse_56 ?_
        simp (disch := omega) only [wp, p1, p2, q1, q2, r1, ri, fR, sI, sJ, sR, d1, d2, ct1, ldI, ldL, ldR, rq, noL, brc, vI, vL, vR, List.getElem?_cons_zero, List.getElem?_cons_succ, List.getElem?_nil, List.set_cons_zero, List.set_cons_succ, List.set_nil, List.length_cons, List.length_nil, List.length_set, List.cons_append, List.nil_append, Nat.reduceDiv, Nat.reduceMod, Nat.reduceAdd, Nat.reduceMul, Nat.reduceSub, Nat.reduceLT, Nat.reduceEqDiff, Int.reduceToNat, Int32.reduceOfInt, Int64.reduceOfInt, reduceIte, true_and, and_true, reduceCtorEq, not_false_eq_true, Nat.lt_add_one, Nat.zero_lt_succ, Nat.zero_lt_one, Option.toList_some, Option.toList_none, imp_self, forall_const, true_or, or_true, eq_self, i1_0, i0_1, im_0, u3_same, u3_g, u3_j, u3_i, false_or, or_false, not_true_eq_false, false_implies, CC_0, CC_1, CC_2, CC_3, CC_4, CC_5, CC_6, CC_7, CC_8, CC_10, CC_11, CC_12, CC_13, CC_14, CC_15, CC_16, CC_17, CC_18, CC_19, CC_20, CC_21, CC_22, CC_23, CC_24, CC_25, CC_26, CC_27, CC_30, CC_31, CC_32, CC_33, CC_34, CC_35, CC_36, CC_37, CC_38, CC_39, CC_40, CC_41, CC_42, CC_43, CC_44, CC_45, CC_46, CC_47, CC_48, CC_49, CC_50, CC_51, CC_52, CC_53, CC_54, CC_55, CC_56, CC_57, CC_58, CC_59, CC_60, PP_0_5, PP_0_6, PP_0_7, PP_1_1, PP_2_0, PP_2_1, PP_3_6, PP_4_2, PP_4_3, PP_5_0, PP_6_0, PP_6_1, PP_6_2, PP_7_0, PP_7_2, PP_7_4, PP_7_5, PP_7_8, PP_7_9, PP_7_11, PP_8_1, PP_8_3, PP_8_5, PP_8_6, PP_8_7, PP_8_8, PP_8_9, PP_8_19, PP_8_20, PP_8_21, PP_8_22, PP_8_23, PP_8_24, PP_8_25, PP_8_26, PP_8_27, PP_8_28, PP_8_29, PP_8_30, PP_8_31, PP_8_33, PP_8_34, PP_8_35, PP_8_39, PP_8_40, PP_8_41, PP_8_42, PP_8_43, PP_8_44, PP_8_51, PP_8_52, PP_2_2, PP_7_6, arN_10, arN_11, arN_12, arN_13, arN_14, arN_16, arN_17, arN_18, arN_19, arN_20, arN_21, arN_22, arN_26, arN_27, arN_30, arN_31, arN_32, arN_33, arN_34, arN_35, arN_36, arN_37, arN_38, arN_39, arN_40, arN_41, arN_42, arN_43, arN_44, arN_45, arN_46, arN_47, arN_48, arN_49, arN_50, arN_51, arN_52, arN_53, arN_54, arN_55, arN_56, arN_57, arN_58, arN_59, arN_60, arE_15, arE_23, arE_24, arE_25, nI_leI, nI_ltI, nI_eq, nI_toInt, nI_clamp, PP_15, PP_23, PP_24, PP_25, isL, bI_t]
        refine AJ.blk bX2_parse_60 ?_
        simp (disch := omega) only [wp, p1, p2, q1, q2, r1, ri, fR, sI, sJ, sR, d1, d2, ct1, ldI, ldL, ldR, rq, noL, brc, vI, vL, vR, List.getElem?_cons_zero, List.getElem?_cons_succ, List.getElem?_nil, List.set_cons_zero, List.set_cons_succ, List.set_nil, List.length_cons, List.length_nil, List.length_set, List.cons_append, List.nil_append, Nat.reduceDiv, Nat.reduceMod, Nat.reduceAdd, Nat.reduceMul, Nat.reduceSub, Nat.reduceLT, Nat.reduceEqDiff, Int.reduceToNat, Int32.reduceOfInt, Int64.reduceOfInt, reduceIte, true_and, and_true, reduceCtorEq, not_false_eq_true, Nat.lt_add_one, Nat.zero_lt_succ, Nat.zero_lt_one, Option.toList_some, Option.toList_none, imp_self, forall_const, true_or, or_true, eq_self, i1_0, i0_1, im_0, u3_same, u3_g, u3_j, u3_i, false_or, or_false, not_true_eq_false, false_implies, CC_0, CC_1, CC_2, CC_3, CC_4, CC_5, CC_6, CC_7, CC_8, CC_10, CC_11, CC_12, CC_13, CC_14, CC_15, CC_16, CC_17, CC_18, CC_19, CC_20, CC_21, CC_22, CC_23, CC_24, CC_25, CC_26, CC_27, CC_30, CC_31, CC_32, CC_33, CC_34, CC_35, CC_36, CC_37, CC_38, CC_39, CC_40, CC_41, CC_42, CC_43, CC_44, CC_45, CC_46, CC_47, CC_48, CC_49, CC_50, CC_51, CC_52, CC_53, CC_54, CC_55, CC_56, CC_57, CC_58, CC_59, CC_60, PP_0_5, PP_0_6, PP_0_7, PP_1_1, PP_2_0, PP_2_1, PP_3_6, PP_4_2, PP_4_3, PP_5_0, PP_6_0, PP_6_1, PP_6_2, PP_7_0, PP_7_2, PP_7_4, PP_7_5, PP_7_8, PP_7_9, PP_7_11, PP_8_1, PP_8_3, PP_8_5, PP_8_6, PP_8_7, PP_8_8, PP_8_9, PP_8_19, PP_8_20, PP_8_21, PP_8_22, PP_8_23, PP_8_24, PP_8_25, PP_8_26, PP_8_27, PP_8_28, PP_8_29, PP_8_30, PP_8_31, PP_8_33, PP_8_34, PP_8_35, PP_8_39, PP_8_40, PP_8_41, PP_8_42, PP_8_43, PP_8_44, PP_8_51, PP_8_52, PP_2_2, PP_7_6, arN_10, arN_11, arN_12, arN_13, arN_14, arN_16, arN_17, arN_18, arN_19, arN_20, arN_21, arN_22, arN_26, arN_27, arN_30, arN_31, arN_32, arN_33, arN_34, arN_35, arN_36, arN_37, arN_38, arN_39, arN_40, arN_41, arN_42, arN_43, arN_44, arN_45, arN_46, arN_47, arN_48, arN_49, arN_50, arN_51, arN_52, arN_53, arN_54, arN_55, arN_56, arN_57, arN_58, arN_59, arN_60, arE_15, arE_23, arE_24, arE_25, nI_leI, nI_ltI, nI_eq, nI_toInt, nI_clamp, PP_15, PP_23, PP_24, PP_25, h43, nI_1]
        rw [← d4]
        refine ih a _ R (by omega) (by omega) hR hF3.put4 ((hC.dC s3).of (fun g j y => u3_g (by omega))) ?_ ia (u3_same _ _ _ _ _) (fun k hk => ?_)
        · exact ⟨by rw [u3_j (by decide)]; exact g3.1, by rw [u3_j (by decide)]; exact g3.2.1, by rw [u3_j (by decide)]; exact g3.2.2⟩
        · have eU : ∀ g i j, g = 0 ∨ (10 ≤ g ∧ g ≤ 12) → u3 I3 2 0 4 (nI (a 0 3)) g i j = I3 g i j := fun g i j y => u3_g (by omega)
          by_cases y : k = ρ 0 3
          · rw [y]
            exact ⟨hDk.cg (fun g j z => eU g _ j z), d5⟩
          · obtain ⟨u1, u2⟩ := hD k (by omega)
            have ex : ∀ g, 10 ≤ g → g ≤ 21 → ¬ (14 ≤ g ∧ g ≤ 16) → a g k = ρ g k := fun g z1 z2 z3 => by
              have := dd3.1 g k (by omega) (by omega) (by omega)
              rw [uS_g (by omega)] at this
              exact this
            refine ⟨?_, by rw [ex 13 (by decide) (by decide) (by decide)]; exact u2⟩
            refine ((u1.dC0 (o' := 8 * (1 - sw) + ρ 0 3) (by omega) s3).ce u2 ex (fun g i z1 z2 z3 => ?_)).cg (fun g j z => eU g _ j z)
            have := dd3.1 g (4 * k + i) (by omega) (by omega) (by omega)
            rw [uS_g (by omega)] at this
            exact this
  refine AJ.blk bX2_parse_8 ?_
  simp (disch := omega) only [wp, p1, p2, q1, q2, r1, ri, fR, sI, sJ, sR, d1, d2, ct1, ldI, ldL, ldR, rq, noL, brc, vI, vL, vR, List.getElem?_cons_zero, List.getElem?_cons_succ, List.getElem?_nil, List.set_cons_zero, List.set_cons_succ, List.set_nil, List.length_cons, List.length_nil, List.length_set, List.cons_append, List.nil_append, Nat.reduceDiv, Nat.reduceMod, Nat.reduceAdd, Nat.reduceMul, Nat.reduceSub, Nat.reduceLT, Nat.reduceEqDiff, Int.reduceToNat, Int32.reduceOfInt, Int64.reduceOfInt, reduceIte, true_and, and_true, reduceCtorEq, not_false_eq_true, Nat.lt_add_one, Nat.zero_lt_succ, Nat.zero_lt_one, Option.toList_some, Option.toList_none, imp_self, forall_const, true_or, or_true, eq_self, i1_0, i0_1, im_0, u3_same, u3_g, u3_j, u3_i, false_or, or_false, not_true_eq_false, false_implies, CC_0, CC_1, CC_2, CC_3, CC_4, CC_5, CC_6, CC_7, CC_8, CC_10, CC_11, CC_12, CC_13, CC_14, CC_15, CC_16, CC_17, CC_18, CC_19, CC_20, CC_21, CC_22, CC_23, CC_24, CC_25, CC_26, CC_27, CC_30, CC_31, CC_32, CC_33, CC_34, CC_35, CC_36, CC_37, CC_38, CC_39, CC_40, CC_41, CC_42, CC_43, CC_44, CC_45, CC_46, CC_47, CC_48, CC_49, CC_50, CC_51, CC_52, CC_53, CC_54, CC_55, CC_56, CC_57, CC_58, CC_59, CC_60, PP_0_5, PP_0_6, PP_0_7, PP_1_1, PP_2_0, PP_2_1, PP_3_6, PP_4_2, PP_4_3, PP_5_0, PP_6_0, PP_6_1, PP_6_2, PP_7_0, PP_7_2, PP_7_4, PP_7_5, PP_7_8, PP_7_9, PP_7_11, PP_8_1, PP_8_3, PP_8_5, PP_8_6, PP_8_7, PP_8_8, PP_8_9, PP_8_19, PP_8_20, PP_8_21, PP_8_22, PP_8_23, PP_8_24, PP_8_25, PP_8_26, PP_8_27, PP_8_28, PP_8_29, PP_8_30, PP_8_31, PP_8_33, PP_8_34, PP_8_35, PP_8_39, PP_8_40, PP_8_41, PP_8_42, PP_8_43, PP_8_44, PP_8_51, PP_8_52, PP_2_2, PP_7_6, arN_10, arN_11, arN_12, arN_13, arN_14, arN_16, arN_17, arN_18, arN_19, arN_20, arN_21, arN_22, arN_26, arN_27, arN_30, arN_31, arN_32, arN_33, arN_34, arN_35, arN_36, arN_37, arN_38, arN_39, arN_40, arN_41, arN_42, arN_43, arN_44, arN_45, arN_46, arN_47, arN_48, arN_49, arN_50, arN_51, arN_52, arN_53, arN_54, arN_55, arN_56, arN_57, arN_58, arN_59, arN_60, arE_15, arE_23, arE_24, arE_25, nI_leI, nI_ltI, nI_eq, nI_toInt, nI_clamp, PP_15, PP_23, PP_24, PP_25]
  generalize hI4 : u3 (u3 (u3 (u3 I2 2 0 3 0) 2 0 5 0) 2 0 6 (-1)) 2 0 4 0 = I4
  have f4 : ∀ g i j, ¬ g = 2 → I4 g i j = I2 g i j := fun g i j y => by
    subst hI4
    rw [u3_g y, u3_g y, u3_g y, u3_g y]
  have F4 : pF2 sw I I4 := fun g i j q1 q2 q3 => by
    subst hI4
    rw [u3_ne _ _ (fun z => q1 ⟨z.1, by omega, by omega⟩), u3_ne _ _ (fun z => q1 ⟨z.1, by omega, by omega⟩), u3_ne _ _ (fun z => q1 ⟨z.1, by omega, by omega⟩), u3_ne _ _ (fun z => q1 ⟨z.1, by omega, by omega⟩)]
    exact s2 g i j q2
  have C4 : CY K S V σ I4 := ⟨fun t ht hG => by rw [f4 20 0 t (by decide), f4 21 0 t (by decide), f4 22 0 t (by decide)]; exact k2 t ht hG, fun x hx => by rw [f4 14 0 x (by decide), s2 14 0 x (by omega)]; exact hw x hx⟩
  have P4 : PC (fun _ _ => 0) I4 := by
    subst hI4
    refine ⟨by simp [u3_j, u3_same]; rfl, by simp [u3_j, u3_same]; rfl, by simp [u3_j, u3_same]⟩
  exact lp 9 (fun _ _ => 0) I4 _ rfl (by omega) rfl F4 C4 P4 ⟨pi_0, fun s hs => absurd hs (Nat.not_lt_zero _)⟩ (by subst hI4; rw [u3_same]; rfl) (fun k hk => absurd hk (Nat.not_lt_zero _))
end CQ1
