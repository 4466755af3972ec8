/-! a fault's number -/
section RD3
variable {σ : St} {τ : Nat → Int32} {I : hI} {J : hJ} {sw : Nat}
/-- where a fault's place comes from -/
theorem next_e2 {S : Nat → Nat} {ρ : St} {e : Nat × Nat} (h : pNext S ρ = .inr e) : e.1 = 1 ∨ e.1 = 2 := by
  unfold pNext at h
  split at h
  · obtain rfl := Sum.inr.inj h; exact Or.inr rfl
  · cases h
theorem must_e2 {K S : Nat → Nat} {k : Nat} {ρ : St} {e : Nat × Nat} (h : pMust K S k ρ = .inr e) : e.1 = 1 ∨ e.1 = 2 := by
  unfold pMust at h
  split at h
  · exact next_e2 h
  · obtain rfl := Sum.inr.inj h; first | exact Or.inl rfl | exact Or.inr rfl
section E2
variable {K S V : Nat → Nat}
theorem cond_e2 {k : Nat} {ρ : St} {e : Nat × Nat} (h : pCond K S V σ k ρ = .inr e) : e.1 = 1 ∨ e.1 = 2 := by
  unfold pCond at h
  rcases bnd_e h with q | ⟨a, -, h⟩
  · exact must_e2 q
  split at h
  · rcases bnd_e h with q | ⟨b, -, h⟩
    · exact next_e2 q
    rcases bnd_e h with q | ⟨c, -, h⟩
    · exact must_e2 q
    cases h
  · obtain rfl := Sum.inr.inj h; first | exact Or.inl rfl | exact Or.inr rfl
theorem ands_e2 {k : Nat} {e : Nat × Nat} : ∀ (f : Nat) (ρ : St), pAnds K S V σ k f ρ = .inr e → e.1 = 1 ∨ e.1 = 2 := by
  intro f
  induction f with
  | zero => intro ρ h; cases h
  | succ f ih =>
    intro ρ h
    unfold pAnds at h
    split at h
    · rcases bnd_e h with q | ⟨a, -, h⟩
      · exact next_e2 q
      split at h
      · obtain rfl := Sum.inr.inj h; first | exact Or.inl rfl | exact Or.inr rfl
      · rcases bnd_e h with q | ⟨b, -, h⟩
        · exact cond_e2 q
        · exact ih b h
    · cases h
theorem ask_e2 {k : Nat} {ρ : St} {e : Nat × Nat} (h : pAsk K S V σ k ρ = .inr e) : e.1 = 1 ∨ e.1 = 2 := by
  unfold pAsk at h
  rcases bnd_e h with q | ⟨a, -, h⟩
  · unfold pConds at q
    split at q
    · rcases bnd_e q with q | ⟨a, -, q⟩
      · exact next_e2 q
      rcases bnd_e q with q | ⟨b, -, q⟩
      · exact cond_e2 q
      · exact ands_e2 4 b q
    · cases q
  rcases bnd_e h with q | ⟨b, -, h⟩
  · unfold pJoin at q
    split at q
    · rcases bnd_e q with q | ⟨a, -, q⟩
      · exact next_e2 q
      rcases bnd_e q with q | ⟨a, -, q⟩
      · exact must_e2 q
      rcases bnd_e q with q | ⟨a, -, q⟩
      · exact must_e2 q
      rcases bnd_e q with q | ⟨a, -, q⟩
      · exact must_e2 q
      rcases bnd_e q with q | ⟨a, -, q⟩
      · exact must_e2 q
      rcases bnd_e q with q | ⟨a, -, q⟩
      · exact must_e2 q
      cases q
    · cases q
  unfold pOrd at h
  split at h
  · rcases bnd_e h with q | ⟨a, -, h⟩
    · exact next_e2 q
    rcases bnd_e h with q | ⟨a, -, h⟩
    · exact must_e2 q
    cases h
  · cases h
theorem deed_e2 {ρ : St} {e : Nat × Nat} (h : pDeed K S V σ ρ = .inr e) : e.1 = 1 ∨ e.1 = 2 := by
  unfold pDeed at h
  split at h
  · split at h
    · obtain rfl := Sum.inr.inj h; first | exact Or.inl rfl | exact Or.inr rfl
    rcases bnd_e h with q | ⟨a, -, h⟩
    · exact next_e2 q
    rcases bnd_e h with q | ⟨b, -, h⟩
    · unfold pShare at q
      rcases bnd_e q with q | ⟨a, -, q⟩
      · exact must_e2 q
      rcases bnd_e q with q | ⟨a, -, q⟩
      · exact must_e2 q
      cases q
    rcases bnd_e h with q | ⟨b, -, h⟩
    · exact must_e2 q
    rcases bnd_e h with q | ⟨b, -, h⟩
    · unfold pTab at q
      rcases bnd_e q with q | ⟨a, -, q⟩
      · exact must_e2 q
      cases q
    rcases bnd_e h with q | ⟨b, -, h⟩
    · split at q
      · unfold pWrt at q
        rcases bnd_e q with q | ⟨a, -, q⟩
        · exact must_e2 q
        rcases bnd_e q with q | ⟨a, -, q⟩
        · exact must_e2 q
        cases q
      · exact ask_e2 q
    rcases bnd_e h with q | ⟨b, -, h⟩
    · exact must_e2 q
    cases h
  · obtain rfl := Sum.inr.inj h; first | exact Or.inl rfl | exact Or.inr rfl
theorem loop_e2 : ∀ (f : Nat) (ρ : St) (e : Nat × Nat), pLoop K S V σ f ρ = .inr e → e.1 = 1 ∨ e.1 = 2 := by
  intro f
  induction f with
  | zero => intro ρ e h; cases h
  | succ f ih =>
    intro ρ e h
    unfold pLoop at h
    split at h
    · cases h
    · rcases bnd_e h with q | ⟨a, -, h⟩
      · exact deed_e2 q
      · exact ih a e h
end E2
theorem CR.p2 {I1 : hI} (h : CR σ τ sw I) (w : WF σ) (s : pF2 sw I I1) : CR σ τ sw I1 := by
  have hsw := h.sw1
  have h5 : σ 0 5 ≤ 8 := w.1.2.2.2.2.2.1
  have e : ∀ g i j, ¬ g = 2 → ¬ (20 ≤ g ∧ g ≤ 22) → ¬ (g = 0 ∨ (10 ≤ g ∧ g ≤ 12)) → I1 g i j = I g i j := fun g i j a b c => s g i j (by omega) b (by omega)
  refine ⟨⟨hsw, by rw [e 5 0 1 (by decide) (by decide) (by decide)]; exact h.len, fun j hj => by rw [e 19 0 j (by decide) (by decide) (by decide)]; exact h.tape hj⟩, ⟨?_, ?_, ?_, ?_, ?_, ?_, ?_⟩, fun x hx => (h.tab hx).cg (fun g j z => e g x j (by omega) (by omega) (by omega)), fun x hx => by rw [e 14 0 x (by decide) (by decide) (by decide)]; exact h.wid hx, fun m hm => (h.mv hm).cg (fun g j z => e g m j (by omega) (by omega) (by omega)), fun k hk => (h.deed hk).cg (fun g j z => s g _ j (by omega) (by omega) (by omega)), fun k hk => (h.plan hk).cg (fun g j z => e g k j (by omega) (by omega) (by omega)), fun i hi => by rw [e 26 0 i (by decide) (by decide) (by decide)]; exact h.ply hi⟩
  · rw [e 7 0 1 (by decide) (by decide) (by decide)]; exact h.tabs
  · rw [e 7 0 12 (by decide) (by decide) (by decide)]; exact h.own
  · rw [e 7 0 13 (by decide) (by decide) (by decide)]; exact h.purse
  · rw [e 7 0 3 (by decide) (by decide) (by decide)]; exact h.mvs
  · rw [e 7 0 7 (by decide) (by decide) (by decide)]; exact h.dds
  · rw [e 7 0 10 (by decide) (by decide) (by decide)]; exact h.pls
  · rw [e 7 0 14 (by decide) (by decide) (by decide)]; exact h.plc
theorem pF2.gf {I1 : hI} (h : pF2 sw I I1) : gF I I1 := fun g i j q => h g i j (by omega) (by omega) (by omega)
theorem CR.er (h : CR σ τ sw I) (w : WF σ) (p : Nat) : CR (rdE σ p) τ sw (u3 (u3 I 5 0 1 0) 7 0 14 (nI p)) := by
  refine h.upd w (fun g a b => funext fun j => by unfold rdE; rw [uS_g (by omega), uS_g (by omega)]) (funext fun j => by unfold rdE; rw [uS_g (by decide), uS_g (by decide)]) rfl rfl (fun g i j a b _ _ => by rw [u3_g b, u3_g a]) ?_ (fun j hj => by rw [u3_g (by decide), u3_g (by decide)]; exact h.tape hj) ?_ (fun i hi => ?_)
  · rw [u3_g (by decide), u3_same]; rfl
  · simp [u3_g, u3_j, u3_same, rdE, uS, h.tabs, h.own, h.purse, h.mvs, h.dds, h.pls, oI_s]
  · unfold rdE
    rw [u3_g (by decide), u3_g (by decide), uS_g (by decide), uS_g (by decide)]; exact h.ply hi
def rdW (σ : St) (τ : Nat → Int32) (r : PR) (I : hI) (J : hJ) : FT := fun v1 I1 J1 P1 => some (vI (rdQ r)) = v1 ∧ J = J1 ∧ gF I I1 ∧ ∃ sw', P1 = PP sw' ∧ CR (rdO σ r) τ sw' I1
theorem bX7_read_11s : Blk cX7_read 7 (some .int) false 11 [(.aload 0, 1), (.getstatic 452, 3), (.iconst 0, 1), (.putfield 321, 3)] = true := by decide +kernel
theorem bX7_read_19s : Blk cX7_read 7 (some .int) false 19 [(.aload 0, 1), (.aload 0, 1), (.getstatic 453, 3), (.getfield 134, 3), (.putfield 462, 3)] = true := by decide +kernel
theorem bX7_read_30s : Blk cX7_read 7 (some .int) false 30 [(.aload 0, 1), (.getstatic 453, 3), (.getfield 133, 3), (.ifCond .ne 70, 3)] = true := by decide +kernel
theorem bX7_read_40s : Blk cX7_read 7 (some .int) false 40 [(.aload 0, 1), (.aload 0, 1), (.getstatic 453, 3), (.aload 0, 1), (.getstatic 454, 3)] = true := by decide +kernel
theorem x2_swap {sw : Nat} {I : hI} {J : hJ} : kX2_swapDrafts [vR 2 0, vR 15 sw] I J (PP sw) (eq4 (some (vR 15 (1 - sw))) I J (u3 (PP sw) 2 0 2 (some (15, sw)))) := by
  refine eX2_swapDrafts (ls := [some (vR 2 0), some (vR 15 sw), none]) rfl (Nat.le_of_ble_eq_true rfl) ?_
  refine AJ.blk bX2_swapDrafts_0 ?_
  simp (disch := omega) only [wp, p1, p2, q1, q2, r1, ri, fR, sI, sJ, sR, d1, d2, ct1, ldI, ldL, ldR, rq, noL, brc, vI, vL, vR, List.getElem?_cons_zero, List.getElem?_cons_succ, List.getElem?_nil, List.set_cons_zero, List.set_cons_succ, List.set_nil, List.length_cons, List.length_nil, List.length_set, List.cons_append, List.nil_append, Nat.reduceDiv, Nat.reduceMod, Nat.reduceAdd, Nat.reduceMul, Nat.reduceSub, Nat.reduceLT, Nat.reduceEqDiff, Int.reduceToNat, Int32.reduceOfInt, Int64.reduceOfInt, reduceIte, true_and, and_true, reduceCtorEq, not_false_eq_true, Nat.lt_add_one, Nat.zero_lt_succ, Nat.zero_lt_one, Option.toList_some, Option.toList_none, imp_self, forall_const, true_or, or_true, eq_self, i1_0, i0_1, im_0, u3_same, u3_g, u3_j, u3_i, false_or, or_false, not_true_eq_false, false_implies, CC_0, CC_1, CC_2, CC_3, CC_4, CC_5, CC_6, CC_7, CC_8, CC_10, CC_11, CC_12, CC_13, CC_14, CC_15, CC_16, CC_17, CC_18, CC_19, CC_20, CC_21, CC_22, CC_23, CC_24, CC_25, CC_26, CC_27, CC_30, CC_31, CC_32, CC_33, CC_34, CC_35, CC_36, CC_37, CC_38, CC_39, CC_40, CC_41, CC_42, CC_43, CC_44, CC_45, CC_46, CC_47, CC_48, CC_49, CC_50, CC_51, CC_52, CC_53, CC_54, CC_55, CC_56, CC_57, CC_58, CC_59, CC_60, PP_0_5, PP_0_6, PP_0_7, PP_1_1, PP_2_0, PP_2_1, PP_3_6, PP_4_2, PP_4_3, PP_5_0, PP_6_0, PP_6_1, PP_6_2, PP_7_0, PP_7_2, PP_7_4, PP_7_5, PP_7_8, PP_7_9, PP_7_11, PP_8_1, PP_8_3, PP_8_5, PP_8_6, PP_8_7, PP_8_8, PP_8_9, PP_8_19, PP_8_20, PP_8_21, PP_8_22, PP_8_23, PP_8_24, PP_8_25, PP_8_26, PP_8_27, PP_8_28, PP_8_29, PP_8_30, PP_8_31, PP_8_33, PP_8_34, PP_8_35, PP_8_39, PP_8_40, PP_8_41, PP_8_42, PP_8_43, PP_8_44, PP_8_51, PP_8_52, PP_2_2, PP_7_6, arN_10, arN_11, arN_12, arN_13, arN_14, arN_16, arN_17, arN_18, arN_19, arN_20, arN_21, arN_22, arN_26, arN_27, arN_30, arN_31, arN_32, arN_33, arN_34, arN_35, arN_36, arN_37, arN_38, arN_39, arN_40, arN_41, arN_42, arN_43, arN_44, arN_45, arN_46, arN_47, arN_48, arN_49, arN_50, arN_51, arN_52, arN_53, arN_54, arN_55, arN_56, arN_57, arN_58, arN_59, arN_60, arE_15, arE_23, arE_24, arE_25, nI_leI, nI_ltI, nI_eq, nI_toInt, nI_clamp, PP_15, PP_23, PP_24, PP_25]
  exact qN.mk eq4.rfl
theorem PP_oth {sw g i j : Nat} (h7 : ¬ g = 7) (h2 : ¬ g = 2) : PP (1 - sw) g i j = PP sw g i j := by
  unfold PP
  split
  all_goals first | rfl | (exfalso; omega)
theorem d7_read (h : CR σ τ sw I) (w : WF σ) (wg : WG σ) (hb : ∀ j, j < 2000 → vp_nar .byte (τ j) = τ j) : kX7_read [vR 7 0] I J (PP sw) (rdW σ τ (rdP σ τ) I J) := by
  refine eX7_read (ls := [some (vR 7 0)]) rfl (Nat.le_of_ble_eq_true rfl) ?_
  have hsw := h.sw1
  have hn := w.1.1
  have hB := rd_kb (τ := τ) w
  refine AJ.blk bX7_read_0 ?_
  simp (disch := omega) only [wp, p1, p2, q1, q2, r1, ri, fR, sI, sJ, sR, d1, d2, ct1, ldI, ldL, ldR, rq, noL, brc, vI, vL, vR, List.getElem?_cons_zero, List.getElem?_cons_succ, List.getElem?_nil, List.set_cons_zero, List.set_cons_succ, List.set_nil, List.length_cons, List.length_nil, List.length_set, List.cons_append, List.nil_append, Nat.reduceDiv, Nat.reduceMod, Nat.reduceAdd, Nat.reduceMul, Nat.reduceSub, Nat.reduceLT, Nat.reduceEqDiff, Int.reduceToNat, Int32.reduceOfInt, Int64.reduceOfInt, reduceIte, true_and, and_true, reduceCtorEq, not_false_eq_true, Nat.lt_add_one, Nat.zero_lt_succ, Nat.zero_lt_one, Option.toList_some, Option.toList_none, imp_self, forall_const, true_or, or_true, eq_self, i1_0, i0_1, im_0, u3_same, u3_g, u3_j, u3_i, false_or, or_false, not_true_eq_false, false_implies, CC_0, CC_1, CC_2, CC_3, CC_4, CC_5, CC_6, CC_7, CC_8, CC_10, CC_11, CC_12, CC_13, CC_14, CC_15, CC_16, CC_17, CC_18, CC_19, CC_20, CC_21, CC_22, CC_23, CC_24, CC_25, CC_26, CC_27, CC_30, CC_31, CC_32, CC_33, CC_34, CC_35, CC_36, CC_37, CC_38, CC_39, CC_40, CC_41, CC_42, CC_43, CC_44, CC_45, CC_46, CC_47, CC_48, CC_49, CC_50, CC_51, CC_52, CC_53, CC_54, CC_55, CC_56, CC_57, CC_58, CC_59, CC_60, PP_0_5, PP_0_6, PP_0_7, PP_1_1, PP_2_0, PP_2_1, PP_3_6, PP_4_2, PP_4_3, PP_5_0, PP_6_0, PP_6_1, PP_6_2, PP_7_0, PP_7_2, PP_7_4, PP_7_5, PP_7_8, PP_7_9, PP_7_11, PP_8_1, PP_8_3, PP_8_5, PP_8_6, PP_8_7, PP_8_8, PP_8_9, PP_8_19, PP_8_20, PP_8_21, PP_8_22, PP_8_23, PP_8_24, PP_8_25, PP_8_26, PP_8_27, PP_8_28, PP_8_29, PP_8_30, PP_8_31, PP_8_33, PP_8_34, PP_8_35, PP_8_39, PP_8_40, PP_8_41, PP_8_42, PP_8_43, PP_8_44, PP_8_51, PP_8_52, PP_2_2, PP_7_6, arN_10, arN_11, arN_12, arN_13, arN_14, arN_16, arN_17, arN_18, arN_19, arN_20, arN_21, arN_22, arN_26, arN_27, arN_30, arN_31, arN_32, arN_33, arN_34, arN_35, arN_36, arN_37, arN_38, arN_39, arN_40, arN_41, arN_42, arN_43, arN_44, arN_45, arN_46, arN_47, arN_48, arN_49, arN_50, arN_51, arN_52, arN_53, arN_54, arN_55, arN_56, arN_57, arN_58, arN_59, arN_60, arE_15, arE_23, arE_24, arE_25, nI_leI, nI_ltI, nI_eq, nI_toInt, nI_clamp, PP_15, PP_23, PP_24, PP_25]
  refine AJ.cV sX7_read_8 (x2_parse hsw w wg ⟨hn, h.len, fun j hj => h.tape (by omega), fun j hj => hb j (by omega)⟩ (fun x hx => h.wid hx)) rfl rfl ⟨rfl, Nat.le_of_ble_eq_true rfl, Nat.le_of_ble_eq_true rfl, Nat.le_of_ble_eq_true rfl⟩ (Nat.le_of_ble_eq_true rfl) (Nat.le_of_ble_eq_true rfl) ?_
  rintro _ I2 _ _ ⟨rfl, rfl, rfl, s2, g2, d2⟩
  simp only [Option.toList_some, Option.toList_none, List.cons_append, List.nil_append, Nat.reduceAdd]
  have h2 := h.p2 w s2
  have fail : ∀ (c p : Nat), 1 ≤ c → c ≤ 5 → rdQ (rdP σ τ) = nI c → rdO σ (rdP σ τ) = rdE σ p → I2 2 0 5 = nI c → I2 2 0 6 = nI p → jX7_read (qN CC (rdW σ τ (rdP σ τ) I J)) 11 [some (vR 7 0)] [] I2 J (PP sw) := by
    intro c p h1 hc5 eq eo e5 e6
    have nz : ¬ c = 0 := by omega
    refine AJ.blk bX7_read_11s ?_
    simp (disch := omega) only [wp, p1, p2, q1, q2, r1, ri, fR, sI, sJ, sR, d1, d2, ct1, ldI, ldL, ldR, rq, noL, brc, vI, vL, vR, List.getElem?_cons_zero, List.getElem?_cons_succ, List.getElem?_nil, List.set_cons_zero, List.set_cons_succ, List.set_nil, List.length_cons, List.length_nil, List.length_set, List.cons_append, List.nil_append, Nat.reduceDiv, Nat.reduceMod, Nat.reduceAdd, Nat.reduceMul, Nat.reduceSub, Nat.reduceLT, Nat.reduceEqDiff, Int.reduceToNat, Int32.reduceOfInt, Int64.reduceOfInt, reduceIte, true_and, and_true, reduceCtorEq, not_false_eq_true, Nat.lt_add_one, Nat.zero_lt_succ, Nat.zero_lt_one, Option.toList_some, Option.toList_none, imp_self, forall_const, true_or, or_true, eq_self, i1_0, i0_1, im_0, u3_same, u3_g, u3_j, u3_i, false_or, or_false, not_true_eq_false, false_implies, CC_0, CC_1, CC_2, CC_3, CC_4, CC_5, CC_6, CC_7, CC_8, CC_10, CC_11, CC_12, CC_13, CC_14, CC_15, CC_16, CC_17, CC_18, CC_19, CC_20, CC_21, CC_22, CC_23, CC_24, CC_25, CC_26, CC_27, CC_30, CC_31, CC_32, CC_33, CC_34, CC_35, CC_36, CC_37, CC_38, CC_39, CC_40, CC_41, CC_42, CC_43, CC_44, CC_45, CC_46, CC_47, CC_48, CC_49, CC_50, CC_51, CC_52, CC_53, CC_54, CC_55, CC_56, CC_57, CC_58, CC_59, CC_60, PP_0_5, PP_0_6, PP_0_7, PP_1_1, PP_2_0, PP_2_1, PP_3_6, PP_4_2, PP_4_3, PP_5_0, PP_6_0, PP_6_1, PP_6_2, PP_7_0, PP_7_2, PP_7_4, PP_7_5, PP_7_8, PP_7_9, PP_7_11, PP_8_1, PP_8_3, PP_8_5, PP_8_6, PP_8_7, PP_8_8, PP_8_9, PP_8_19, PP_8_20, PP_8_21, PP_8_22, PP_8_23, PP_8_24, PP_8_25, PP_8_26, PP_8_27, PP_8_28, PP_8_29, PP_8_30, PP_8_31, PP_8_33, PP_8_34, PP_8_35, PP_8_39, PP_8_40, PP_8_41, PP_8_42, PP_8_43, PP_8_44, PP_8_51, PP_8_52, PP_2_2, PP_7_6, arN_10, arN_11, arN_12, arN_13, arN_14, arN_16, arN_17, arN_18, arN_19, arN_20, arN_21, arN_22, arN_26, arN_27, arN_30, arN_31, arN_32, arN_33, arN_34, arN_35, arN_36, arN_37, arN_38, arN_39, arN_40, arN_41, arN_42, arN_43, arN_44, arN_45, arN_46, arN_47, arN_48, arN_49, arN_50, arN_51, arN_52, arN_53, arN_54, arN_55, arN_56, arN_57, arN_58, arN_59, arN_60, arE_15, arE_23, arE_24, arE_25, nI_leI, nI_ltI, nI_eq, nI_toInt, nI_clamp, PP_15, PP_23, PP_24, PP_25]
    refine AJ.blk bX7_read_19s ?_
    simp (disch := omega) only [wp, p1, p2, q1, q2, r1, ri, fR, sI, sJ, sR, d1, d2, ct1, ldI, ldL, ldR, rq, noL, brc, vI, vL, vR, List.getElem?_cons_zero, List.getElem?_cons_succ, List.getElem?_nil, List.set_cons_zero, List.set_cons_succ, List.set_nil, List.length_cons, List.length_nil, List.length_set, List.cons_append, List.nil_append, Nat.reduceDiv, Nat.reduceMod, Nat.reduceAdd, Nat.reduceMul, Nat.reduceSub, Nat.reduceLT, Nat.reduceEqDiff, Int.reduceToNat, Int32.reduceOfInt, Int64.reduceOfInt, reduceIte, true_and, and_true, reduceCtorEq, not_false_eq_true, Nat.lt_add_one, Nat.zero_lt_succ, Nat.zero_lt_one, Option.toList_some, Option.toList_none, imp_self, forall_const, true_or, or_true, eq_self, i1_0, i0_1, im_0, u3_same, u3_g, u3_j, u3_i, false_or, or_false, not_true_eq_false, false_implies, CC_0, CC_1, CC_2, CC_3, CC_4, CC_5, CC_6, CC_7, CC_8, CC_10, CC_11, CC_12, CC_13, CC_14, CC_15, CC_16, CC_17, CC_18, CC_19, CC_20, CC_21, CC_22, CC_23, CC_24, CC_25, CC_26, CC_27, CC_30, CC_31, CC_32, CC_33, CC_34, CC_35, CC_36, CC_37, CC_38, CC_39, CC_40, CC_41, CC_42, CC_43, CC_44, CC_45, CC_46, CC_47, CC_48, CC_49, CC_50, CC_51, CC_52, CC_53, CC_54, CC_55, CC_56, CC_57, CC_58, CC_59, CC_60, PP_0_5, PP_0_6, PP_0_7, PP_1_1, PP_2_0, PP_2_1, PP_3_6, PP_4_2, PP_4_3, PP_5_0, PP_6_0, PP_6_1, PP_6_2, PP_7_0, PP_7_2, PP_7_4, PP_7_5, PP_7_8, PP_7_9, PP_7_11, PP_8_1, PP_8_3, PP_8_5, PP_8_6, PP_8_7, PP_8_8, PP_8_9, PP_8_19, PP_8_20, PP_8_21, PP_8_22, PP_8_23, PP_8_24, PP_8_25, PP_8_26, PP_8_27, PP_8_28, PP_8_29, PP_8_30, PP_8_31, PP_8_33, PP_8_34, PP_8_35, PP_8_39, PP_8_40, PP_8_41, PP_8_42, PP_8_43, PP_8_44, PP_8_51, PP_8_52, PP_2_2, PP_7_6, arN_10, arN_11, arN_12, arN_13, arN_14, arN_16, arN_17, arN_18, arN_19, arN_20, arN_21, arN_22, arN_26, arN_27, arN_30, arN_31, arN_32, arN_33, arN_34, arN_35, arN_36, arN_37, arN_38, arN_39, arN_40, arN_41, arN_42, arN_43, arN_44, arN_45, arN_46, arN_47, arN_48, arN_49, arN_50, arN_51, arN_52, arN_53, arN_54, arN_55, arN_56, arN_57, arN_58, arN_59, arN_60, arE_15, arE_23, arE_24, arE_25, nI_leI, nI_ltI, nI_eq, nI_toInt, nI_clamp, PP_15, PP_23, PP_24, PP_25, e6]
    refine AJ.blk bX7_read_30s ?_
    simp (disch := omega) only [wp, p1, p2, q1, q2, r1, ri, fR, sI, sJ, sR, d1, d2, ct1, ldI, ldL, ldR, rq, noL, brc, vI, vL, vR, List.getElem?_cons_zero, List.getElem?_cons_succ, List.getElem?_nil, List.set_cons_zero, List.set_cons_succ, List.set_nil, List.length_cons, List.length_nil, List.length_set, List.cons_append, List.nil_append, Nat.reduceDiv, Nat.reduceMod, Nat.reduceAdd, Nat.reduceMul, Nat.reduceSub, Nat.reduceLT, Nat.reduceEqDiff, Int.reduceToNat, Int32.reduceOfInt, Int64.reduceOfInt, reduceIte, true_and, and_true, reduceCtorEq, not_false_eq_true, Nat.lt_add_one, Nat.zero_lt_succ, Nat.zero_lt_one, Option.toList_some, Option.toList_none, imp_self, forall_const, true_or, or_true, eq_self, i1_0, i0_1, im_0, u3_same, u3_g, u3_j, u3_i, false_or, or_false, not_true_eq_false, false_implies, CC_0, CC_1, CC_2, CC_3, CC_4, CC_5, CC_6, CC_7, CC_8, CC_10, CC_11, CC_12, CC_13, CC_14, CC_15, CC_16, CC_17, CC_18, CC_19, CC_20, CC_21, CC_22, CC_23, CC_24, CC_25, CC_26, CC_27, CC_30, CC_31, CC_32, CC_33, CC_34, CC_35, CC_36, CC_37, CC_38, CC_39, CC_40, CC_41, CC_42, CC_43, CC_44, CC_45, CC_46, CC_47, CC_48, CC_49, CC_50, CC_51, CC_52, CC_53, CC_54, CC_55, CC_56, CC_57, CC_58, CC_59, CC_60, PP_0_5, PP_0_6, PP_0_7, PP_1_1, PP_2_0, PP_2_1, PP_3_6, PP_4_2, PP_4_3, PP_5_0, PP_6_0, PP_6_1, PP_6_2, PP_7_0, PP_7_2, PP_7_4, PP_7_5, PP_7_8, PP_7_9, PP_7_11, PP_8_1, PP_8_3, PP_8_5, PP_8_6, PP_8_7, PP_8_8, PP_8_9, PP_8_19, PP_8_20, PP_8_21, PP_8_22, PP_8_23, PP_8_24, PP_8_25, PP_8_26, PP_8_27, PP_8_28, PP_8_29, PP_8_30, PP_8_31, PP_8_33, PP_8_34, PP_8_35, PP_8_39, PP_8_40, PP_8_41, PP_8_42, PP_8_43, PP_8_44, PP_8_51, PP_8_52, PP_2_2, PP_7_6, arN_10, arN_11, arN_12, arN_13, arN_14, arN_16, arN_17, arN_18, arN_19, arN_20, arN_21, arN_22, arN_26, arN_27, arN_30, arN_31, arN_32, arN_33, arN_34, arN_35, arN_36, arN_37, arN_38, arN_39, arN_40, arN_41, arN_42, arN_43, arN_44, arN_45, arN_46, arN_47, arN_48, arN_49, arN_50, arN_51, arN_52, arN_53, arN_54, arN_55, arN_56, arN_57, arN_58, arN_59, arN_60, arE_15, arE_23, arE_24, arE_25, nI_leI, nI_ltI, nI_eq, nI_toInt, nI_clamp, PP_15, PP_23, PP_24, PP_25, e5, nI_is0, nz]
    repeat' (first | with_reducible apply And.intro | with_reducible intro _)
    all_goals try omega
    refine AJ.blk bX7_read_70 ?_
    simp (disch := omega) only [wp, p1, p2, q1, q2, r1, ri, fR, sI, sJ, sR, d1, d2, ct1, ldI, ldL, ldR, rq, noL, brc, vI, vL, vR, List.getElem?_cons_zero, List.getElem?_cons_succ, List.getElem?_nil, List.set_cons_zero, List.set_cons_succ, List.set_nil, List.length_cons, List.length_nil, List.length_set, List.cons_append, List.nil_append, Nat.reduceDiv, Nat.reduceMod, Nat.reduceAdd, Nat.reduceMul, Nat.reduceSub, Nat.reduceLT, Nat.reduceEqDiff, Int.reduceToNat, Int32.reduceOfInt, Int64.reduceOfInt, reduceIte, true_and, and_true, reduceCtorEq, not_false_eq_true, Nat.lt_add_one, Nat.zero_lt_succ, Nat.zero_lt_one, Option.toList_some, Option.toList_none, imp_self, forall_const, true_or, or_true, eq_self, i1_0, i0_1, im_0, u3_same, u3_g, u3_j, u3_i, false_or, or_false, not_true_eq_false, false_implies, CC_0, CC_1, CC_2, CC_3, CC_4, CC_5, CC_6, CC_7, CC_8, CC_10, CC_11, CC_12, CC_13, CC_14, CC_15, CC_16, CC_17, CC_18, CC_19, CC_20, CC_21, CC_22, CC_23, CC_24, CC_25, CC_26, CC_27, CC_30, CC_31, CC_32, CC_33, CC_34, CC_35, CC_36, CC_37, CC_38, CC_39, CC_40, CC_41, CC_42, CC_43, CC_44, CC_45, CC_46, CC_47, CC_48, CC_49, CC_50, CC_51, CC_52, CC_53, CC_54, CC_55, CC_56, CC_57, CC_58, CC_59, CC_60, PP_0_5, PP_0_6, PP_0_7, PP_1_1, PP_2_0, PP_2_1, PP_3_6, PP_4_2, PP_4_3, PP_5_0, PP_6_0, PP_6_1, PP_6_2, PP_7_0, PP_7_2, PP_7_4, PP_7_5, PP_7_8, PP_7_9, PP_7_11, PP_8_1, PP_8_3, PP_8_5, PP_8_6, PP_8_7, PP_8_8, PP_8_9, PP_8_19, PP_8_20, PP_8_21, PP_8_22, PP_8_23, PP_8_24, PP_8_25, PP_8_26, PP_8_27, PP_8_28, PP_8_29, PP_8_30, PP_8_31, PP_8_33, PP_8_34, PP_8_35, PP_8_39, PP_8_40, PP_8_41, PP_8_42, PP_8_43, PP_8_44, PP_8_51, PP_8_52, PP_2_2, PP_7_6, arN_10, arN_11, arN_12, arN_13, arN_14, arN_16, arN_17, arN_18, arN_19, arN_20, arN_21, arN_22, arN_26, arN_27, arN_30, arN_31, arN_32, arN_33, arN_34, arN_35, arN_36, arN_37, arN_38, arN_39, arN_40, arN_41, arN_42, arN_43, arN_44, arN_45, arN_46, arN_47, arN_48, arN_49, arN_50, arN_51, arN_52, arN_53, arN_54, arN_55, arN_56, arN_57, arN_58, arN_59, arN_60, arE_15, arE_23, arE_24, arE_25, nI_leI, nI_ltI, nI_eq, nI_toInt, nI_clamp, PP_15, PP_23, PP_24, PP_25, e5]
    refine qN.mk ⟨by rw [eq], rfl, s2.gf.tr ((gF.rf.put (by omega)).put (by omega)), sw, rfl, ?_⟩
    rw [eo]
    exact h2.er w p
  cases er : rdP σ τ with
  | inr e =>
    rw [er] at g2 fail
    have hc : e.1 = 1 ∨ e.1 = 2 := loop_e2 9 _ e er
    exact fail e.1 e.2 (by omega) (by omega) rfl rfl g2.1 g2.2
  | inl a =>
  rw [er] at g2 fail d2
  obtain ⟨y1, y2, y3⟩ : PC a I2 := g2
  obtain ⟨l1, -⟩ := loop_l hB 9 (fun _ _ => 0) rfl (by omega) pi_0 (fun k hk => absurd hk (Nat.not_lt_zero _)) (fun _ k hk => absurd hk (Nat.not_lt_zero _))
  obtain ⟨a8, api, a13, aw⟩ := l1 a er
  by_cases z : a 0 1 = 0
  case neg =>
    rw [if_neg z] at y3
    exact fail (a 0 1) (a 0 2) (by omega) api.2.2.2 rfl (if_neg z) y2 y3
  rw [z, nI_00] at y2
  rw [if_pos z] at y3
  obtain ⟨d4, dk⟩ := d2 a rfl
  have eo : rdO σ (.inl a) = rdS σ a := if_pos z
  have wf : WF (rdS σ a) := by
    have := rdO_wf (τ := τ) w
    rw [er, eo] at this
    exact this
  refine AJ.blk bX7_read_11s ?_
  simp (disch := omega) only [wp, p1, p2, q1, q2, r1, ri, fR, sI, sJ, sR, d1, d2, ct1, ldI, ldL, ldR, rq, noL, brc, vI, vL, vR, List.getElem?_cons_zero, List.getElem?_cons_succ, List.getElem?_nil, List.set_cons_zero, List.set_cons_succ, List.set_nil, List.length_cons, List.length_nil, List.length_set, List.cons_append, List.nil_append, Nat.reduceDiv, Nat.reduceMod, Nat.reduceAdd, Nat.reduceMul, Nat.reduceSub, Nat.reduceLT, Nat.reduceEqDiff, Int.reduceToNat, Int32.reduceOfInt, Int64.reduceOfInt, reduceIte, true_and, and_true, reduceCtorEq, not_false_eq_true, Nat.lt_add_one, Nat.zero_lt_succ, Nat.zero_lt_one, Option.toList_some, Option.toList_none, imp_self, forall_const, true_or, or_true, eq_self, i1_0, i0_1, im_0, u3_same, u3_g, u3_j, u3_i, false_or, or_false, not_true_eq_false, false_implies, CC_0, CC_1, CC_2, CC_3, CC_4, CC_5, CC_6, CC_7, CC_8, CC_10, CC_11, CC_12, CC_13, CC_14, CC_15, CC_16, CC_17, CC_18, CC_19, CC_20, CC_21, CC_22, CC_23, CC_24, CC_25, CC_26, CC_27, CC_30, CC_31, CC_32, CC_33, CC_34, CC_35, CC_36, CC_37, CC_38, CC_39, CC_40, CC_41, CC_42, CC_43, CC_44, CC_45, CC_46, CC_47, CC_48, CC_49, CC_50, CC_51, CC_52, CC_53, CC_54, CC_55, CC_56, CC_57, CC_58, CC_59, CC_60, PP_0_5, PP_0_6, PP_0_7, PP_1_1, PP_2_0, PP_2_1, PP_3_6, PP_4_2, PP_4_3, PP_5_0, PP_6_0, PP_6_1, PP_6_2, PP_7_0, PP_7_2, PP_7_4, PP_7_5, PP_7_8, PP_7_9, PP_7_11, PP_8_1, PP_8_3, PP_8_5, PP_8_6, PP_8_7, PP_8_8, PP_8_9, PP_8_19, PP_8_20, PP_8_21, PP_8_22, PP_8_23, PP_8_24, PP_8_25, PP_8_26, PP_8_27, PP_8_28, PP_8_29, PP_8_30, PP_8_31, PP_8_33, PP_8_34, PP_8_35, PP_8_39, PP_8_40, PP_8_41, PP_8_42, PP_8_43, PP_8_44, PP_8_51, PP_8_52, PP_2_2, PP_7_6, arN_10, arN_11, arN_12, arN_13, arN_14, arN_16, arN_17, arN_18, arN_19, arN_20, arN_21, arN_22, arN_26, arN_27, arN_30, arN_31, arN_32, arN_33, arN_34, arN_35, arN_36, arN_37, arN_38, arN_39, arN_40, arN_41, arN_42, arN_43, arN_44, arN_45, arN_46, arN_47, arN_48, arN_49, arN_50, arN_51, arN_52, arN_53, arN_54, arN_55, arN_56, arN_57, arN_58, arN_59, arN_60, arE_15, arE_23, arE_24, arE_25, nI_leI, nI_ltI, nI_eq, nI_toInt, nI_clamp, PP_15, PP_23, PP_24, PP_25]
  refine AJ.blk bX7_read_19s ?_
  simp (disch := omega) only [wp, p1, p2, q1, q2, r1, ri, fR, sI, sJ, sR, d1, d2, ct1, ldI, ldL, ldR, rq, noL, brc, vI, vL, vR, List.getElem?_cons_zero, List.getElem?_cons_succ, List.getElem?_nil, List.set_cons_zero, List.set_cons_succ, List.set_nil, List.length_cons, List.length_nil, List.length_set, List.cons_append, List.nil_append, Nat.reduceDiv, Nat.reduceMod, Nat.reduceAdd, Nat.reduceMul, Nat.reduceSub, Nat.reduceLT, Nat.reduceEqDiff, Int.reduceToNat, Int32.reduceOfInt, Int64.reduceOfInt, reduceIte, true_and, and_true, reduceCtorEq, not_false_eq_true, Nat.lt_add_one, Nat.zero_lt_succ, Nat.zero_lt_one, Option.toList_some, Option.toList_none, imp_self, forall_const, true_or, or_true, eq_self, i1_0, i0_1, im_0, u3_same, u3_g, u3_j, u3_i, false_or, or_false, not_true_eq_false, false_implies, CC_0, CC_1, CC_2, CC_3, CC_4, CC_5, CC_6, CC_7, CC_8, CC_10, CC_11, CC_12, CC_13, CC_14, CC_15, CC_16, CC_17, CC_18, CC_19, CC_20, CC_21, CC_22, CC_23, CC_24, CC_25, CC_26, CC_27, CC_30, CC_31, CC_32, CC_33, CC_34, CC_35, CC_36, CC_37, CC_38, CC_39, CC_40, CC_41, CC_42, CC_43, CC_44, CC_45, CC_46, CC_47, CC_48, CC_49, CC_50, CC_51, CC_52, CC_53, CC_54, CC_55, CC_56, CC_57, CC_58, CC_59, CC_60, PP_0_5, PP_0_6, PP_0_7, PP_1_1, PP_2_0, PP_2_1, PP_3_6, PP_4_2, PP_4_3, PP_5_0, PP_6_0, PP_6_1, PP_6_2, PP_7_0, PP_7_2, PP_7_4, PP_7_5, PP_7_8, PP_7_9, PP_7_11, PP_8_1, PP_8_3, PP_8_5, PP_8_6, PP_8_7, PP_8_8, PP_8_9, PP_8_19, PP_8_20, PP_8_21, PP_8_22, PP_8_23, PP_8_24, PP_8_25, PP_8_26, PP_8_27, PP_8_28, PP_8_29, PP_8_30, PP_8_31, PP_8_33, PP_8_34, PP_8_35, PP_8_39, PP_8_40, PP_8_41, PP_8_42, PP_8_43, PP_8_44, PP_8_51, PP_8_52, PP_2_2, PP_7_6, arN_10, arN_11, arN_12, arN_13, arN_14, arN_16, arN_17, arN_18, arN_19, arN_20, arN_21, arN_22, arN_26, arN_27, arN_30, arN_31, arN_32, arN_33, arN_34, arN_35, arN_36, arN_37, arN_38, arN_39, arN_40, arN_41, arN_42, arN_43, arN_44, arN_45, arN_46, arN_47, arN_48, arN_49, arN_50, arN_51, arN_52, arN_53, arN_54, arN_55, arN_56, arN_57, arN_58, arN_59, arN_60, arE_15, arE_23, arE_24, arE_25, nI_leI, nI_ltI, nI_eq, nI_toInt, nI_clamp, PP_15, PP_23, PP_24, PP_25, y3]
  refine AJ.blk bX7_read_30s ?_
  simp (disch := omega) only [wp, p1, p2, q1, q2, r1, ri, fR, sI, sJ, sR, d1, d2, ct1, ldI, ldL, ldR, rq, noL, brc, vI, vL, vR, List.getElem?_cons_zero, List.getElem?_cons_succ, List.getElem?_nil, List.set_cons_zero, List.set_cons_succ, List.set_nil, List.length_cons, List.length_nil, List.length_set, List.cons_append, List.nil_append, Nat.reduceDiv, Nat.reduceMod, Nat.reduceAdd, Nat.reduceMul, Nat.reduceSub, Nat.reduceLT, Nat.reduceEqDiff, Int.reduceToNat, Int32.reduceOfInt, Int64.reduceOfInt, reduceIte, true_and, and_true, reduceCtorEq, not_false_eq_true, Nat.lt_add_one, Nat.zero_lt_succ, Nat.zero_lt_one, Option.toList_some, Option.toList_none, imp_self, forall_const, true_or, or_true, eq_self, i1_0, i0_1, im_0, u3_same, u3_g, u3_j, u3_i, false_or, or_false, not_true_eq_false, false_implies, CC_0, CC_1, CC_2, CC_3, CC_4, CC_5, CC_6, CC_7, CC_8, CC_10, CC_11, CC_12, CC_13, CC_14, CC_15, CC_16, CC_17, CC_18, CC_19, CC_20, CC_21, CC_22, CC_23, CC_24, CC_25, CC_26, CC_27, CC_30, CC_31, CC_32, CC_33, CC_34, CC_35, CC_36, CC_37, CC_38, CC_39, CC_40, CC_41, CC_42, CC_43, CC_44, CC_45, CC_46, CC_47, CC_48, CC_49, CC_50, CC_51, CC_52, CC_53, CC_54, CC_55, CC_56, CC_57, CC_58, CC_59, CC_60, PP_0_5, PP_0_6, PP_0_7, PP_1_1, PP_2_0, PP_2_1, PP_3_6, PP_4_2, PP_4_3, PP_5_0, PP_6_0, PP_6_1, PP_6_2, PP_7_0, PP_7_2, PP_7_4, PP_7_5, PP_7_8, PP_7_9, PP_7_11, PP_8_1, PP_8_3, PP_8_5, PP_8_6, PP_8_7, PP_8_8, PP_8_9, PP_8_19, PP_8_20, PP_8_21, PP_8_22, PP_8_23, PP_8_24, PP_8_25, PP_8_26, PP_8_27, PP_8_28, PP_8_29, PP_8_30, PP_8_31, PP_8_33, PP_8_34, PP_8_35, PP_8_39, PP_8_40, PP_8_41, PP_8_42, PP_8_43, PP_8_44, PP_8_51, PP_8_52, PP_2_2, PP_7_6, arN_10, arN_11, arN_12, arN_13, arN_14, arN_16, arN_17, arN_18, arN_19, arN_20, arN_21, arN_22, arN_26, arN_27, arN_30, arN_31, arN_32, arN_33, arN_34, arN_35, arN_36, arN_37, arN_38, arN_39, arN_40, arN_41, arN_42, arN_43, arN_44, arN_45, arN_46, arN_47, arN_48, arN_49, arN_50, arN_51, arN_52, arN_53, arN_54, arN_55, arN_56, arN_57, arN_58, arN_59, arN_60, arE_15, arE_23, arE_24, arE_25, nI_leI, nI_ltI, nI_eq, nI_toInt, nI_clamp, PP_15, PP_23, PP_24, PP_25, y2]
  repeat' (first | with_reducible apply And.intro | with_reducible intro _)
  all_goals try omega
  refine AJ.blk bX7_read_40s ?_
  simp (disch := omega) only [wp, p1, p2, q1, q2, r1, ri, fR, sI, sJ, sR, d1, d2, ct1, ldI, ldL, ldR, rq, noL, brc, vI, vL, vR, List.getElem?_cons_zero, List.getElem?_cons_succ, List.getElem?_nil, List.set_cons_zero, List.set_cons_succ, List.set_nil, List.length_cons, List.length_nil, List.length_set, List.cons_append, List.nil_append, Nat.reduceDiv, Nat.reduceMod, Nat.reduceAdd, Nat.reduceMul, Nat.reduceSub, Nat.reduceLT, Nat.reduceEqDiff, Int.reduceToNat, Int32.reduceOfInt, Int64.reduceOfInt, reduceIte, true_and, and_true, reduceCtorEq, not_false_eq_true, Nat.lt_add_one, Nat.zero_lt_succ, Nat.zero_lt_one, Option.toList_some, Option.toList_none, imp_self, forall_const, true_or, or_true, eq_self, i1_0, i0_1, im_0, u3_same, u3_g, u3_j, u3_i, false_or, or_false, not_true_eq_false, false_implies, CC_0, CC_1, CC_2, CC_3, CC_4, CC_5, CC_6, CC_7, CC_8, CC_10, CC_11, CC_12, CC_13, CC_14, CC_15, CC_16, CC_17, CC_18, CC_19, CC_20, CC_21, CC_22, CC_23, CC_24, CC_25, CC_26, CC_27, CC_30, CC_31, CC_32, CC_33, CC_34, CC_35, CC_36, CC_37, CC_38, CC_39, CC_40, CC_41, CC_42, CC_43, CC_44, CC_45, CC_46, CC_47, CC_48, CC_49, CC_50, CC_51, CC_52, CC_53, CC_54, CC_55, CC_56, CC_57, CC_58, CC_59, CC_60, PP_0_5, PP_0_6, PP_0_7, PP_1_1, PP_2_0, PP_2_1, PP_3_6, PP_4_2, PP_4_3, PP_5_0, PP_6_0, PP_6_1, PP_6_2, PP_7_0, PP_7_2, PP_7_4, PP_7_5, PP_7_8, PP_7_9, PP_7_11, PP_8_1, PP_8_3, PP_8_5, PP_8_6, PP_8_7, PP_8_8, PP_8_9, PP_8_19, PP_8_20, PP_8_21, PP_8_22, PP_8_23, PP_8_24, PP_8_25, PP_8_26, PP_8_27, PP_8_28, PP_8_29, PP_8_30, PP_8_31, PP_8_33, PP_8_34, PP_8_35, PP_8_39, PP_8_40, PP_8_41, PP_8_42, PP_8_43, PP_8_44, PP_8_51, PP_8_52, PP_2_2, PP_7_6, arN_10, arN_11, arN_12, arN_13, arN_14, arN_16, arN_17, arN_18, arN_19, arN_20, arN_21, arN_22, arN_26, arN_27, arN_30, arN_31, arN_32, arN_33, arN_34, arN_35, arN_36, arN_37, arN_38, arN_39, arN_40, arN_41, arN_42, arN_43, arN_44, arN_45, arN_46, arN_47, arN_48, arN_49, arN_50, arN_51, arN_52, arN_53, arN_54, arN_55, arN_56, arN_57, arN_58, arN_59, arN_60, arE_15, arE_23, arE_24, arE_25, nI_leI, nI_ltI, nI_eq, nI_toInt, nI_clamp, PP_15, PP_23, PP_24, PP_25]
  refine AJ.cV sX7_read_49 ((show kX2_swapDrafts [vR 2 0, vR 15 sw] (u3 (u3 I2 5 0 1 0) 7 0 14 (-1)) J (PP sw) (eq4 (some (vR 15 (1 - sw))) (u3 (u3 I2 5 0 1 0) 7 0 14 (-1)) J (u3 (PP sw) 2 0 2 (some (15, sw)))) from x2_swap)) rfl rfl ⟨rfl, Nat.le_of_ble_eq_true rfl, Nat.le_of_ble_eq_true rfl, Nat.le_of_ble_eq_true rfl⟩ (Nat.le_of_ble_eq_true rfl) (Nat.le_of_ble_eq_true rfl) ?_
  rintro _ _ _ _ ⟨rfl, rfl, rfl, rfl⟩
  simp only [Option.toList_some, Option.toList_none, List.cons_append, List.nil_append, Nat.reduceAdd]
  refine AJ.blk bX7_read_52 ?_
  simp (disch := omega) only [wp, p1, p2, q1, q2, r1, ri, fR, sI, sJ, sR, d1, d2, ct1, ldI, ldL, ldR, rq, noL, brc, vI, vL, vR, List.getElem?_cons_zero, List.getElem?_cons_succ, List.getElem?_nil, List.set_cons_zero, List.set_cons_succ, List.set_nil, List.length_cons, List.length_nil, List.length_set, List.cons_append, List.nil_append, Nat.reduceDiv, Nat.reduceMod, Nat.reduceAdd, Nat.reduceMul, Nat.reduceSub, Nat.reduceLT, Nat.reduceEqDiff, Int.reduceToNat, Int32.reduceOfInt, Int64.reduceOfInt, reduceIte, true_and, and_true, reduceCtorEq, not_false_eq_true, Nat.lt_add_one, Nat.zero_lt_succ, Nat.zero_lt_one, Option.toList_some, Option.toList_none, imp_self, forall_const, true_or, or_true, eq_self, i1_0, i0_1, im_0, u3_same, u3_g, u3_j, u3_i, false_or, or_false, not_true_eq_false, false_implies, CC_0, CC_1, CC_2, CC_3, CC_4, CC_5, CC_6, CC_7, CC_8, CC_10, CC_11, CC_12, CC_13, CC_14, CC_15, CC_16, CC_17, CC_18, CC_19, CC_20, CC_21, CC_22, CC_23, CC_24, CC_25, CC_26, CC_27, CC_30, CC_31, CC_32, CC_33, CC_34, CC_35, CC_36, CC_37, CC_38, CC_39, CC_40, CC_41, CC_42, CC_43, CC_44, CC_45, CC_46, CC_47, CC_48, CC_49, CC_50, CC_51, CC_52, CC_53, CC_54, CC_55, CC_56, CC_57, CC_58, CC_59, CC_60, PP_0_5, PP_0_6, PP_0_7, PP_1_1, PP_2_0, PP_2_1, PP_3_6, PP_4_2, PP_4_3, PP_5_0, PP_6_0, PP_6_1, PP_6_2, PP_7_0, PP_7_2, PP_7_4, PP_7_5, PP_7_8, PP_7_9, PP_7_11, PP_8_1, PP_8_3, PP_8_5, PP_8_6, PP_8_7, PP_8_8, PP_8_9, PP_8_19, PP_8_20, PP_8_21, PP_8_22, PP_8_23, PP_8_24, PP_8_25, PP_8_26, PP_8_27, PP_8_28, PP_8_29, PP_8_30, PP_8_31, PP_8_33, PP_8_34, PP_8_35, PP_8_39, PP_8_40, PP_8_41, PP_8_42, PP_8_43, PP_8_44, PP_8_51, PP_8_52, PP_2_2, PP_7_6, arN_10, arN_11, arN_12, arN_13, arN_14, arN_16, arN_17, arN_18, arN_19, arN_20, arN_21, arN_22, arN_26, arN_27, arN_30, arN_31, arN_32, arN_33, arN_34, arN_35, arN_36, arN_37, arN_38, arN_39, arN_40, arN_41, arN_42, arN_43, arN_44, arN_45, arN_46, arN_47, arN_48, arN_49, arN_50, arN_51, arN_52, arN_53, arN_54, arN_55, arN_56, arN_57, arN_58, arN_59, arN_60, arE_15, arE_23, arE_24, arE_25, nI_leI, nI_ltI, nI_eq, nI_toInt, nI_clamp, PP_15, PP_23, PP_24, PP_25, d4]
  refine AJ.eqv (I' := u3 (u3 (u3 I2 5 0 1 0) 7 0 14 (-1)) 7 0 7 (nI (a 0 3))) (J' := J) (P' := PP (1 - sw)) (fun _ _ _ => rfl) (fun _ _ _ => rfl) (fun g i hi => ?_) ?_
  · funext j
    by_cases g7 : g = 7
    · subst g7
      have i0 : i = 0 := by have : i < 1 := hi; omega
      subst i0
      by_cases j6 : j = 6
      · subst j6; rw [u3_same]; rfl
      · rw [u3_j j6, u3_g (by decide)]
        unfold PP
        match j with
        | 0 => rfl
        | 1 => rfl
        | 2 => rfl
        | 3 => rfl
        | 4 => rfl
        | 5 => rfl
        | 6 => exact absurd rfl j6
        | 7 => rfl
        | 8 => rfl
        | 9 => rfl
        | 10 => rfl
        | 11 => rfl
        | n + 12 => rfl
    · rw [u3_g g7]
      by_cases g2 : g = 2
      · subst g2
        have i0 : i = 0 := by have : i < 1 := hi; omega
        subst i0
        by_cases j2 : j = 2
        · subst j2
          rw [u3_same]
          show some (15, 1 - (1 - sw)) = some (15, sw)
          rw [show 1 - (1 - sw) = sw by omega]
        · rw [u3_j j2]
          unfold PP
          match j with
          | 0 => rfl
          | 1 => rfl
          | 2 => exact absurd rfl j2
          | n + 3 => rfl
      · rw [u3_g g2]
        exact PP_oth g7 g2
  have eG : ∀ g, ¬ g = 0 → ¬ (10 ≤ g ∧ g ≤ 21) → rdS σ a g = σ g := fun g x y => funext fun j => by
    unfold rdS
    rw [if_neg y, if_neg (by omega), if_neg (by omega), if_neg (by omega)]
  have eA : ∀ g, 10 ≤ g → g ≤ 21 → rdS σ a g = a g := fun g x y => funext fun j => by
    unfold rdS
    rw [if_pos ⟨x, y⟩]
  have e0 : ∀ j, ¬ j = 0 → ¬ j = 5 → ¬ j = 7 → rdS σ a 0 j = σ 0 j := fun j x y z => by
    unfold rdS
    rw [if_neg (by omega), if_neg (by omega), if_neg (by omega), if_neg (by omega)]
  have e00 : rdS σ a 0 0 = 0 := rfl
  have e05 : rdS σ a 0 5 = a 0 3 := rfl
  have e07 : rdS σ a 0 7 = 0 := rfl
  have vo : ∀ g i j, ¬ g = 5 → ¬ g = 7 → u3 (u3 (u3 I2 5 0 1 0) 7 0 14 (-1)) 7 0 7 (nI (a 0 3)) g i j = I2 g i j := fun g i j x y => by rw [u3_g y, u3_g y, u3_g x]
  have hb : CRb (rdS σ a) τ (1 - sw) (u3 (u3 (u3 I2 5 0 1 0) 7 0 14 (-1)) 7 0 7 (nI (a 0 3))) := by
    refine ⟨⟨by omega, ?_, fun j hj => ?_⟩, ?_, fun x hx => ?_, fun x hx => ?_, fun m hm => ?_, fun k hk => ?_, fun i hi => ?_⟩
    · rw [u3_g (by decide), u3_g (by decide), u3_same, e00]; rfl
    · rw [vo 19 0 j (by decide) (by decide)]; exact h2.tape hj
    · rw [e0 1 (by decide) (by decide) (by decide), e0 2 (by decide) (by decide) (by decide), e0 3 (by decide) (by decide) (by decide), e0 4 (by decide) (by decide) (by decide), e0 6 (by decide) (by decide) (by decide), e05, e07]
      simp [u3_g, u3_j, u3_same, h2.tabs, h2.own, h2.purse, h2.mvs, h2.pls, oI_0]
    · refine ((h2.tab hx).cg (fun g j y => vo g x j (by omega) (by omega))).cs (w.rows x) ?_ ?_ (fun j _ _ => ?_)
      · rw [eG 1 (by decide) (by decide)]
      · rw [eG 2 (by decide) (by decide)]
      · rw [eG 3 (by decide) (by decide)]
    · rw [vo 14 0 x (by decide) (by decide), eG 1 (by decide) (by decide)]; exact h2.wid hx
    · have v1 := (h2.mv hm).cg (I1 := u3 (u3 (u3 I2 5 0 1 0) 7 0 14 (-1)) 7 0 7 (nI (a 0 3))) (fun g j y => vo g m j (by omega) (by omega))
      unfold VR at v1 ⊢
      rw [eG 4 (by decide) (by decide), eG 5 (by decide) (by decide), eG 6 (by decide) (by decide), eG 7 (by decide) (by decide), eG 8 (by decide) (by decide)]
      exact v1
    · rw [e05] at hk
      exact ((dk k hk).cg (fun g j y => vo g _ j (by omega) (by omega))).cr (fun g j y1 y2 => by rw [eA g y1 y2])
    · rw [vo 26 0 i (by decide) (by decide), eG 22 (by decide) (by decide)]; exact h2.ply hi
  refine AJ.cV sX7_read_67 (x7_measure hb wf) rfl rfl ⟨rfl, Nat.le_of_ble_eq_true rfl, Nat.le_of_ble_eq_true rfl, Nat.le_of_ble_eq_true rfl⟩ (Nat.le_of_ble_eq_true rfl) (Nat.le_of_ble_eq_true rfl) ?_
  rintro _ I3 _ _ ⟨rfl, rfl, rfl, s3, s4, hc3⟩
  simp only [Option.toList_some, Option.toList_none, List.cons_append, List.nil_append, Nat.reduceAdd]
  have e25 : I3 2 0 5 = 0 := by rw [s4 2 0 5 (by decide) (by decide), vo 2 0 5 (by decide) (by decide)]; exact y2
  refine AJ.blk bX7_read_70 ?_
  simp (disch := omega) only [wp, p1, p2, q1, q2, r1, ri, fR, sI, sJ, sR, d1, d2, ct1, ldI, ldL, ldR, rq, noL, brc, vI, vL, vR, List.getElem?_cons_zero, List.getElem?_cons_succ, List.getElem?_nil, List.set_cons_zero, List.set_cons_succ, List.set_nil, List.length_cons, List.length_nil, List.length_set, List.cons_append, List.nil_append, Nat.reduceDiv, Nat.reduceMod, Nat.reduceAdd, Nat.reduceMul, Nat.reduceSub, Nat.reduceLT, Nat.reduceEqDiff, Int.reduceToNat, Int32.reduceOfInt, Int64.reduceOfInt, reduceIte, true_and, and_true, reduceCtorEq, not_false_eq_true, Nat.lt_add_one, Nat.zero_lt_succ, Nat.zero_lt_one, Option.toList_some, Option.toList_none, imp_self, forall_const, true_or, or_true, eq_self, i1_0, i0_1, im_0, u3_same, u3_g, u3_j, u3_i, false_or, or_false, not_true_eq_false, false_implies, CC_0, CC_1, CC_2, CC_3, CC_4, CC_5, CC_6, CC_7, CC_8, CC_10, CC_11, CC_12, CC_13, CC_14, CC_15, CC_16, CC_17, CC_18, CC_19, CC_20, CC_21, CC_22, CC_23, CC_24, CC_25, CC_26, CC_27, CC_30, CC_31, CC_32, CC_33, CC_34, CC_35, CC_36, CC_37, CC_38, CC_39, CC_40, CC_41, CC_42, CC_43, CC_44, CC_45, CC_46, CC_47, CC_48, CC_49, CC_50, CC_51, CC_52, CC_53, CC_54, CC_55, CC_56, CC_57, CC_58, CC_59, CC_60, PP_0_5, PP_0_6, PP_0_7, PP_1_1, PP_2_0, PP_2_1, PP_3_6, PP_4_2, PP_4_3, PP_5_0, PP_6_0, PP_6_1, PP_6_2, PP_7_0, PP_7_2, PP_7_4, PP_7_5, PP_7_8, PP_7_9, PP_7_11, PP_8_1, PP_8_3, PP_8_5, PP_8_6, PP_8_7, PP_8_8, PP_8_9, PP_8_19, PP_8_20, PP_8_21, PP_8_22, PP_8_23, PP_8_24, PP_8_25, PP_8_26, PP_8_27, PP_8_28, PP_8_29, PP_8_30, PP_8_31, PP_8_33, PP_8_34, PP_8_35, PP_8_39, PP_8_40, PP_8_41, PP_8_42, PP_8_43, PP_8_44, PP_8_51, PP_8_52, PP_2_2, PP_7_6, arN_10, arN_11, arN_12, arN_13, arN_14, arN_16, arN_17, arN_18, arN_19, arN_20, arN_21, arN_22, arN_26, arN_27, arN_30, arN_31, arN_32, arN_33, arN_34, arN_35, arN_36, arN_37, arN_38, arN_39, arN_40, arN_41, arN_42, arN_43, arN_44, arN_45, arN_46, arN_47, arN_48, arN_49, arN_50, arN_51, arN_52, arN_53, arN_54, arN_55, arN_56, arN_57, arN_58, arN_59, arN_60, arE_15, arE_23, arE_24, arE_25, nI_leI, nI_ltI, nI_eq, nI_toInt, nI_clamp, PP_15, PP_23, PP_24, PP_25, e25]
  refine qN.mk ⟨?_, rfl, s2.gf.tr ((((gF.rf.put (by omega)).put (by omega)).put (by omega)).tr s3), 1 - sw, rfl, ?_⟩
  · show some (vI (nI (a 0 1))) = _
    rw [z]; rfl
  · rw [eo]; exact hc3
end RD3
