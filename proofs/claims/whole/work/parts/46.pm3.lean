/-! the model: a COND -/
def inD (kk g j : Nat) : Prop := (g = 8 ∧ 11 ≤ j ∧ j ≤ 15) ∨ (((38 ≤ g ∧ g ≤ 41) ∨ (45 ≤ g ∧ g ≤ 49)) ∧ j = kk) ∨ (42 ≤ g ∧ g ≤ 44 ∧ 4 * kk ≤ j ∧ j < 4 * kk + 4)
def dS (kk : Nat) (I I1 : hI) : Prop := ∀ g i j, ¬ inD kk g j → I1 g i j = I g i j
def DB (ρ : St) (k : Nat) : Prop := ρ 12 k ≤ 9999 ∧ ρ 13 k ≤ 4 ∧ ∀ i, i < ρ 13 k → ρ 14 (4 * k + i) ≤ 9999
def dF (r : PR) (sd k : Nat) (I : hI) (J : hJ) (P : hP) : FT := fun v1 I1 J1 P1 => none = v1 ∧ J = J1 ∧ P = P1 ∧ dS (8 * sd + k) I I1 ∧ pR r I1 ∧ ∀ a, r = .inl a → MRd a sd I1 k
def dupB (ρ : St) (k c : Nat) : Nat → Bool
  | 0 => false
  | n + 1 => dupB ρ k c n || decide (ρ 14 (4 * k + n) = c)
theorem fnd_z {ρ : St} {k c : Nat} : ∀ n i, fndC ρ k c n i = 0 ↔ ∀ j, j < n → ¬ ρ 14 (4 * k + (i + j)) = c := by
  intro n
  induction n with
  | zero => intro i; simp [fndC]
  | succ n ih =>
    intro i
    rw [fndC]
    by_cases q : ρ 14 (4 * k + i) = c
    · rw [if_pos q]
      constructor
      · intro z; omega
      · intro z; exact absurd q (z 0 (by omega))
    · rw [if_neg q, ih (i + 1)]
      constructor
      · intro z j hj
        cases j with
        | zero => exact q
        | succ j => rw [show i + (j + 1) = i + 1 + j by omega]; exact z j (by omega)
      · intro z j hj
        rw [show i + 1 + j = i + (j + 1) by omega]; exact z (j + 1) (by omega)
theorem dup_f {ρ : St} {k c : Nat} : ∀ n, dupB ρ k c n = false ↔ ∀ j, j < n → ¬ ρ 14 (4 * k + j) = c := by
  intro n
  induction n with
  | zero => simp [dupB]
  | succ n ih =>
    rw [dupB, Bool.or_eq_false_iff, ih, decide_eq_false_iff_not]
    constructor
    · rintro ⟨h1, h2⟩ j hj
      by_cases q : j = n
      · rw [q]; exact h2
      · exact h1 j (by omega)
    · intro h
      exact ⟨fun j hj => h j (by omega), h n (by omega)⟩
theorem dup_on {ρ : St} {k c : Nat} : dupB ρ k c (ρ 13 k) = decide (¬ cOn ρ k c = 0) := by
  have h1 := dup_f (ρ := ρ) (k := k) (c := c) (ρ 13 k)
  have h2 := fnd_z (ρ := ρ) (k := k) (c := c) (ρ 13 k) 0
  simp only [Nat.zero_add] at h2
  rw [← h2] at h1
  by_cases q : cOn ρ k c = 0
  · rw [decide_eq_false (by simp [q])]; exact h1.mpr q
  · rw [decide_eq_true q]
    cases z : dupB ρ k c (ρ 13 k) with
    | true => rfl
    | false => exact absurd (h1.mp z) q
section PM3
variable {K S V : Nat → Nat} {σ : St} {I : hI} {J : hJ}
theorem dS.rf {kk : Nat} : dS kk I I := fun _ _ _ _ => rfl
theorem dS.tr {kk : Nat} {I1 I2 : hI} (h : dS kk I I1) (h2 : dS kk I1 I2) : dS kk I I2 := fun g i j q => (h2 g i j q).trans (h g i j q)
theorem pS.toD {kk : Nat} {I1 : hI} (h : pS I I1) : dS kk I I1 := fun g i j q => h g i j (fun z => q (Or.inl z))
theorem dS.put {kk : Nat} {I1 : hI} (h : dS kk I I1) {g i j : Nat} {x : Int32} (hj : inD kk g j) : dS kk I (u3 I1 g i j x) := fun a b c q => by
  rw [u3_ne _ _ (fun z => q (by rw [z.1, z.2.2]; exact hj))]
  exact h a b c q
theorem CX.dS {kk : Nat} {I1 : hI} (h : CX K S V σ I) (s : dS kk I I1) : CX K S V σ I1 := by
  obtain ⟨h1, h2, h3⟩ := h
  refine ⟨fun t ht hz => ?_, by rw [s 8 0 32 (by unfold inD; omega)]; exact h2, fun x hx => by rw [s 50 0 x (by unfold inD; omega)]; exact h3 x hx⟩
  rw [s 32 0 t (by unfold inD; omega), s 33 0 t (by unfold inD; omega), s 34 0 t (by unfold inD; omega)]
  exact h1 t ht hz
theorem MRd.pS {ρ : St} {sd k : Nat} {I1 : hI} (h : MRd ρ sd I k) (s : pS I I1) : MRd ρ sd I1 k := by
  have eI : ∀ g, g ≠ 8 → I1 g = I g := fun g hg => funext (fun i => funext (fun j => s g i j (fun z => hg z.1)))
  unfold MRd at h ⊢
  rw [eI 38 (by decide), eI 39 (by decide), eI 40 (by decide), eI 41 (by decide), eI 42 (by decide), eI 43 (by decide), eI 44 (by decide), eI 45 (by decide), eI 46 (by decide), eI 47 (by decide), eI 48 (by decide), eI 49 (by decide)]
  exact h
theorem MRd.cg {ρ ρ1 : St} {sd k : Nat} (h : MRd ρ sd I k) (e : ∀ g j, 10 ≤ g → g ≤ 21 → ρ1 g j = ρ g j) : MRd ρ1 sd I k := by
  have eS : ∀ g, 10 ≤ g → g ≤ 21 → ρ1 g = ρ g := fun g h1 h2 => funext (fun j => e g j h1 h2)
  unfold MRd at h ⊢
  rw [eS 10 (by decide) (by decide), eS 11 (by decide) (by decide), eS 12 (by decide) (by decide), eS 13 (by decide) (by decide), eS 14 (by decide) (by decide), eS 15 (by decide) (by decide), eS 16 (by decide) (by decide), eS 17 (by decide) (by decide), eS 18 (by decide) (by decide), eS 19 (by decide) (by decide), eS 20 (by decide) (by decide), eS 21 (by decide) (by decide)]
  exact h
/-- what may be noted fits -/
def NW (ρ : St) : Prop := ρ 0 1 ≤ 5 ∧ (¬ ρ 0 1 = 0 → ρ 0 2 ≤ 2000)
theorem NW.w {ρ : St} (h : NW ρ) {k t : Nat} (hk : k ≤ 5) (hS : S t ≤ 2000) : NW (pW S k t ρ) := by
  unfold pW
  split
  · exact h
  · refine ⟨by rw [uS_j (by decide), uS_same]; exact hk, fun _ => by rw [uS_same]; exact hS⟩
theorem PI.nw {ρ : St} (h : PI K S ρ) (hB : KB K S V σ) : NW ρ := ⟨h.2.2.2, fun z => by have := h.2.2.1 z; have := (hB.1 (ρ 0 0)).2.1; omega⟩
theorem pW_i {k t : Nat} {ρ : St} : pW S k t (pW S k t ρ) = pW S k t ρ := by
  by_cases q : ¬ ρ 0 1 = 0 ∧ (ρ 0 2 < S t ∨ (ρ 0 2 = S t ∧ ρ 0 1 ≤ k))
  · have e : pW S k t ρ = ρ := if_pos q
    rw [e, e]
  · have e : pW S k t ρ = uS (uS ρ 0 1 k) 0 2 (S t) := if_neg q
    rw [e]
    by_cases z : k = 0
    · have : (uS (uS ρ 0 1 k) 0 2 (S t)) 0 1 = 0 := by rw [uS_j (by decide), uS_same]; exact z
      rw [pW, if_neg (by rw [this]; simp)]
      funext a b
      unfold uS
      by_cases z1 : a = 0 ∧ b = 2
      · simp [z1]
      · by_cases z2 : a = 0 ∧ b = 1
        · simp [z2]
        · simp [z1, z2]
    · rw [pW, if_pos]
      rw [uS_same, uS_j (by decide), uS_same]
      exact ⟨z, Or.inr ⟨rfl, Nat.le_refl _⟩⟩
theorem dup_note {a : St} {t : Nat} (h : NB S t a) (bd dp : Bool) : (if dp = true then pW S 3 t (if bd = true then pW S 4 t a else a) else (if bd = true then pW S 4 t a else a)) = pNote (dp || bd) (if dp = true then 3 else 4) (S t) a := by
  by_cases q : a 0 1 = 0
  · have e4 : pW S 4 t a = uS (uS a 0 1 4) 0 2 (S t) := if_neg (by simp [q])
    have e3 : pW S 3 t a = uS (uS a 0 1 3) 0 2 (S t) := if_neg (by simp [q])
    cases dp <;> cases bd
    · simp [pNote]
    · simp [pNote, q, e4]
    · simp [pNote, q, e3]
    · simp only [if_true, e4, Bool.or_self, pNote, q, and_self]
      rw [pW, if_neg (by rw [uS_same, uS_j (by decide), uS_same]; omega)]
      funext x y
      unfold uS
      by_cases z1 : x = 0 ∧ y = 2
      · simp [z1]
      · by_cases z2 : x = 0 ∧ y = 1
        · simp [z2]
        · simp [z1, z2]
  · have e : ∀ k, pW S k t a = a := fun k => if_pos ⟨q, Or.inl (h.1 q)⟩
    have e2 : ∀ b c, pNote b c (S t) a = a := fun b c => if_neg (by simp [q])
    rw [e2]
    cases dp <;> cases bd <;> simp [e]
theorem l8_dup (sw : Nat) {sd k : Nat} (hsd : sd ≤ 1) (hk : k < 8) {ρ ρ1 : St} (hM : MRd ρ sd I k) (hD : DB ρ k) (hC : CX K S V σ I) (hB : KB K S V σ) {c t : Nat} (hc : c ≤ 9999) (ht : t ≤ 300) (h33 : I 33 0 t = nI (S t)) (hW : NW ρ1) (Q : QT)
    (kk : ∀ I1, pS I I1 → PM (if dupB ρ k c (ρ 13 k) = true then pW S 3 t ρ1 else ρ1) I1 → ∀ x4 : Int32, jX8_cond Q 73 [some (vR 8 0), some (vI (nI (8 * sd + k))), some (vI (nI t)), some (vI (nI c)), some (vI x4), none, none] [] I1 J (PP sw)) :
    ∀ n i, i + n = ρ 13 k → ∀ I1, pS I I1 → PM (if dupB ρ k c i = true then pW S 3 t ρ1 else ρ1) I1 → jX8_cond Q 35 [some (vR 8 0), some (vI (nI (8 * sd + k))), some (vI (nI t)), some (vI (nI c)), some (vI (nI (4 * (8 * sd + k) + i))), none, none] [] I1 J (PP sw) := by
  obtain ⟨w1, w2, w3⟩ := hD
  intro n
  induction n with
  | zero =>
    intro i hi I1 hS hP
    obtain rfl : i = ρ 13 k := by omega
    obtain ⟨a1, a2, a3, a4, a5, a6, a7, a8, a9⟩ := hM.pS hS
    refine AJ.blk bX8_cond_35 ?_
    simp (disch := omega) only [wp, p1, p2, q1, q2, r1, ri, fR, sI, sJ, sR, d1, d2, ct1, ldI, ldL, ldR, rq, noL, brc, vI, vL, vR, List.getElem?_cons_zero, List.getElem?_cons_succ, List.getElem?_nil, List.set_cons_zero, List.set_cons_succ, List.set_nil, List.length_cons, List.length_nil, List.length_set, List.cons_append, List.nil_append, Nat.reduceDiv, Nat.reduceMod, Nat.reduceAdd, Nat.reduceMul, Nat.reduceSub, Nat.reduceLT, Nat.reduceEqDiff, Int.reduceToNat, Int32.reduceOfInt, Int64.reduceOfInt, reduceIte, true_and, and_true, reduceCtorEq, not_false_eq_true, Nat.lt_add_one, Nat.zero_lt_succ, Nat.zero_lt_one, Option.toList_some, Option.toList_none, imp_self, forall_const, true_or, or_true, eq_self, i1_0, i0_1, im_0, u3_same, u3_g, u3_j, u3_i, false_or, or_false, not_true_eq_false, false_implies, CC_0, CC_1, CC_2, CC_3, CC_4, CC_5, CC_6, CC_7, CC_8, CC_10, CC_11, CC_12, CC_13, CC_14, CC_15, CC_16, CC_17, CC_18, CC_19, CC_20, CC_21, CC_22, CC_23, CC_24, CC_25, CC_26, CC_27, CC_30, CC_31, CC_32, CC_33, CC_34, CC_35, CC_36, CC_37, CC_38, CC_39, CC_40, CC_41, CC_42, CC_43, CC_44, CC_45, CC_46, CC_47, CC_48, CC_49, CC_50, CC_51, CC_52, CC_53, CC_54, CC_55, CC_56, CC_57, CC_58, CC_59, CC_60, PP_0_5, PP_0_6, PP_0_7, PP_1_1, PP_2_0, PP_2_1, PP_3_6, PP_4_2, PP_4_3, PP_5_0, PP_6_0, PP_6_1, PP_6_2, PP_7_0, PP_7_2, PP_7_4, PP_7_5, PP_7_8, PP_7_9, PP_7_11, PP_8_1, PP_8_3, PP_8_5, PP_8_6, PP_8_7, PP_8_8, PP_8_9, PP_8_19, PP_8_20, PP_8_21, PP_8_22, PP_8_23, PP_8_24, PP_8_25, PP_8_26, PP_8_27, PP_8_28, PP_8_29, PP_8_30, PP_8_31, PP_8_33, PP_8_34, PP_8_35, PP_8_39, PP_8_40, PP_8_41, PP_8_42, PP_8_43, PP_8_44, PP_8_51, PP_8_52, PP_2_2, PP_7_6, arN_10, arN_11, arN_12, arN_13, arN_14, arN_16, arN_17, arN_18, arN_19, arN_20, arN_21, arN_22, arN_26, arN_27, arN_30, arN_31, arN_32, arN_33, arN_34, arN_35, arN_36, arN_37, arN_38, arN_39, arN_40, arN_41, arN_42, arN_43, arN_44, arN_45, arN_46, arN_47, arN_48, arN_49, arN_50, arN_51, arN_52, arN_53, arN_54, arN_55, arN_56, arN_57, arN_58, arN_59, arN_60, arE_15, arE_23, arE_24, arE_25, nI_leI, nI_ltI, nI_eq, nI_toInt, nI_clamp, PP_15, PP_23, PP_24, PP_25, nI_add, pk_mul, pk_div, pk_sub, nI_1, n1_add, nI_or, shl1, l_2, l_3, l_4, l_5, l_6, l_7, l_8, l_15, l_16, l_20, l_64, l_100, l_255, l_300, l_800, l_1000, l_2000, nI_is0, nI_is1, nI_le0, n0_le, nI_lt0, n0_lt, nI_lt1, m1_nI, oI_m1, oI_nI, nI_oI, oI_oI, bI_is0, bI_is1, a4]
    repeat' (first | with_reducible apply And.intro | with_reducible intro _)
    all_goals try omega
    all_goals exact kk I1 hS hP _
  | succ n ih =>
    intro i hi I1 hS hP
    obtain ⟨a1, a2, a3, a4, a5, a6, a7, a8, a9⟩ := hM.pS hS
    have b1 := (a5 i (by omega)).1
    have v1 := w3 i (by omega)
    have ih1 := ih (i + 1) (by omega)
    have h33b : I1 33 0 t = nI (S t) := by rw [hS 33 0 t (by omega)]; exact h33
    rw [dupB] at ih1
    refine AJ.blk bX8_cond_35 ?_
    simp (disch := omega) only [wp, p1, p2, q1, q2, r1, ri, fR, sI, sJ, sR, d1, d2, ct1, ldI, ldL, ldR, rq, noL, brc, vI, vL, vR, List.getElem?_cons_zero, List.getElem?_cons_succ, List.getElem?_nil, List.set_cons_zero, List.set_cons_succ, List.set_nil, List.length_cons, List.length_nil, List.length_set, List.cons_append, List.nil_append, Nat.reduceDiv, Nat.reduceMod, Nat.reduceAdd, Nat.reduceMul, Nat.reduceSub, Nat.reduceLT, Nat.reduceEqDiff, Int.reduceToNat, Int32.reduceOfInt, Int64.reduceOfInt, reduceIte, true_and, and_true, reduceCtorEq, not_false_eq_true, Nat.lt_add_one, Nat.zero_lt_succ, Nat.zero_lt_one, Option.toList_some, Option.toList_none, imp_self, forall_const, true_or, or_true, eq_self, i1_0, i0_1, im_0, u3_same, u3_g, u3_j, u3_i, false_or, or_false, not_true_eq_false, false_implies, CC_0, CC_1, CC_2, CC_3, CC_4, CC_5, CC_6, CC_7, CC_8, CC_10, CC_11, CC_12, CC_13, CC_14, CC_15, CC_16, CC_17, CC_18, CC_19, CC_20, CC_21, CC_22, CC_23, CC_24, CC_25, CC_26, CC_27, CC_30, CC_31, CC_32, CC_33, CC_34, CC_35, CC_36, CC_37, CC_38, CC_39, CC_40, CC_41, CC_42, CC_43, CC_44, CC_45, CC_46, CC_47, CC_48, CC_49, CC_50, CC_51, CC_52, CC_53, CC_54, CC_55, CC_56, CC_57, CC_58, CC_59, CC_60, PP_0_5, PP_0_6, PP_0_7, PP_1_1, PP_2_0, PP_2_1, PP_3_6, PP_4_2, PP_4_3, PP_5_0, PP_6_0, PP_6_1, PP_6_2, PP_7_0, PP_7_2, PP_7_4, PP_7_5, PP_7_8, PP_7_9, PP_7_11, PP_8_1, PP_8_3, PP_8_5, PP_8_6, PP_8_7, PP_8_8, PP_8_9, PP_8_19, PP_8_20, PP_8_21, PP_8_22, PP_8_23, PP_8_24, PP_8_25, PP_8_26, PP_8_27, PP_8_28, PP_8_29, PP_8_30, PP_8_31, PP_8_33, PP_8_34, PP_8_35, PP_8_39, PP_8_40, PP_8_41, PP_8_42, PP_8_43, PP_8_44, PP_8_51, PP_8_52, PP_2_2, PP_7_6, arN_10, arN_11, arN_12, arN_13, arN_14, arN_16, arN_17, arN_18, arN_19, arN_20, arN_21, arN_22, arN_26, arN_27, arN_30, arN_31, arN_32, arN_33, arN_34, arN_35, arN_36, arN_37, arN_38, arN_39, arN_40, arN_41, arN_42, arN_43, arN_44, arN_45, arN_46, arN_47, arN_48, arN_49, arN_50, arN_51, arN_52, arN_53, arN_54, arN_55, arN_56, arN_57, arN_58, arN_59, arN_60, arE_15, arE_23, arE_24, arE_25, nI_leI, nI_ltI, nI_eq, nI_toInt, nI_clamp, PP_15, PP_23, PP_24, PP_25, nI_add, pk_mul, pk_div, pk_sub, nI_1, n1_add, nI_or, shl1, l_2, l_3, l_4, l_5, l_6, l_7, l_8, l_15, l_16, l_20, l_64, l_100, l_255, l_300, l_800, l_1000, l_2000, nI_is0, nI_is1, nI_le0, n0_le, nI_lt0, n0_lt, nI_lt1, m1_nI, oI_m1, oI_nI, nI_oI, oI_oI, bI_is0, bI_is1, a4, b1]
    repeat' (first | with_reducible apply And.intro | with_reducible intro _)
    all_goals try omega
    · rename_i z1 z2
      rw [decide_eq_false z2, Bool.or_false] at ih1
      refine AJ.blk bX8_cond_67 ?_
      simp (disch := omega) only [wp, p1, p2, q1, q2, r1, ri, fR, sI, sJ, sR, d1, d2, ct1, ldI, ldL, ldR, rq, noL, brc, vI, vL, vR, List.getElem?_cons_zero, List.getElem?_cons_succ, List.getElem?_nil, List.set_cons_zero, List.set_cons_succ, List.set_nil, List.length_cons, List.length_nil, List.length_set, List.cons_append, List.nil_append, Nat.reduceDiv, Nat.reduceMod, Nat.reduceAdd, Nat.reduceMul, Nat.reduceSub, Nat.reduceLT, Nat.reduceEqDiff, Int.reduceToNat, Int32.reduceOfInt, Int64.reduceOfInt, reduceIte, true_and, and_true, reduceCtorEq, not_false_eq_true, Nat.lt_add_one, Nat.zero_lt_succ, Nat.zero_lt_one, Option.toList_some, Option.toList_none, imp_self, forall_const, true_or, or_true, eq_self, i1_0, i0_1, im_0, u3_same, u3_g, u3_j, u3_i, false_or, or_false, not_true_eq_false, false_implies, CC_0, CC_1, CC_2, CC_3, CC_4, CC_5, CC_6, CC_7, CC_8, CC_10, CC_11, CC_12, CC_13, CC_14, CC_15, CC_16, CC_17, CC_18, CC_19, CC_20, CC_21, CC_22, CC_23, CC_24, CC_25, CC_26, CC_27, CC_30, CC_31, CC_32, CC_33, CC_34, CC_35, CC_36, CC_37, CC_38, CC_39, CC_40, CC_41, CC_42, CC_43, CC_44, CC_45, CC_46, CC_47, CC_48, CC_49, CC_50, CC_51, CC_52, CC_53, CC_54, CC_55, CC_56, CC_57, CC_58, CC_59, CC_60, PP_0_5, PP_0_6, PP_0_7, PP_1_1, PP_2_0, PP_2_1, PP_3_6, PP_4_2, PP_4_3, PP_5_0, PP_6_0, PP_6_1, PP_6_2, PP_7_0, PP_7_2, PP_7_4, PP_7_5, PP_7_8, PP_7_9, PP_7_11, PP_8_1, PP_8_3, PP_8_5, PP_8_6, PP_8_7, PP_8_8, PP_8_9, PP_8_19, PP_8_20, PP_8_21, PP_8_22, PP_8_23, PP_8_24, PP_8_25, PP_8_26, PP_8_27, PP_8_28, PP_8_29, PP_8_30, PP_8_31, PP_8_33, PP_8_34, PP_8_35, PP_8_39, PP_8_40, PP_8_41, PP_8_42, PP_8_43, PP_8_44, PP_8_51, PP_8_52, PP_2_2, PP_7_6, arN_10, arN_11, arN_12, arN_13, arN_14, arN_16, arN_17, arN_18, arN_19, arN_20, arN_21, arN_22, arN_26, arN_27, arN_30, arN_31, arN_32, arN_33, arN_34, arN_35, arN_36, arN_37, arN_38, arN_39, arN_40, arN_41, arN_42, arN_43, arN_44, arN_45, arN_46, arN_47, arN_48, arN_49, arN_50, arN_51, arN_52, arN_53, arN_54, arN_55, arN_56, arN_57, arN_58, arN_59, arN_60, arE_15, arE_23, arE_24, arE_25, nI_leI, nI_ltI, nI_eq, nI_toInt, nI_clamp, PP_15, PP_23, PP_24, PP_25, nI_add, pk_mul, pk_div, pk_sub, nI_1, n1_add, nI_or, shl1, l_2, l_3, l_4, l_5, l_6, l_7, l_8, l_15, l_16, l_20, l_64, l_100, l_255, l_300, l_800, l_1000, l_2000, nI_is0, nI_is1, nI_le0, n0_le, nI_lt0, n0_lt, nI_lt1, m1_nI, oI_m1, oI_nI, nI_oI, oI_oI, bI_is0, bI_is1]
      exact ih1 I1 hS hP
    · rename_i z1 z2
      rw [decide_eq_true z2, Bool.or_true, if_pos rfl] at ih1
      have hW2 : NW (if dupB ρ k c i = true then pW S 3 t ρ1 else ρ1) := by
        split
        · exact hW.w (by decide) (hB.1 t).2.1
        · exact hW
      have eW : pW S 3 t (if dupB ρ k c i = true then pW S 3 t ρ1 else ρ1) = pW S 3 t ρ1 := by
        split
        · exact pW_i
        · rfl
      refine AJ.cV sX8_cond_64 (c8_wrong sw hP hW2 rfl (by decide) ht h33b (hB.1 t).2.1) rfl rfl ⟨rfl, Nat.le_of_ble_eq_true rfl, Nat.le_of_ble_eq_true rfl, Nat.le_of_ble_eq_true rfl⟩ (Nat.le_of_ble_eq_true rfl) (Nat.le_of_ble_eq_true rfl) ?_
      rintro _ I2 _ _ ⟨rfl, rfl, rfl, hs, hr⟩
      simp only [Option.toList_some, Option.toList_none, List.cons_append, List.nil_append, Nat.reduceAdd]
      rw [pR_l, eW] at hr
      refine AJ.blk bX8_cond_67 ?_
      simp (disch := omega) only [wp, p1, p2, q1, q2, r1, ri, fR, sI, sJ, sR, d1, d2, ct1, ldI, ldL, ldR, rq, noL, brc, vI, vL, vR, List.getElem?_cons_zero, List.getElem?_cons_succ, List.getElem?_nil, List.set_cons_zero, List.set_cons_succ, List.set_nil, List.length_cons, List.length_nil, List.length_set, List.cons_append, List.nil_append, Nat.reduceDiv, Nat.reduceMod, Nat.reduceAdd, Nat.reduceMul, Nat.reduceSub, Nat.reduceLT, Nat.reduceEqDiff, Int.reduceToNat, Int32.reduceOfInt, Int64.reduceOfInt, reduceIte, true_and, and_true, reduceCtorEq, not_false_eq_true, Nat.lt_add_one, Nat.zero_lt_succ, Nat.zero_lt_one, Option.toList_some, Option.toList_none, imp_self, forall_const, true_or, or_true, eq_self, i1_0, i0_1, im_0, u3_same, u3_g, u3_j, u3_i, false_or, or_false, not_true_eq_false, false_implies, CC_0, CC_1, CC_2, CC_3, CC_4, CC_5, CC_6, CC_7, CC_8, CC_10, CC_11, CC_12, CC_13, CC_14, CC_15, CC_16, CC_17, CC_18, CC_19, CC_20, CC_21, CC_22, CC_23, CC_24, CC_25, CC_26, CC_27, CC_30, CC_31, CC_32, CC_33, CC_34, CC_35, CC_36, CC_37, CC_38, CC_39, CC_40, CC_41, CC_42, CC_43, CC_44, CC_45, CC_46, CC_47, CC_48, CC_49, CC_50, CC_51, CC_52, CC_53, CC_54, CC_55, CC_56, CC_57, CC_58, CC_59, CC_60, PP_0_5, PP_0_6, PP_0_7, PP_1_1, PP_2_0, PP_2_1, PP_3_6, PP_4_2, PP_4_3, PP_5_0, PP_6_0, PP_6_1, PP_6_2, PP_7_0, PP_7_2, PP_7_4, PP_7_5, PP_7_8, PP_7_9, PP_7_11, PP_8_1, PP_8_3, PP_8_5, PP_8_6, PP_8_7, PP_8_8, PP_8_9, PP_8_19, PP_8_20, PP_8_21, PP_8_22, PP_8_23, PP_8_24, PP_8_25, PP_8_26, PP_8_27, PP_8_28, PP_8_29, PP_8_30, PP_8_31, PP_8_33, PP_8_34, PP_8_35, PP_8_39, PP_8_40, PP_8_41, PP_8_42, PP_8_43, PP_8_44, PP_8_51, PP_8_52, PP_2_2, PP_7_6, arN_10, arN_11, arN_12, arN_13, arN_14, arN_16, arN_17, arN_18, arN_19, arN_20, arN_21, arN_22, arN_26, arN_27, arN_30, arN_31, arN_32, arN_33, arN_34, arN_35, arN_36, arN_37, arN_38, arN_39, arN_40, arN_41, arN_42, arN_43, arN_44, arN_45, arN_46, arN_47, arN_48, arN_49, arN_50, arN_51, arN_52, arN_53, arN_54, arN_55, arN_56, arN_57, arN_58, arN_59, arN_60, arE_15, arE_23, arE_24, arE_25, nI_leI, nI_ltI, nI_eq, nI_toInt, nI_clamp, PP_15, PP_23, PP_24, PP_25, nI_add, pk_mul, pk_div, pk_sub, nI_1, n1_add, nI_or, shl1, l_2, l_3, l_4, l_5, l_6, l_7, l_8, l_15, l_16, l_20, l_64, l_100, l_255, l_300, l_800, l_1000, l_2000, nI_is0, nI_is1, nI_le0, n0_le, nI_lt0, n0_lt, nI_lt1, m1_nI, oI_m1, oI_nI, nI_oI, oI_oI, bI_is0, bI_is1]
      exact ih1 I2 (hS.tr hs) hr
theorem bX8_cond_135s : Blk cX8_cond 8 none false 135 [(.iconst 4, 1), (.iload 1, 1), (.imul, 1), (.aload 0, 1), (.getstatic 535, 3), (.iload 1, 1), (.iaload, 1), (.iadd, 1), (.istore 6, 2)] = true := by decide +kernel
theorem bX8_cond_147s : Blk cX8_cond 8 none false 147 [(.aload 0, 1), (.getstatic 536, 3), (.iload 6, 2), (.iload 3, 1), (.iastore, 1)] = true := by decide +kernel
theorem bX8_cond_155s : Blk cX8_cond 8 none false 155 [(.aload 0, 1), (.getstatic 537, 3), (.iload 6, 2), (.iload 4, 2), (.castore, 1)] = true := by decide +kernel
theorem bX8_cond_164s : Blk cX8_cond 8 none false 164 [(.aload 0, 1), (.getstatic 538, 3), (.iload 6, 2), (.iload 5, 2), (.iastore, 1)] = true := by decide +kernel
theorem bX8_cond_173s : Blk cX8_cond 8 none false 173 [(.aload 0, 1), (.getstatic 535, 3), (.iload 1, 1), (.dup2, 1), (.iaload, 1), (.iconst 1, 1), (.iadd, 1), (.iastore, 1), (.return_, 1)] = true := by decide +kernel
theorem l8_store (sw : Nat) {sd k : Nat} (hsd : sd ≤ 1) (hk : k < 8) {ρ : St} (hM : MRd ρ sd I k) (hD : DB ρ k) (h4 : ρ 13 k < 4) (hP : PM ρ I) {I0 : hI} (hS0 : dS (8 * sd + k) I0 I) {c s v : Nat} {x2 : Int32} (hs : s ≤ 1) : jX8_cond (qN CC (dF (.inl (pStore k c s v ρ)) sd k I0 J (PP sw))) 135 [some (vR 8 0), some (vI (nI (8 * sd + k))), some (vI x2), some (vI (nI c)), some (vI (nI s)), some (vI (nI v)), none] [] I J (PP sw) := by
  have hM0 := hM
  obtain ⟨a1, a2, a3, a4, a5, a6, a7, a8, a9⟩ := hM
  obtain ⟨w1, w2, w3⟩ := hD
  have nbs : vp_nar .boolean (nI s) = nI s := by
    rcases (show s = 0 ∨ s = 1 by omega) with rfl | rfl
    · exact nb0
    · exact nb1
  refine AJ.blk bX8_cond_135s ?_
  simp (disch := omega) only [wp, p1, p2, q1, q2, r1, ri, fR, sI, sJ, sR, d1, d2, ct1, ldI, ldL, ldR, rq, noL, brc, vI, vL, vR, List.getElem?_cons_zero, List.getElem?_cons_succ, List.getElem?_nil, List.set_cons_zero, List.set_cons_succ, List.set_nil, List.length_cons, List.length_nil, List.length_set, List.cons_append, List.nil_append, Nat.reduceDiv, Nat.reduceMod, Nat.reduceAdd, Nat.reduceMul, Nat.reduceSub, Nat.reduceLT, Nat.reduceEqDiff, Int.reduceToNat, Int32.reduceOfInt, Int64.reduceOfInt, reduceIte, true_and, and_true, reduceCtorEq, not_false_eq_true, Nat.lt_add_one, Nat.zero_lt_succ, Nat.zero_lt_one, Option.toList_some, Option.toList_none, imp_self, forall_const, true_or, or_true, eq_self, i1_0, i0_1, im_0, u3_same, u3_g, u3_j, u3_i, false_or, or_false, not_true_eq_false, false_implies, CC_0, CC_1, CC_2, CC_3, CC_4, CC_5, CC_6, CC_7, CC_8, CC_10, CC_11, CC_12, CC_13, CC_14, CC_15, CC_16, CC_17, CC_18, CC_19, CC_20, CC_21, CC_22, CC_23, CC_24, CC_25, CC_26, CC_27, CC_30, CC_31, CC_32, CC_33, CC_34, CC_35, CC_36, CC_37, CC_38, CC_39, CC_40, CC_41, CC_42, CC_43, CC_44, CC_45, CC_46, CC_47, CC_48, CC_49, CC_50, CC_51, CC_52, CC_53, CC_54, CC_55, CC_56, CC_57, CC_58, CC_59, CC_60, PP_0_5, PP_0_6, PP_0_7, PP_1_1, PP_2_0, PP_2_1, PP_3_6, PP_4_2, PP_4_3, PP_5_0, PP_6_0, PP_6_1, PP_6_2, PP_7_0, PP_7_2, PP_7_4, PP_7_5, PP_7_8, PP_7_9, PP_7_11, PP_8_1, PP_8_3, PP_8_5, PP_8_6, PP_8_7, PP_8_8, PP_8_9, PP_8_19, PP_8_20, PP_8_21, PP_8_22, PP_8_23, PP_8_24, PP_8_25, PP_8_26, PP_8_27, PP_8_28, PP_8_29, PP_8_30, PP_8_31, PP_8_33, PP_8_34, PP_8_35, PP_8_39, PP_8_40, PP_8_41, PP_8_42, PP_8_43, PP_8_44, PP_8_51, PP_8_52, PP_2_2, PP_7_6, arN_10, arN_11, arN_12, arN_13, arN_14, arN_16, arN_17, arN_18, arN_19, arN_20, arN_21, arN_22, arN_26, arN_27, arN_30, arN_31, arN_32, arN_33, arN_34, arN_35, arN_36, arN_37, arN_38, arN_39, arN_40, arN_41, arN_42, arN_43, arN_44, arN_45, arN_46, arN_47, arN_48, arN_49, arN_50, arN_51, arN_52, arN_53, arN_54, arN_55, arN_56, arN_57, arN_58, arN_59, arN_60, arE_15, arE_23, arE_24, arE_25, nI_leI, nI_ltI, nI_eq, nI_toInt, nI_clamp, PP_15, PP_23, PP_24, PP_25, nI_add, pk_mul, pk_div, pk_sub, nI_1, n1_add, nI_or, shl1, l_2, l_3, l_4, l_5, l_6, l_7, l_8, l_15, l_16, l_20, l_64, l_100, l_255, l_300, l_800, l_1000, l_2000, nI_is0, nI_is1, nI_le0, n0_le, nI_lt0, n0_lt, nI_lt1, m1_nI, oI_m1, oI_nI, nI_oI, oI_oI, bI_is0, bI_is1, a4]
  repeat' (first | with_reducible apply And.intro | with_reducible intro _)
  all_goals try omega
  refine AJ.blk bX8_cond_147s ?_
  simp (disch := omega) only [wp, p1, p2, q1, q2, r1, ri, fR, sI, sJ, sR, d1, d2, ct1, ldI, ldL, ldR, rq, noL, brc, vI, vL, vR, List.getElem?_cons_zero, List.getElem?_cons_succ, List.getElem?_nil, List.set_cons_zero, List.set_cons_succ, List.set_nil, List.length_cons, List.length_nil, List.length_set, List.cons_append, List.nil_append, Nat.reduceDiv, Nat.reduceMod, Nat.reduceAdd, Nat.reduceMul, Nat.reduceSub, Nat.reduceLT, Nat.reduceEqDiff, Int.reduceToNat, Int32.reduceOfInt, Int64.reduceOfInt, reduceIte, true_and, and_true, reduceCtorEq, not_false_eq_true, Nat.lt_add_one, Nat.zero_lt_succ, Nat.zero_lt_one, Option.toList_some, Option.toList_none, imp_self, forall_const, true_or, or_true, eq_self, i1_0, i0_1, im_0, u3_same, u3_g, u3_j, u3_i, false_or, or_false, not_true_eq_false, false_implies, CC_0, CC_1, CC_2, CC_3, CC_4, CC_5, CC_6, CC_7, CC_8, CC_10, CC_11, CC_12, CC_13, CC_14, CC_15, CC_16, CC_17, CC_18, CC_19, CC_20, CC_21, CC_22, CC_23, CC_24, CC_25, CC_26, CC_27, CC_30, CC_31, CC_32, CC_33, CC_34, CC_35, CC_36, CC_37, CC_38, CC_39, CC_40, CC_41, CC_42, CC_43, CC_44, CC_45, CC_46, CC_47, CC_48, CC_49, CC_50, CC_51, CC_52, CC_53, CC_54, CC_55, CC_56, CC_57, CC_58, CC_59, CC_60, PP_0_5, PP_0_6, PP_0_7, PP_1_1, PP_2_0, PP_2_1, PP_3_6, PP_4_2, PP_4_3, PP_5_0, PP_6_0, PP_6_1, PP_6_2, PP_7_0, PP_7_2, PP_7_4, PP_7_5, PP_7_8, PP_7_9, PP_7_11, PP_8_1, PP_8_3, PP_8_5, PP_8_6, PP_8_7, PP_8_8, PP_8_9, PP_8_19, PP_8_20, PP_8_21, PP_8_22, PP_8_23, PP_8_24, PP_8_25, PP_8_26, PP_8_27, PP_8_28, PP_8_29, PP_8_30, PP_8_31, PP_8_33, PP_8_34, PP_8_35, PP_8_39, PP_8_40, PP_8_41, PP_8_42, PP_8_43, PP_8_44, PP_8_51, PP_8_52, PP_2_2, PP_7_6, arN_10, arN_11, arN_12, arN_13, arN_14, arN_16, arN_17, arN_18, arN_19, arN_20, arN_21, arN_22, arN_26, arN_27, arN_30, arN_31, arN_32, arN_33, arN_34, arN_35, arN_36, arN_37, arN_38, arN_39, arN_40, arN_41, arN_42, arN_43, arN_44, arN_45, arN_46, arN_47, arN_48, arN_49, arN_50, arN_51, arN_52, arN_53, arN_54, arN_55, arN_56, arN_57, arN_58, arN_59, arN_60, arE_15, arE_23, arE_24, arE_25, nI_leI, nI_ltI, nI_eq, nI_toInt, nI_clamp, PP_15, PP_23, PP_24, PP_25]
  repeat' (first | with_reducible apply And.intro | with_reducible intro _)
  all_goals try omega
  refine AJ.blk bX8_cond_155s ?_
  simp (disch := omega) only [wp, p1, p2, q1, q2, r1, ri, fR, sI, sJ, sR, d1, d2, ct1, ldI, ldL, ldR, rq, noL, brc, vI, vL, vR, List.getElem?_cons_zero, List.getElem?_cons_succ, List.getElem?_nil, List.set_cons_zero, List.set_cons_succ, List.set_nil, List.length_cons, List.length_nil, List.length_set, List.cons_append, List.nil_append, Nat.reduceDiv, Nat.reduceMod, Nat.reduceAdd, Nat.reduceMul, Nat.reduceSub, Nat.reduceLT, Nat.reduceEqDiff, Int.reduceToNat, Int32.reduceOfInt, Int64.reduceOfInt, reduceIte, true_and, and_true, reduceCtorEq, not_false_eq_true, Nat.lt_add_one, Nat.zero_lt_succ, Nat.zero_lt_one, Option.toList_some, Option.toList_none, imp_self, forall_const, true_or, or_true, eq_self, i1_0, i0_1, im_0, u3_same, u3_g, u3_j, u3_i, false_or, or_false, not_true_eq_false, false_implies, CC_0, CC_1, CC_2, CC_3, CC_4, CC_5, CC_6, CC_7, CC_8, CC_10, CC_11, CC_12, CC_13, CC_14, CC_15, CC_16, CC_17, CC_18, CC_19, CC_20, CC_21, CC_22, CC_23, CC_24, CC_25, CC_26, CC_27, CC_30, CC_31, CC_32, CC_33, CC_34, CC_35, CC_36, CC_37, CC_38, CC_39, CC_40, CC_41, CC_42, CC_43, CC_44, CC_45, CC_46, CC_47, CC_48, CC_49, CC_50, CC_51, CC_52, CC_53, CC_54, CC_55, CC_56, CC_57, CC_58, CC_59, CC_60, PP_0_5, PP_0_6, PP_0_7, PP_1_1, PP_2_0, PP_2_1, PP_3_6, PP_4_2, PP_4_3, PP_5_0, PP_6_0, PP_6_1, PP_6_2, PP_7_0, PP_7_2, PP_7_4, PP_7_5, PP_7_8, PP_7_9, PP_7_11, PP_8_1, PP_8_3, PP_8_5, PP_8_6, PP_8_7, PP_8_8, PP_8_9, PP_8_19, PP_8_20, PP_8_21, PP_8_22, PP_8_23, PP_8_24, PP_8_25, PP_8_26, PP_8_27, PP_8_28, PP_8_29, PP_8_30, PP_8_31, PP_8_33, PP_8_34, PP_8_35, PP_8_39, PP_8_40, PP_8_41, PP_8_42, PP_8_43, PP_8_44, PP_8_51, PP_8_52, PP_2_2, PP_7_6, arN_10, arN_11, arN_12, arN_13, arN_14, arN_16, arN_17, arN_18, arN_19, arN_20, arN_21, arN_22, arN_26, arN_27, arN_30, arN_31, arN_32, arN_33, arN_34, arN_35, arN_36, arN_37, arN_38, arN_39, arN_40, arN_41, arN_42, arN_43, arN_44, arN_45, arN_46, arN_47, arN_48, arN_49, arN_50, arN_51, arN_52, arN_53, arN_54, arN_55, arN_56, arN_57, arN_58, arN_59, arN_60, arE_15, arE_23, arE_24, arE_25, nI_leI, nI_ltI, nI_eq, nI_toInt, nI_clamp, PP_15, PP_23, PP_24, PP_25, nbs]
  repeat' (first | with_reducible apply And.intro | with_reducible intro _)
  all_goals try omega
  refine AJ.blk bX8_cond_164s ?_
  simp (disch := omega) only [wp, p1, p2, q1, q2, r1, ri, fR, sI, sJ, sR, d1, d2, ct1, ldI, ldL, ldR, rq, noL, brc, vI, vL, vR, List.getElem?_cons_zero, List.getElem?_cons_succ, List.getElem?_nil, List.set_cons_zero, List.set_cons_succ, List.set_nil, List.length_cons, List.length_nil, List.length_set, List.cons_append, List.nil_append, Nat.reduceDiv, Nat.reduceMod, Nat.reduceAdd, Nat.reduceMul, Nat.reduceSub, Nat.reduceLT, Nat.reduceEqDiff, Int.reduceToNat, Int32.reduceOfInt, Int64.reduceOfInt, reduceIte, true_and, and_true, reduceCtorEq, not_false_eq_true, Nat.lt_add_one, Nat.zero_lt_succ, Nat.zero_lt_one, Option.toList_some, Option.toList_none, imp_self, forall_const, true_or, or_true, eq_self, i1_0, i0_1, im_0, u3_same, u3_g, u3_j, u3_i, false_or, or_false, not_true_eq_false, false_implies, CC_0, CC_1, CC_2, CC_3, CC_4, CC_5, CC_6, CC_7, CC_8, CC_10, CC_11, CC_12, CC_13, CC_14, CC_15, CC_16, CC_17, CC_18, CC_19, CC_20, CC_21, CC_22, CC_23, CC_24, CC_25, CC_26, CC_27, CC_30, CC_31, CC_32, CC_33, CC_34, CC_35, CC_36, CC_37, CC_38, CC_39, CC_40, CC_41, CC_42, CC_43, CC_44, CC_45, CC_46, CC_47, CC_48, CC_49, CC_50, CC_51, CC_52, CC_53, CC_54, CC_55, CC_56, CC_57, CC_58, CC_59, CC_60, PP_0_5, PP_0_6, PP_0_7, PP_1_1, PP_2_0, PP_2_1, PP_3_6, PP_4_2, PP_4_3, PP_5_0, PP_6_0, PP_6_1, PP_6_2, PP_7_0, PP_7_2, PP_7_4, PP_7_5, PP_7_8, PP_7_9, PP_7_11, PP_8_1, PP_8_3, PP_8_5, PP_8_6, PP_8_7, PP_8_8, PP_8_9, PP_8_19, PP_8_20, PP_8_21, PP_8_22, PP_8_23, PP_8_24, PP_8_25, PP_8_26, PP_8_27, PP_8_28, PP_8_29, PP_8_30, PP_8_31, PP_8_33, PP_8_34, PP_8_35, PP_8_39, PP_8_40, PP_8_41, PP_8_42, PP_8_43, PP_8_44, PP_8_51, PP_8_52, PP_2_2, PP_7_6, arN_10, arN_11, arN_12, arN_13, arN_14, arN_16, arN_17, arN_18, arN_19, arN_20, arN_21, arN_22, arN_26, arN_27, arN_30, arN_31, arN_32, arN_33, arN_34, arN_35, arN_36, arN_37, arN_38, arN_39, arN_40, arN_41, arN_42, arN_43, arN_44, arN_45, arN_46, arN_47, arN_48, arN_49, arN_50, arN_51, arN_52, arN_53, arN_54, arN_55, arN_56, arN_57, arN_58, arN_59, arN_60, arE_15, arE_23, arE_24, arE_25, nI_leI, nI_ltI, nI_eq, nI_toInt, nI_clamp, PP_15, PP_23, PP_24, PP_25]
  repeat' (first | with_reducible apply And.intro | with_reducible intro _)
  all_goals try omega
  refine AJ.blk bX8_cond_173s ?_
  simp (disch := omega) only [wp, p1, p2, q1, q2, r1, ri, fR, sI, sJ, sR, d1, d2, ct1, ldI, ldL, ldR, rq, noL, brc, vI, vL, vR, List.getElem?_cons_zero, List.getElem?_cons_succ, List.getElem?_nil, List.set_cons_zero, List.set_cons_succ, List.set_nil, List.length_cons, List.length_nil, List.length_set, List.cons_append, List.nil_append, Nat.reduceDiv, Nat.reduceMod, Nat.reduceAdd, Nat.reduceMul, Nat.reduceSub, Nat.reduceLT, Nat.reduceEqDiff, Int.reduceToNat, Int32.reduceOfInt, Int64.reduceOfInt, reduceIte, true_and, and_true, reduceCtorEq, not_false_eq_true, Nat.lt_add_one, Nat.zero_lt_succ, Nat.zero_lt_one, Option.toList_some, Option.toList_none, imp_self, forall_const, true_or, or_true, eq_self, i1_0, i0_1, im_0, u3_same, u3_g, u3_j, u3_i, false_or, or_false, not_true_eq_false, false_implies, CC_0, CC_1, CC_2, CC_3, CC_4, CC_5, CC_6, CC_7, CC_8, CC_10, CC_11, CC_12, CC_13, CC_14, CC_15, CC_16, CC_17, CC_18, CC_19, CC_20, CC_21, CC_22, CC_23, CC_24, CC_25, CC_26, CC_27, CC_30, CC_31, CC_32, CC_33, CC_34, CC_35, CC_36, CC_37, CC_38, CC_39, CC_40, CC_41, CC_42, CC_43, CC_44, CC_45, CC_46, CC_47, CC_48, CC_49, CC_50, CC_51, CC_52, CC_53, CC_54, CC_55, CC_56, CC_57, CC_58, CC_59, CC_60, PP_0_5, PP_0_6, PP_0_7, PP_1_1, PP_2_0, PP_2_1, PP_3_6, PP_4_2, PP_4_3, PP_5_0, PP_6_0, PP_6_1, PP_6_2, PP_7_0, PP_7_2, PP_7_4, PP_7_5, PP_7_8, PP_7_9, PP_7_11, PP_8_1, PP_8_3, PP_8_5, PP_8_6, PP_8_7, PP_8_8, PP_8_9, PP_8_19, PP_8_20, PP_8_21, PP_8_22, PP_8_23, PP_8_24, PP_8_25, PP_8_26, PP_8_27, PP_8_28, PP_8_29, PP_8_30, PP_8_31, PP_8_33, PP_8_34, PP_8_35, PP_8_39, PP_8_40, PP_8_41, PP_8_42, PP_8_43, PP_8_44, PP_8_51, PP_8_52, PP_2_2, PP_7_6, arN_10, arN_11, arN_12, arN_13, arN_14, arN_16, arN_17, arN_18, arN_19, arN_20, arN_21, arN_22, arN_26, arN_27, arN_30, arN_31, arN_32, arN_33, arN_34, arN_35, arN_36, arN_37, arN_38, arN_39, arN_40, arN_41, arN_42, arN_43, arN_44, arN_45, arN_46, arN_47, arN_48, arN_49, arN_50, arN_51, arN_52, arN_53, arN_54, arN_55, arN_56, arN_57, arN_58, arN_59, arN_60, arE_15, arE_23, arE_24, arE_25, nI_leI, nI_ltI, nI_eq, nI_toInt, nI_clamp, PP_15, PP_23, PP_24, PP_25, a4, nI_1]
  repeat' (first | with_reducible apply And.intro | with_reducible intro _)
  all_goals try omega
  have eB : ∀ i, ¬ i = ρ 13 k → ¬ 4 * (8 * sd + k) + i = 4 * (8 * sd + k) + ρ 13 k := fun i hi => by omega
  have eC : ∀ i, ¬ i = ρ 13 k → ¬ 4 * k + i = 4 * k + ρ 13 k := fun i hi => by omega
  refine qN.mk ⟨rfl, rfl, rfl, (((hS0.put ?_).put ?_).put ?_).put ?_, ?_, fun a ha => ?_⟩
  · unfold inD; omega
  · unfold inD; omega
  · unfold inD; omega
  · unfold inD; omega
  · obtain ⟨p1, p2, p3, p4⟩ := hP
    exact ⟨by simpa [u3_g, pStore, uS] using p1, by simpa [u3_g, pStore, uS] using p2, by simpa [u3_g, pStore, uS] using p3, fun z => by simpa [u3_g, pStore, uS] using p4 (by simpa [pStore, uS] using z)⟩
  · obtain rfl := Sum.inl.inj ha
    refine ⟨?_, ?_, ?_, ?_, fun i hi => ?_, ?_, fun z => ?_, ?_, ?_⟩
    · simpa [u3_g, pStore, uS] using a1
    · simpa [u3_g, pStore, uS] using a2
    · simpa [u3_g, pStore, uS] using a3
    · simp [u3_same, pStore, uS]
    · have hi : i < ρ 13 k + 1 := by simpa [pStore, uS] using hi
      by_cases q : i = ρ 13 k
      · subst q
        simp [u3_g, u3_same, pStore, uS]
      · have := a5 i (by omega)
        simpa [u3_g, u3_j, q, pStore, uS] using this
    · simpa [u3_g, pStore, uS] using a6
    · have := a7 (by simpa [pStore, uS] using z)
      simpa [u3_g, pStore, uS] using this
    · simpa [u3_g, pStore, uS] using a8
    · simpa [u3_g, pStore, uS] using a9
end PM3
