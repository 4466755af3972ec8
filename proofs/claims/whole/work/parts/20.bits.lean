/-! bits of a set, sums over its members -/
abbrev bt (set : Int32) (m : Nat) : Prop := set >>> (nI m &&& 31) &&& 1 = 1
theorem and1 (x : Int32) : x &&& 1 = 0 ∨ x &&& 1 = 1 := by
  have h : (x &&& 1).toBitVec = 0#32 ∨ (x &&& 1).toBitVec = 1#32 := by
    have e : (x &&& 1).toBitVec = x.toBitVec &&& 1#32 := by simp
    rw [e]
    generalize x.toBitVec = b
    have h2 := BitVec.toNat_and b 1#32
    have h3 : (b &&& 1#32).toNat = b.toNat % 2 := by rw [h2]; exact Nat.and_one_is_mod _
    rcases Nat.mod_two_eq_zero_or_one b.toNat with q | q
    · left; exact BitVec.eq_of_toNat_eq (by rw [h3, q]; rfl)
    · right; exact BitVec.eq_of_toNat_eq (by rw [h3, q]; rfl)
  rcases h with h | h
  · left; exact Int32.toBitVec_inj.mp (by rw [h]; rfl)
  · right; exact Int32.toBitVec_inj.mp (by rw [h]; rfl)
theorem bt_ne {set : Int32} {m : Nat} (h : ¬ set >>> (nI m &&& 31) &&& 1 = 0) : bt set m := (and1 _).resolve_left h
def sumB (f : Nat → Int32) (set : Int32) : Nat → Int32
  | 0 => 0
  | m + 1 => sumB f set m + (if bt set m then f m else 0)
theorem sumB_t {f : Nat → Int32} {set : Int32} {m : Nat} (h : bt set m) : sumB f set (m + 1) = sumB f set m + f m := by rw [sumB, if_pos h]
theorem sumB_f {f : Nat → Int32} {set : Int32} {m : Nat} (h : ¬ bt set m) : sumB f set (m + 1) = sumB f set m := by rw [sumB, if_neg h, Int32.add_zero]
/-! TunerGameModel.roomOf -/
theorem l8_roomOf (I : hI) (J : hJ) (sw nM : Nat) (set : Int32) (hM : I 8 0 38 = nI nM) (hn : nM ≤ 8) : ∀ n m : Nat, m + n = nM → jX8_roomOf (qN CC (eq4 (some (vI (I 8 0 36 + sumB (I 57 0) set nM))) I J (PP sw))) 7 [some (vR 8 0), some (vI set), some (vI (I 8 0 36 + sumB (I 57 0) set m)), some (vI (nI m))] [] I J (PP sw) := by
  intro n
  induction n with
  | zero =>
    intro m hm
    obtain rfl : m = nM := by omega
    refine AJ.blk bX8_roomOf_7 ?_
    simp only [wp, p1, p2, q1, q2, r1, ri, fR, sI, sJ, sR, d1, d2, ct1, ldI, ldL, ldR, rq, noL, brc, vI, vL, vR, List.getElem?_cons_zero, List.getElem?_cons_succ, List.getElem?_nil, List.set_cons_zero, List.set_cons_succ, List.set_nil, List.length_cons, List.length_nil, List.length_set, List.cons_append, List.nil_append, Nat.reduceDiv, Nat.reduceMod, Nat.reduceAdd, Nat.reduceMul, Nat.reduceSub, Nat.reduceLT, Nat.reduceEqDiff, Int.reduceToNat, Int32.reduceOfInt, Int64.reduceOfInt, reduceIte, true_and, and_true, reduceCtorEq, not_false_eq_true, Nat.lt_add_one, Nat.zero_lt_succ, Nat.zero_lt_one, Option.toList_some, Option.toList_none, imp_self, forall_const, CC_0, CC_1, CC_2, CC_3, CC_4, CC_5, CC_6, CC_7, CC_8, CC_10, CC_11, CC_12, CC_13, CC_14, CC_15, CC_16, CC_17, CC_18, CC_19, CC_20, CC_21, CC_22, CC_23, CC_24, CC_25, CC_26, CC_27, CC_30, CC_31, CC_32, CC_33, CC_34, CC_35, CC_36, CC_37, CC_38, CC_39, CC_40, CC_41, CC_42, CC_43, CC_44, CC_45, CC_46, CC_47, CC_48, CC_49, CC_50, CC_51, CC_52, CC_53, CC_54, CC_55, CC_56, CC_57, CC_58, CC_59, CC_60, PP_0_5, PP_0_6, PP_0_7, PP_1_1, PP_2_0, PP_2_1, PP_3_6, PP_4_2, PP_4_3, PP_5_0, PP_6_0, PP_6_1, PP_6_2, PP_7_0, PP_7_2, PP_7_4, PP_7_5, PP_7_8, PP_7_9, PP_7_11, PP_8_1, PP_8_3, PP_8_5, PP_8_6, PP_8_7, PP_8_8, PP_8_9, PP_8_19, PP_8_20, PP_8_21, PP_8_22, PP_8_23, PP_8_24, PP_8_25, PP_8_26, PP_8_27, PP_8_28, PP_8_29, PP_8_30, PP_8_31, PP_8_33, PP_8_34, PP_8_35, PP_8_39, PP_8_40, PP_8_41, PP_8_42, PP_8_43, PP_8_44, PP_8_51, PP_8_52, PP_2_2, PP_7_6, arN_10, arN_11, arN_12, arN_13, arN_14, arN_16, arN_17, arN_18, arN_19, arN_20, arN_21, arN_22, arN_26, arN_27, arN_30, arN_31, arN_32, arN_33, arN_34, arN_35, arN_36, arN_37, arN_38, arN_39, arN_40, arN_41, arN_42, arN_43, arN_44, arN_45, arN_46, arN_47, arN_48, arN_49, arN_50, arN_51, arN_52, arN_53, arN_54, arN_55, arN_56, arN_57, arN_58, arN_59, arN_60, arE_15, arE_23, arE_24, arE_25, hM]
    trace_state
    sorry
  | succ n ih =>
    intro m hm
    refine AJ.blk bX8_roomOf_7 ?_
    simp only [wp, p1, p2, q1, q2, r1, ri, fR, sI, sJ, sR, d1, d2, ct1, ldI, ldL, ldR, rq, noL, brc, vI, vL, vR, List.getElem?_cons_zero, List.getElem?_cons_succ, List.getElem?_nil, List.set_cons_zero, List.set_cons_succ, List.set_nil, List.length_cons, List.length_nil, List.length_set, List.cons_append, List.nil_append, Nat.reduceDiv, Nat.reduceMod, Nat.reduceAdd, Nat.reduceMul, Nat.reduceSub, Nat.reduceLT, Nat.reduceEqDiff, Int.reduceToNat, Int32.reduceOfInt, Int64.reduceOfInt, reduceIte, true_and, and_true, reduceCtorEq, not_false_eq_true, Nat.lt_add_one, Nat.zero_lt_succ, Nat.zero_lt_one, Option.toList_some, Option.toList_none, imp_self, forall_const, CC_0, CC_1, CC_2, CC_3, CC_4, CC_5, CC_6, CC_7, CC_8, CC_10, CC_11, CC_12, CC_13, CC_14, CC_15, CC_16, CC_17, CC_18, CC_19, CC_20, CC_21, CC_22, CC_23, CC_24, CC_25, CC_26, CC_27, CC_30, CC_31, CC_32, CC_33, CC_34, CC_35, CC_36, CC_37, CC_38, CC_39, CC_40, CC_41, CC_42, CC_43, CC_44, CC_45, CC_46, CC_47, CC_48, CC_49, CC_50, CC_51, CC_52, CC_53, CC_54, CC_55, CC_56, CC_57, CC_58, CC_59, CC_60, PP_0_5, PP_0_6, PP_0_7, PP_1_1, PP_2_0, PP_2_1, PP_3_6, PP_4_2, PP_4_3, PP_5_0, PP_6_0, PP_6_1, PP_6_2, PP_7_0, PP_7_2, PP_7_4, PP_7_5, PP_7_8, PP_7_9, PP_7_11, PP_8_1, PP_8_3, PP_8_5, PP_8_6, PP_8_7, PP_8_8, PP_8_9, PP_8_19, PP_8_20, PP_8_21, PP_8_22, PP_8_23, PP_8_24, PP_8_25, PP_8_26, PP_8_27, PP_8_28, PP_8_29, PP_8_30, PP_8_31, PP_8_33, PP_8_34, PP_8_35, PP_8_39, PP_8_40, PP_8_41, PP_8_42, PP_8_43, PP_8_44, PP_8_51, PP_8_52, PP_2_2, PP_7_6, arN_10, arN_11, arN_12, arN_13, arN_14, arN_16, arN_17, arN_18, arN_19, arN_20, arN_21, arN_22, arN_26, arN_27, arN_30, arN_31, arN_32, arN_33, arN_34, arN_35, arN_36, arN_37, arN_38, arN_39, arN_40, arN_41, arN_42, arN_43, arN_44, arN_45, arN_46, arN_47, arN_48, arN_49, arN_50, arN_51, arN_52, arN_53, arN_54, arN_55, arN_56, arN_57, arN_58, arN_59, arN_60, arE_15, arE_23, arE_24, arE_25, hM]
    trace_state
    sorry
