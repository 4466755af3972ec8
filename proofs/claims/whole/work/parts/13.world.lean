def CC : hC := fun g => match g with
  | 0 => 16
  | 1 => 8
  | 2 => 1
  | 3 => 8
  | 4 => 4
  | 5 => 1
  | 6 => 1
  | 7 => 1
  | 8 => 1
  | 10 => 16
  | 11 => 16
  | 12 => 16
  | 13 => 8
  | 14 => 1
  | 15 => 2
  | 16 => 8
  | 17 => 4
  | 18 => 4
  | 19 => 1
  | 20 => 1
  | 21 => 1
  | 22 => 1
  | 23 => 1
  | 24 => 1
  | 25 => 1
  | 26 => 1
  | 27 => 1
  | 30 => 1
  | 31 => 1
  | 32 => 1
  | 33 => 1
  | 34 => 1
  | 35 => 1
  | 36 => 1
  | 37 => 1
  | 38 => 1
  | 39 => 1
  | 40 => 1
  | 41 => 1
  | 42 => 1
  | 43 => 1
  | 44 => 1
  | 45 => 1
  | 46 => 1
  | 47 => 1
  | 48 => 1
  | 49 => 1
  | 50 => 1
  | 51 => 1
  | 52 => 1
  | 53 => 1
  | 54 => 1
  | 55 => 1
  | 56 => 1
  | 57 => 1
  | 58 => 1
  | 59 => 1
  | 60 => 1
  | _ => 0
/-- sw: which of the two rows of DEEDS is the game's; the other is the parser's -/
def PP (sw : Nat) : hP := fun g i j => match g with
  | 0 => (match j with
    | 5 => some (10, i)
    | 6 => some (11, i)
    | 7 => some (12, i)
    | _ => none)
  | 1 => (match j with
    | 1 => some (13, i)
    | _ => none)
  | 2 => (match j with
    | 0 => some (14, i)
    | 1 => some (6, i)
    | 2 => some (15, 1 - sw)
    | _ => none)
  | 3 => (match j with
    | 6 => some (16, i)
    | _ => none)
  | 4 => (match j with
    | 2 => some (17, i)
    | 3 => some (18, i)
    | _ => none)
  | 5 => (match j with
    | 0 => some (19, i)
    | _ => none)
  | 6 => (match j with
    | 0 => some (20, i)
    | 1 => some (21, i)
    | 2 => some (22, i)
    | _ => none)
  | 7 => (match j with
    | 0 => some (23, i)
    | 2 => some (24, i)
    | 4 => some (5, i)
    | 5 => some (2, i)
    | 8 => some (25, i)
    | 9 => some (26, i)
    | 11 => some (27, i)
    | 6 => some (15, sw)
    | _ => none)
  | 8 => (match j with
    | 1 => some (30, i)
    | 3 => some (31, i)
    | 5 => some (32, i)
    | 6 => some (33, i)
    | 7 => some (34, i)
    | 8 => some (35, i)
    | 9 => some (36, i)
    | 19 => some (37, i)
    | 20 => some (38, i)
    | 21 => some (39, i)
    | 22 => some (40, i)
    | 23 => some (41, i)
    | 24 => some (42, i)
    | 25 => some (43, i)
    | 26 => some (44, i)
    | 27 => some (45, i)
    | 28 => some (46, i)
    | 29 => some (47, i)
    | 30 => some (48, i)
    | 31 => some (49, i)
    | 33 => some (50, i)
    | 34 => some (51, i)
    | 35 => some (52, i)
    | 39 => some (53, i)
    | 40 => some (54, i)
    | 41 => some (55, i)
    | 42 => some (56, i)
    | 43 => some (57, i)
    | 44 => some (58, i)
    | 51 => some (59, i)
    | 52 => some (60, i)
    | _ => none)
  | 15 => if j < 8 then some (0, 8 * i + j) else none
  | 23 => if j < 4 then some (4, j) else none
  | 24 => if j < 8 then some (1, j) else none
  | 25 => if j < 8 then some (3, j) else none
  | _ => none
theorem CC_0 : CC 0 = 16 := rfl
theorem CC_1 : CC 1 = 8 := rfl
theorem CC_2 : CC 2 = 1 := rfl
theorem CC_3 : CC 3 = 8 := rfl
theorem CC_4 : CC 4 = 4 := rfl
theorem CC_5 : CC 5 = 1 := rfl
theorem CC_6 : CC 6 = 1 := rfl
theorem CC_7 : CC 7 = 1 := rfl
theorem CC_8 : CC 8 = 1 := rfl
theorem CC_10 : CC 10 = 16 := rfl
theorem CC_11 : CC 11 = 16 := rfl
theorem CC_12 : CC 12 = 16 := rfl
theorem CC_13 : CC 13 = 8 := rfl
theorem CC_14 : CC 14 = 1 := rfl
theorem CC_15 : CC 15 = 2 := rfl
theorem CC_16 : CC 16 = 8 := rfl
theorem CC_17 : CC 17 = 4 := rfl
theorem CC_18 : CC 18 = 4 := rfl
theorem CC_19 : CC 19 = 1 := rfl
theorem CC_20 : CC 20 = 1 := rfl
theorem CC_21 : CC 21 = 1 := rfl
theorem CC_22 : CC 22 = 1 := rfl
theorem CC_23 : CC 23 = 1 := rfl
theorem CC_24 : CC 24 = 1 := rfl
theorem CC_25 : CC 25 = 1 := rfl
theorem CC_26 : CC 26 = 1 := rfl
theorem CC_27 : CC 27 = 1 := rfl
theorem CC_30 : CC 30 = 1 := rfl
theorem CC_31 : CC 31 = 1 := rfl
theorem CC_32 : CC 32 = 1 := rfl
theorem CC_33 : CC 33 = 1 := rfl
theorem CC_34 : CC 34 = 1 := rfl
theorem CC_35 : CC 35 = 1 := rfl
theorem CC_36 : CC 36 = 1 := rfl
theorem CC_37 : CC 37 = 1 := rfl
theorem CC_38 : CC 38 = 1 := rfl
theorem CC_39 : CC 39 = 1 := rfl
theorem CC_40 : CC 40 = 1 := rfl
theorem CC_41 : CC 41 = 1 := rfl
theorem CC_42 : CC 42 = 1 := rfl
theorem CC_43 : CC 43 = 1 := rfl
theorem CC_44 : CC 44 = 1 := rfl
theorem CC_45 : CC 45 = 1 := rfl
theorem CC_46 : CC 46 = 1 := rfl
theorem CC_47 : CC 47 = 1 := rfl
theorem CC_48 : CC 48 = 1 := rfl
theorem CC_49 : CC 49 = 1 := rfl
theorem CC_50 : CC 50 = 1 := rfl
theorem CC_51 : CC 51 = 1 := rfl
theorem CC_52 : CC 52 = 1 := rfl
theorem CC_53 : CC 53 = 1 := rfl
theorem CC_54 : CC 54 = 1 := rfl
theorem CC_55 : CC 55 = 1 := rfl
theorem CC_56 : CC 56 = 1 := rfl
theorem CC_57 : CC 57 = 1 := rfl
theorem CC_58 : CC 58 = 1 := rfl
theorem CC_59 : CC 59 = 1 := rfl
theorem CC_60 : CC 60 = 1 := rfl
theorem PP_0_5 (sw i : Nat) : PP sw 0 i 5 = some (10, i) := rfl
theorem PP_0_6 (sw i : Nat) : PP sw 0 i 6 = some (11, i) := rfl
theorem PP_0_7 (sw i : Nat) : PP sw 0 i 7 = some (12, i) := rfl
theorem PP_1_1 (sw i : Nat) : PP sw 1 i 1 = some (13, i) := rfl
theorem PP_2_0 (sw i : Nat) : PP sw 2 i 0 = some (14, i) := rfl
theorem PP_2_1 (sw i : Nat) : PP sw 2 i 1 = some (6, i) := rfl
theorem PP_3_6 (sw i : Nat) : PP sw 3 i 6 = some (16, i) := rfl
theorem PP_4_2 (sw i : Nat) : PP sw 4 i 2 = some (17, i) := rfl
theorem PP_4_3 (sw i : Nat) : PP sw 4 i 3 = some (18, i) := rfl
theorem PP_5_0 (sw i : Nat) : PP sw 5 i 0 = some (19, i) := rfl
theorem PP_6_0 (sw i : Nat) : PP sw 6 i 0 = some (20, i) := rfl
theorem PP_6_1 (sw i : Nat) : PP sw 6 i 1 = some (21, i) := rfl
theorem PP_6_2 (sw i : Nat) : PP sw 6 i 2 = some (22, i) := rfl
theorem PP_7_0 (sw i : Nat) : PP sw 7 i 0 = some (23, i) := rfl
theorem PP_7_2 (sw i : Nat) : PP sw 7 i 2 = some (24, i) := rfl
theorem PP_7_4 (sw i : Nat) : PP sw 7 i 4 = some (5, i) := rfl
theorem PP_7_5 (sw i : Nat) : PP sw 7 i 5 = some (2, i) := rfl
theorem PP_7_8 (sw i : Nat) : PP sw 7 i 8 = some (25, i) := rfl
theorem PP_7_9 (sw i : Nat) : PP sw 7 i 9 = some (26, i) := rfl
theorem PP_7_11 (sw i : Nat) : PP sw 7 i 11 = some (27, i) := rfl
theorem PP_8_1 (sw i : Nat) : PP sw 8 i 1 = some (30, i) := rfl
theorem PP_8_3 (sw i : Nat) : PP sw 8 i 3 = some (31, i) := rfl
theorem PP_8_5 (sw i : Nat) : PP sw 8 i 5 = some (32, i) := rfl
theorem PP_8_6 (sw i : Nat) : PP sw 8 i 6 = some (33, i) := rfl
theorem PP_8_7 (sw i : Nat) : PP sw 8 i 7 = some (34, i) := rfl
theorem PP_8_8 (sw i : Nat) : PP sw 8 i 8 = some (35, i) := rfl
theorem PP_8_9 (sw i : Nat) : PP sw 8 i 9 = some (36, i) := rfl
theorem PP_8_19 (sw i : Nat) : PP sw 8 i 19 = some (37, i) := rfl
theorem PP_8_20 (sw i : Nat) : PP sw 8 i 20 = some (38, i) := rfl
theorem PP_8_21 (sw i : Nat) : PP sw 8 i 21 = some (39, i) := rfl
theorem PP_8_22 (sw i : Nat) : PP sw 8 i 22 = some (40, i) := rfl
theorem PP_8_23 (sw i : Nat) : PP sw 8 i 23 = some (41, i) := rfl
theorem PP_8_24 (sw i : Nat) : PP sw 8 i 24 = some (42, i) := rfl
theorem PP_8_25 (sw i : Nat) : PP sw 8 i 25 = some (43, i) := rfl
theorem PP_8_26 (sw i : Nat) : PP sw 8 i 26 = some (44, i) := rfl
theorem PP_8_27 (sw i : Nat) : PP sw 8 i 27 = some (45, i) := rfl
theorem PP_8_28 (sw i : Nat) : PP sw 8 i 28 = some (46, i) := rfl
theorem PP_8_29 (sw i : Nat) : PP sw 8 i 29 = some (47, i) := rfl
theorem PP_8_30 (sw i : Nat) : PP sw 8 i 30 = some (48, i) := rfl
theorem PP_8_31 (sw i : Nat) : PP sw 8 i 31 = some (49, i) := rfl
theorem PP_8_33 (sw i : Nat) : PP sw 8 i 33 = some (50, i) := rfl
theorem PP_8_34 (sw i : Nat) : PP sw 8 i 34 = some (51, i) := rfl
theorem PP_8_35 (sw i : Nat) : PP sw 8 i 35 = some (52, i) := rfl
theorem PP_8_39 (sw i : Nat) : PP sw 8 i 39 = some (53, i) := rfl
theorem PP_8_40 (sw i : Nat) : PP sw 8 i 40 = some (54, i) := rfl
theorem PP_8_41 (sw i : Nat) : PP sw 8 i 41 = some (55, i) := rfl
theorem PP_8_42 (sw i : Nat) : PP sw 8 i 42 = some (56, i) := rfl
theorem PP_8_43 (sw i : Nat) : PP sw 8 i 43 = some (57, i) := rfl
theorem PP_8_44 (sw i : Nat) : PP sw 8 i 44 = some (58, i) := rfl
theorem PP_8_51 (sw i : Nat) : PP sw 8 i 51 = some (59, i) := rfl
theorem PP_8_52 (sw i : Nat) : PP sw 8 i 52 = some (60, i) := rfl
theorem PP_2_2 (sw i : Nat) : PP sw 2 i 2 = some (15, 1 - sw) := rfl
theorem PP_7_6 (sw i : Nat) : PP sw 7 i 6 = some (15, sw) := rfl
theorem PP_15 (sw i j : Nat) (h : j < 8) : PP sw 15 i j = some (0, 8 * i + j) := if_pos h
theorem PP_23 (sw i j : Nat) (h : j < 4) : PP sw 23 i j = some (4, j) := if_pos h
theorem PP_24 (sw i j : Nat) (h : j < 8) : PP sw 24 i j = some (1, j) := if_pos h
theorem PP_25 (sw i j : Nat) (h : j < 8) : PP sw 25 i j = some (3, j) := if_pos h
theorem arN_10 : arN .int 10 = 4 := by decide +kernel
theorem arN_11 : arN .boolean 11 = 4 := by decide +kernel
theorem arN_12 : arN .int 12 = 4 := by decide +kernel
theorem arN_13 : arN .int 13 = 3 := by decide +kernel
theorem arN_14 : arN .int 14 = 4 := by decide +kernel
theorem arN_16 : arN .int 16 = 8 := by decide +kernel
theorem arN_17 : arN .int 17 = 256 := by decide +kernel
theorem arN_18 : arN .int 18 = 64 := by decide +kernel
theorem arN_19 : arN .byte 19 = 2000 := by decide +kernel
theorem arN_20 : arN .int 20 = 301 := by decide +kernel
theorem arN_21 : arN .int 21 = 301 := by decide +kernel
theorem arN_22 : arN .int 22 = 301 := by decide +kernel
theorem arN_26 : arN .int 26 = 8 := by decide +kernel
theorem arN_27 : arN .int 27 = 8 := by decide +kernel
theorem arN_30 : arN .byte 30 = 2000 := by decide +kernel
theorem arN_31 : arN .byte 31 = 2000 := by decide +kernel
theorem arN_32 : arN .int 32 = 303 := by decide +kernel
theorem arN_33 : arN .int 33 = 303 := by decide +kernel
theorem arN_34 : arN .int 34 = 303 := by decide +kernel
theorem arN_35 : arN .long 35 = 303 := by decide +kernel
theorem arN_36 : arN .long 36 = 11 := by decide +kernel
theorem arN_37 : arN .int 37 = 2 := by decide +kernel
theorem arN_38 : arN .boolean 38 = 16 := by decide +kernel
theorem arN_39 : arN .int 39 = 16 := by decide +kernel
theorem arN_40 : arN .int 40 = 16 := by decide +kernel
theorem arN_41 : arN .int 41 = 16 := by decide +kernel
theorem arN_42 : arN .int 42 = 64 := by decide +kernel
theorem arN_43 : arN .boolean 43 = 64 := by decide +kernel
theorem arN_44 : arN .int 44 = 64 := by decide +kernel
theorem arN_45 : arN .int 45 = 16 := by decide +kernel
theorem arN_46 : arN .int 46 = 16 := by decide +kernel
theorem arN_47 : arN .int 47 = 16 := by decide +kernel
theorem arN_48 : arN .int 48 = 16 := by decide +kernel
theorem arN_49 : arN .int 49 = 16 := by decide +kernel
theorem arN_50 : arN .int 50 = 4 := by decide +kernel
theorem arN_51 : arN .int 51 = 4 := by decide +kernel
theorem arN_52 : arN .int 52 = 1024 := by decide +kernel
theorem arN_53 : arN .boolean 53 = 8 := by decide +kernel
theorem arN_54 : arN .int 54 = 8 := by decide +kernel
theorem arN_55 : arN .int 55 = 8 := by decide +kernel
theorem arN_56 : arN .int 56 = 24 := by decide +kernel
theorem arN_57 : arN .int 57 = 8 := by decide +kernel
theorem arN_58 : arN .int 58 = 8 := by decide +kernel
theorem arN_59 : arN .int 59 = 8 := by decide +kernel
theorem arN_60 : arN .int 60 = 8 := by decide +kernel
theorem arE_15 : arE 15 = 8 := by decide +kernel
theorem arE_23 : arE 23 = 4 := by decide +kernel
theorem arE_24 : arE 24 = 8 := by decide +kernel
theorem arE_25 : arE 25 = 8 := by decide +kernel
