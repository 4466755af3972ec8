/-- the words that hold of every later state: those of the tables that keep -/
def TB : List Cond := lw_tbl.filter goodWord
theorem tbm {w : Cond} (i : Nat) (h : lw_tbl[i]? = some w) (g : goodWord w = true) : w ∈ TB := List.mem_filter.mpr ⟨List.mem_of_getElem? h, g⟩
theorem tb_good {w : Cond} (h : w ∈ TB) : goodWord w = true := (List.mem_filter.mp h).2
theorem tb_in {w : Cond} (h : w ∈ TB) : w ∈ lw_tbl := (List.mem_filter.mp h).1
/-- the classes by number: 0 .. 8 those of the heap, 9 the law, 10 Integer, 11 Math -/
def ocN : Nat → String := fun k => match k with
  | 0 => RX0
  | 1 => RX1
  | 2 => RX2
  | 3 => RX3
  | 4 => RX4
  | 5 => RX5
  | 6 => RX6
  | 7 => RX7
  | 8 => RX8
  | 9 => RL
  | 10 => RJ6
  | 12 => RJ0
  | 13 => RJ1
  | 14 => RJ3
  | _ => RJ9
def TV : Nat → u_T := fun k => match k with
  | 0 => TX0
  | 1 => TX1
  | 2 => TX2
  | 3 => TX3
  | 4 => TX4
  | 5 => TX5
  | 6 => TX6
  | 7 => TX7
  | _ => TX8
def tyV : Nat → Nat → FieldType := fun k => match k with
  | 0 => tyX0
  | 1 => tyX1
  | 2 => tyX2
  | 3 => tyX3
  | 4 => tyX4
  | 5 => tyX5
  | 6 => tyX6
  | 7 => tyX7
  | _ => tyX8
def nF : Nat → Nat := fun k => match k with
  | 0 => 12
  | 1 => 5
  | 2 => 7
  | 3 => 18
  | 4 => 4
  | 5 => 2
  | 6 => 3
  | 7 => 15
  | _ => 53
/-- own class, pool index, 64 * class + field, place in lw_tbl -/
def fAll : List (Nat × Nat × Nat × Nat) := [(5, 9, 320, 111), (6, 35, 320, 112), (5, 15, 321, 113), (7, 80, 321, 114), (6, 29, 321, 115), (6, 9, 384, 134), (2, 46, 384, 135), (6, 15, 385, 136), (2, 143, 385, 137), (6, 18, 386, 138), (2, 137, 386, 139), (0, 9, 0, 155), (3, 73, 0, 156), (7, 268, 0, 157), (0, 15, 1, 158), (2, 99, 1, 159), (7, 219, 1, 160), (0, 19, 2, 161), (3, 68, 2, 162), (2, 77, 2, 163), (7, 228, 2, 164), (0, 22, 3, 165), (3, 74, 3, 166), (2, 83, 3, 167), (0, 25, 4, 168), (2, 105, 4, 169), (0, 28, 5, 170), (2, 112, 5, 171), (0, 32, 6, 172), (2, 118, 6, 173), (0, 36, 7, 174), (2, 122, 7, 175), (0, 39, 8, 176), (3, 95, 8, 177), (2, 125, 8, 178), (0, 42, 9, 179), (3, 128, 9, 180), (2, 128, 9, 181), (0, 45, 10, 182), (3, 135, 10, 183), (2, 131, 10, 184), (0, 48, 11, 185), (3, 81, 11, 186), (2, 134, 11, 187), (2, 9, 128, 214), (7, 108, 128, 215), (2, 18, 129, 216), (2, 24, 130, 217), (2, 28, 131, 218), (2, 32, 132, 219), (7, 101, 132, 220), (2, 35, 133, 221), (7, 94, 133, 222), (2, 38, 134, 223), (7, 91, 134, 224), (4, 9, 256, 248), (7, 105, 256, 249), (4, 15, 257, 250), (3, 121, 257, 251), (7, 115, 257, 252), (0, 73, 257, 253), (4, 18, 258, 254), (4, 22, 259, 255), (1, 9, 64, 270), (3, 106, 64, 271), (7, 261, 64, 272), (1, 15, 65, 273), (0, 56, 65, 274), (3, 141, 65, 275), (1, 19, 66, 276), (0, 51, 66, 277), (7, 265, 66, 278), (1, 22, 67, 279), (7, 235, 67, 280), (1, 25, 68, 281), (7, 238, 68, 282), (3, 9, 192, 300), (7, 161, 192, 301), (3, 15, 193, 302), (3, 19, 194, 303), (3, 22, 195, 304), (7, 168, 195, 305), (3, 25, 196, 306), (3, 28, 197, 307), (3, 31, 198, 308), (3, 35, 199, 309), (3, 38, 200, 310), (3, 41, 201, 311), (3, 44, 202, 312), (3, 47, 203, 313), (3, 50, 204, 314), (3, 53, 205, 315), (7, 165, 205, 316), (3, 56, 206, 317), (3, 59, 207, 318), (7, 171, 207, 319), (3, 62, 208, 320), (7, 174, 208, 321), (3, 65, 209, 322), (7, 177, 209, 323), (7, 11, 448, 361), (7, 15, 449, 362), (7, 21, 450, 363), (7, 25, 451, 364), (7, 31, 452, 365), (7, 38, 453, 366), (7, 44, 454, 367), (7, 48, 455, 368), (7, 53, 456, 369), (7, 57, 457, 370), (7, 61, 458, 371), (7, 64, 459, 372), (7, 67, 460, 373), (7, 70, 461, 374), (7, 73, 462, 375), (8, 13, 513, 900), (8, 117, 514, 901), (8, 17, 515, 902), (8, 124, 516, 903), (8, 20, 517, 904), (8, 24, 518, 905), (8, 27, 519, 906), (8, 30, 520, 907), (8, 34, 521, 908), (8, 133, 522, 909), (8, 158, 523, 910), (8, 155, 524, 911), (8, 161, 525, 912), (8, 164, 526, 913), (8, 167, 527, 914), (8, 37, 528, 915), (8, 182, 529, 916), (8, 185, 530, 917), (8, 40, 531, 918), (8, 43, 532, 919), (8, 47, 533, 920), (8, 50, 534, 921), (8, 53, 535, 922), (8, 56, 536, 923), (8, 59, 537, 924), (8, 62, 538, 925), (8, 65, 539, 926), (8, 68, 540, 927), (8, 71, 541, 928), (8, 74, 542, 929), (8, 77, 543, 930), (8, 202, 544, 931), (8, 80, 545, 932), (8, 83, 546, 933), (8, 86, 547, 934), (8, 219, 548, 935), (8, 222, 549, 936), (8, 225, 550, 937), (8, 89, 551, 938), (8, 92, 552, 939), (8, 95, 553, 940), (8, 98, 554, 941), (8, 101, 555, 942), (8, 104, 556, 943), (8, 238, 557, 944), (8, 241, 558, 945), (8, 244, 559, 946), (8, 266, 560, 947), (8, 260, 561, 948), (8, 290, 562, 949), (8, 107, 563, 950), (8, 110, 564, 951)]
def cAll : List (Nat × Nat × Int × Nat) := [(10, 265, 1431655765, 748), (10, 266, 858993459, 749), (10, 267, 252645135, 750), (7, 218, -1000000, 878), (8, 307, -1000000, 1292)]
def clAll : List (Nat × Nat × Int × Nat) := [(7, 195, 100, 823), (8, 127, 27, 899), (8, 299, 100, 1266)]
def fL (oc idx : Nat) : Option Nat := (fAll.find? (fun e => e.1 == oc && e.2.1 == idx)).map (fun e => e.2.2.1)
def cL (oc idx : Nat) : Option Int := (cAll.find? (fun e => e.1 == oc && e.2.1 == idx)).map (fun e => e.2.2.1)
def clL (oc idx : Nat) : Option Int := (clAll.find? (fun e => e.1 == oc && e.2.1 == idx)).map (fun e => e.2.2.1)
def fWord (oc idx v : Nat) : Cond := .fieldLink (ocN oc) idx (TV (v / 64) (v % 64)).1 (TV (v / 64) (v % 64)).2.1 (TV (v / 64) (v % 64)).2.2.1
theorem fAll_ok : fAll.all (fun e => decide (lw_tbl[e.2.2.2]? = some (fWord e.1 e.2.1 e.2.2.1)) && goodWord (fWord e.1 e.2.1 e.2.2.1) && decide (e.2.2.1 / 64 < 9) && decide (e.2.2.1 % 64 < nF (e.2.2.1 / 64))) = true := by decide +kernel
theorem cAll_ok : cAll.all (fun e => decide (lw_tbl[e.2.2.2]? = some (.constant (ocN e.1) e.2.1 (Int32.ofInt e.2.2.1))) && goodWord (.constant (ocN e.1) e.2.1 (Int32.ofInt e.2.2.1))) = true := by decide +kernel
theorem clAll_ok : clAll.all (fun e => decide (lw_tbl[e.2.2.2]? = some (.constantLong (ocN e.1) e.2.1 (Int64.ofInt e.2.2.1))) && goodWord (.constantLong (ocN e.1) e.2.1 (Int64.ofInt e.2.2.1))) = true := by decide +kernel
theorem fL_ok {oc idx v : Nat} (h : fL oc idx = some v) : fWord oc idx v ∈ TB ∧ v / 64 < 9 ∧ v % 64 < nF (v / 64) := by
  unfold fL at h
  cases hf : fAll.find? (fun e => e.1 == oc && e.2.1 == idx) with
  | none => rw [hf] at h; cases h
  | some e =>
    rw [hf] at h
    have hv : e.2.2.1 = v := Option.some.inj h
    have h1 := List.find?_some hf
    have h2 := List.mem_of_find?_eq_some hf
    simp only [Bool.and_eq_true, beq_iff_eq] at h1
    have h3 := List.all_eq_true.mp fAll_ok e h2
    simp only [Bool.and_eq_true, decide_eq_true_eq] at h3
    rw [h1.1, h1.2, hv] at h3
    exact ⟨tbm _ h3.1.1.1 h3.1.1.2, h3.1.2, h3.2⟩
theorem cL_ok {oc idx : Nat} {v : Int} (h : cL oc idx = some v) : Cond.constant (ocN oc) idx (Int32.ofInt v) ∈ TB := by
  unfold cL at h
  cases hf : cAll.find? (fun e => e.1 == oc && e.2.1 == idx) with
  | none => rw [hf] at h; cases h
  | some e =>
    rw [hf] at h
    have hv : e.2.2.1 = v := Option.some.inj h
    have h1 := List.find?_some hf
    have h2 := List.mem_of_find?_eq_some hf
    simp only [Bool.and_eq_true, beq_iff_eq] at h1
    have h3 := List.all_eq_true.mp cAll_ok e h2
    simp only [Bool.and_eq_true, decide_eq_true_eq] at h3
    rw [h1.1, h1.2, hv] at h3
    exact tbm _ h3.1 h3.2
theorem clL_ok {oc idx : Nat} {v : Int} (h : clL oc idx = some v) : Cond.constantLong (ocN oc) idx (Int64.ofInt v) ∈ TB := by
  unfold clL at h
  cases hf : clAll.find? (fun e => e.1 == oc && e.2.1 == idx) with
  | none => rw [hf] at h; cases h
  | some e =>
    rw [hf] at h
    have hv : e.2.2.1 = v := Option.some.inj h
    have h1 := List.find?_some hf
    have h2 := List.mem_of_find?_eq_some hf
    simp only [Bool.and_eq_true, beq_iff_eq] at h1
    have h3 := List.all_eq_true.mp clAll_ok e h2
    simp only [Bool.and_eq_true, decide_eq_true_eq] at h3
    rw [h1.1, h1.2, hv] at h3
    exact tbm _ h3.1 h3.2
theorem inX0 : ∀ w ∈ wsX00, w ∈ TB := fun w h => by
  have e : wsX00 = ([188, 190, 192, 194, 196, 198, 200, 202, 204, 206, 208, 210] : List Nat).filterMap (fun i => lw_tbl[i]?) := by decide +kernel
  have g : wsX00.all goodWord = true := by decide +kernel
  have g1 := List.all_eq_true.mp g w h
  rw [e] at h
  obtain ⟨i, -, hi⟩ := List.mem_filterMap.mp h
  exact tbm i hi g1
theorem inX1 : ∀ w ∈ wsX10, w ∈ TB := fun w h => by
  have e : wsX10 = ([283, 285, 287, 289, 291] : List Nat).filterMap (fun i => lw_tbl[i]?) := by decide +kernel
  have g : wsX10.all goodWord = true := by decide +kernel
  have g1 := List.all_eq_true.mp g w h
  rw [e] at h
  obtain ⟨i, -, hi⟩ := List.mem_filterMap.mp h
  exact tbm i hi g1
theorem inX2 : ∀ w ∈ wsX20, w ∈ TB := fun w h => by
  have e : wsX20 = ([225, 227, 229, 231, 233, 235, 237] : List Nat).filterMap (fun i => lw_tbl[i]?) := by decide +kernel
  have g : wsX20.all goodWord = true := by decide +kernel
  have g1 := List.all_eq_true.mp g w h
  rw [e] at h
  obtain ⟨i, -, hi⟩ := List.mem_filterMap.mp h
  exact tbm i hi g1
theorem inX3 : ∀ w ∈ wsX30, w ∈ TB := fun w h => by
  have e : wsX30 = ([324, 326, 328, 330, 332, 334, 336, 338, 340, 342, 344, 346, 348, 350, 352, 354, 356, 358] : List Nat).filterMap (fun i => lw_tbl[i]?) := by decide +kernel
  have g : wsX30.all goodWord = true := by decide +kernel
  have g1 := List.all_eq_true.mp g w h
  rw [e] at h
  obtain ⟨i, -, hi⟩ := List.mem_filterMap.mp h
  exact tbm i hi g1
theorem inX4 : ∀ w ∈ wsX40, w ∈ TB := fun w h => by
  have e : wsX40 = ([256, 258, 260, 262] : List Nat).filterMap (fun i => lw_tbl[i]?) := by decide +kernel
  have g : wsX40.all goodWord = true := by decide +kernel
  have g1 := List.all_eq_true.mp g w h
  rw [e] at h
  obtain ⟨i, -, hi⟩ := List.mem_filterMap.mp h
  exact tbm i hi g1
theorem inX5 : ∀ w ∈ wsX50, w ∈ TB := fun w h => by
  have e : wsX50 = ([116, 118] : List Nat).filterMap (fun i => lw_tbl[i]?) := by decide +kernel
  have g : wsX50.all goodWord = true := by decide +kernel
  have g1 := List.all_eq_true.mp g w h
  rw [e] at h
  obtain ⟨i, -, hi⟩ := List.mem_filterMap.mp h
  exact tbm i hi g1
theorem inX6 : ∀ w ∈ wsX60, w ∈ TB := fun w h => by
  have e : wsX60 = ([140, 142, 144] : List Nat).filterMap (fun i => lw_tbl[i]?) := by decide +kernel
  have g : wsX60.all goodWord = true := by decide +kernel
  have g1 := List.all_eq_true.mp g w h
  rw [e] at h
  obtain ⟨i, -, hi⟩ := List.mem_filterMap.mp h
  exact tbm i hi g1
theorem inX7 : ∀ w ∈ wsX70, w ∈ TB := fun w h => by
  have e : wsX70 = ([376, 378, 380, 382, 384, 386, 388, 390, 392, 394, 396, 398, 400, 402, 404] : List Nat).filterMap (fun i => lw_tbl[i]?) := by decide +kernel
  have g : wsX70.all goodWord = true := by decide +kernel
  have g1 := List.all_eq_true.mp g w h
  rw [e] at h
  obtain ⟨i, -, hi⟩ := List.mem_filterMap.mp h
  exact tbm i hi g1
theorem inX8 : ∀ w ∈ wsX80, w ∈ TB := fun w h => by
  have e : wsX80 = ([952, 954, 956, 958, 960, 962, 964, 966, 968, 970, 972, 974, 976, 978, 980, 982, 984, 986, 988, 990, 992, 994, 996, 998, 1000, 1002, 1004, 1006, 1008, 1010, 1012, 1014, 1016, 1018, 1020, 1022, 1024, 1026, 1028, 1030, 1032, 1034, 1036, 1038, 1040, 1042, 1044, 1046, 1048, 1050, 1052, 1054, 1056] : List Nat).filterMap (fun i => lw_tbl[i]?) := by decide +kernel
  have g : wsX80.all goodWord = true := by decide +kernel
  have g1 := List.all_eq_true.mp g w h
  rw [e] at h
  obtain ⟨i, -, hi⟩ := List.mem_filterMap.mp h
  exact tbm i hi g1
theorem inV : ∀ k, k < 9 → ∀ w ∈ u_ws (ocN k) (TV k) (nF k), w ∈ TB := fun k hk => by
  match k, hk with
  | 0, _ => exact inX0
  | 1, _ => exact inX1
  | 2, _ => exact inX2
  | 3, _ => exact inX3
  | 4, _ => exact inX4
  | 5, _ => exact inX5
  | 6, _ => exact inX6
  | 7, _ => exact inX7
  | 8, _ => exact inX8
theorem tyV_ok : ∀ k, k < 9 → ∀ j, j < nF k → parseFieldDescriptor (TV k j).2.2.1 = some (tyV k j) := fun k hk => by
  match k, hk with
  | 0, _ => exact tyX0_ok
  | 1, _ => exact tyX1_ok
  | 2, _ => exact tyX2_ok
  | 3, _ => exact tyX3_ok
  | 4, _ => exact tyX4_ok
  | 5, _ => exact tyX5_ok
  | 6, _ => exact tyX6_ok
  | 7, _ => exact tyX7_ok
  | 8, _ => exact tyX8_ok
theorem nmV : ∀ k, k < 9 → ∀ a, a < nF k → ∀ b, b < nF k → a ≠ b → (TV k a).2.1 ≠ (TV k b).2.1 := fun k hk => by
  match k, hk with
  | 0, _ => exact nmX0
  | 1, _ => exact nmX1
  | 2, _ => exact nmX2
  | 3, _ => exact nmX3
  | 4, _ => exact nmX4
  | 5, _ => exact nmX5
  | 6, _ => exact nmX6
  | 7, _ => exact nmX7
  | 8, _ => exact nmX8
theorem clV : ∀ k, k < 9 → vwCl[k]? = some (ocN k, TV k, nF k) := fun k hk => by
  match k, hk with
  | 0, _ => rfl
  | 1, _ => rfl
  | 2, _ => rfl
  | 3, _ => rfl
  | 4, _ => rfl
  | 5, _ => rfl
  | 6, _ => rfl
  | 7, _ => rfl
  | 8, _ => rfl
theorem dcV : ∀ k, k < 9 → ∀ j, j < nF k → (TV k j).1 = ocN k := by decide +kernel
