theorem dX7_way_60 : decode cX7_way 60 = .ok (.tableswitch 64 0 3 #[32, 40, 48, 56], 32) := by decide +kernel
theorem dX7_count_1 : decode cX7_count 1 = .ok (.tableswitch 125 0 8 #[51, 58, 65, 72, 79, 94, 101, 108, 115], 51) := by decide +kernel
theorem dX7_suits_1 : decode cX7_suits 1 = .ok (.tableswitch 79 2 5 #[31, 79, 38, 53], 31) := by decide +kernel
theorem dX7_meritOf_1 : decode cX7_meritOf 1 = .ok (.tableswitch 62 1 4 #[31, 39, 46, 55], 31) := by decide +kernel
theorem dX8_way_74 : decode cX8_way 74 = .ok (.tableswitch 50 0 3 #[30, 35, 40, 45], 30) := by decide +kernel
theorem dX8_count_1 : decode cX8_count 1 = .ok (.tableswitch 141 0 8 #[51, 56, 66, 71, 76, 89, 94, 99, 136], 51) := by decide +kernel
theorem dL_law_33 : decode cL_law 33 = .ok (.tableswitch 763 0 23 #[111, 174, 197, 210, 223, 246, 309, 332, 355, 418, 451, 474, 507, 550, 563, 586, 599, 622, 635, 658, 681, 694, 707, 740], 111) := by decide +kernel
