/-! layouts, and the tables' rows by their keys -/
def mLayH : mLay := [.inl (6, [some 1, some 2, some 3, some 4, some 5, some 6]), .inl (2, [none, none, some 7, some 8, some 9, some 10, some 11, some 12, some 13, none]), .inl (3, [none, none]), .inl (5, [none, none, none, none, none, none, none, none, none, none, none, none, none, none]), .inl (4, [none, none, none, none, none, none, none, some 14]), .inl (0, [some 15, some 16]), .inl (1, [some 17, some 18, some 19]), .inr (.inl 24), .inr (.inl 24), .inr (.inl 24), .inr (.inl 24), .inr (.inr (20, 12)), .inr (.inr (32, 12)), .inr (.inr (44, 12)), .inr (.inl 41), .inr (.inl 12), .inr (.inl 12), .inr (.inl 24), .inr (.inl 12), .inr (.inl 12)] ++ List.replicate 36 (.inr (.inl 12))
def mLayM : mLay := [.inl (7, [none, none, none, some 1, some 2, some 3, some 4, none, none, some 5, none, none, none, none, none, none, some 6]), .inr (.inl 24), .inr (.inl 24), .inr (.inl 24), .inr (.inl 24), .inr (.inl 288), .inr (.inl 41)]
def mLayN : mLay := [.inl (2, [none, none, some 1, some 2, some 3, some 4, some 5, some 6, some 7, none]), .inr (.inl 24), .inr (.inl 24), .inr (.inl 24), .inr (.inl 24), .inr (.inr (8, 12)), .inr (.inr (20, 12)), .inr (.inr (32, 12))] ++ List.replicate 36 (.inr (.inl 12))
theorem mLayH_row20 : ∀ g : Nat, mLayH[20 + g]? = if g < 36 then some (.inr (.inl 12)) else none := by
  intro g
  show (_ ++ List.replicate 36 _)[_]? = _
  rw [List.getElem?_append_right (by simp <;> omega), List.getElem?_replicate]
  by_cases h : g < 36
  · rw [if_pos h, if_pos (by simp; omega)]
  · rw [if_neg h, if_neg (by simp; omega)]
theorem mLayH_row32 : ∀ g : Nat, mLayH[32 + g]? = if g < 24 then some (.inr (.inl 12)) else none := by
  intro g
  show (_ ++ List.replicate 36 _)[_]? = _
  rw [List.getElem?_append_right (by simp <;> omega), List.getElem?_replicate]
  by_cases h : g < 24
  · rw [if_pos h, if_pos (by simp; omega)]
  · rw [if_neg h, if_neg (by simp; omega)]
theorem mLayH_row44 : ∀ g : Nat, mLayH[44 + g]? = if g < 12 then some (.inr (.inl 12)) else none := by
  intro g
  show (_ ++ List.replicate 36 _)[_]? = _
  rw [List.getElem?_append_right (by simp <;> omega), List.getElem?_replicate]
  by_cases h : g < 12
  · rw [if_pos h, if_pos (by simp; omega)]
  · rw [if_neg h, if_neg (by simp; omega)]
theorem mLayN_row8 : ∀ g : Nat, mLayN[8 + g]? = if g < 36 then some (.inr (.inl 12)) else none := by
  intro g
  show (_ ++ List.replicate 36 _)[_]? = _
  rw [List.getElem?_append_right (by simp <;> omega), List.getElem?_replicate]
  by_cases h : g < 36
  · rw [if_pos h, if_pos (by simp; omega)]
  · rw [if_neg h, if_neg (by simp; omega)]
theorem mLayN_row20 : ∀ g : Nat, mLayN[20 + g]? = if g < 24 then some (.inr (.inl 12)) else none := by
  intro g
  show (_ ++ List.replicate 36 _)[_]? = _
  rw [List.getElem?_append_right (by simp <;> omega), List.getElem?_replicate]
  by_cases h : g < 24
  · rw [if_pos h, if_pos (by simp; omega)]
  · rw [if_neg h, if_neg (by simp; omega)]
theorem mLayN_row32 : ∀ g : Nat, mLayN[32 + g]? = if g < 12 then some (.inr (.inl 12)) else none := by
  intro g
  show (_ ++ List.replicate 36 _)[_]? = _
  rw [List.getElem?_append_right (by simp <;> omega), List.getElem?_replicate]
  by_cases h : g < 12
  · rw [if_pos h, if_pos (by simp; omega)]
  · rw [if_neg h, if_neg (by simp; omega)]
theorem mlk_f_0_9 : mF.lookup (0, 9) = some (0, 0, 0) := by decide +kernel
theorem mlk_f_0_15 : mF.lookup (0, 15) = some (0, 1, 0) := by decide +kernel
theorem mlk_f_0_28 : mF.lookup (0, 28) = some (2, 0, 1) := by decide +kernel
theorem mlk_f_0_73 : mF.lookup (0, 73) = some (2, 6, 0) := by decide +kernel
theorem mlk_f_1_9 : mF.lookup (1, 9) = some (1, 0, 0) := by decide +kernel
theorem mlk_f_1_15 : mF.lookup (1, 15) = some (1, 1, 0) := by decide +kernel
theorem mlk_f_1_18 : mF.lookup (1, 18) = some (1, 2, 0) := by decide +kernel
theorem mlk_f_1_35 : mF.lookup (1, 35) = some (2, 0, 1) := by decide +kernel
theorem mlk_f_1_55 : mF.lookup (1, 55) = some (2, 2, 0) := by decide +kernel
theorem mlk_f_2_9 : mF.lookup (2, 9) = some (2, 2, 0) := by decide +kernel
theorem mlk_f_2_15 : mF.lookup (2, 15) = some (2, 3, 0) := by decide +kernel
theorem mlk_f_2_18 : mF.lookup (2, 18) = some (2, 4, 0) := by decide +kernel
theorem mlk_f_2_21 : mF.lookup (2, 21) = some (2, 5, 0) := by decide +kernel
theorem mlk_f_2_26 : mF.lookup (2, 26) = some (2, 6, 0) := by decide +kernel
theorem mlk_f_2_29 : mF.lookup (2, 29) = some (2, 7, 0) := by decide +kernel
theorem mlk_f_2_32 : mF.lookup (2, 32) = some (2, 8, 0) := by decide +kernel
theorem mlk_f_2_39 : mF.lookup (2, 39) = some (2, 0, 1) := by decide +kernel
theorem mlk_f_2_43 : mF.lookup (2, 43) = some (2, 1, 1) := by decide +kernel
theorem mlk_f_2_52 : mF.lookup (2, 52) = some (2, 9, 2) := by decide +kernel
theorem mlk_f_3_9 : mF.lookup (3, 9) = some (3, 0, 1) := by decide +kernel
theorem mlk_f_3_15 : mF.lookup (3, 15) = some (3, 1, 1) := by decide +kernel
theorem mlk_f_3_18 : mF.lookup (3, 18) = some (2, 2, 0) := by decide +kernel
theorem mlk_f_3_24 : mF.lookup (3, 24) = some (2, 3, 0) := by decide +kernel
theorem mlk_f_3_27 : mF.lookup (3, 27) = some (2, 5, 0) := by decide +kernel
theorem mlk_f_3_34 : mF.lookup (3, 34) = some (2, 1, 1) := by decide +kernel
theorem mlk_f_4_9 : mF.lookup (4, 9) = some (4, 7, 0) := by decide +kernel
theorem mlk_f_4_19 : mF.lookup (4, 19) = some (4, 0, 1) := by decide +kernel
theorem mlk_f_4_23 : mF.lookup (4, 23) = some (4, 4, 1) := by decide +kernel
theorem mlk_f_4_26 : mF.lookup (4, 26) = some (4, 5, 1) := by decide +kernel
theorem mlk_f_4_35 : mF.lookup (4, 35) = some (4, 3, 1) := by decide +kernel
theorem mlk_f_4_50 : mF.lookup (4, 50) = some (4, 1, 1) := by decide +kernel
theorem mlk_f_4_53 : mF.lookup (4, 53) = some (4, 2, 1) := by decide +kernel
theorem mlk_f_4_56 : mF.lookup (4, 56) = some (4, 6, 1) := by decide +kernel
theorem mlk_f_4_79 : mF.lookup (4, 79) = some (5, 11, 1) := by decide +kernel
theorem mlk_f_4_85 : mF.lookup (4, 85) = some (5, 13, 1) := by decide +kernel
theorem mlk_f_5_18 : mF.lookup (5, 18) = some (5, 0, 1) := by decide +kernel
theorem mlk_f_5_24 : mF.lookup (5, 24) = some (5, 1, 1) := by decide +kernel
theorem mlk_f_5_27 : mF.lookup (5, 27) = some (5, 2, 1) := by decide +kernel
theorem mlk_f_5_30 : mF.lookup (5, 30) = some (5, 3, 1) := by decide +kernel
theorem mlk_f_5_33 : mF.lookup (5, 33) = some (2, 4, 0) := by decide +kernel
theorem mlk_f_5_37 : mF.lookup (5, 37) = some (5, 4, 1) := by decide +kernel
theorem mlk_f_5_43 : mF.lookup (5, 43) = some (2, 0, 1) := by decide +kernel
theorem mlk_f_5_46 : mF.lookup (5, 46) = some (2, 6, 0) := by decide +kernel
theorem mlk_f_5_51 : mF.lookup (5, 51) = some (5, 5, 1) := by decide +kernel
theorem mlk_f_5_58 : mF.lookup (5, 58) = some (5, 6, 1) := by decide +kernel
theorem mlk_f_5_61 : mF.lookup (5, 61) = some (5, 7, 1) := by decide +kernel
theorem mlk_f_5_64 : mF.lookup (5, 64) = some (5, 8, 1) := by decide +kernel
theorem mlk_f_5_67 : mF.lookup (5, 67) = some (5, 9, 1) := by decide +kernel
theorem mlk_f_5_70 : mF.lookup (5, 70) = some (5, 10, 1) := by decide +kernel
theorem mlk_f_5_73 : mF.lookup (5, 73) = some (2, 5, 0) := by decide +kernel
theorem mlk_f_5_98 : mF.lookup (5, 98) = some (5, 12, 1) := by decide +kernel
theorem mlk_f_5_101 : mF.lookup (5, 101) = some (5, 13, 1) := by decide +kernel
theorem mlk_f_5_104 : mF.lookup (5, 104) = some (5, 11, 1) := by decide +kernel
theorem mlk_f_6_10 : mF.lookup (6, 10) = some (6, 0, 0) := by decide +kernel
theorem mlk_f_6_19 : mF.lookup (6, 19) = some (6, 1, 0) := by decide +kernel
theorem mlk_f_6_26 : mF.lookup (6, 26) = some (6, 2, 0) := by decide +kernel
theorem mlk_f_6_33 : mF.lookup (6, 33) = some (6, 3, 0) := by decide +kernel
theorem mlk_f_6_40 : mF.lookup (6, 40) = some (6, 4, 0) := by decide +kernel
theorem mlk_f_6_47 : mF.lookup (6, 47) = some (6, 5, 0) := by decide +kernel
theorem mlk_f_6_51 : mF.lookup (6, 51) = some (2, 1, 1) := by decide +kernel
theorem mlk_f_6_82 : mF.lookup (6, 82) = some (2, 4, 0) := by decide +kernel
theorem mlk_f_6_89 : mF.lookup (6, 89) = some (2, 5, 0) := by decide +kernel
theorem mlk_f_6_95 : mF.lookup (6, 95) = some (2, 2, 0) := by decide +kernel
theorem mlk_f_6_98 : mF.lookup (6, 98) = some (2, 3, 0) := by decide +kernel
theorem mlk_f_6_115 : mF.lookup (6, 115) = some (2, 6, 0) := by decide +kernel
theorem mlk_f_6_158 : mF.lookup (6, 158) = some (5, 12, 1) := by decide +kernel
theorem mlk_f_6_161 : mF.lookup (6, 161) = some (5, 13, 1) := by decide +kernel
theorem mlk_f_6_177 : mF.lookup (6, 177) = some (4, 0, 1) := by decide +kernel
theorem mlk_f_6_180 : mF.lookup (6, 180) = some (4, 1, 1) := by decide +kernel
theorem mlk_f_6_183 : mF.lookup (6, 183) = some (4, 3, 1) := by decide +kernel
theorem mlk_f_6_186 : mF.lookup (6, 186) = some (4, 2, 1) := by decide +kernel
theorem mlk_f_6_212 : mF.lookup (6, 212) = some (2, 0, 1) := by decide +kernel
theorem mlk_f_6_231 : mF.lookup (6, 231) = some (3, 0, 1) := by decide +kernel
theorem mlk_f_6_234 : mF.lookup (6, 234) = some (3, 1, 1) := by decide +kernel
theorem mlk_f_7_7 : mF.lookup (7, 7) = some (7, 1, 1) := by decide +kernel
theorem mlk_f_7_13 : mF.lookup (7, 13) = some (7, 3, 0) := by decide +kernel
theorem mlk_f_7_17 : mF.lookup (7, 17) = some (7, 4, 0) := by decide +kernel
theorem mlk_f_7_20 : mF.lookup (7, 20) = some (7, 5, 0) := by decide +kernel
theorem mlk_f_7_23 : mF.lookup (7, 23) = some (7, 6, 0) := by decide +kernel
theorem mlk_f_7_26 : mF.lookup (7, 26) = some (7, 9, 0) := by decide +kernel
theorem mlk_f_7_29 : mF.lookup (7, 29) = some (7, 16, 0) := by decide +kernel
theorem mlk_f_7_32 : mF.lookup (7, 32) = some (7, 0, 1) := by decide +kernel
theorem mlk_f_7_35 : mF.lookup (7, 35) = some (7, 2, 1) := by decide +kernel
theorem mlk_f_7_46 : mF.lookup (7, 46) = some (7, 7, 1) := by decide +kernel
theorem mlk_f_7_49 : mF.lookup (7, 49) = some (7, 8, 1) := by decide +kernel
theorem mlk_f_7_134 : mF.lookup (7, 134) = some (7, 10, 1) := by decide +kernel
theorem mlk_f_7_137 : mF.lookup (7, 137) = some (7, 13, 1) := by decide +kernel
theorem mlk_f_7_140 : mF.lookup (7, 140) = some (7, 12, 1) := by decide +kernel
theorem mlk_f_7_143 : mF.lookup (7, 143) = some (7, 15, 1) := by decide +kernel
theorem mlk_f_7_146 : mF.lookup (7, 146) = some (7, 11, 1) := by decide +kernel
theorem mlk_f_7_156 : mF.lookup (7, 156) = some (7, 14, 1) := by decide +kernel
theorem mlk_c_0_77 : mC.lookup (0, 77) = some 1000000 := by decide +kernel
theorem mlk_c_2_64 : mC.lookup (2, 64) = some 1000000 := by decide +kernel
theorem mlk_c_5_50 : mC.lookup (5, 50) = some 1000000 := by decide +kernel
theorem mlk_c_6_227 : mC.lookup (6, 227) = some 1000000 := by decide +kernel
theorem mlk_c_7_67 : mC.lookup (7, 67) = some 1000000 := by decide +kernel
theorem mlk_c_7_105 : mC.lookup (7, 105) = some 100000 := by decide +kernel
theorem mlk_c_7_106 : mC.lookup (7, 106) = some 50000 := by decide +kernel
theorem mlk_c_8_265 : mC.lookup (8, 265) = some 1431655765 := by decide +kernel
theorem mlk_c_8_266 : mC.lookup (8, 266) = some 858993459 := by decide +kernel
theorem mlk_c_8_267 : mC.lookup (8, 267) = some 252645135 := by decide +kernel
theorem mlk_m_0_18 : mL.lookup (0, 18) = some (31, false) := by decide +kernel
theorem mlk_m_0_24 : mL.lookup (0, 24) = some (33, false) := by decide +kernel
theorem mlk_m_0_32 : mL.lookup (0, 32) = some (3, false) := by decide +kernel
theorem mlk_m_0_36 : mL.lookup (0, 36) = some (27, false) := by decide +kernel
theorem mlk_m_0_40 : mL.lookup (0, 40) = some (23, false) := by decide +kernel
theorem mlk_m_0_43 : mL.lookup (0, 43) = some (2, false) := by decide +kernel
theorem mlk_m_0_47 : mL.lookup (0, 47) = some (158, false) := by decide +kernel
theorem mlk_m_0_53 : mL.lookup (0, 53) = some (6, false) := by decide +kernel
theorem mlk_m_0_62 : mL.lookup (0, 62) = some (5, false) := by decide +kernel
theorem mlk_m_0_65 : mL.lookup (0, 65) = some (87, true) := by decide +kernel
theorem mlk_m_0_69 : mL.lookup (0, 69) = some (9, false) := by decide +kernel
theorem mlk_m_0_78 : mL.lookup (0, 78) = some (0, false) := by decide +kernel
theorem mlk_m_1_21 : mL.lookup (1, 21) = some (159, false) := by decide +kernel
theorem mlk_m_1_27 : mL.lookup (1, 27) = some (12, false) := by decide +kernel
theorem mlk_m_1_31 : mL.lookup (1, 31) = some (16, false) := by decide +kernel
theorem mlk_m_1_41 : mL.lookup (1, 41) = some (13, false) := by decide +kernel
theorem mlk_m_1_45 : mL.lookup (1, 45) = some (14, false) := by decide +kernel
theorem mlk_m_1_48 : mL.lookup (1, 48) = some (23, false) := by decide +kernel
theorem mlk_m_1_52 : mL.lookup (1, 52) = some (15, false) := by decide +kernel
theorem mlk_m_2_35 : mL.lookup (2, 35) = some (17, false) := by decide +kernel
theorem mlk_m_2_46 : mL.lookup (2, 46) = some (159, false) := by decide +kernel
theorem mlk_m_2_56 : mL.lookup (2, 56) = some (18, false) := by decide +kernel
theorem mlk_m_2_60 : mL.lookup (2, 60) = some (23, false) := by decide +kernel
theorem mlk_m_2_70 : mL.lookup (2, 70) = some (27, false) := by decide +kernel
theorem mlk_m_2_73 : mL.lookup (2, 73) = some (87, true) := by decide +kernel
theorem mlk_m_2_77 : mL.lookup (2, 77) = some (31, false) := by decide +kernel
theorem mlk_m_2_81 : mL.lookup (2, 81) = some (33, false) := by decide +kernel
theorem mlk_m_2_85 : mL.lookup (2, 85) = some (32, false) := by decide +kernel
theorem mlk_m_3_30 : mL.lookup (3, 30) = some (87, true) := by decide +kernel
theorem mlk_m_3_37 : mL.lookup (3, 37) = some (36, false) := by decide +kernel
theorem mlk_m_4_15 : mL.lookup (4, 15) = some (40, false) := by decide +kernel
theorem mlk_m_4_29 : mL.lookup (4, 29) = some (27, false) := by decide +kernel
theorem mlk_m_4_38 : mL.lookup (4, 38) = some (41, false) := by decide +kernel
theorem mlk_m_4_42 : mL.lookup (4, 42) = some (43, false) := by decide +kernel
theorem mlk_m_4_46 : mL.lookup (4, 46) = some (42, false) := by decide +kernel
theorem mlk_m_4_59 : mL.lookup (4, 59) = some (23, false) := by decide +kernel
theorem mlk_m_4_62 : mL.lookup (4, 62) = some (87, true) := by decide +kernel
theorem mlk_m_4_66 : mL.lookup (4, 66) = some (24, false) := by decide +kernel
theorem mlk_m_4_69 : mL.lookup (4, 69) = some (45, false) := by decide +kernel
theorem mlk_m_4_75 : mL.lookup (4, 75) = some (57, false) := by decide +kernel
theorem mlk_m_4_82 : mL.lookup (4, 82) = some (44, false) := by decide +kernel
theorem mlk_m_4_88 : mL.lookup (4, 88) = some (58, false) := by decide +kernel
theorem mlk_m_5_9 : mL.lookup (5, 9) = some (27, false) := by decide +kernel
theorem mlk_m_5_15 : mL.lookup (5, 15) = some (23, false) := by decide +kernel
theorem mlk_m_5_40 : mL.lookup (5, 40) = some (46, false) := by decide +kernel
theorem mlk_m_5_54 : mL.lookup (5, 54) = some (47, false) := by decide +kernel
theorem mlk_m_5_76 : mL.lookup (5, 76) = some (24, false) := by decide +kernel
theorem mlk_m_5_79 : mL.lookup (5, 79) = some (87, true) := by decide +kernel
theorem mlk_m_5_83 : mL.lookup (5, 83) = some (49, false) := by decide +kernel
theorem mlk_m_5_87 : mL.lookup (5, 87) = some (48, false) := by decide +kernel
theorem mlk_m_5_91 : mL.lookup (5, 91) = some (51, false) := by decide +kernel
theorem mlk_m_5_94 : mL.lookup (5, 94) = some (52, false) := by decide +kernel
theorem mlk_m_5_107 : mL.lookup (5, 107) = some (53, false) := by decide +kernel
theorem mlk_m_5_110 : mL.lookup (5, 110) = some (54, false) := by decide +kernel
theorem mlk_m_5_113 : mL.lookup (5, 113) = some (55, false) := by decide +kernel
theorem mlk_m_5_116 : mL.lookup (5, 116) = some (56, false) := by decide +kernel
theorem mlk_m_6_55 : mL.lookup (6, 55) = some (17, false) := by decide +kernel
theorem mlk_m_6_59 : mL.lookup (6, 59) = some (34, false) := by decide +kernel
theorem mlk_m_6_63 : mL.lookup (6, 63) = some (19, false) := by decide +kernel
theorem mlk_m_6_67 : mL.lookup (6, 67) = some (85, false) := by decide +kernel
theorem mlk_m_6_71 : mL.lookup (6, 71) = some (23, false) := by decide +kernel
theorem mlk_m_6_75 : mL.lookup (6, 75) = some (21, false) := by decide +kernel
theorem mlk_m_6_79 : mL.lookup (6, 79) = some (20, false) := by decide +kernel
theorem mlk_m_6_86 : mL.lookup (6, 86) = some (22, false) := by decide +kernel
theorem mlk_m_6_92 : mL.lookup (6, 92) = some (88, false) := by decide +kernel
theorem mlk_m_6_101 : mL.lookup (6, 101) = some (36, false) := by decide +kernel
theorem mlk_m_6_105 : mL.lookup (6, 105) = some (30, false) := by decide +kernel
theorem mlk_m_6_108 : mL.lookup (6, 108) = some (4, false) := by decide +kernel
theorem mlk_m_6_112 : mL.lookup (6, 112) = some (18, false) := by decide +kernel
theorem mlk_m_6_119 : mL.lookup (6, 119) = some (86, false) := by decide +kernel
theorem mlk_m_6_123 : mL.lookup (6, 123) = some (27, false) := by decide +kernel
theorem mlk_m_6_126 : mL.lookup (6, 126) = some (28, false) := by decide +kernel
theorem mlk_m_6_132 : mL.lookup (6, 132) = some (45, false) := by decide +kernel
theorem mlk_m_6_136 : mL.lookup (6, 136) = some (48, false) := by decide +kernel
theorem mlk_m_6_139 : mL.lookup (6, 139) = some (49, false) := by decide +kernel
theorem mlk_m_6_143 : mL.lookup (6, 143) = some (51, false) := by decide +kernel
theorem mlk_m_6_146 : mL.lookup (6, 146) = some (53, false) := by decide +kernel
theorem mlk_m_6_149 : mL.lookup (6, 149) = some (54, false) := by decide +kernel
theorem mlk_m_6_152 : mL.lookup (6, 152) = some (55, false) := by decide +kernel
theorem mlk_m_6_155 : mL.lookup (6, 155) = some (56, false) := by decide +kernel
theorem mlk_m_6_164 : mL.lookup (6, 164) = some (57, false) := by decide +kernel
theorem mlk_m_6_167 : mL.lookup (6, 167) = some (89, false) := by decide +kernel
theorem mlk_m_6_170 : mL.lookup (6, 170) = some (37, false) := by decide +kernel
theorem mlk_m_6_173 : mL.lookup (6, 173) = some (38, false) := by decide +kernel
theorem mlk_m_6_189 : mL.lookup (6, 189) = some (39, false) := by decide +kernel
theorem mlk_m_6_192 : mL.lookup (6, 192) = some (0, false) := by decide +kernel
theorem mlk_m_6_196 : mL.lookup (6, 196) = some (1, false) := by decide +kernel
theorem mlk_m_6_199 : mL.lookup (6, 199) = some (2, false) := by decide +kernel
theorem mlk_m_6_203 : mL.lookup (6, 203) = some (7, false) := by decide +kernel
theorem mlk_m_6_206 : mL.lookup (6, 206) = some (5, false) := by decide +kernel
theorem mlk_m_6_209 : mL.lookup (6, 209) = some (8, false) := by decide +kernel
theorem mlk_m_6_215 : mL.lookup (6, 215) = some (92, false) := by decide +kernel
theorem mlk_m_6_218 : mL.lookup (6, 218) = some (90, false) := by decide +kernel
theorem mlk_m_6_221 : mL.lookup (6, 221) = some (11, false) := by decide +kernel
theorem mlk_m_6_224 : mL.lookup (6, 224) = some (10, false) := by decide +kernel
theorem mlk_m_6_228 : mL.lookup (6, 228) = some (26, false) := by decide +kernel
theorem mlk_m_6_237 : mL.lookup (6, 237) = some (158, false) := by decide +kernel
theorem mlk_m_6_242 : mL.lookup (6, 242) = some (25, false) := by decide +kernel
theorem mlk_m_6_246 : mL.lookup (6, 246) = some (35, false) := by decide +kernel
theorem mlk_m_6_249 : mL.lookup (6, 249) = some (91, false) := by decide +kernel
theorem mlk_m_6_252 : mL.lookup (6, 252) = some (50, false) := by decide +kernel
theorem mlk_m_6_255 : mL.lookup (6, 255) = some (29, false) := by decide +kernel
theorem mlk_m_7_38 : mL.lookup (7, 38) = some (95, false) := by decide +kernel
theorem mlk_m_7_42 : mL.lookup (7, 42) = some (94, false) := by decide +kernel
theorem mlk_m_7_52 : mL.lookup (7, 52) = some (97, false) := by decide +kernel
theorem mlk_m_7_56 : mL.lookup (7, 56) = some (98, false) := by decide +kernel
theorem mlk_m_7_60 : mL.lookup (7, 60) = some (96, false) := by decide +kernel
theorem mlk_m_7_63 : mL.lookup (7, 63) = some (105, false) := by decide +kernel
theorem mlk_m_7_68 : mL.lookup (7, 68) = some (107, false) := by decide +kernel
theorem mlk_m_7_72 : mL.lookup (7, 72) = some (109, false) := by decide +kernel
theorem mlk_m_7_76 : mL.lookup (7, 76) = some (104, false) := by decide +kernel
theorem mlk_m_7_79 : mL.lookup (7, 79) = some (112, false) := by decide +kernel
theorem mlk_m_7_83 : mL.lookup (7, 83) = some (108, false) := by decide +kernel
theorem mlk_m_7_86 : mL.lookup (7, 86) = some (110, false) := by decide +kernel
theorem mlk_m_7_89 : mL.lookup (7, 89) = some (106, false) := by decide +kernel
theorem mlk_m_7_92 : mL.lookup (7, 92) = some (114, false) := by decide +kernel
theorem mlk_m_7_95 : mL.lookup (7, 95) = some (118, false) := by decide +kernel
theorem mlk_m_7_98 : mL.lookup (7, 98) = some (119, false) := by decide +kernel
theorem mlk_m_7_102 : mL.lookup (7, 102) = some (120, false) := by decide +kernel
theorem mlk_m_7_107 : mL.lookup (7, 107) = some (121, false) := by decide +kernel
theorem mlk_m_7_110 : mL.lookup (7, 110) = some (123, false) := by decide +kernel
theorem mlk_m_7_113 : mL.lookup (7, 113) = some (122, false) := by decide +kernel
theorem mlk_m_7_116 : mL.lookup (7, 116) = some (126, false) := by decide +kernel
theorem mlk_m_7_119 : mL.lookup (7, 119) = some (127, false) := by decide +kernel
theorem mlk_m_7_122 : mL.lookup (7, 122) = some (128, false) := by decide +kernel
theorem mlk_m_7_125 : mL.lookup (7, 125) = some (130, false) := by decide +kernel
theorem mlk_m_7_128 : mL.lookup (7, 128) = some (131, false) := by decide +kernel
theorem mlk_m_7_131 : mL.lookup (7, 131) = some (133, false) := by decide +kernel
theorem mlk_m_7_149 : mL.lookup (7, 149) = some (136, false) := by decide +kernel
theorem mlk_m_7_152 : mL.lookup (7, 152) = some (135, false) := by decide +kernel
theorem mlk_m_7_159 : mL.lookup (7, 159) = some (137, false) := by decide +kernel
theorem mlk_m_7_163 : mL.lookup (7, 163) = some (138, false) := by decide +kernel
theorem mlk_m_7_166 : mL.lookup (7, 166) = some (140, false) := by decide +kernel
theorem mlk_m_7_169 : mL.lookup (7, 169) = some (139, false) := by decide +kernel
theorem mlk_m_7_172 : mL.lookup (7, 172) = some (143, false) := by decide +kernel
theorem mlk_m_7_176 : mL.lookup (7, 176) = some (146, false) := by decide +kernel
theorem mlk_m_7_179 : mL.lookup (7, 179) = some (148, false) := by decide +kernel
theorem mlk_m_7_182 : mL.lookup (7, 182) = some (151, false) := by decide +kernel
theorem mlk_m_7_185 : mL.lookup (7, 185) = some (152, false) := by decide +kernel
