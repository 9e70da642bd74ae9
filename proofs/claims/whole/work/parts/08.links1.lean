theorem cfX0 : mu_cF 0 RX0 TX0 2 tyX0 := ⟨rfl, by decide, tyX0_ok, nmX0, fun w h => List.mem_filter.mpr ⟨inX0 w h, by revert w; decide +kernel⟩, by decide +kernel⟩
theorem cfX1 : mu_cF 1 RX1 TX1 10 tyX1 := ⟨rfl, by decide, tyX1_ok, nmX1, fun w h => List.mem_filter.mpr ⟨inX1 w h, by revert w; decide +kernel⟩, by decide +kernel⟩
theorem cfX2 : mu_cF 2 RX2 TX2 3 tyX2 := ⟨rfl, by decide, tyX2_ok, nmX2, fun w h => List.mem_filter.mpr ⟨inX2 w h, by revert w; decide +kernel⟩, by decide +kernel⟩
theorem cfX3 : mu_cF 3 RX3 TX3 6 tyX3 := ⟨rfl, by decide, tyX3_ok, nmX3, fun w h => List.mem_filter.mpr ⟨inX3 w h, by revert w; decide +kernel⟩, by decide +kernel⟩
theorem cfX4 : mu_cF 4 RX4 TX4 11 tyX4 := ⟨rfl, by decide, tyX4_ok, nmX4, fun w h => List.mem_filter.mpr ⟨inX4 w h, by revert w; decide +kernel⟩, by decide +kernel⟩
theorem cfX5 : mu_cF 5 RX5 TX5 5 tyX5 := ⟨rfl, by decide, tyX5_ok, nmX5, fun w h => List.mem_filter.mpr ⟨inX5 w h, by revert w; decide +kernel⟩, by decide +kernel⟩
theorem cfX6 : mu_cF 6 RX6 TX6 5 tyX6 := ⟨rfl, by decide, tyX6_ok, nmX6, fun w h => List.mem_filter.mpr ⟨inX6 w h, by revert w; decide +kernel⟩, by decide +kernel⟩
theorem cfX7 : mu_cF 7 RX7 TX7 12 tyX7 := ⟨rfl, by decide, tyX7_ok, nmX7, fun w h => List.mem_filter.mpr ⟨inX7 w h, by revert w; decide +kernel⟩, by decide +kernel⟩
theorem cfX8 : mu_cF 8 RX8 TX8 6 tyX8 := ⟨rfl, by decide, tyX8_ok, nmX8, fun w h => List.mem_filter.mpr ⟨inX8 w h, by revert w; decide +kernel⟩, by decide +kernel⟩
theorem cfX9 : mu_cF 9 RX9 TX9 7 tyX9 := ⟨rfl, by decide, tyX9_ok, nmX9, fun w h => List.mem_filter.mpr ⟨inX9 w h, by revert w; decide +kernel⟩, by decide +kernel⟩
theorem cfX10 : mu_cF 10 RX10 TX10 2 tyX10 := ⟨rfl, by decide, tyX10_ok, nmX10, fun w h => List.mem_filter.mpr ⟨inX10 w h, by revert w; decide +kernel⟩, by decide +kernel⟩
theorem cfX11 : mu_cF 11 RX11 TX11 18 tyX11 := ⟨rfl, by decide, tyX11_ok, nmX11, fun w h => List.mem_filter.mpr ⟨inX11 w h, by revert w; decide +kernel⟩, by decide +kernel⟩
theorem cfX12 : mu_cF 12 RX12 TX12 60 tyX12 := ⟨rfl, by decide, tyX12_ok, nmX12, fun w h => List.mem_filter.mpr ⟨inX12 w h, by revert w; decide +kernel⟩, by decide +kernel⟩
theorem fX0_11 : mu_fL RX0 11 0 0 := ⟨RX0, TX0, 2, tyX0, cfX0, by decide, (List.mem_filter.mpr ⟨List.mem_of_getElem? (i := 182) (by decide +kernel), rfl⟩)⟩
theorem fX0_14 : mu_fL RX0 14 0 1 := ⟨RX0, TX0, 2, tyX0, cfX0, by decide, (List.mem_filter.mpr ⟨List.mem_of_getElem? (i := 183) (by decide +kernel), rfl⟩)⟩
theorem fX1_9 : mu_fL RX1 9 1 0 := ⟨RX1, TX1, 10, tyX1, cfX1, by decide, (List.mem_filter.mpr ⟨List.mem_of_getElem? (i := 229) (by decide +kernel), rfl⟩)⟩
theorem fX1_13 : mu_fL RX1 13 1 1 := ⟨RX1, TX1, 10, tyX1, cfX1, by decide, (List.mem_filter.mpr ⟨List.mem_of_getElem? (i := 230) (by decide +kernel), rfl⟩)⟩
theorem fX1_16 : mu_fL RX1 16 1 2 := ⟨RX1, TX1, 10, tyX1, cfX1, by decide, (List.mem_filter.mpr ⟨List.mem_of_getElem? (i := 232) (by decide +kernel), rfl⟩)⟩
theorem fX1_20 : mu_fL RX1 20 1 3 := ⟨RX1, TX1, 10, tyX1, cfX1, by decide, (List.mem_filter.mpr ⟨List.mem_of_getElem? (i := 233) (by decide +kernel), rfl⟩)⟩
theorem fX1_33 : mu_fL RX1 33 1 4 := ⟨RX1, TX1, 10, tyX1, cfX1, by decide, (List.mem_filter.mpr ⟨List.mem_of_getElem? (i := 235) (by decide +kernel), rfl⟩)⟩
theorem fX1_46 : mu_fL RX1 46 1 5 := ⟨RX1, TX1, 10, tyX1, cfX1, by decide, (List.mem_filter.mpr ⟨List.mem_of_getElem? (i := 239) (by decide +kernel), rfl⟩)⟩
theorem fX1_49 : mu_fL RX1 49 1 6 := ⟨RX1, TX1, 10, tyX1, cfX1, by decide, (List.mem_filter.mpr ⟨List.mem_of_getElem? (i := 244) (by decide +kernel), rfl⟩)⟩
theorem fX1_52 : mu_fL RX1 52 1 7 := ⟨RX1, TX1, 10, tyX1, cfX1, by decide, (List.mem_filter.mpr ⟨List.mem_of_getElem? (i := 249) (by decide +kernel), rfl⟩)⟩
theorem fX1_55 : mu_fL RX1 55 1 8 := ⟨RX1, TX1, 10, tyX1, cfX1, by decide, (List.mem_filter.mpr ⟨List.mem_of_getElem? (i := 253) (by decide +kernel), rfl⟩)⟩
theorem fX1_58 : mu_fL RX1 58 1 9 := ⟨RX1, TX1, 10, tyX1, cfX1, by decide, (List.mem_filter.mpr ⟨List.mem_of_getElem? (i := 258) (by decide +kernel), rfl⟩)⟩
theorem fX10_9 : mu_fL RX10 9 10 0 := ⟨RX10, TX10, 2, tyX10, cfX10, by decide, (List.mem_filter.mpr ⟨List.mem_of_getElem? (i := 118) (by decide +kernel), rfl⟩)⟩
theorem fX10_13 : mu_fL RX10 13 10 1 := ⟨RX10, TX10, 2, tyX10, cfX10, by decide, (List.mem_filter.mpr ⟨List.mem_of_getElem? (i := 119) (by decide +kernel), rfl⟩)⟩
theorem fX11_10 : mu_fL RX11 10 11 0 := ⟨RX11, TX11, 18, tyX11, cfX11, by decide, (List.mem_filter.mpr ⟨List.mem_of_getElem? (i := 367) (by decide +kernel), rfl⟩)⟩
theorem fX11_19 : mu_fL RX11 19 11 1 := ⟨RX11, TX11, 18, tyX11, cfX11, by decide, (List.mem_filter.mpr ⟨List.mem_of_getElem? (i := 368) (by decide +kernel), rfl⟩)⟩
theorem fX11_26 : mu_fL RX11 26 11 2 := ⟨RX11, TX11, 18, tyX11, cfX11, by decide, (List.mem_filter.mpr ⟨List.mem_of_getElem? (i := 369) (by decide +kernel), rfl⟩)⟩
theorem fX11_33 : mu_fL RX11 33 11 3 := ⟨RX11, TX11, 18, tyX11, cfX11, by decide, (List.mem_filter.mpr ⟨List.mem_of_getElem? (i := 370) (by decide +kernel), rfl⟩)⟩
theorem fX11_39 : mu_fL RX11 39 11 4 := ⟨RX11, TX11, 18, tyX11, cfX11, by decide, (List.mem_filter.mpr ⟨List.mem_of_getElem? (i := 371) (by decide +kernel), rfl⟩)⟩
theorem fX11_45 : mu_fL RX11 45 11 6 := ⟨RX11, TX11, 18, tyX11, cfX11, by decide, (List.mem_filter.mpr ⟨List.mem_of_getElem? (i := 373) (by decide +kernel), rfl⟩)⟩
theorem fX11_51 : mu_fL RX11 51 11 8 := ⟨RX11, TX11, 18, tyX11, cfX11, by decide, (List.mem_filter.mpr ⟨List.mem_of_getElem? (i := 375) (by decide +kernel), rfl⟩)⟩
theorem fX11_58 : mu_fL RX11 58 11 10 := ⟨RX11, TX11, 18, tyX11, cfX11, by decide, (List.mem_filter.mpr ⟨List.mem_of_getElem? (i := 377) (by decide +kernel), rfl⟩)⟩
theorem fX11_63 : mu_fL RX11 63 11 11 := ⟨RX11, TX11, 18, tyX11, cfX11, by decide, (List.mem_filter.mpr ⟨List.mem_of_getElem? (i := 378) (by decide +kernel), rfl⟩)⟩
theorem fX11_70 : mu_fL RX11 70 11 12 := ⟨RX11, TX11, 18, tyX11, cfX11, by decide, (List.mem_filter.mpr ⟨List.mem_of_getElem? (i := 379) (by decide +kernel), rfl⟩)⟩
theorem fX11_77 : mu_fL RX11 77 11 13 := ⟨RX11, TX11, 18, tyX11, cfX11, by decide, (List.mem_filter.mpr ⟨List.mem_of_getElem? (i := 380) (by decide +kernel), rfl⟩)⟩
theorem fX11_84 : mu_fL RX11 84 11 14 := ⟨RX11, TX11, 18, tyX11, cfX11, by decide, (List.mem_filter.mpr ⟨List.mem_of_getElem? (i := 381) (by decide +kernel), rfl⟩)⟩
theorem fX11_102 : mu_fL RX11 102 11 5 := ⟨RX11, TX11, 18, tyX11, cfX11, by decide, (List.mem_filter.mpr ⟨List.mem_of_getElem? (i := 372) (by decide +kernel), rfl⟩)⟩
theorem fX11_125 : mu_fL RX11 125 11 7 := ⟨RX11, TX11, 18, tyX11, cfX11, by decide, (List.mem_filter.mpr ⟨List.mem_of_getElem? (i := 374) (by decide +kernel), rfl⟩)⟩
theorem fX11_128 : mu_fL RX11 128 11 9 := ⟨RX11, TX11, 18, tyX11, cfX11, by decide, (List.mem_filter.mpr ⟨List.mem_of_getElem? (i := 376) (by decide +kernel), rfl⟩)⟩
theorem fX11_220 : mu_fL RX11 220 11 16 := ⟨RX11, TX11, 18, tyX11, cfX11, by decide, (List.mem_filter.mpr ⟨List.mem_of_getElem? (i := 383) (by decide +kernel), rfl⟩)⟩
theorem fX11_223 : mu_fL RX11 223 11 17 := ⟨RX11, TX11, 18, tyX11, cfX11, by decide, (List.mem_filter.mpr ⟨List.mem_of_getElem? (i := 384) (by decide +kernel), rfl⟩)⟩
theorem fX11_245 : mu_fL RX11 245 11 15 := ⟨RX11, TX11, 18, tyX11, cfX11, by decide, (List.mem_filter.mpr ⟨List.mem_of_getElem? (i := 382) (by decide +kernel), rfl⟩)⟩
theorem fX12_7 : mu_fL RX12 7 12 1 := ⟨RX12, TX12, 60, tyX12, cfX12, by decide, (List.mem_filter.mpr ⟨List.mem_of_getElem? (i := 1164) (by decide +kernel), rfl⟩)⟩
theorem fX12_13 : mu_fL RX12 13 12 4 := ⟨RX12, TX12, 60, tyX12, cfX12, by decide, (List.mem_filter.mpr ⟨List.mem_of_getElem? (i := 1167) (by decide +kernel), rfl⟩)⟩
theorem fX12_17 : mu_fL RX12 17 12 5 := ⟨RX12, TX12, 60, tyX12, cfX12, by decide, (List.mem_filter.mpr ⟨List.mem_of_getElem? (i := 1168) (by decide +kernel), rfl⟩)⟩
theorem fX12_20 : mu_fL RX12 20 12 6 := ⟨RX12, TX12, 60, tyX12, cfX12, by decide, (List.mem_filter.mpr ⟨List.mem_of_getElem? (i := 1169) (by decide +kernel), rfl⟩)⟩
theorem fX12_23 : mu_fL RX12 23 12 7 := ⟨RX12, TX12, 60, tyX12, cfX12, by decide, (List.mem_filter.mpr ⟨List.mem_of_getElem? (i := 1170) (by decide +kernel), rfl⟩)⟩
theorem fX12_26 : mu_fL RX12 26 12 8 := ⟨RX12, TX12, 60, tyX12, cfX12, by decide, (List.mem_filter.mpr ⟨List.mem_of_getElem? (i := 1171) (by decide +kernel), rfl⟩)⟩
theorem fX12_29 : mu_fL RX12 29 12 9 := ⟨RX12, TX12, 60, tyX12, cfX12, by decide, (List.mem_filter.mpr ⟨List.mem_of_getElem? (i := 1172) (by decide +kernel), rfl⟩)⟩
theorem fX12_32 : mu_fL RX12 32 12 10 := ⟨RX12, TX12, 60, tyX12, cfX12, by decide, (List.mem_filter.mpr ⟨List.mem_of_getElem? (i := 1173) (by decide +kernel), rfl⟩)⟩
theorem fX12_36 : mu_fL RX12 36 12 14 := ⟨RX12, TX12, 60, tyX12, cfX12, by decide, (List.mem_filter.mpr ⟨List.mem_of_getElem? (i := 1177) (by decide +kernel), rfl⟩)⟩
theorem fX12_39 : mu_fL RX12 39 12 15 := ⟨RX12, TX12, 60, tyX12, cfX12, by decide, (List.mem_filter.mpr ⟨List.mem_of_getElem? (i := 1178) (by decide +kernel), rfl⟩)⟩
theorem fX12_42 : mu_fL RX12 42 12 16 := ⟨RX12, TX12, 60, tyX12, cfX12, by decide, (List.mem_filter.mpr ⟨List.mem_of_getElem? (i := 1179) (by decide +kernel), rfl⟩)⟩
theorem fX12_46 : mu_fL RX12 46 12 17 := ⟨RX12, TX12, 60, tyX12, cfX12, by decide, (List.mem_filter.mpr ⟨List.mem_of_getElem? (i := 1180) (by decide +kernel), rfl⟩)⟩
theorem fX12_49 : mu_fL RX12 49 12 18 := ⟨RX12, TX12, 60, tyX12, cfX12, by decide, (List.mem_filter.mpr ⟨List.mem_of_getElem? (i := 1181) (by decide +kernel), rfl⟩)⟩
theorem fX12_52 : mu_fL RX12 52 12 25 := ⟨RX12, TX12, 60, tyX12, cfX12, by decide, (List.mem_filter.mpr ⟨List.mem_of_getElem? (i := 1188) (by decide +kernel), rfl⟩)⟩
theorem fX12_55 : mu_fL RX12 55 12 26 := ⟨RX12, TX12, 60, tyX12, cfX12, by decide, (List.mem_filter.mpr ⟨List.mem_of_getElem? (i := 1189) (by decide +kernel), rfl⟩)⟩
theorem fX12_59 : mu_fL RX12 59 12 27 := ⟨RX12, TX12, 60, tyX12, cfX12, by decide, (List.mem_filter.mpr ⟨List.mem_of_getElem? (i := 1190) (by decide +kernel), rfl⟩)⟩
theorem fX12_62 : mu_fL RX12 62 12 29 := ⟨RX12, TX12, 60, tyX12, cfX12, by decide, (List.mem_filter.mpr ⟨List.mem_of_getElem? (i := 1192) (by decide +kernel), rfl⟩)⟩
theorem fX12_65 : mu_fL RX12 65 12 30 := ⟨RX12, TX12, 60, tyX12, cfX12, by decide, (List.mem_filter.mpr ⟨List.mem_of_getElem? (i := 1193) (by decide +kernel), rfl⟩)⟩
theorem fX12_68 : mu_fL RX12 68 12 31 := ⟨RX12, TX12, 60, tyX12, cfX12, by decide, (List.mem_filter.mpr ⟨List.mem_of_getElem? (i := 1194) (by decide +kernel), rfl⟩)⟩
theorem fX12_71 : mu_fL RX12 71 12 32 := ⟨RX12, TX12, 60, tyX12, cfX12, by decide, (List.mem_filter.mpr ⟨List.mem_of_getElem? (i := 1195) (by decide +kernel), rfl⟩)⟩
theorem fX12_74 : mu_fL RX12 74 12 33 := ⟨RX12, TX12, 60, tyX12, cfX12, by decide, (List.mem_filter.mpr ⟨List.mem_of_getElem? (i := 1196) (by decide +kernel), rfl⟩)⟩
theorem fX12_77 : mu_fL RX12 77 12 34 := ⟨RX12, TX12, 60, tyX12, cfX12, by decide, (List.mem_filter.mpr ⟨List.mem_of_getElem? (i := 1197) (by decide +kernel), rfl⟩)⟩
theorem fX12_80 : mu_fL RX12 80 12 38 := ⟨RX12, TX12, 60, tyX12, cfX12, by decide, (List.mem_filter.mpr ⟨List.mem_of_getElem? (i := 1201) (by decide +kernel), rfl⟩)⟩
theorem fX12_83 : mu_fL RX12 83 12 39 := ⟨RX12, TX12, 60, tyX12, cfX12, by decide, (List.mem_filter.mpr ⟨List.mem_of_getElem? (i := 1202) (by decide +kernel), rfl⟩)⟩
theorem fX12_86 : mu_fL RX12 86 12 44 := ⟨RX12, TX12, 60, tyX12, cfX12, by decide, (List.mem_filter.mpr ⟨List.mem_of_getElem? (i := 1207) (by decide +kernel), rfl⟩)⟩
theorem fX12_89 : mu_fL RX12 89 12 45 := ⟨RX12, TX12, 60, tyX12, cfX12, by decide, (List.mem_filter.mpr ⟨List.mem_of_getElem? (i := 1208) (by decide +kernel), rfl⟩)⟩
theorem fX12_93 : mu_fL RX12 93 12 47 := ⟨RX12, TX12, 60, tyX12, cfX12, by decide, (List.mem_filter.mpr ⟨List.mem_of_getElem? (i := 1210) (by decide +kernel), rfl⟩)⟩
theorem fX12_96 : mu_fL RX12 96 12 48 := ⟨RX12, TX12, 60, tyX12, cfX12, by decide, (List.mem_filter.mpr ⟨List.mem_of_getElem? (i := 1211) (by decide +kernel), rfl⟩)⟩
theorem fX12_99 : mu_fL RX12 99 12 49 := ⟨RX12, TX12, 60, tyX12, cfX12, by decide, (List.mem_filter.mpr ⟨List.mem_of_getElem? (i := 1212) (by decide +kernel), rfl⟩)⟩
theorem fX12_102 : mu_fL RX12 102 12 50 := ⟨RX12, TX12, 60, tyX12, cfX12, by decide, (List.mem_filter.mpr ⟨List.mem_of_getElem? (i := 1213) (by decide +kernel), rfl⟩)⟩
theorem fX12_105 : mu_fL RX12 105 12 51 := ⟨RX12, TX12, 60, tyX12, cfX12, by decide, (List.mem_filter.mpr ⟨List.mem_of_getElem? (i := 1214) (by decide +kernel), rfl⟩)⟩
theorem fX12_108 : mu_fL RX12 108 12 52 := ⟨RX12, TX12, 60, tyX12, cfX12, by decide, (List.mem_filter.mpr ⟨List.mem_of_getElem? (i := 1215) (by decide +kernel), rfl⟩)⟩
theorem fX12_111 : mu_fL RX12 111 12 55 := ⟨RX12, TX12, 60, tyX12, cfX12, by decide, (List.mem_filter.mpr ⟨List.mem_of_getElem? (i := 1218) (by decide +kernel), rfl⟩)⟩
theorem fX12_115 : mu_fL RX12 115 12 57 := ⟨RX12, TX12, 60, tyX12, cfX12, by decide, (List.mem_filter.mpr ⟨List.mem_of_getElem? (i := 1220) (by decide +kernel), rfl⟩)⟩
theorem fX12_118 : mu_fL RX12 118 12 58 := ⟨RX12, TX12, 60, tyX12, cfX12, by decide, (List.mem_filter.mpr ⟨List.mem_of_getElem? (i := 1221) (by decide +kernel), rfl⟩)⟩
theorem fX12_121 : mu_fL RX12 121 12 59 := ⟨RX12, TX12, 60, tyX12, cfX12, by decide, (List.mem_filter.mpr ⟨List.mem_of_getElem? (i := 1222) (by decide +kernel), rfl⟩)⟩
theorem fX12_128 : mu_fL RX12 128 12 2 := ⟨RX12, TX12, 60, tyX12, cfX12, by decide, (List.mem_filter.mpr ⟨List.mem_of_getElem? (i := 1165) (by decide +kernel), rfl⟩)⟩
theorem fX12_131 : mu_fL RX12 131 12 12 := ⟨RX12, TX12, 60, tyX12, cfX12, by decide, (List.mem_filter.mpr ⟨List.mem_of_getElem? (i := 1175) (by decide +kernel), rfl⟩)⟩
theorem fX12_134 : mu_fL RX12 134 12 11 := ⟨RX12, TX12, 60, tyX12, cfX12, by decide, (List.mem_filter.mpr ⟨List.mem_of_getElem? (i := 1174) (by decide +kernel), rfl⟩)⟩
theorem fX12_148 : mu_fL RX12 148 12 3 := ⟨RX12, TX12, 60, tyX12, cfX12, by decide, (List.mem_filter.mpr ⟨List.mem_of_getElem? (i := 1166) (by decide +kernel), rfl⟩)⟩
theorem fX12_172 : mu_fL RX12 172 12 13 := ⟨RX12, TX12, 60, tyX12, cfX12, by decide, (List.mem_filter.mpr ⟨List.mem_of_getElem? (i := 1176) (by decide +kernel), rfl⟩)⟩
theorem fX12_189 : mu_fL RX12 189 12 19 := ⟨RX12, TX12, 60, tyX12, cfX12, by decide, (List.mem_filter.mpr ⟨List.mem_of_getElem? (i := 1182) (by decide +kernel), rfl⟩)⟩
theorem fX12_192 : mu_fL RX12 192 12 20 := ⟨RX12, TX12, 60, tyX12, cfX12, by decide, (List.mem_filter.mpr ⟨List.mem_of_getElem? (i := 1183) (by decide +kernel), rfl⟩)⟩
theorem fX12_195 : mu_fL RX12 195 12 21 := ⟨RX12, TX12, 60, tyX12, cfX12, by decide, (List.mem_filter.mpr ⟨List.mem_of_getElem? (i := 1184) (by decide +kernel), rfl⟩)⟩
theorem fX12_198 : mu_fL RX12 198 12 22 := ⟨RX12, TX12, 60, tyX12, cfX12, by decide, (List.mem_filter.mpr ⟨List.mem_of_getElem? (i := 1185) (by decide +kernel), rfl⟩)⟩
theorem fX12_201 : mu_fL RX12 201 12 23 := ⟨RX12, TX12, 60, tyX12, cfX12, by decide, (List.mem_filter.mpr ⟨List.mem_of_getElem? (i := 1186) (by decide +kernel), rfl⟩)⟩
theorem fX12_223 : mu_fL RX12 223 12 24 := ⟨RX12, TX12, 60, tyX12, cfX12, by decide, (List.mem_filter.mpr ⟨List.mem_of_getElem? (i := 1187) (by decide +kernel), rfl⟩)⟩
theorem fX12_240 : mu_fL RX12 240 12 28 := ⟨RX12, TX12, 60, tyX12, cfX12, by decide, (List.mem_filter.mpr ⟨List.mem_of_getElem? (i := 1191) (by decide +kernel), rfl⟩)⟩
theorem fX12_254 : mu_fL RX12 254 12 35 := ⟨RX12, TX12, 60, tyX12, cfX12, by decide, (List.mem_filter.mpr ⟨List.mem_of_getElem? (i := 1198) (by decide +kernel), rfl⟩)⟩
theorem fX12_267 : mu_fL RX12 267 12 36 := ⟨RX12, TX12, 60, tyX12, cfX12, by decide, (List.mem_filter.mpr ⟨List.mem_of_getElem? (i := 1199) (by decide +kernel), rfl⟩)⟩
theorem fX12_270 : mu_fL RX12 270 12 37 := ⟨RX12, TX12, 60, tyX12, cfX12, by decide, (List.mem_filter.mpr ⟨List.mem_of_getElem? (i := 1200) (by decide +kernel), rfl⟩)⟩
theorem fX12_273 : mu_fL RX12 273 12 40 := ⟨RX12, TX12, 60, tyX12, cfX12, by decide, (List.mem_filter.mpr ⟨List.mem_of_getElem? (i := 1203) (by decide +kernel), rfl⟩)⟩
theorem fX12_276 : mu_fL RX12 276 12 41 := ⟨RX12, TX12, 60, tyX12, cfX12, by decide, (List.mem_filter.mpr ⟨List.mem_of_getElem? (i := 1204) (by decide +kernel), rfl⟩)⟩
theorem fX12_279 : mu_fL RX12 279 12 42 := ⟨RX12, TX12, 60, tyX12, cfX12, by decide, (List.mem_filter.mpr ⟨List.mem_of_getElem? (i := 1205) (by decide +kernel), rfl⟩)⟩
theorem fX12_282 : mu_fL RX12 282 12 43 := ⟨RX12, TX12, 60, tyX12, cfX12, by decide, (List.mem_filter.mpr ⟨List.mem_of_getElem? (i := 1206) (by decide +kernel), rfl⟩)⟩
theorem fX12_313 : mu_fL RX12 313 12 46 := ⟨RX12, TX12, 60, tyX12, cfX12, by decide, (List.mem_filter.mpr ⟨List.mem_of_getElem? (i := 1209) (by decide +kernel), rfl⟩)⟩
theorem fX12_331 : mu_fL RX12 331 12 53 := ⟨RX12, TX12, 60, tyX12, cfX12, by decide, (List.mem_filter.mpr ⟨List.mem_of_getElem? (i := 1216) (by decide +kernel), rfl⟩)⟩
theorem fX12_334 : mu_fL RX12 334 12 54 := ⟨RX12, TX12, 60, tyX12, cfX12, by decide, (List.mem_filter.mpr ⟨List.mem_of_getElem? (i := 1217) (by decide +kernel), rfl⟩)⟩
theorem fX12_348 : mu_fL RX12 348 12 56 := ⟨RX12, TX12, 60, tyX12, cfX12, by decide, (List.mem_filter.mpr ⟨List.mem_of_getElem? (i := 1219) (by decide +kernel), rfl⟩)⟩
theorem fX2_7 : mu_fL RX2 7 2 0 := ⟨RX2, TX2, 3, tyX2, cfX2, by decide, (List.mem_filter.mpr ⟨List.mem_of_getElem? (i := 313) (by decide +kernel), rfl⟩)⟩
theorem fX2_13 : mu_fL RX2 13 2 1 := ⟨RX2, TX2, 3, tyX2, cfX2, by decide, (List.mem_filter.mpr ⟨List.mem_of_getElem? (i := 314) (by decide +kernel), rfl⟩)⟩
theorem fX2_16 : mu_fL RX2 16 2 2 := ⟨RX2, TX2, 3, tyX2, cfX2, by decide, (List.mem_filter.mpr ⟨List.mem_of_getElem? (i := 315) (by decide +kernel), rfl⟩)⟩
theorem fX3_9 : mu_fL RX3 9 3 0 := ⟨RX3, TX3, 6, tyX3, cfX3, by decide, (List.mem_filter.mpr ⟨List.mem_of_getElem? (i := 1024) (by decide +kernel), rfl⟩)⟩
theorem fX3_13 : mu_fL RX3 13 3 1 := ⟨RX3, TX3, 6, tyX3, cfX3, by decide, (List.mem_filter.mpr ⟨List.mem_of_getElem? (i := 1025) (by decide +kernel), rfl⟩)⟩
theorem fX3_22 : mu_fL RX3 22 3 2 := ⟨RX3, TX3, 6, tyX3, cfX3, by decide, (List.mem_filter.mpr ⟨List.mem_of_getElem? (i := 1026) (by decide +kernel), rfl⟩)⟩
theorem fX3_25 : mu_fL RX3 25 3 3 := ⟨RX3, TX3, 6, tyX3, cfX3, by decide, (List.mem_filter.mpr ⟨List.mem_of_getElem? (i := 1027) (by decide +kernel), rfl⟩)⟩
theorem fX3_28 : mu_fL RX3 28 3 4 := ⟨RX3, TX3, 6, tyX3, cfX3, by decide, (List.mem_filter.mpr ⟨List.mem_of_getElem? (i := 1028) (by decide +kernel), rfl⟩)⟩
theorem fX3_31 : mu_fL RX3 31 3 5 := ⟨RX3, TX3, 6, tyX3, cfX3, by decide, (List.mem_filter.mpr ⟨List.mem_of_getElem? (i := 1029) (by decide +kernel), rfl⟩)⟩
theorem fX4_13 : mu_fL RX4 13 4 0 := ⟨RX4, TX4, 11, tyX4, cfX4, by decide, (List.mem_filter.mpr ⟨List.mem_of_getElem? (i := 507) (by decide +kernel), rfl⟩)⟩
theorem fX4_25 : mu_fL RX4 25 4 1 := ⟨RX4, TX4, 11, tyX4, cfX4, by decide, (List.mem_filter.mpr ⟨List.mem_of_getElem? (i := 508) (by decide +kernel), rfl⟩)⟩
theorem fX4_29 : mu_fL RX4 29 4 2 := ⟨RX4, TX4, 11, tyX4, cfX4, by decide, (List.mem_filter.mpr ⟨List.mem_of_getElem? (i := 511) (by decide +kernel), rfl⟩)⟩
theorem fX4_33 : mu_fL RX4 33 4 3 := ⟨RX4, TX4, 11, tyX4, cfX4, by decide, (List.mem_filter.mpr ⟨List.mem_of_getElem? (i := 514) (by decide +kernel), rfl⟩)⟩
theorem fX4_37 : mu_fL RX4 37 4 4 := ⟨RX4, TX4, 11, tyX4, cfX4, by decide, (List.mem_filter.mpr ⟨List.mem_of_getElem? (i := 517) (by decide +kernel), rfl⟩)⟩
theorem fX4_38 : mu_fL RX4 38 4 5 := ⟨RX4, TX4, 11, tyX4, cfX4, by decide, (List.mem_filter.mpr ⟨List.mem_of_getElem? (i := 519) (by decide +kernel), rfl⟩)⟩
theorem fX4_42 : mu_fL RX4 42 4 6 := ⟨RX4, TX4, 11, tyX4, cfX4, by decide, (List.mem_filter.mpr ⟨List.mem_of_getElem? (i := 521) (by decide +kernel), rfl⟩)⟩
theorem fX4_49 : mu_fL RX4 49 4 7 := ⟨RX4, TX4, 11, tyX4, cfX4, by decide, (List.mem_filter.mpr ⟨List.mem_of_getElem? (i := 523) (by decide +kernel), rfl⟩)⟩
theorem fX4_52 : mu_fL RX4 52 4 8 := ⟨RX4, TX4, 11, tyX4, cfX4, by decide, (List.mem_filter.mpr ⟨List.mem_of_getElem? (i := 525) (by decide +kernel), rfl⟩)⟩
theorem fX4_55 : mu_fL RX4 55 4 9 := ⟨RX4, TX4, 11, tyX4, cfX4, by decide, (List.mem_filter.mpr ⟨List.mem_of_getElem? (i := 527) (by decide +kernel), rfl⟩)⟩
theorem fX4_64 : mu_fL RX4 64 4 10 := ⟨RX4, TX4, 11, tyX4, cfX4, by decide, (List.mem_filter.mpr ⟨List.mem_of_getElem? (i := 528) (by decide +kernel), rfl⟩)⟩
theorem fX5_7 : mu_fL RX5 7 5 0 := ⟨RX5, TX5, 5, tyX5, cfX5, by decide, (List.mem_filter.mpr ⟨List.mem_of_getElem? (i := 133) (by decide +kernel), rfl⟩)⟩
theorem fX5_13 : mu_fL RX5 13 5 1 := ⟨RX5, TX5, 5, tyX5, cfX5, by decide, (List.mem_filter.mpr ⟨List.mem_of_getElem? (i := 135) (by decide +kernel), rfl⟩)⟩
theorem fX5_16 : mu_fL RX5 16 5 2 := ⟨RX5, TX5, 5, tyX5, cfX5, by decide, (List.mem_filter.mpr ⟨List.mem_of_getElem? (i := 137) (by decide +kernel), rfl⟩)⟩
theorem fX5_19 : mu_fL RX5 19 5 3 := ⟨RX5, TX5, 5, tyX5, cfX5, by decide, (List.mem_filter.mpr ⟨List.mem_of_getElem? (i := 139) (by decide +kernel), rfl⟩)⟩
theorem fX5_22 : mu_fL RX5 22 5 4 := ⟨RX5, TX5, 5, tyX5, cfX5, by decide, (List.mem_filter.mpr ⟨List.mem_of_getElem? (i := 140) (by decide +kernel), rfl⟩)⟩
theorem fX6_26 : mu_fL RX6 26 6 0 := ⟨RX6, TX6, 5, tyX6, cfX6, by decide, (List.mem_filter.mpr ⟨List.mem_of_getElem? (i := 158) (by decide +kernel), rfl⟩)⟩
theorem fX6_34 : mu_fL RX6 34 6 2 := ⟨RX6, TX6, 5, tyX6, cfX6, by decide, (List.mem_filter.mpr ⟨List.mem_of_getElem? (i := 160) (by decide +kernel), rfl⟩)⟩
theorem fX6_47 : mu_fL RX6 47 6 1 := ⟨RX6, TX6, 5, tyX6, cfX6, by decide, (List.mem_filter.mpr ⟨List.mem_of_getElem? (i := 159) (by decide +kernel), rfl⟩)⟩
theorem fX6_50 : mu_fL RX6 50 6 3 := ⟨RX6, TX6, 5, tyX6, cfX6, by decide, (List.mem_filter.mpr ⟨List.mem_of_getElem? (i := 161) (by decide +kernel), rfl⟩)⟩
theorem fX6_53 : mu_fL RX6 53 6 4 := ⟨RX6, TX6, 5, tyX6, cfX6, by decide, (List.mem_filter.mpr ⟨List.mem_of_getElem? (i := 162) (by decide +kernel), rfl⟩)⟩
theorem fX7_11 : mu_fL RX7 11 7 0 := ⟨RX7, TX7, 12, tyX7, cfX7, by decide, (List.mem_filter.mpr ⟨List.mem_of_getElem? (i := 329) (by decide +kernel), rfl⟩)⟩
theorem fX7_15 : mu_fL RX7 15 7 1 := ⟨RX7, TX7, 12, tyX7, cfX7, by decide, (List.mem_filter.mpr ⟨List.mem_of_getElem? (i := 330) (by decide +kernel), rfl⟩)⟩
theorem fX7_18 : mu_fL RX7 18 7 2 := ⟨RX7, TX7, 12, tyX7, cfX7, by decide, (List.mem_filter.mpr ⟨List.mem_of_getElem? (i := 331) (by decide +kernel), rfl⟩)⟩
theorem fX7_21 : mu_fL RX7 21 7 4 := ⟨RX7, TX7, 12, tyX7, cfX7, by decide, (List.mem_filter.mpr ⟨List.mem_of_getElem? (i := 333) (by decide +kernel), rfl⟩)⟩
theorem fX7_24 : mu_fL RX7 24 7 5 := ⟨RX7, TX7, 12, tyX7, cfX7, by decide, (List.mem_filter.mpr ⟨List.mem_of_getElem? (i := 334) (by decide +kernel), rfl⟩)⟩
theorem fX7_27 : mu_fL RX7 27 7 9 := ⟨RX7, TX7, 12, tyX7, cfX7, by decide, (List.mem_filter.mpr ⟨List.mem_of_getElem? (i := 338) (by decide +kernel), rfl⟩)⟩
theorem fX7_30 : mu_fL RX7 30 7 10 := ⟨RX7, TX7, 12, tyX7, cfX7, by decide, (List.mem_filter.mpr ⟨List.mem_of_getElem? (i := 339) (by decide +kernel), rfl⟩)⟩
theorem fX7_46 : mu_fL RX7 46 7 11 := ⟨RX7, TX7, 12, tyX7, cfX7, by decide, (List.mem_filter.mpr ⟨List.mem_of_getElem? (i := 340) (by decide +kernel), rfl⟩)⟩
theorem fX7_50 : mu_fL RX7 50 7 3 := ⟨RX7, TX7, 12, tyX7, cfX7, by decide, (List.mem_filter.mpr ⟨List.mem_of_getElem? (i := 332) (by decide +kernel), rfl⟩)⟩
theorem fX7_69 : mu_fL RX7 69 7 6 := ⟨RX7, TX7, 12, tyX7, cfX7, by decide, (List.mem_filter.mpr ⟨List.mem_of_getElem? (i := 335) (by decide +kernel), rfl⟩)⟩
theorem fX7_94 : mu_fL RX7 94 7 7 := ⟨RX7, TX7, 12, tyX7, cfX7, by decide, (List.mem_filter.mpr ⟨List.mem_of_getElem? (i := 336) (by decide +kernel), rfl⟩)⟩
theorem fX7_98 : mu_fL RX7 98 7 8 := ⟨RX7, TX7, 12, tyX7, cfX7, by decide, (List.mem_filter.mpr ⟨List.mem_of_getElem? (i := 337) (by decide +kernel), rfl⟩)⟩
theorem fX8_9 : mu_fL RX8 9 8 0 := ⟨RX8, TX8, 6, tyX8, cfX8, by decide, (List.mem_filter.mpr ⟨List.mem_of_getElem? (i := 287) (by decide +kernel), rfl⟩)⟩
theorem fX8_13 : mu_fL RX8 13 8 1 := ⟨RX8, TX8, 6, tyX8, cfX8, by decide, (List.mem_filter.mpr ⟨List.mem_of_getElem? (i := 288) (by decide +kernel), rfl⟩)⟩
theorem fX8_17 : mu_fL RX8 17 8 2 := ⟨RX8, TX8, 6, tyX8, cfX8, by decide, (List.mem_filter.mpr ⟨List.mem_of_getElem? (i := 289) (by decide +kernel), rfl⟩)⟩
theorem fX8_65 : mu_fL RX8 65 8 5 := ⟨RX8, TX8, 6, tyX8, cfX8, by decide, (List.mem_filter.mpr ⟨List.mem_of_getElem? (i := 292) (by decide +kernel), rfl⟩)⟩
theorem fX8_85 : mu_fL RX8 85 8 4 := ⟨RX8, TX8, 6, tyX8, cfX8, by decide, (List.mem_filter.mpr ⟨List.mem_of_getElem? (i := 291) (by decide +kernel), rfl⟩)⟩
theorem fX8_98 : mu_fL RX8 98 8 3 := ⟨RX8, TX8, 6, tyX8, cfX8, by decide, (List.mem_filter.mpr ⟨List.mem_of_getElem? (i := 290) (by decide +kernel), rfl⟩)⟩
theorem fX9_9 : mu_fL RX9 9 9 0 := ⟨RX9, TX9, 7, tyX9, cfX9, by decide, (List.mem_filter.mpr ⟨List.mem_of_getElem? (i := 202) (by decide +kernel), rfl⟩)⟩
theorem fX9_15 : mu_fL RX9 15 9 1 := ⟨RX9, TX9, 7, tyX9, cfX9, by decide, (List.mem_filter.mpr ⟨List.mem_of_getElem? (i := 203) (by decide +kernel), rfl⟩)⟩
theorem fX9_18 : mu_fL RX9 18 9 2 := ⟨RX9, TX9, 7, tyX9, cfX9, by decide, (List.mem_filter.mpr ⟨List.mem_of_getElem? (i := 204) (by decide +kernel), rfl⟩)⟩
theorem fX9_70 : mu_fL RX9 70 9 3 := ⟨RX9, TX9, 7, tyX9, cfX9, by decide, (List.mem_filter.mpr ⟨List.mem_of_getElem? (i := 205) (by decide +kernel), rfl⟩)⟩
theorem fX9_74 : mu_fL RX9 74 9 4 := ⟨RX9, TX9, 7, tyX9, cfX9, by decide, (List.mem_filter.mpr ⟨List.mem_of_getElem? (i := 206) (by decide +kernel), rfl⟩)⟩
theorem fX9_77 : mu_fL RX9 77 9 5 := ⟨RX9, TX9, 7, tyX9, cfX9, by decide, (List.mem_filter.mpr ⟨List.mem_of_getElem? (i := 207) (by decide +kernel), rfl⟩)⟩
theorem fX9_80 : mu_fL RX9 80 9 6 := ⟨RX9, TX9, 7, tyX9, cfX9, by decide, (List.mem_filter.mpr ⟨List.mem_of_getElem? (i := 208) (by decide +kernel), rfl⟩)⟩
theorem fX11_185 : mu_fN RX11 185 1 5 := ⟨RX1, TX1, 10, tyX1, cfX1, by decide, "CellMuseum", (List.mem_filter.mpr ⟨List.mem_of_getElem? (i := 240) (by decide +kernel), rfl⟩)⟩
theorem fX11_188 : mu_fN RX11 188 1 6 := ⟨RX1, TX1, 10, tyX1, cfX1, by decide, "CellMuseum", (List.mem_filter.mpr ⟨List.mem_of_getElem? (i := 245) (by decide +kernel), rfl⟩)⟩
theorem fX11_194 : mu_fN RX11 194 1 7 := ⟨RX1, TX1, 10, tyX1, cfX1, by decide, "CellMuseum", (List.mem_filter.mpr ⟨List.mem_of_getElem? (i := 250) (by decide +kernel), rfl⟩)⟩
theorem fX11_197 : mu_fN RX11 197 1 8 := ⟨RX1, TX1, 10, tyX1, cfX1, by decide, "CellMuseum", (List.mem_filter.mpr ⟨List.mem_of_getElem? (i := 254) (by decide +kernel), rfl⟩)⟩
theorem fX11_200 : mu_fN RX11 200 1 9 := ⟨RX1, TX1, 10, tyX1, cfX1, by decide, "CellMuseum", (List.mem_filter.mpr ⟨List.mem_of_getElem? (i := 259) (by decide +kernel), rfl⟩)⟩
theorem fX11_203 : mu_fN RX11 203 1 4 := ⟨RX1, TX1, 10, tyX1, cfX1, by decide, "CellMuseum", (List.mem_filter.mpr ⟨List.mem_of_getElem? (i := 236) (by decide +kernel), rfl⟩)⟩
theorem fX11_206 : mu_fN RX11 206 1 3 := ⟨RX1, TX1, 10, tyX1, cfX1, by decide, "CellMuseum", (List.mem_filter.mpr ⟨List.mem_of_getElem? (i := 234) (by decide +kernel), rfl⟩)⟩
theorem fX11_264 : mu_fN RX11 264 7 11 := ⟨RX7, TX7, 12, tyX7, cfX7, by decide, "CellMuseum", (List.mem_filter.mpr ⟨List.mem_of_getElem? (i := 341) (by decide +kernel), rfl⟩)⟩
theorem fX11_310 : mu_fN RX11 310 4 7 := ⟨RX4, TX4, 11, tyX4, cfX4, by decide, "CellMuseum", (List.mem_filter.mpr ⟨List.mem_of_getElem? (i := 524) (by decide +kernel), rfl⟩)⟩
theorem fX11_313 : mu_fN RX11 313 4 8 := ⟨RX4, TX4, 11, tyX4, cfX4, by decide, "CellMuseum", (List.mem_filter.mpr ⟨List.mem_of_getElem? (i := 526) (by decide +kernel), rfl⟩)⟩
theorem fX11_316 : mu_fN RX11 316 4 10 := ⟨RX4, TX4, 11, tyX4, cfX4, by decide, "CellMuseum", (List.mem_filter.mpr ⟨List.mem_of_getElem? (i := 529) (by decide +kernel), rfl⟩)⟩
theorem fX2_19 : mu_fN RX2 19 1 7 := ⟨RX1, TX1, 10, tyX1, cfX1, by decide, "CellMuseum", (List.mem_filter.mpr ⟨List.mem_of_getElem? (i := 246) (by decide +kernel), rfl⟩)⟩
theorem fX2_24 : mu_fN RX2 24 1 9 := ⟨RX1, TX1, 10, tyX1, cfX1, by decide, "CellMuseum", (List.mem_filter.mpr ⟨List.mem_of_getElem? (i := 255) (by decide +kernel), rfl⟩)⟩
theorem fX2_43 : mu_fN RX2 43 1 6 := ⟨RX1, TX1, 10, tyX1, cfX1, by decide, "CellMuseum", (List.mem_filter.mpr ⟨List.mem_of_getElem? (i := 242) (by decide +kernel), rfl⟩)⟩
theorem fX3_17 : mu_fN RX3 17 4 4 := ⟨RX4, TX4, 11, tyX4, cfX4, by decide, "CellMuseum", (List.mem_filter.mpr ⟨List.mem_of_getElem? (i := 518) (by decide +kernel), rfl⟩)⟩
theorem fX3_54 : mu_fN RX3 54 4 5 := ⟨RX4, TX4, 11, tyX4, cfX4, by decide, "CellMuseum", (List.mem_filter.mpr ⟨List.mem_of_getElem? (i := 520) (by decide +kernel), rfl⟩)⟩
theorem fX3_60 : mu_fN RX3 60 4 6 := ⟨RX4, TX4, 11, tyX4, cfX4, by decide, "CellMuseum", (List.mem_filter.mpr ⟨List.mem_of_getElem? (i := 522) (by decide +kernel), rfl⟩)⟩
theorem fX4_19 : mu_fN RX4 19 5 0 := ⟨RX5, TX5, 5, tyX5, cfX5, by decide, "CellMuseum", (List.mem_filter.mpr ⟨List.mem_of_getElem? (i := 132) (by decide +kernel), rfl⟩)⟩
theorem fX4_26 : mu_fN RX4 26 5 1 := ⟨RX5, TX5, 5, tyX5, cfX5, by decide, "CellMuseum", (List.mem_filter.mpr ⟨List.mem_of_getElem? (i := 134) (by decide +kernel), rfl⟩)⟩
theorem fX4_30 : mu_fN RX4 30 5 2 := ⟨RX5, TX5, 5, tyX5, cfX5, by decide, "CellMuseum", (List.mem_filter.mpr ⟨List.mem_of_getElem? (i := 136) (by decide +kernel), rfl⟩)⟩
theorem fX4_34 : mu_fN RX4 34 5 3 := ⟨RX5, TX5, 5, tyX5, cfX5, by decide, "CellMuseum", (List.mem_filter.mpr ⟨List.mem_of_getElem? (i := 138) (by decide +kernel), rfl⟩)⟩
theorem fX7_89 : mu_fN RX7 89 4 2 := ⟨RX4, TX4, 11, tyX4, cfX4, by decide, "CellMuseum", (List.mem_filter.mpr ⟨List.mem_of_getElem? (i := 513) (by decide +kernel), rfl⟩)⟩
theorem fX7_95 : mu_fN RX7 95 4 3 := ⟨RX4, TX4, 11, tyX4, cfX4, by decide, "CellMuseum", (List.mem_filter.mpr ⟨List.mem_of_getElem? (i := 516) (by decide +kernel), rfl⟩)⟩
theorem fX7_103 : mu_fN RX7 103 4 1 := ⟨RX4, TX4, 11, tyX4, cfX4, by decide, "CellMuseum", (List.mem_filter.mpr ⟨List.mem_of_getElem? (i := 510) (by decide +kernel), rfl⟩)⟩
theorem fX8_20 : mu_fN RX8 20 1 5 := ⟨RX1, TX1, 10, tyX1, cfX1, by decide, "CellMuseum", (List.mem_filter.mpr ⟨List.mem_of_getElem? (i := 237) (by decide +kernel), rfl⟩)⟩
theorem fX8_34 : mu_fN RX8 34 1 8 := ⟨RX1, TX1, 10, tyX1, cfX1, by decide, "CellMuseum", (List.mem_filter.mpr ⟨List.mem_of_getElem? (i := 252) (by decide +kernel), rfl⟩)⟩
theorem fX8_37 : mu_fN RX8 37 1 6 := ⟨RX1, TX1, 10, tyX1, cfX1, by decide, "CellMuseum", (List.mem_filter.mpr ⟨List.mem_of_getElem? (i := 243) (by decide +kernel), rfl⟩)⟩
theorem fX8_40 : mu_fN RX8 40 1 9 := ⟨RX1, TX1, 10, tyX1, cfX1, by decide, "CellMuseum", (List.mem_filter.mpr ⟨List.mem_of_getElem? (i := 257) (by decide +kernel), rfl⟩)⟩
theorem fX8_43 : mu_fN RX8 43 1 7 := ⟨RX1, TX1, 10, tyX1, cfX1, by decide, "CellMuseum", (List.mem_filter.mpr ⟨List.mem_of_getElem? (i := 248) (by decide +kernel), rfl⟩)⟩
theorem fX9_21 : mu_fN RX9 21 1 2 := ⟨RX1, TX1, 10, tyX1, cfX1, by decide, "CellMuseum", (List.mem_filter.mpr ⟨List.mem_of_getElem? (i := 231) (by decide +kernel), rfl⟩)⟩
theorem fX9_25 : mu_fN RX9 25 1 5 := ⟨RX1, TX1, 10, tyX1, cfX1, by decide, "CellMuseum", (List.mem_filter.mpr ⟨List.mem_of_getElem? (i := 238) (by decide +kernel), rfl⟩)⟩
theorem fX9_29 : mu_fN RX9 29 1 7 := ⟨RX1, TX1, 10, tyX1, cfX1, by decide, "CellMuseum", (List.mem_filter.mpr ⟨List.mem_of_getElem? (i := 247) (by decide +kernel), rfl⟩)⟩
theorem fX9_38 : mu_fN RX9 38 1 9 := ⟨RX1, TX1, 10, tyX1, cfX1, by decide, "CellMuseum", (List.mem_filter.mpr ⟨List.mem_of_getElem? (i := 256) (by decide +kernel), rfl⟩)⟩
theorem fX9_44 : mu_fN RX9 44 1 6 := ⟨RX1, TX1, 10, tyX1, cfX1, by decide, "CellMuseum", (List.mem_filter.mpr ⟨List.mem_of_getElem? (i := 241) (by decide +kernel), rfl⟩)⟩
theorem fX9_47 : mu_fN RX9 47 1 8 := ⟨RX1, TX1, 10, tyX1, cfX1, by decide, "CellMuseum", (List.mem_filter.mpr ⟨List.mem_of_getElem? (i := 251) (by decide +kernel), rfl⟩)⟩
theorem fX9_94 : mu_fN RX9 94 4 1 := ⟨RX4, TX4, 11, tyX4, cfX4, by decide, "CellMuseum", (List.mem_filter.mpr ⟨List.mem_of_getElem? (i := 509) (by decide +kernel), rfl⟩)⟩
theorem fX9_99 : mu_fN RX9 99 4 3 := ⟨RX4, TX4, 11, tyX4, cfX4, by decide, "CellMuseum", (List.mem_filter.mpr ⟨List.mem_of_getElem? (i := 515) (by decide +kernel), rfl⟩)⟩
theorem fX9_108 : mu_fN RX9 108 4 2 := ⟨RX4, TX4, 11, tyX4, cfX4, by decide, "CellMuseum", (List.mem_filter.mpr ⟨List.mem_of_getElem? (i := 512) (by decide +kernel), rfl⟩)⟩
theorem ffX0_0 : mu_fF RX0 0 0 (.array (.array .long)) := ⟨RX0, TX0, 2, rfl, rfl, rfl, by decide +kernel⟩
theorem ffX0_1 : mu_fF RX0 0 1 (.array .long) := ⟨RX0, TX0, 2, rfl, rfl, rfl, by decide +kernel⟩
theorem ffX1_0 : mu_fF RX1 1 0 (.array .long) := ⟨RX1, TX1, 10, rfl, rfl, rfl, by decide +kernel⟩
theorem ffX1_1 : mu_fF RX1 1 1 (.array .long) := ⟨RX1, TX1, 10, rfl, rfl, rfl, by decide +kernel⟩
theorem fwX1_2 : mu_fW 1 2 (.object "CellMuseum$Rule") := ⟨RX1, TX1, 10, rfl, rfl, by decide +kernel⟩
theorem fwX1_3 : mu_fW 1 3 .int := ⟨RX1, TX1, 10, rfl, rfl, by decide +kernel⟩
theorem fwX1_4 : mu_fW 1 4 .int := ⟨RX1, TX1, 10, rfl, rfl, by decide +kernel⟩
theorem fwX1_5 : mu_fW 1 5 .int := ⟨RX1, TX1, 10, rfl, rfl, by decide +kernel⟩
theorem fwX1_6 : mu_fW 1 6 .int := ⟨RX1, TX1, 10, rfl, rfl, by decide +kernel⟩
theorem fwX1_7 : mu_fW 1 7 .int := ⟨RX1, TX1, 10, rfl, rfl, by decide +kernel⟩
theorem fwX1_8 : mu_fW 1 8 .int := ⟨RX1, TX1, 10, rfl, rfl, by decide +kernel⟩
theorem fwX1_9 : mu_fW 1 9 .int := ⟨RX1, TX1, 10, rfl, rfl, by decide +kernel⟩
theorem ffX10_0 : mu_fF RX10 10 0 (.array .byte) := ⟨RX10, TX10, 2, rfl, rfl, rfl, by decide +kernel⟩
theorem fwX10_1 : mu_fW 10 1 .int := ⟨RX10, TX10, 2, rfl, rfl, by decide +kernel⟩
theorem ffX11_0 : mu_fF RX11 11 0 (.object "CellMuseum$Tape") := ⟨RX11, TX11, 18, rfl, rfl, rfl, by decide +kernel⟩
theorem ffX11_1 : mu_fF RX11 11 1 (.object "CellMuseum$RuleReader") := ⟨RX11, TX11, 18, rfl, rfl, rfl, by decide +kernel⟩
theorem ffX11_2 : mu_fF RX11 11 2 (.object "CellMuseum$RunReader") := ⟨RX11, TX11, 18, rfl, rfl, rfl, by decide +kernel⟩
theorem ffX11_3 : mu_fF RX11 11 3 (.object "CellMuseum$Balance") := ⟨RX11, TX11, 18, rfl, rfl, rfl, by decide +kernel⟩
theorem ffX11_4 : mu_fF RX11 11 4 (.array (.object "CellMuseum$Rule")) := ⟨RX11, TX11, 18, rfl, rfl, rfl, by decide +kernel⟩
theorem fwX11_5 : mu_fW 11 5 .int := ⟨RX11, TX11, 18, rfl, rfl, by decide +kernel⟩
theorem ffX11_6 : mu_fF RX11 11 6 (.array (.object "CellMuseum$Field")) := ⟨RX11, TX11, 18, rfl, rfl, rfl, by decide +kernel⟩
theorem fwX11_7 : mu_fW 11 7 .int := ⟨RX11, TX11, 18, rfl, rfl, by decide +kernel⟩
theorem ffX11_8 : mu_fF RX11 11 8 (.array (.object "CellMuseum$Grid")) := ⟨RX11, TX11, 18, rfl, rfl, rfl, by decide +kernel⟩
theorem fwX11_9 : mu_fW 11 9 .int := ⟨RX11, TX11, 18, rfl, rfl, by decide +kernel⟩
theorem ffX11_10 : mu_fF RX11 11 10 (.object "CellMuseum$Stepper") := ⟨RX11, TX11, 18, rfl, rfl, rfl, by decide +kernel⟩
theorem ffX11_11 : mu_fF RX11 11 11 (.object "CellMuseum$Field") := ⟨RX11, TX11, 18, rfl, rfl, rfl, by decide +kernel⟩
theorem ffX11_12 : mu_fF RX11 11 12 (.object "CellMuseum$Squares") := ⟨RX11, TX11, 18, rfl, rfl, rfl, by decide +kernel⟩
theorem ffX11_13 : mu_fF RX11 11 13 (.object "CellMuseum$FieldText") := ⟨RX11, TX11, 18, rfl, rfl, rfl, by decide +kernel⟩
theorem ffX11_14 : mu_fF RX11 11 14 (.object "CellMuseum$Search") := ⟨RX11, TX11, 18, rfl, rfl, rfl, by decide +kernel⟩
theorem fwX11_15 : mu_fW 11 15 .int := ⟨RX11, TX11, 18, rfl, rfl, by decide +kernel⟩
theorem fwX11_16 : mu_fW 11 16 .int := ⟨RX11, TX11, 18, rfl, rfl, by decide +kernel⟩
theorem fwX11_17 : mu_fW 11 17 .int := ⟨RX11, TX11, 18, rfl, rfl, by decide +kernel⟩
theorem ffX12_1 : mu_fF RX12 12 1 (.array .int) := ⟨RX12, TX12, 60, rfl, rfl, rfl, by decide +kernel⟩
theorem fwX12_2 : mu_fW 12 2 .int := ⟨RX12, TX12, 60, rfl, rfl, by decide +kernel⟩
theorem fwX12_3 : mu_fW 12 3 .int := ⟨RX12, TX12, 60, rfl, rfl, by decide +kernel⟩
theorem ffX12_4 : mu_fF RX12 12 4 (.array .byte) := ⟨RX12, TX12, 60, rfl, rfl, rfl, by decide +kernel⟩
theorem ffX12_5 : mu_fF RX12 12 5 (.array .int) := ⟨RX12, TX12, 60, rfl, rfl, rfl, by decide +kernel⟩
theorem ffX12_6 : mu_fF RX12 12 6 (.array .int) := ⟨RX12, TX12, 60, rfl, rfl, rfl, by decide +kernel⟩
theorem ffX12_7 : mu_fF RX12 12 7 (.array .int) := ⟨RX12, TX12, 60, rfl, rfl, rfl, by decide +kernel⟩
theorem ffX12_8 : mu_fF RX12 12 8 (.array .int) := ⟨RX12, TX12, 60, rfl, rfl, rfl, by decide +kernel⟩
theorem ffX12_9 : mu_fF RX12 12 9 (.array .int) := ⟨RX12, TX12, 60, rfl, rfl, rfl, by decide +kernel⟩
theorem ffX12_10 : mu_fF RX12 12 10 (.array .int) := ⟨RX12, TX12, 60, rfl, rfl, rfl, by decide +kernel⟩
theorem fwX12_11 : mu_fW 12 11 .int := ⟨RX12, TX12, 60, rfl, rfl, by decide +kernel⟩
theorem fwX12_12 : mu_fW 12 12 .int := ⟨RX12, TX12, 60, rfl, rfl, by decide +kernel⟩
theorem fwX12_13 : mu_fW 12 13 .int := ⟨RX12, TX12, 60, rfl, rfl, by decide +kernel⟩
theorem ffX12_14 : mu_fF RX12 12 14 (.array .byte) := ⟨RX12, TX12, 60, rfl, rfl, rfl, by decide +kernel⟩
theorem ffX12_15 : mu_fF RX12 12 15 (.array .int) := ⟨RX12, TX12, 60, rfl, rfl, rfl, by decide +kernel⟩
theorem ffX12_16 : mu_fF RX12 12 16 (.array .int) := ⟨RX12, TX12, 60, rfl, rfl, rfl, by decide +kernel⟩
theorem ffX12_17 : mu_fF RX12 12 17 (.array .byte) := ⟨RX12, TX12, 60, rfl, rfl, rfl, by decide +kernel⟩
theorem ffX12_18 : mu_fF RX12 12 18 (.array .byte) := ⟨RX12, TX12, 60, rfl, rfl, rfl, by decide +kernel⟩
theorem fwX12_19 : mu_fW 12 19 .int := ⟨RX12, TX12, 60, rfl, rfl, by decide +kernel⟩
theorem fwX12_20 : mu_fW 12 20 .int := ⟨RX12, TX12, 60, rfl, rfl, by decide +kernel⟩
theorem fwX12_21 : mu_fW 12 21 .int := ⟨RX12, TX12, 60, rfl, rfl, by decide +kernel⟩
theorem fwX12_22 : mu_fW 12 22 .int := ⟨RX12, TX12, 60, rfl, rfl, by decide +kernel⟩
theorem fwX12_23 : mu_fW 12 23 .int := ⟨RX12, TX12, 60, rfl, rfl, by decide +kernel⟩
theorem fwX12_24 : mu_fW 12 24 .int := ⟨RX12, TX12, 60, rfl, rfl, by decide +kernel⟩
theorem ffX12_25 : mu_fF RX12 12 25 (.array .int) := ⟨RX12, TX12, 60, rfl, rfl, rfl, by decide +kernel⟩
theorem ffX12_26 : mu_fF RX12 12 26 (.array .int) := ⟨RX12, TX12, 60, rfl, rfl, rfl, by decide +kernel⟩
theorem ffX12_27 : mu_fF RX12 12 27 (.array .byte) := ⟨RX12, TX12, 60, rfl, rfl, rfl, by decide +kernel⟩
theorem fwX12_28 : mu_fW 12 28 .int := ⟨RX12, TX12, 60, rfl, rfl, by decide +kernel⟩
theorem ffX12_29 : mu_fF RX12 12 29 (.array .int) := ⟨RX12, TX12, 60, rfl, rfl, rfl, by decide +kernel⟩
theorem ffX12_30 : mu_fF RX12 12 30 (.array .int) := ⟨RX12, TX12, 60, rfl, rfl, rfl, by decide +kernel⟩
theorem ffX12_31 : mu_fF RX12 12 31 (.array .int) := ⟨RX12, TX12, 60, rfl, rfl, rfl, by decide +kernel⟩
theorem ffX12_32 : mu_fF RX12 12 32 (.array .int) := ⟨RX12, TX12, 60, rfl, rfl, rfl, by decide +kernel⟩
theorem ffX12_33 : mu_fF RX12 12 33 (.array .int) := ⟨RX12, TX12, 60, rfl, rfl, rfl, by decide +kernel⟩
theorem ffX12_34 : mu_fF RX12 12 34 (.array .int) := ⟨RX12, TX12, 60, rfl, rfl, rfl, by decide +kernel⟩
theorem fwX12_35 : mu_fW 12 35 .int := ⟨RX12, TX12, 60, rfl, rfl, by decide +kernel⟩
theorem fwX12_36 : mu_fW 12 36 .int := ⟨RX12, TX12, 60, rfl, rfl, by decide +kernel⟩
theorem fwX12_37 : mu_fW 12 37 .int := ⟨RX12, TX12, 60, rfl, rfl, by decide +kernel⟩
theorem ffX12_38 : mu_fF RX12 12 38 (.array .byte) := ⟨RX12, TX12, 60, rfl, rfl, rfl, by decide +kernel⟩
theorem ffX12_39 : mu_fF RX12 12 39 (.array .byte) := ⟨RX12, TX12, 60, rfl, rfl, rfl, by decide +kernel⟩
theorem fwX12_40 : mu_fW 12 40 .int := ⟨RX12, TX12, 60, rfl, rfl, by decide +kernel⟩
theorem fwX12_41 : mu_fW 12 41 .int := ⟨RX12, TX12, 60, rfl, rfl, by decide +kernel⟩
theorem fwX12_42 : mu_fW 12 42 .int := ⟨RX12, TX12, 60, rfl, rfl, by decide +kernel⟩
theorem fwX12_43 : mu_fW 12 43 .int := ⟨RX12, TX12, 60, rfl, rfl, by decide +kernel⟩
theorem ffX12_44 : mu_fF RX12 12 44 (.array .int) := ⟨RX12, TX12, 60, rfl, rfl, rfl, by decide +kernel⟩
theorem ffX12_45 : mu_fF RX12 12 45 (.array .boolean) := ⟨RX12, TX12, 60, rfl, rfl, rfl, by decide +kernel⟩
theorem fwX12_46 : mu_fW 12 46 .int := ⟨RX12, TX12, 60, rfl, rfl, by decide +kernel⟩
theorem ffX12_47 : mu_fF RX12 12 47 (.array .int) := ⟨RX12, TX12, 60, rfl, rfl, rfl, by decide +kernel⟩
theorem ffX12_48 : mu_fF RX12 12 48 (.array .int) := ⟨RX12, TX12, 60, rfl, rfl, rfl, by decide +kernel⟩
theorem ffX12_49 : mu_fF RX12 12 49 (.array .int) := ⟨RX12, TX12, 60, rfl, rfl, rfl, by decide +kernel⟩
theorem ffX12_50 : mu_fF RX12 12 50 (.array .int) := ⟨RX12, TX12, 60, rfl, rfl, rfl, by decide +kernel⟩
theorem ffX12_51 : mu_fF RX12 12 51 (.array .int) := ⟨RX12, TX12, 60, rfl, rfl, rfl, by decide +kernel⟩
theorem ffX12_52 : mu_fF RX12 12 52 (.array .int) := ⟨RX12, TX12, 60, rfl, rfl, rfl, by decide +kernel⟩
theorem fwX12_53 : mu_fW 12 53 .int := ⟨RX12, TX12, 60, rfl, rfl, by decide +kernel⟩
theorem fwX12_54 : mu_fW 12 54 .int := ⟨RX12, TX12, 60, rfl, rfl, by decide +kernel⟩
theorem ffX12_55 : mu_fF RX12 12 55 (.array .long) := ⟨RX12, TX12, 60, rfl, rfl, rfl, by decide +kernel⟩
theorem fwX12_56 : mu_fW 12 56 .int := ⟨RX12, TX12, 60, rfl, rfl, by decide +kernel⟩
theorem ffX12_57 : mu_fF RX12 12 57 (.array .int) := ⟨RX12, TX12, 60, rfl, rfl, rfl, by decide +kernel⟩
theorem ffX12_58 : mu_fF RX12 12 58 (.array .boolean) := ⟨RX12, TX12, 60, rfl, rfl, rfl, by decide +kernel⟩
theorem ffX12_59 : mu_fF RX12 12 59 (.array .long) := ⟨RX12, TX12, 60, rfl, rfl, rfl, by decide +kernel⟩
theorem fwX2_0 : mu_fW 2 0 .int := ⟨RX2, TX2, 3, rfl, rfl, by decide +kernel⟩
theorem fwX2_1 : mu_fW 2 1 .int := ⟨RX2, TX2, 3, rfl, rfl, by decide +kernel⟩
theorem fwX2_2 : mu_fW 2 2 .int := ⟨RX2, TX2, 3, rfl, rfl, by decide +kernel⟩
theorem ffX3_0 : mu_fF RX3 3 0 (.array .int) := ⟨RX3, TX3, 6, rfl, rfl, rfl, by decide +kernel⟩
theorem fwX3_1 : mu_fW 3 1 (.object "CellMuseum$Rule") := ⟨RX3, TX3, 6, rfl, rfl, by decide +kernel⟩
theorem fwX3_2 : mu_fW 3 2 .int := ⟨RX3, TX3, 6, rfl, rfl, by decide +kernel⟩
theorem fwX3_3 : mu_fW 3 3 .int := ⟨RX3, TX3, 6, rfl, rfl, by decide +kernel⟩
theorem fwX3_4 : mu_fW 3 4 .int := ⟨RX3, TX3, 6, rfl, rfl, by decide +kernel⟩
theorem fwX3_5 : mu_fW 3 5 .int := ⟨RX3, TX3, 6, rfl, rfl, by decide +kernel⟩
theorem ffX4_0 : mu_fF RX4 4 0 (.array .byte) := ⟨RX4, TX4, 11, rfl, rfl, rfl, by decide +kernel⟩
theorem ffX4_1 : mu_fF RX4 4 1 .int := ⟨RX4, TX4, 11, rfl, rfl, rfl, by decide +kernel⟩
theorem ffX4_2 : mu_fF RX4 4 2 .int := ⟨RX4, TX4, 11, rfl, rfl, rfl, by decide +kernel⟩
theorem ffX4_3 : mu_fF RX4 4 3 .int := ⟨RX4, TX4, 11, rfl, rfl, rfl, by decide +kernel⟩
theorem ffX4_4 : mu_fF RX4 4 4 .int := ⟨RX4, TX4, 11, rfl, rfl, rfl, by decide +kernel⟩
theorem ffX4_5 : mu_fF RX4 4 5 (.array .int) := ⟨RX4, TX4, 11, rfl, rfl, rfl, by decide +kernel⟩
theorem ffX4_6 : mu_fF RX4 4 6 (.array .int) := ⟨RX4, TX4, 11, rfl, rfl, rfl, by decide +kernel⟩
theorem ffX4_7 : mu_fF RX4 4 7 .int := ⟨RX4, TX4, 11, rfl, rfl, rfl, by decide +kernel⟩
theorem ffX4_8 : mu_fF RX4 4 8 .int := ⟨RX4, TX4, 11, rfl, rfl, rfl, by decide +kernel⟩
theorem ffX4_9 : mu_fF RX4 4 9 (.array .int) := ⟨RX4, TX4, 11, rfl, rfl, rfl, by decide +kernel⟩
theorem fwX4_10 : mu_fW 4 10 .int := ⟨RX4, TX4, 11, rfl, rfl, by decide +kernel⟩
theorem fwX5_0 : mu_fW 5 0 .int := ⟨RX5, TX5, 5, rfl, rfl, by decide +kernel⟩
theorem fwX5_1 : mu_fW 5 1 .int := ⟨RX5, TX5, 5, rfl, rfl, by decide +kernel⟩
theorem fwX5_2 : mu_fW 5 2 .int := ⟨RX5, TX5, 5, rfl, rfl, by decide +kernel⟩
theorem fwX5_3 : mu_fW 5 3 .int := ⟨RX5, TX5, 5, rfl, rfl, by decide +kernel⟩
theorem fwX5_4 : mu_fW 5 4 .int := ⟨RX5, TX5, 5, rfl, rfl, by decide +kernel⟩
theorem fwX6_0 : mu_fW 6 0 .int := ⟨RX6, TX6, 5, rfl, rfl, by decide +kernel⟩
theorem fwX6_1 : mu_fW 6 1 .int := ⟨RX6, TX6, 5, rfl, rfl, by decide +kernel⟩
theorem fwX6_2 : mu_fW 6 2 .int := ⟨RX6, TX6, 5, rfl, rfl, by decide +kernel⟩
theorem fwX6_3 : mu_fW 6 3 .int := ⟨RX6, TX6, 5, rfl, rfl, by decide +kernel⟩
theorem fwX6_4 : mu_fW 6 4 .int := ⟨RX6, TX6, 5, rfl, rfl, by decide +kernel⟩
theorem ffX7_0 : mu_fF RX7 7 0 (.array .int) := ⟨RX7, TX7, 12, rfl, rfl, rfl, by decide +kernel⟩
theorem ffX7_1 : mu_fF RX7 7 1 (.array .int) := ⟨RX7, TX7, 12, rfl, rfl, rfl, by decide +kernel⟩
theorem ffX7_2 : mu_fF RX7 7 2 (.array .int) := ⟨RX7, TX7, 12, rfl, rfl, rfl, by decide +kernel⟩
theorem fwX7_3 : mu_fW 7 3 .int := ⟨RX7, TX7, 12, rfl, rfl, by decide +kernel⟩
theorem ffX7_4 : mu_fF RX7 7 4 (.array .int) := ⟨RX7, TX7, 12, rfl, rfl, rfl, by decide +kernel⟩
theorem ffX7_5 : mu_fF RX7 7 5 (.array .int) := ⟨RX7, TX7, 12, rfl, rfl, rfl, by decide +kernel⟩
theorem fwX7_6 : mu_fW 7 6 .int := ⟨RX7, TX7, 12, rfl, rfl, by decide +kernel⟩
theorem fwX7_7 : mu_fW 7 7 .int := ⟨RX7, TX7, 12, rfl, rfl, by decide +kernel⟩
theorem fwX7_8 : mu_fW 7 8 .int := ⟨RX7, TX7, 12, rfl, rfl, by decide +kernel⟩
theorem ffX7_9 : mu_fF RX7 7 9 (.array .int) := ⟨RX7, TX7, 12, rfl, rfl, rfl, by decide +kernel⟩
theorem ffX7_10 : mu_fF RX7 7 10 (.array .long) := ⟨RX7, TX7, 12, rfl, rfl, rfl, by decide +kernel⟩
theorem fwX7_11 : mu_fW 7 11 .int := ⟨RX7, TX7, 12, rfl, rfl, by decide +kernel⟩
theorem ffX8_0 : mu_fF RX8 8 0 (.array .int) := ⟨RX8, TX8, 6, rfl, rfl, rfl, by decide +kernel⟩
theorem ffX8_1 : mu_fF RX8 8 1 (.array .long) := ⟨RX8, TX8, 6, rfl, rfl, rfl, by decide +kernel⟩
theorem ffX8_2 : mu_fF RX8 8 2 (.array .int) := ⟨RX8, TX8, 6, rfl, rfl, rfl, by decide +kernel⟩
theorem fwX8_3 : mu_fW 8 3 .int := ⟨RX8, TX8, 6, rfl, rfl, by decide +kernel⟩
theorem fwX8_4 : mu_fW 8 4 .int := ⟨RX8, TX8, 6, rfl, rfl, by decide +kernel⟩
theorem fwX8_5 : mu_fW 8 5 .boolean := ⟨RX8, TX8, 6, rfl, rfl, by decide +kernel⟩
theorem fwX9_0 : mu_fW 9 0 (.array .long) := ⟨RX9, TX9, 7, rfl, rfl, by decide +kernel⟩
theorem fwX9_1 : mu_fW 9 1 (.array .long) := ⟨RX9, TX9, 7, rfl, rfl, by decide +kernel⟩
theorem fwX9_2 : mu_fW 9 2 (.array .long) := ⟨RX9, TX9, 7, rfl, rfl, by decide +kernel⟩
theorem fwX9_3 : mu_fW 9 3 .long := ⟨RX9, TX9, 7, rfl, rfl, by decide +kernel⟩
theorem fwX9_4 : mu_fW 9 4 .long := ⟨RX9, TX9, 7, rfl, rfl, by decide +kernel⟩
theorem fwX9_5 : mu_fW 9 5 .long := ⟨RX9, TX9, 7, rfl, rfl, by decide +kernel⟩
theorem fwX9_6 : mu_fW 9 6 .long := ⟨RX9, TX9, 7, rfl, rfl, by decide +kernel⟩
theorem tgX0_init : mu_tg 0 M_X0_init := ⟨(List.mem_filter.mpr ⟨List.mem_of_getElem? (i := 90) (by decide +kernel), rfl⟩), (List.mem_filter.mpr ⟨List.mem_of_getElem? (i := 178) (by decide +kernel), rfl⟩), by decide +kernel, by decide +kernel, by decide +kernel⟩
theorem tgX0_solve : mu_tg 3 M_X0_solve := ⟨(List.mem_filter.mpr ⟨List.mem_of_getElem? (i := 90) (by decide +kernel), rfl⟩), (List.mem_filter.mpr ⟨List.mem_of_getElem? (i := 560) (by decide +kernel), rfl⟩), by decide +kernel, by decide +kernel, by decide +kernel⟩
theorem tgX0_isHeld : mu_tg 1 M_X0_isHeld := ⟨(List.mem_filter.mpr ⟨List.mem_of_getElem? (i := 90) (by decide +kernel), rfl⟩), (List.mem_filter.mpr ⟨List.mem_of_getElem? (i := 575) (by decide +kernel), rfl⟩), by decide +kernel, by decide +kernel, by decide +kernel⟩
theorem tgX0_tallyStates : mu_tg 3 M_X0_tallyStates := ⟨(List.mem_filter.mpr ⟨List.mem_of_getElem? (i := 90) (by decide +kernel), rfl⟩), (List.mem_filter.mpr ⟨List.mem_of_getElem? (i := 567) (by decide +kernel), rfl⟩), by decide +kernel, by decide +kernel, by decide +kernel⟩
theorem tgX0_demand : mu_tg 1 M_X0_demand := ⟨(List.mem_filter.mpr ⟨List.mem_of_getElem? (i := 90) (by decide +kernel), rfl⟩), (List.mem_filter.mpr ⟨List.mem_of_getElem? (i := 571) (by decide +kernel), rfl⟩), by decide +kernel, by decide +kernel, by decide +kernel⟩
theorem tgX0_reduce : mu_tg 1 M_X0_reduce := ⟨(List.mem_filter.mpr ⟨List.mem_of_getElem? (i := 90) (by decide +kernel), rfl⟩), (List.mem_filter.mpr ⟨List.mem_of_getElem? (i := 592) (by decide +kernel), rfl⟩), by decide +kernel, by decide +kernel, by decide +kernel⟩
theorem tgX0_cancel : mu_tg 3 M_X0_cancel := ⟨(List.mem_filter.mpr ⟨List.mem_of_getElem? (i := 90) (by decide +kernel), rfl⟩), (List.mem_filter.mpr ⟨List.mem_of_getElem? (i := 579) (by decide +kernel), rfl⟩), by decide +kernel, by decide +kernel, by decide +kernel⟩
theorem tgX0_writeRow : mu_tg 4 M_X0_writeRow := ⟨(List.mem_filter.mpr ⟨List.mem_of_getElem? (i := 90) (by decide +kernel), rfl⟩), (List.mem_filter.mpr ⟨List.mem_of_getElem? (i := 596) (by decide +kernel), rfl⟩), by decide +kernel, by decide +kernel, by decide +kernel⟩
theorem tgX0_shorten : mu_tg 1 M_X0_shorten := ⟨(List.mem_filter.mpr ⟨List.mem_of_getElem? (i := 90) (by decide +kernel), rfl⟩), (List.mem_filter.mpr ⟨List.mem_of_getElem? (i := 582) (by decide +kernel), rfl⟩), by decide +kernel, by decide +kernel, by decide +kernel⟩
theorem tgX0_commonDivisor : mu_tg 2 M_X0_commonDivisor := ⟨(List.mem_filter.mpr ⟨List.mem_of_getElem? (i := 90) (by decide +kernel), rfl⟩), (List.mem_filter.mpr ⟨List.mem_of_getElem? (i := 588) (by decide +kernel), rfl⟩), by decide +kernel, by decide +kernel, by decide +kernel⟩
theorem tgX1_init : mu_tg 0 M_X1_init := ⟨(List.mem_filter.mpr ⟨List.mem_of_getElem? (i := 92) (by decide +kernel), rfl⟩), (List.mem_filter.mpr ⟨List.mem_of_getElem? (i := 227) (by decide +kernel), rfl⟩), by decide +kernel, by decide +kernel, by decide +kernel⟩
theorem tgX1_begin : mu_tg 2 M_X1_begin := ⟨(List.mem_filter.mpr ⟨List.mem_of_getElem? (i := 92) (by decide +kernel), rfl⟩), (List.mem_filter.mpr ⟨List.mem_of_getElem? (i := 620) (by decide +kernel), rfl⟩), by decide +kernel, by decide +kernel, by decide +kernel⟩
theorem tgX1_clear : mu_tg 0 M_X1_clear := ⟨(List.mem_filter.mpr ⟨List.mem_of_getElem? (i := 92) (by decide +kernel), rfl⟩), (List.mem_filter.mpr ⟨List.mem_of_getElem? (i := 624) (by decide +kernel), rfl⟩), by decide +kernel, by decide +kernel, by decide +kernel⟩
theorem tgX1_copyFrom : mu_tg 1 M_X1_copyFrom := ⟨(List.mem_filter.mpr ⟨List.mem_of_getElem? (i := 92) (by decide +kernel), rfl⟩), (List.mem_filter.mpr ⟨List.mem_of_getElem? (i := 880) (by decide +kernel), rfl⟩), by decide +kernel, by decide +kernel, by decide +kernel⟩
theorem tgX1_age : mu_tg 1 M_X1_age := ⟨(List.mem_filter.mpr ⟨List.mem_of_getElem? (i := 92) (by decide +kernel), rfl⟩), (List.mem_filter.mpr ⟨List.mem_of_getElem? (i := 808) (by decide +kernel), rfl⟩), by decide +kernel, by decide +kernel, by decide +kernel⟩
theorem tgX1_isWithin : mu_tg 2 M_X1_isWithin := ⟨(List.mem_filter.mpr ⟨List.mem_of_getElem? (i := 92) (by decide +kernel), rfl⟩), (List.mem_filter.mpr ⟨List.mem_of_getElem? (i := 666) (by decide +kernel), rfl⟩), by decide +kernel, by decide +kernel, by decide +kernel⟩
theorem tgX1_look : mu_tg 2 M_X1_look := ⟨(List.mem_filter.mpr ⟨List.mem_of_getElem? (i := 92) (by decide +kernel), rfl⟩), (List.mem_filter.mpr ⟨List.mem_of_getElem? (i := 663) (by decide +kernel), rfl⟩), by decide +kernel, by decide +kernel, by decide +kernel⟩
theorem tgX1_write : mu_tg 3 M_X1_write := ⟨(List.mem_filter.mpr ⟨List.mem_of_getElem? (i := 92) (by decide +kernel), rfl⟩), (List.mem_filter.mpr ⟨List.mem_of_getElem? (i := 670) (by decide +kernel), rfl⟩), by decide +kernel, by decide +kernel, by decide +kernel⟩
theorem tgX1_change : mu_tg 3 M_X1_change := ⟨(List.mem_filter.mpr ⟨List.mem_of_getElem? (i := 92) (by decide +kernel), rfl⟩), (List.mem_filter.mpr ⟨List.mem_of_getElem? (i := 659) (by decide +kernel), rfl⟩), by decide +kernel, by decide +kernel, by decide +kernel⟩
theorem tgX1_wordAt : mu_tg 2 M_X1_wordAt := ⟨(List.mem_filter.mpr ⟨List.mem_of_getElem? (i := 92) (by decide +kernel), rfl⟩), (List.mem_filter.mpr ⟨List.mem_of_getElem? (i := 780) (by decide +kernel), rfl⟩), by decide +kernel, by decide +kernel, by decide +kernel⟩
theorem tgX1_setWord : mu_tg 3 M_X1_setWord := ⟨(List.mem_filter.mpr ⟨List.mem_of_getElem? (i := 92) (by decide +kernel), rfl⟩), (List.mem_filter.mpr ⟨List.mem_of_getElem? (i := 803) (by decide +kernel), rfl⟩), by decide +kernel, by decide +kernel, by decide +kernel⟩
theorem tgX1_window : mu_tg 2 M_X1_window := ⟨(List.mem_filter.mpr ⟨List.mem_of_getElem? (i := 92) (by decide +kernel), rfl⟩), (List.mem_filter.mpr ⟨List.mem_of_getElem? (i := 836) (by decide +kernel), rfl⟩), by decide +kernel, by decide +kernel, by decide +kernel⟩
theorem tgX1_measure : mu_tg 2 M_X1_measure := ⟨(List.mem_filter.mpr ⟨List.mem_of_getElem? (i := 92) (by decide +kernel), rfl⟩), (List.mem_filter.mpr ⟨List.mem_of_getElem? (i := 629) (by decide +kernel), rfl⟩), by decide +kernel, by decide +kernel, by decide +kernel⟩
theorem tgX1_lowestOf : mu_tg 1 M_X1_lowestOf := ⟨(List.mem_filter.mpr ⟨List.mem_of_getElem? (i := 92) (by decide +kernel), rfl⟩), (List.mem_filter.mpr ⟨List.mem_of_getElem? (i := 641) (by decide +kernel), rfl⟩), by decide +kernel, by decide +kernel, by decide +kernel⟩
theorem tgX1_highestOf : mu_tg 2 M_X1_highestOf := ⟨(List.mem_filter.mpr ⟨List.mem_of_getElem? (i := 92) (by decide +kernel), rfl⟩), (List.mem_filter.mpr ⟨List.mem_of_getElem? (i := 644) (by decide +kernel), rfl⟩), by decide +kernel, by decide +kernel, by decide +kernel⟩
theorem tgX1_lastAliveOf : mu_tg 1 M_X1_lastAliveOf := ⟨(List.mem_filter.mpr ⟨List.mem_of_getElem? (i := 92) (by decide +kernel), rfl⟩), (List.mem_filter.mpr ⟨List.mem_of_getElem? (i := 742) (by decide +kernel), rfl⟩), by decide +kernel, by decide +kernel, by decide +kernel⟩
theorem tgX1_hasRoomFor : mu_tg 1 M_X1_hasRoomFor := ⟨(List.mem_filter.mpr ⟨List.mem_of_getElem? (i := 92) (by decide +kernel), rfl⟩), (List.mem_filter.mpr ⟨List.mem_of_getElem? (i := 767) (by decide +kernel), rfl⟩), by decide +kernel, by decide +kernel, by decide +kernel⟩
theorem tgX1_isMovedFrom : mu_tg 1 M_X1_isMovedFrom := ⟨(List.mem_filter.mpr ⟨List.mem_of_getElem? (i := 92) (by decide +kernel), rfl⟩), (List.mem_filter.mpr ⟨List.mem_of_getElem? (i := 885) (by decide +kernel), rfl⟩), by decide +kernel, by decide +kernel, by decide +kernel⟩
theorem tgX1_isTurned : mu_tg 2 M_X1_isTurned := ⟨(List.mem_filter.mpr ⟨List.mem_of_getElem? (i := 92) (by decide +kernel), rfl⟩), (List.mem_filter.mpr ⟨List.mem_of_getElem? (i := 898) (by decide +kernel), rfl⟩), by decide +kernel, by decide +kernel, by decide +kernel⟩
theorem tgX2_init : mu_tg 0 M_X2_init := ⟨(List.mem_filter.mpr ⟨List.mem_of_getElem? (i := 94) (by decide +kernel), rfl⟩), (List.mem_filter.mpr ⟨List.mem_of_getElem? (i := 311) (by decide +kernel), rfl⟩), by decide +kernel, by decide +kernel, by decide +kernel⟩
theorem tgX2_byteOf : mu_tg 2 M_X2_byteOf := ⟨(List.mem_filter.mpr ⟨List.mem_of_getElem? (i := 94) (by decide +kernel), rfl⟩), (List.mem_filter.mpr ⟨List.mem_of_getElem? (i := 738) (by decide +kernel), rfl⟩), by decide +kernel, by decide +kernel, by decide +kernel⟩
theorem tgX2_writeRow : mu_tg 3 M_X2_writeRow := ⟨(List.mem_filter.mpr ⟨List.mem_of_getElem? (i := 94) (by decide +kernel), rfl⟩), (List.mem_filter.mpr ⟨List.mem_of_getElem? (i := 754) (by decide +kernel), rfl⟩), by decide +kernel, by decide +kernel, by decide +kernel⟩
theorem tgX2_writeRun : mu_tg 2 M_X2_writeRun := ⟨(List.mem_filter.mpr ⟨List.mem_of_getElem? (i := 94) (by decide +kernel), rfl⟩), (List.mem_filter.mpr ⟨List.mem_of_getElem? (i := 746) (by decide +kernel), rfl⟩), by decide +kernel, by decide +kernel, by decide +kernel⟩
theorem tgX2_writeByte : mu_tg 1 M_X2_writeByte := ⟨(List.mem_filter.mpr ⟨List.mem_of_getElem? (i := 94) (by decide +kernel), rfl⟩), (List.mem_filter.mpr ⟨List.mem_of_getElem? (i := 750) (by decide +kernel), rfl⟩), by decide +kernel, by decide +kernel, by decide +kernel⟩
theorem tgX3_init : mu_tg 0 M_X3_init := ⟨(List.mem_filter.mpr ⟨List.mem_of_getElem? (i := 103) (by decide +kernel), rfl⟩), (List.mem_filter.mpr ⟨List.mem_of_getElem? (i := 1022) (by decide +kernel), rfl⟩), by decide +kernel, by decide +kernel, by decide +kernel⟩
theorem tgX3_begin : mu_tg 3 M_X3_begin := ⟨(List.mem_filter.mpr ⟨List.mem_of_getElem? (i := 103) (by decide +kernel), rfl⟩), (List.mem_filter.mpr ⟨List.mem_of_getElem? (i := 1046) (by decide +kernel), rfl⟩), by decide +kernel, by decide +kernel, by decide +kernel⟩
theorem tgX3_hasCell : mu_tg 2 M_X3_hasCell := ⟨(List.mem_filter.mpr ⟨List.mem_of_getElem? (i := 103) (by decide +kernel), rfl⟩), (List.mem_filter.mpr ⟨List.mem_of_getElem? (i := 1061) (by decide +kernel), rfl⟩), by decide +kernel, by decide +kernel, by decide +kernel⟩
theorem tgX3_hasState : mu_tg 1 M_X3_hasState := ⟨(List.mem_filter.mpr ⟨List.mem_of_getElem? (i := 103) (by decide +kernel), rfl⟩), (List.mem_filter.mpr ⟨List.mem_of_getElem? (i := 1065) (by decide +kernel), rfl⟩), by decide +kernel, by decide +kernel, by decide +kernel⟩
theorem tgX3_look : mu_tg 2 M_X3_look := ⟨(List.mem_filter.mpr ⟨List.mem_of_getElem? (i := 103) (by decide +kernel), rfl⟩), (List.mem_filter.mpr ⟨List.mem_of_getElem? (i := 1073) (by decide +kernel), rfl⟩), by decide +kernel, by decide +kernel, by decide +kernel⟩
theorem tgX3_change : mu_tg 3 M_X3_change := ⟨(List.mem_filter.mpr ⟨List.mem_of_getElem? (i := 103) (by decide +kernel), rfl⟩), (List.mem_filter.mpr ⟨List.mem_of_getElem? (i := 1069) (by decide +kernel), rfl⟩), by decide +kernel, by decide +kernel, by decide +kernel⟩
theorem tgX3_scatter : mu_tg 2 M_X3_scatter := ⟨(List.mem_filter.mpr ⟨List.mem_of_getElem? (i := 103) (by decide +kernel), rfl⟩), (List.mem_filter.mpr ⟨List.mem_of_getElem? (i := 1087) (by decide +kernel), rfl⟩), by decide +kernel, by decide +kernel, by decide +kernel⟩
theorem tgX3_tally : mu_tg 1 M_X3_tally := ⟨(List.mem_filter.mpr ⟨List.mem_of_getElem? (i := 103) (by decide +kernel), rfl⟩), (List.mem_filter.mpr ⟨List.mem_of_getElem? (i := 1125) (by decide +kernel), rfl⟩), by decide +kernel, by decide +kernel, by decide +kernel⟩
theorem tgX3_canGoBack : mu_tg 1 M_X3_canGoBack := ⟨(List.mem_filter.mpr ⟨List.mem_of_getElem? (i := 103) (by decide +kernel), rfl⟩), (List.mem_filter.mpr ⟨List.mem_of_getElem? (i := 1109) (by decide +kernel), rfl⟩), by decide +kernel, by decide +kernel, by decide +kernel⟩
theorem tgX3_forward : mu_tg 1 M_X3_forward := ⟨(List.mem_filter.mpr ⟨List.mem_of_getElem? (i := 103) (by decide +kernel), rfl⟩), (List.mem_filter.mpr ⟨List.mem_of_getElem? (i := 1097) (by decide +kernel), rfl⟩), by decide +kernel, by decide +kernel, by decide +kernel⟩
theorem tgX3_back : mu_tg 1 M_X3_back := ⟨(List.mem_filter.mpr ⟨List.mem_of_getElem? (i := 103) (by decide +kernel), rfl⟩), (List.mem_filter.mpr ⟨List.mem_of_getElem? (i := 1117) (by decide +kernel), rfl⟩), by decide +kernel, by decide +kernel, by decide +kernel⟩
theorem tgX3_turnBlocks : mu_tg 2 M_X3_turnBlocks := ⟨(List.mem_filter.mpr ⟨List.mem_of_getElem? (i := 103) (by decide +kernel), rfl⟩), (List.mem_filter.mpr ⟨List.mem_of_getElem? (i := 1101) (by decide +kernel), rfl⟩), by decide +kernel, by decide +kernel, by decide +kernel⟩
theorem tgX3_turnBlock : mu_tg 5 M_X3_turnBlock := ⟨(List.mem_filter.mpr ⟨List.mem_of_getElem? (i := 103) (by decide +kernel), rfl⟩), (List.mem_filter.mpr ⟨List.mem_of_getElem? (i := 1105) (by decide +kernel), rfl⟩), by decide +kernel, by decide +kernel, by decide +kernel⟩
theorem tgX4_init : mu_tg 2 M_X4_init := ⟨(List.mem_filter.mpr ⟨List.mem_of_getElem? (i := 97) (by decide +kernel), rfl⟩), (List.mem_filter.mpr ⟨List.mem_of_getElem? (i := 481) (by decide +kernel), rfl⟩), by decide +kernel, by decide +kernel, by decide +kernel⟩
theorem tgX4_weigh : mu_tg 1 M_X4_weigh := ⟨(List.mem_filter.mpr ⟨List.mem_of_getElem? (i := 97) (by decide +kernel), rfl⟩), (List.mem_filter.mpr ⟨List.mem_of_getElem? (i := 556) (by decide +kernel), rfl⟩), by decide +kernel, by decide +kernel, by decide +kernel⟩
theorem tgX4_numberAt : mu_tg 3 M_X4_numberAt := ⟨(List.mem_filter.mpr ⟨List.mem_of_getElem? (i := 97) (by decide +kernel), rfl⟩), (List.mem_filter.mpr ⟨List.mem_of_getElem? (i := 505) (by decide +kernel), rfl⟩), by decide +kernel, by decide +kernel, by decide +kernel⟩
theorem tgX4_byteAt : mu_tg 1 M_X4_byteAt := ⟨(List.mem_filter.mpr ⟨List.mem_of_getElem? (i := 97) (by decide +kernel), rfl⟩), (List.mem_filter.mpr ⟨List.mem_of_getElem? (i := 608) (by decide +kernel), rfl⟩), by decide +kernel, by decide +kernel, by decide +kernel⟩
theorem tgX4_hasBlocks : mu_tg 0 M_X4_hasBlocks := ⟨(List.mem_filter.mpr ⟨List.mem_of_getElem? (i := 97) (by decide +kernel), rfl⟩), (List.mem_filter.mpr ⟨List.mem_of_getElem? (i := 1018) (by decide +kernel), rfl⟩), by decide +kernel, by decide +kernel, by decide +kernel⟩
theorem tgX4_keepsVoid : mu_tg 0 M_X4_keepsVoid := ⟨(List.mem_filter.mpr ⟨List.mem_of_getElem? (i := 97) (by decide +kernel), rfl⟩), (List.mem_filter.mpr ⟨List.mem_of_getElem? (i := 616) (by decide +kernel), rfl⟩), by decide +kernel, by decide +kernel, by decide +kernel⟩
theorem tgX4_isReversible : mu_tg 0 M_X4_isReversible := ⟨(List.mem_filter.mpr ⟨List.mem_of_getElem? (i := 97) (by decide +kernel), rfl⟩), (List.mem_filter.mpr ⟨List.mem_of_getElem? (i := 1113) (by decide +kernel), rfl⟩), by decide +kernel, by decide +kernel, by decide +kernel⟩
theorem tgX4_weightOf : mu_tg 2 M_X4_weightOf := ⟨(List.mem_filter.mpr ⟨List.mem_of_getElem? (i := 97) (by decide +kernel), rfl⟩), (List.mem_filter.mpr ⟨List.mem_of_getElem? (i := 1146) (by decide +kernel), rfl⟩), by decide +kernel, by decide +kernel, by decide +kernel⟩
theorem tgX5_init : mu_tg 0 M_X5_init := ⟨(List.mem_filter.mpr ⟨List.mem_of_getElem? (i := 88) (by decide +kernel), rfl⟩), (List.mem_filter.mpr ⟨List.mem_of_getElem? (i := 130) (by decide +kernel), rfl⟩), by decide +kernel, by decide +kernel, by decide +kernel⟩
theorem tgX5_faultOf : mu_tg 1 M_X5_faultOf := ⟨(List.mem_filter.mpr ⟨List.mem_of_getElem? (i := 88) (by decide +kernel), rfl⟩), (List.mem_filter.mpr ⟨List.mem_of_getElem? (i := 453) (by decide +kernel), rfl⟩), by decide +kernel, by decide +kernel, by decide +kernel⟩
